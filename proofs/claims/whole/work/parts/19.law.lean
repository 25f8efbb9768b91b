/-! the law's loop (printed by wip/whole/gen/lawgen.py) -/
theorem ki_5 (x : Int32) : x + Int32.ofInt 5 = x + 5 := rfl
theorem cw_L_13 : Cond.constantLong RL 13 4294967295 ∈ oa_gw := oa_at 1336 (by decide +kernel) rfl
theorem hY_X6_feed : oa_Y yX6_feed cX6_feed 3 (some .int) 1 := ⟨oa_at 309 (by decide +kernel) rfl, oa_at 63 (by decide +kernel) rfl, by decide, by decide, by decide +kernel⟩
theorem hV_X6_feed : oa_YV yX6_feed := ⟨oa_at 307 (by decide +kernel) rfl, oa_at 308 (by decide +kernel) rfl⟩
theorem lk_L_15 : Cond.methodLink RL 15 yX6_feed ∈ oa_gw := oa_at 306 (by decide +kernel) rfl
theorem hY_X7_feed : oa_Y yX7_feed cX7_feed 4 (some .int) 1 := ⟨oa_at 982 (by decide +kernel) rfl, oa_at 72 (by decide +kernel) rfl, by decide, by decide, by decide +kernel⟩
theorem hV_X7_feed : oa_YV yX7_feed := ⟨oa_at 980 (by decide +kernel) rfl, oa_at 981 (by decide +kernel) rfl⟩
theorem lk_L_19 : Cond.methodLink RL 19 yX7_feed ∈ oa_gw := oa_at 979 (by decide +kernel) rfl
theorem hY_X6_end : oa_Y yX6_end cX6_end 2 (some .int) 1 := ⟨oa_at 317 (by decide +kernel) rfl, oa_at 63 (by decide +kernel) rfl, by decide, by decide, by decide +kernel⟩
theorem hV_X6_end : oa_YV yX6_end := ⟨oa_at 315 (by decide +kernel) rfl, oa_at 316 (by decide +kernel) rfl⟩
theorem lk_L_20 : Cond.methodLink RL 20 yX6_end ∈ oa_gw := oa_at 314 (by decide +kernel) rfl
theorem hY_X7_end : oa_Y yX7_end cX7_end 3 (some .int) 1 := ⟨oa_at 986 (by decide +kernel) rfl, oa_at 72 (by decide +kernel) rfl, by decide, by decide, by decide +kernel⟩
theorem hV_X7_end : oa_YV yX7_end := ⟨oa_at 984 (by decide +kernel) rfl, oa_at 985 (by decide +kernel) rfl⟩
theorem lk_L_24 : Cond.methodLink RL 24 yX7_end ∈ oa_gw := oa_at 983 (by decide +kernel) rfl
theorem hY_X6_village : oa_Y yX6_village cX6_village 2 (some .int) 0 := ⟨oa_at 328 (by decide +kernel) rfl, oa_at 63 (by decide +kernel) rfl, by decide, by decide, by decide +kernel⟩
theorem hV_X6_village : oa_YV yX6_village := ⟨oa_at 326 (by decide +kernel) rfl, oa_at 327 (by decide +kernel) rfl⟩
theorem lk_L_25 : Cond.methodLink RL 25 yX6_village ∈ oa_gw := oa_at 325 (by decide +kernel) rfl
theorem hY_X7_village : oa_Y yX7_village cX7_village 3 (some .int) 0 := ⟨oa_at 993 (by decide +kernel) rfl, oa_at 72 (by decide +kernel) rfl, by decide, by decide, by decide +kernel⟩
theorem hV_X7_village : oa_YV yX7_village := ⟨oa_at 991 (by decide +kernel) rfl, oa_at 992 (by decide +kernel) rfl⟩
theorem lk_L_29 : Cond.methodLink RL 29 yX7_village ∈ oa_gw := oa_at 990 (by decide +kernel) rfl
theorem hY_X6_fault : oa_Y yX6_fault cX6_fault 1 (some .int) 0 := ⟨oa_at 497 (by decide +kernel) rfl, oa_at 63 (by decide +kernel) rfl, by decide, by decide, by decide +kernel⟩
theorem hV_X6_fault : oa_YV yX6_fault := ⟨oa_at 495 (by decide +kernel) rfl, oa_at 496 (by decide +kernel) rfl⟩
theorem lk_L_30 : Cond.methodLink RL 30 yX6_fault ∈ oa_gw := oa_at 494 (by decide +kernel) rfl
theorem hY_X7_fault : oa_Y yX7_fault cX7_fault 1 (some .int) 0 := ⟨oa_at 1040 (by decide +kernel) rfl, oa_at 72 (by decide +kernel) rfl, by decide, by decide, by decide +kernel⟩
theorem hV_X7_fault : oa_YV yX7_fault := ⟨oa_at 1038 (by decide +kernel) rfl, oa_at 1039 (by decide +kernel) rfl⟩
theorem lk_L_33 : Cond.methodLink RL 33 yX7_fault ∈ oa_gw := oa_at 1037 (by decide +kernel) rfl
theorem hY_X6_rule : oa_Y yX6_rule cX6_rule 2 (some .int) 1 := ⟨oa_at 501 (by decide +kernel) rfl, oa_at 63 (by decide +kernel) rfl, by decide, by decide, by decide +kernel⟩
theorem hV_X6_rule : oa_YV yX6_rule := ⟨oa_at 499 (by decide +kernel) rfl, oa_at 500 (by decide +kernel) rfl⟩
theorem lk_L_34 : Cond.methodLink RL 34 yX6_rule ∈ oa_gw := oa_at 498 (by decide +kernel) rfl
theorem hY_X7_rule : oa_Y yX7_rule cX7_rule 2 (some .int) 1 := ⟨oa_at 1044 (by decide +kernel) rfl, oa_at 72 (by decide +kernel) rfl, by decide, by decide, by decide +kernel⟩
theorem hV_X7_rule : oa_YV yX7_rule := ⟨oa_at 1042 (by decide +kernel) rfl, oa_at 1043 (by decide +kernel) rfl⟩
theorem lk_L_37 : Cond.methodLink RL 37 yX7_rule ∈ oa_gw := oa_at 1041 (by decide +kernel) rfl
theorem hY_X6_one : oa_Y yX6_one cX6_one 3 (some .int) 2 := ⟨oa_at 506 (by decide +kernel) rfl, oa_at 63 (by decide +kernel) rfl, by decide, by decide, by decide +kernel⟩
theorem hV_X6_one : oa_YV yX6_one := ⟨oa_at 504 (by decide +kernel) rfl, oa_at 505 (by decide +kernel) rfl⟩
theorem lk_L_38 : Cond.methodLink RL 38 yX6_one ∈ oa_gw := oa_at 503 (by decide +kernel) rfl
theorem hY_X7_one : oa_Y yX7_one cX7_one 3 (some .int) 2 := ⟨oa_at 1049 (by decide +kernel) rfl, oa_at 72 (by decide +kernel) rfl, by decide, by decide, by decide +kernel⟩
theorem hV_X7_one : oa_YV yX7_one := ⟨oa_at 1047 (by decide +kernel) rfl, oa_at 1048 (by decide +kernel) rfl⟩
theorem lk_L_42 : Cond.methodLink RL 42 yX7_one ∈ oa_gw := oa_at 1046 (by decide +kernel) rfl
theorem hY_X6_set : oa_Y yX6_set cX6_set 5 (some .int) 3 := ⟨oa_at 535 (by decide +kernel) rfl, oa_at 63 (by decide +kernel) rfl, by decide, by decide, by decide +kernel⟩
theorem hV_X6_set : oa_YV yX6_set := ⟨oa_at 533 (by decide +kernel) rfl, oa_at 534 (by decide +kernel) rfl⟩
theorem lk_L_43 : Cond.methodLink RL 43 yX6_set ∈ oa_gw := oa_at 532 (by decide +kernel) rfl
theorem hY_X7_set : oa_Y yX7_set cX7_set 5 (some .int) 3 := ⟨oa_at 1085 (by decide +kernel) rfl, oa_at 72 (by decide +kernel) rfl, by decide, by decide, by decide +kernel⟩
theorem hV_X7_set : oa_YV yX7_set := ⟨oa_at 1083 (by decide +kernel) rfl, oa_at 1084 (by decide +kernel) rfl⟩
theorem lk_L_47 : Cond.methodLink RL 47 yX7_set ∈ oa_gw := oa_at 1082 (by decide +kernel) rfl
theorem hY_X6_old : oa_Y yX6_old cX6_old 3 (some .int) 2 := ⟨oa_at 542 (by decide +kernel) rfl, oa_at 63 (by decide +kernel) rfl, by decide, by decide, by decide +kernel⟩
theorem hV_X6_old : oa_YV yX6_old := ⟨oa_at 540 (by decide +kernel) rfl, oa_at 541 (by decide +kernel) rfl⟩
theorem lk_L_48 : Cond.methodLink RL 48 yX6_old ∈ oa_gw := oa_at 539 (by decide +kernel) rfl
theorem hY_X7_old : oa_Y yX7_old cX7_old 3 (some .int) 2 := ⟨oa_at 1091 (by decide +kernel) rfl, oa_at 72 (by decide +kernel) rfl, by decide, by decide, by decide +kernel⟩
theorem hV_X7_old : oa_YV yX7_old := ⟨oa_at 1089 (by decide +kernel) rfl, oa_at 1090 (by decide +kernel) rfl⟩
theorem lk_L_51 : Cond.methodLink RL 51 yX7_old ∈ oa_gw := oa_at 1088 (by decide +kernel) rfl
theorem hY_X6_got : oa_Y yX6_got cX6_got 2 (some .int) 1 := ⟨oa_at 559 (by decide +kernel) rfl, oa_at 63 (by decide +kernel) rfl, by decide, by decide, by decide +kernel⟩
theorem hV_X6_got : oa_YV yX6_got := ⟨oa_at 557 (by decide +kernel) rfl, oa_at 558 (by decide +kernel) rfl⟩
theorem lk_L_52 : Cond.methodLink RL 52 yX6_got ∈ oa_gw := oa_at 556 (by decide +kernel) rfl
theorem hY_X7_got : oa_Y yX7_got cX7_got 2 (some .int) 1 := ⟨oa_at 1099 (by decide +kernel) rfl, oa_at 72 (by decide +kernel) rfl, by decide, by decide, by decide +kernel⟩
theorem hV_X7_got : oa_YV yX7_got := ⟨oa_at 1097 (by decide +kernel) rfl, oa_at 1098 (by decide +kernel) rfl⟩
theorem lk_L_55 : Cond.methodLink RL 55 yX7_got ∈ oa_gw := oa_at 1096 (by decide +kernel) rfl
theorem hY_X6_point : oa_Y yX6_point cX6_point 3 (some .int) 2 := ⟨oa_at 564 (by decide +kernel) rfl, oa_at 63 (by decide +kernel) rfl, by decide, by decide, by decide +kernel⟩
theorem hV_X6_point : oa_YV yX6_point := ⟨oa_at 562 (by decide +kernel) rfl, oa_at 563 (by decide +kernel) rfl⟩
theorem lk_L_56 : Cond.methodLink RL 56 yX6_point ∈ oa_gw := oa_at 561 (by decide +kernel) rfl
theorem hY_X7_point : oa_Y yX7_point cX7_point 3 (some .int) 2 := ⟨oa_at 1104 (by decide +kernel) rfl, oa_at 72 (by decide +kernel) rfl, by decide, by decide, by decide +kernel⟩
theorem hV_X7_point : oa_YV yX7_point := ⟨oa_at 1102 (by decide +kernel) rfl, oa_at 1103 (by decide +kernel) rfl⟩
theorem lk_L_59 : Cond.methodLink RL 59 yX7_point ∈ oa_gw := oa_at 1101 (by decide +kernel) rfl
theorem hY_X6_rest : oa_Y yX6_rest cX6_rest 3 (some .int) 2 := ⟨oa_at 581 (by decide +kernel) rfl, oa_at 63 (by decide +kernel) rfl, by decide, by decide, by decide +kernel⟩
theorem hV_X6_rest : oa_YV yX6_rest := ⟨oa_at 579 (by decide +kernel) rfl, oa_at 580 (by decide +kernel) rfl⟩
theorem lk_L_60 : Cond.methodLink RL 60 yX6_rest ∈ oa_gw := oa_at 578 (by decide +kernel) rfl
theorem hY_X7_rest : oa_Y yX7_rest cX7_rest 3 (some .int) 2 := ⟨oa_at 1116 (by decide +kernel) rfl, oa_at 72 (by decide +kernel) rfl, by decide, by decide, by decide +kernel⟩
theorem hV_X7_rest : oa_YV yX7_rest := ⟨oa_at 1114 (by decide +kernel) rfl, oa_at 1115 (by decide +kernel) rfl⟩
theorem lk_L_63 : Cond.methodLink RL 63 yX7_rest ∈ oa_gw := oa_at 1113 (by decide +kernel) rfl
theorem hY_X6_would : oa_Y yX6_would cX6_would 3 (some .int) 2 := ⟨oa_at 591 (by decide +kernel) rfl, oa_at 63 (by decide +kernel) rfl, by decide, by decide, by decide +kernel⟩
theorem hV_X6_would : oa_YV yX6_would := ⟨oa_at 589 (by decide +kernel) rfl, oa_at 590 (by decide +kernel) rfl⟩
theorem lk_L_64 : Cond.methodLink RL 64 yX6_would ∈ oa_gw := oa_at 588 (by decide +kernel) rfl
theorem hY_X7_would : oa_Y yX7_would cX7_would 3 (some .int) 2 := ⟨oa_at 1124 (by decide +kernel) rfl, oa_at 72 (by decide +kernel) rfl, by decide, by decide, by decide +kernel⟩
theorem hV_X7_would : oa_YV yX7_would := ⟨oa_at 1122 (by decide +kernel) rfl, oa_at 1123 (by decide +kernel) rfl⟩
theorem lk_L_67 : Cond.methodLink RL 67 yX7_would ∈ oa_gw := oa_at 1121 (by decide +kernel) rfl
theorem hY_X6_worth : oa_Y yX6_worth cX6_worth 4 (some .int) 3 := ⟨oa_at 611 (by decide +kernel) rfl, oa_at 63 (by decide +kernel) rfl, by decide, by decide, by decide +kernel⟩
theorem hV_X6_worth : oa_YV yX6_worth := ⟨oa_at 609 (by decide +kernel) rfl, oa_at 610 (by decide +kernel) rfl⟩
theorem lk_L_68 : Cond.methodLink RL 68 yX6_worth ∈ oa_gw := oa_at 608 (by decide +kernel) rfl
theorem hY_X7_worth : oa_Y yX7_worth cX7_worth 4 (some .int) 3 := ⟨oa_at 1136 (by decide +kernel) rfl, oa_at 72 (by decide +kernel) rfl, by decide, by decide, by decide +kernel⟩
theorem hV_X7_worth : oa_YV yX7_worth := ⟨oa_at 1134 (by decide +kernel) rfl, oa_at 1135 (by decide +kernel) rfl⟩
theorem lk_L_71 : Cond.methodLink RL 71 yX7_worth ∈ oa_gw := oa_at 1133 (by decide +kernel) rfl
theorem hY_X6_whom : oa_Y yX6_whom cX6_whom 2 (some .int) 1 := ⟨oa_at 629 (by decide +kernel) rfl, oa_at 63 (by decide +kernel) rfl, by decide, by decide, by decide +kernel⟩
theorem hV_X6_whom : oa_YV yX6_whom := ⟨oa_at 627 (by decide +kernel) rfl, oa_at 628 (by decide +kernel) rfl⟩
theorem lk_L_72 : Cond.methodLink RL 72 yX6_whom ∈ oa_gw := oa_at 626 (by decide +kernel) rfl
theorem hY_X7_whom : oa_Y yX7_whom cX7_whom 2 (some .int) 1 := ⟨oa_at 1152 (by decide +kernel) rfl, oa_at 72 (by decide +kernel) rfl, by decide, by decide, by decide +kernel⟩
theorem hV_X7_whom : oa_YV yX7_whom := ⟨oa_at 1150 (by decide +kernel) rfl, oa_at 1151 (by decide +kernel) rfl⟩
theorem lk_L_75 : Cond.methodLink RL 75 yX7_whom ∈ oa_gw := oa_at 1149 (by decide +kernel) rfl
theorem hY_X6_wrong : oa_Y yX6_wrong cX6_wrong 4 (some .int) 2 := ⟨oa_at 638 (by decide +kernel) rfl, oa_at 63 (by decide +kernel) rfl, by decide, by decide, by decide +kernel⟩
theorem hV_X6_wrong : oa_YV yX6_wrong := ⟨oa_at 636 (by decide +kernel) rfl, oa_at 637 (by decide +kernel) rfl⟩
theorem lk_L_76 : Cond.methodLink RL 76 yX6_wrong ∈ oa_gw := oa_at 635 (by decide +kernel) rfl
theorem hY_X7_wrong : oa_Y yX7_wrong cX7_wrong 4 (some .int) 2 := ⟨oa_at 1160 (by decide +kernel) rfl, oa_at 72 (by decide +kernel) rfl, by decide, by decide, by decide +kernel⟩
theorem hV_X7_wrong : oa_YV yX7_wrong := ⟨oa_at 1158 (by decide +kernel) rfl, oa_at 1159 (by decide +kernel) rfl⟩
theorem lk_L_79 : Cond.methodLink RL 79 yX7_wrong ∈ oa_gw := oa_at 1157 (by decide +kernel) rfl
theorem hY_X6_go : oa_Y yX6_go cX6_go 2 (some .int) 1 := ⟨oa_at 647 (by decide +kernel) rfl, oa_at 63 (by decide +kernel) rfl, by decide, by decide, by decide +kernel⟩
theorem hV_X6_go : oa_YV yX6_go := ⟨oa_at 645 (by decide +kernel) rfl, oa_at 646 (by decide +kernel) rfl⟩
theorem lk_L_80 : Cond.methodLink RL 80 yX6_go ∈ oa_gw := oa_at 644 (by decide +kernel) rfl
theorem hY_X7_go : oa_Y yX7_go cX7_go 4 (some .int) 1 := ⟨oa_at 1168 (by decide +kernel) rfl, oa_at 72 (by decide +kernel) rfl, by decide, by decide, by decide +kernel⟩
theorem hV_X7_go : oa_YV yX7_go := ⟨oa_at 1166 (by decide +kernel) rfl, oa_at 1167 (by decide +kernel) rfl⟩
theorem lk_L_83 : Cond.methodLink RL 83 yX7_go ∈ oa_gw := oa_at 1165 (by decide +kernel) rfl
theorem hY_X6_now : oa_Y yX6_now cX6_now 2 (some .int) 1 := ⟨oa_at 676 (by decide +kernel) rfl, oa_at 63 (by decide +kernel) rfl, by decide, by decide, by decide +kernel⟩
theorem hV_X6_now : oa_YV yX6_now := ⟨oa_at 674 (by decide +kernel) rfl, oa_at 675 (by decide +kernel) rfl⟩
theorem lk_L_84 : Cond.methodLink RL 84 yX6_now ∈ oa_gw := oa_at 673 (by decide +kernel) rfl
theorem hY_X7_now : oa_Y yX7_now cX7_now 4 (some .int) 1 := ⟨oa_at 1181 (by decide +kernel) rfl, oa_at 72 (by decide +kernel) rfl, by decide, by decide, by decide +kernel⟩
theorem hV_X7_now : oa_YV yX7_now := ⟨oa_at 1179 (by decide +kernel) rfl, oa_at 1180 (by decide +kernel) rfl⟩
theorem lk_L_87 : Cond.methodLink RL 87 yX7_now ∈ oa_gw := oa_at 1178 (by decide +kernel) rfl
theorem hY_X6_run : oa_Y yX6_run cX6_run 5 (some .int) 2 := ⟨oa_at 693 (by decide +kernel) rfl, oa_at 63 (by decide +kernel) rfl, by decide, by decide, by decide +kernel⟩
theorem hV_X6_run : oa_YV yX6_run := ⟨oa_at 691 (by decide +kernel) rfl, oa_at 692 (by decide +kernel) rfl⟩
theorem lk_L_88 : Cond.methodLink RL 88 yX6_run ∈ oa_gw := oa_at 690 (by decide +kernel) rfl
theorem hY_X7_run : oa_Y yX7_run cX7_run 3 (some .int) 2 := ⟨oa_at 1189 (by decide +kernel) rfl, oa_at 72 (by decide +kernel) rfl, by decide, by decide, by decide +kernel⟩
theorem hV_X7_run : oa_YV yX7_run := ⟨oa_at 1187 (by decide +kernel) rfl, oa_at 1188 (by decide +kernel) rfl⟩
theorem lk_L_91 : Cond.methodLink RL 91 yX7_run ∈ oa_gw := oa_at 1186 (by decide +kernel) rfl
theorem hY_X6_peace : oa_Y yX6_peace cX6_peace 2 (some .int) 0 := ⟨oa_at 697 (by decide +kernel) rfl, oa_at 63 (by decide +kernel) rfl, by decide, by decide, by decide +kernel⟩
theorem hV_X6_peace : oa_YV yX6_peace := ⟨oa_at 695 (by decide +kernel) rfl, oa_at 696 (by decide +kernel) rfl⟩
theorem lk_L_92 : Cond.methodLink RL 92 yX6_peace ∈ oa_gw := oa_at 694 (by decide +kernel) rfl
theorem hY_X7_peace : oa_Y yX7_peace cX7_peace 2 (some .int) 0 := ⟨oa_at 1202 (by decide +kernel) rfl, oa_at 72 (by decide +kernel) rfl, by decide, by decide, by decide +kernel⟩
theorem hV_X7_peace : oa_YV yX7_peace := ⟨oa_at 1200 (by decide +kernel) rfl, oa_at 1201 (by decide +kernel) rfl⟩
theorem lk_L_95 : Cond.methodLink RL 95 yX7_peace ∈ oa_gw := oa_at 1199 (by decide +kernel) rfl
theorem hY_X6_again : oa_Y yX6_again cX6_again 3 (some .int) 1 := ⟨oa_at 701 (by decide +kernel) rfl, oa_at 63 (by decide +kernel) rfl, by decide, by decide, by decide +kernel⟩
theorem hV_X6_again : oa_YV yX6_again := ⟨oa_at 699 (by decide +kernel) rfl, oa_at 700 (by decide +kernel) rfl⟩
theorem lk_L_96 : Cond.methodLink RL 96 yX6_again ∈ oa_gw := oa_at 698 (by decide +kernel) rfl
theorem hY_X7_again : oa_Y yX7_again cX7_again 4 (some .int) 1 := ⟨oa_at 1206 (by decide +kernel) rfl, oa_at 72 (by decide +kernel) rfl, by decide, by decide, by decide +kernel⟩
theorem hV_X7_again : oa_YV yX7_again := ⟨oa_at 1204 (by decide +kernel) rfl, oa_at 1205 (by decide +kernel) rfl⟩
theorem lk_L_99 : Cond.methodLink RL 99 yX7_again ∈ oa_gw := oa_at 1203 (by decide +kernel) rfl
theorem hY_X6_two : oa_Y yX6_two cX6_two 3 (some .int) 1 := ⟨oa_at 722 (by decide +kernel) rfl, oa_at 63 (by decide +kernel) rfl, by decide, by decide, by decide +kernel⟩
theorem hV_X6_two : oa_YV yX6_two := ⟨oa_at 720 (by decide +kernel) rfl, oa_at 721 (by decide +kernel) rfl⟩
theorem lk_L_100 : Cond.methodLink RL 100 yX6_two ∈ oa_gw := oa_at 719 (by decide +kernel) rfl
theorem hY_X7_two : oa_Y yX7_two cX7_two 3 (some .int) 1 := ⟨oa_at 1218 (by decide +kernel) rfl, oa_at 72 (by decide +kernel) rfl, by decide, by decide, by decide +kernel⟩
theorem hV_X7_two : oa_YV yX7_two := ⟨oa_at 1216 (by decide +kernel) rfl, oa_at 1217 (by decide +kernel) rfl⟩
theorem lk_L_103 : Cond.methodLink RL 103 yX7_two ∈ oa_gw := oa_at 1215 (by decide +kernel) rfl
theorem hY_X6_were : oa_Y yX6_were cX6_were 5 (some .int) 3 := ⟨oa_at 727 (by decide +kernel) rfl, oa_at 63 (by decide +kernel) rfl, by decide, by decide, by decide +kernel⟩
theorem hV_X6_were : oa_YV yX6_were := ⟨oa_at 725 (by decide +kernel) rfl, oa_at 726 (by decide +kernel) rfl⟩
theorem lk_L_104 : Cond.methodLink RL 104 yX6_were ∈ oa_gw := oa_at 724 (by decide +kernel) rfl
theorem hY_X7_were : oa_Y yX7_were cX7_were 6 (some .int) 3 := ⟨oa_at 1223 (by decide +kernel) rfl, oa_at 72 (by decide +kernel) rfl, by decide, by decide, by decide +kernel⟩
theorem hV_X7_were : oa_YV yX7_were := ⟨oa_at 1221 (by decide +kernel) rfl, oa_at 1222 (by decide +kernel) rfl⟩
theorem lk_L_107 : Cond.methodLink RL 107 yX7_were ∈ oa_gw := oa_at 1220 (by decide +kernel) rfl
theorem hY_X6_open : oa_Y yX6_open cX6_open 1 (some .long) 0 := ⟨oa_at 731 (by decide +kernel) rfl, oa_at 63 (by decide +kernel) rfl, by decide, by decide, by decide +kernel⟩
theorem hV_X6_open : oa_YV yX6_open := ⟨oa_at 729 (by decide +kernel) rfl, oa_at 730 (by decide +kernel) rfl⟩
theorem lk_L_108 : Cond.methodLink RL 108 yX6_open ∈ oa_gw := oa_at 728 (by decide +kernel) rfl
theorem hY_X7_open : oa_Y yX7_open cX7_open 6 (some .long) 0 := ⟨oa_at 1227 (by decide +kernel) rfl, oa_at 72 (by decide +kernel) rfl, by decide, by decide, by decide +kernel⟩
theorem hV_X7_open : oa_YV yX7_open := ⟨oa_at 1225 (by decide +kernel) rfl, oa_at 1226 (by decide +kernel) rfl⟩
theorem lk_L_112 : Cond.methodLink RL 112 yX7_open ∈ oa_gw := oa_at 1224 (by decide +kernel) rfl
theorem hY_X6_fewest : oa_Y yX6_fewest cX6_fewest 6 (some .int) 1 := ⟨oa_at 735 (by decide +kernel) rfl, oa_at 63 (by decide +kernel) rfl, by decide, by decide, by decide +kernel⟩
theorem hV_X6_fewest : oa_YV yX6_fewest := ⟨oa_at 733 (by decide +kernel) rfl, oa_at 734 (by decide +kernel) rfl⟩
theorem lk_L_113 : Cond.methodLink RL 113 yX6_fewest ∈ oa_gw := oa_at 732 (by decide +kernel) rfl
theorem hY_X7_fewest : oa_Y yX7_fewest cX7_fewest 4 (some .int) 1 := ⟨oa_at 1231 (by decide +kernel) rfl, oa_at 72 (by decide +kernel) rfl, by decide, by decide, by decide +kernel⟩
theorem hV_X7_fewest : oa_YV yX7_fewest := ⟨oa_at 1229 (by decide +kernel) rfl, oa_at 1230 (by decide +kernel) rfl⟩
theorem lk_L_116 : Cond.methodLink RL 116 yX7_fewest ∈ oa_gw := oa_at 1228 (by decide +kernel) rfl
theorem hY_X6_always : oa_Y yX6_always cX6_always 5 (some .int) 0 := ⟨oa_at 744 (by decide +kernel) rfl, oa_at 63 (by decide +kernel) rfl, by decide, by decide, by decide +kernel⟩
theorem hV_X6_always : oa_YV yX6_always := ⟨oa_at 742 (by decide +kernel) rfl, oa_at 743 (by decide +kernel) rfl⟩
theorem lk_L_117 : Cond.methodLink RL 117 yX6_always ∈ oa_gw := oa_at 741 (by decide +kernel) rfl
theorem hY_X7_always : oa_Y yX7_always cX7_always 5 (some .int) 0 := ⟨oa_at 1250 (by decide +kernel) rfl, oa_at 72 (by decide +kernel) rfl, by decide, by decide, by decide +kernel⟩
theorem hV_X7_always : oa_YV yX7_always := ⟨oa_at 1248 (by decide +kernel) rfl, oa_at 1249 (by decide +kernel) rfl⟩
theorem lk_L_120 : Cond.methodLink RL 120 yX7_always ∈ oa_gw := oa_at 1247 (by decide +kernel) rfl
theorem hY_X6_where : oa_Y yX6_where cX6_where 7 (some .int) 1 := ⟨oa_at 749 (by decide +kernel) rfl, oa_at 63 (by decide +kernel) rfl, by decide, by decide, by decide +kernel⟩
theorem hV_X6_where : oa_YV yX6_where := ⟨oa_at 747 (by decide +kernel) rfl, oa_at 748 (by decide +kernel) rfl⟩
theorem lk_L_121 : Cond.methodLink RL 121 yX6_where ∈ oa_gw := oa_at 746 (by decide +kernel) rfl
theorem hY_X7_where : oa_Y yX7_where cX7_where 7 (some .int) 1 := ⟨oa_at 1254 (by decide +kernel) rfl, oa_at 72 (by decide +kernel) rfl, by decide, by decide, by decide +kernel⟩
theorem hV_X7_where : oa_YV yX7_where := ⟨oa_at 1252 (by decide +kernel) rfl, oa_at 1253 (by decide +kernel) rfl⟩
theorem lk_L_124 : Cond.methodLink RL 124 yX7_where ∈ oa_gw := oa_at 1251 (by decide +kernel) rfl
theorem hY_X6_hire : oa_Y yX6_hire cX6_hire 9 (some .int) 2 := ⟨oa_at 759 (by decide +kernel) rfl, oa_at 63 (by decide +kernel) rfl, by decide, by decide, by decide +kernel⟩
theorem hV_X6_hire : oa_YV yX6_hire := ⟨oa_at 757 (by decide +kernel) rfl, oa_at 758 (by decide +kernel) rfl⟩
theorem lk_L_125 : Cond.methodLink RL 125 yX6_hire ∈ oa_gw := oa_at 756 (by decide +kernel) rfl
theorem hY_X7_hire : oa_Y yX7_hire cX7_hire 8 (some .int) 2 := ⟨oa_at 1258 (by decide +kernel) rfl, oa_at 72 (by decide +kernel) rfl, by decide, by decide, by decide +kernel⟩
theorem hV_X7_hire : oa_YV yX7_hire := ⟨oa_at 1256 (by decide +kernel) rfl, oa_at 1257 (by decide +kernel) rfl⟩
theorem lk_L_128 : Cond.methodLink RL 128 yX7_hire ∈ oa_gw := oa_at 1255 (by decide +kernel) rfl
theorem hY_X6_price : oa_Y yX6_price cX6_price 3 (some .int) 1 := ⟨oa_at 769 (by decide +kernel) rfl, oa_at 63 (by decide +kernel) rfl, by decide, by decide, by decide +kernel⟩
theorem hV_X6_price : oa_YV yX6_price := ⟨oa_at 767 (by decide +kernel) rfl, oa_at 768 (by decide +kernel) rfl⟩
theorem lk_L_129 : Cond.methodLink RL 129 yX6_price ∈ oa_gw := oa_at 766 (by decide +kernel) rfl
theorem hY_X7_price : oa_Y yX7_price cX7_price 3 (some .int) 1 := ⟨oa_at 1270 (by decide +kernel) rfl, oa_at 72 (by decide +kernel) rfl, by decide, by decide, by decide +kernel⟩
theorem hV_X7_price : oa_YV yX7_price := ⟨oa_at 1268 (by decide +kernel) rfl, oa_at 1269 (by decide +kernel) rfl⟩
theorem lk_L_132 : Cond.methodLink RL 132 yX7_price ∈ oa_gw := oa_at 1267 (by decide +kernel) rfl
theorem hY_X6_ring : oa_Y yX6_ring cX6_ring 2 (some .int) 1 := ⟨oa_at 777 (by decide +kernel) rfl, oa_at 63 (by decide +kernel) rfl, by decide, by decide, by decide +kernel⟩
theorem hV_X6_ring : oa_YV yX6_ring := ⟨oa_at 775 (by decide +kernel) rfl, oa_at 776 (by decide +kernel) rfl⟩
theorem lk_L_133 : Cond.methodLink RL 133 yX6_ring ∈ oa_gw := oa_at 774 (by decide +kernel) rfl
theorem hY_X7_ring : oa_Y yX7_ring cX7_ring 5 (some .int) 1 := ⟨oa_at 1274 (by decide +kernel) rfl, oa_at 72 (by decide +kernel) rfl, by decide, by decide, by decide +kernel⟩
theorem hV_X7_ring : oa_YV yX7_ring := ⟨oa_at 1272 (by decide +kernel) rfl, oa_at 1273 (by decide +kernel) rfl⟩
theorem lk_L_136 : Cond.methodLink RL 136 yX7_ring ∈ oa_gw := oa_at 1271 (by decide +kernel) rfl
theorem hY_X6_odds : oa_Y yX6_odds cX6_odds 4 (some .long) 3 := ⟨oa_at 802 (by decide +kernel) rfl, oa_at 63 (by decide +kernel) rfl, by decide, by decide, by decide +kernel⟩
theorem hV_X6_odds : oa_YV yX6_odds := ⟨oa_at 800 (by decide +kernel) rfl, oa_at 801 (by decide +kernel) rfl⟩
theorem lk_L_137 : Cond.methodLink RL 137 yX6_odds ∈ oa_gw := oa_at 799 (by decide +kernel) rfl
theorem hY_X7_odds : oa_Y yX7_odds cX7_odds 4 (some .long) 3 := ⟨oa_at 1289 (by decide +kernel) rfl, oa_at 72 (by decide +kernel) rfl, by decide, by decide, by decide +kernel⟩
theorem hV_X7_odds : oa_YV yX7_odds := ⟨oa_at 1287 (by decide +kernel) rfl, oa_at 1288 (by decide +kernel) rfl⟩
theorem lk_L_141 : Cond.methodLink RL 141 yX7_odds ∈ oa_gw := oa_at 1286 (by decide +kernel) rfl
theorem hY_X6_mean : oa_Y yX6_mean cX6_mean 7 (some .long) 2 := ⟨oa_at 833 (by decide +kernel) rfl, oa_at 63 (by decide +kernel) rfl, by decide, by decide, by decide +kernel⟩
theorem hV_X6_mean : oa_YV yX6_mean := ⟨oa_at 831 (by decide +kernel) rfl, oa_at 832 (by decide +kernel) rfl⟩
theorem lk_L_142 : Cond.methodLink RL 142 yX6_mean ∈ oa_gw := oa_at 830 (by decide +kernel) rfl
theorem hY_X7_mean : oa_Y yX7_mean cX7_mean 3 (some .long) 2 := ⟨oa_at 1301 (by decide +kernel) rfl, oa_at 72 (by decide +kernel) rfl, by decide, by decide, by decide +kernel⟩
theorem hV_X7_mean : oa_YV yX7_mean := ⟨oa_at 1299 (by decide +kernel) rfl, oa_at 1300 (by decide +kernel) rfl⟩
theorem lk_L_146 : Cond.methodLink RL 146 yX7_mean ∈ oa_gw := oa_at 1298 (by decide +kernel) rfl
theorem hY_X6_likeliest : oa_Y yX6_likeliest cX6_likeliest 6 (some .int) 1 := ⟨oa_at 838 (by decide +kernel) rfl, oa_at 63 (by decide +kernel) rfl, by decide, by decide, by decide +kernel⟩
theorem hV_X6_likeliest : oa_YV yX6_likeliest := ⟨oa_at 836 (by decide +kernel) rfl, oa_at 837 (by decide +kernel) rfl⟩
theorem lk_L_147 : Cond.methodLink RL 147 yX6_likeliest ∈ oa_gw := oa_at 835 (by decide +kernel) rfl
theorem hY_X7_likeliest : oa_Y yX7_likeliest cX7_likeliest 4 (some .int) 1 := ⟨oa_at 1306 (by decide +kernel) rfl, oa_at 72 (by decide +kernel) rfl, by decide, by decide, by decide +kernel⟩
theorem hV_X7_likeliest : oa_YV yX7_likeliest := ⟨oa_at 1304 (by decide +kernel) rfl, oa_at 1305 (by decide +kernel) rfl⟩
theorem lk_L_150 : Cond.methodLink RL 150 yX7_likeliest ∈ oa_gw := oa_at 1303 (by decide +kernel) rfl
theorem hY_X6_keep : oa_Y yX6_keep cX6_keep 3 (some .int) 1 := ⟨oa_at 842 (by decide +kernel) rfl, oa_at 63 (by decide +kernel) rfl, by decide, by decide, by decide +kernel⟩
theorem hV_X6_keep : oa_YV yX6_keep := ⟨oa_at 840 (by decide +kernel) rfl, oa_at 841 (by decide +kernel) rfl⟩
theorem lk_L_151 : Cond.methodLink RL 151 yX6_keep ∈ oa_gw := oa_at 839 (by decide +kernel) rfl
theorem hY_X7_keep : oa_Y yX7_keep cX7_keep 3 (some .int) 1 := ⟨oa_at 1310 (by decide +kernel) rfl, oa_at 72 (by decide +kernel) rfl, by decide, by decide, by decide +kernel⟩
theorem hV_X7_keep : oa_YV yX7_keep := ⟨oa_at 1308 (by decide +kernel) rfl, oa_at 1309 (by decide +kernel) rfl⟩
theorem lk_L_154 : Cond.methodLink RL 154 yX7_keep ∈ oa_gw := oa_at 1307 (by decide +kernel) rfl
theorem hY_X6_back : oa_Y yX6_back cX6_back 2 (some .int) 1 := ⟨oa_at 846 (by decide +kernel) rfl, oa_at 63 (by decide +kernel) rfl, by decide, by decide, by decide +kernel⟩
theorem hV_X6_back : oa_YV yX6_back := ⟨oa_at 844 (by decide +kernel) rfl, oa_at 845 (by decide +kernel) rfl⟩
theorem lk_L_155 : Cond.methodLink RL 155 yX6_back ∈ oa_gw := oa_at 843 (by decide +kernel) rfl
theorem hY_X7_back : oa_Y yX7_back cX7_back 2 (some .int) 1 := ⟨oa_at 1314 (by decide +kernel) rfl, oa_at 72 (by decide +kernel) rfl, by decide, by decide, by decide +kernel⟩
theorem hV_X7_back : oa_YV yX7_back := ⟨oa_at 1312 (by decide +kernel) rfl, oa_at 1313 (by decide +kernel) rfl⟩
theorem lk_L_158 : Cond.methodLink RL 158 yX7_back ∈ oa_gw := oa_at 1311 (by decide +kernel) rfl
theorem hY_X6_sheet : oa_Y yX6_sheet cX6_sheet 4 (some .int) 3 := ⟨oa_at 850 (by decide +kernel) rfl, oa_at 63 (by decide +kernel) rfl, by decide, by decide, by decide +kernel⟩
theorem hV_X6_sheet : oa_YV yX6_sheet := ⟨oa_at 848 (by decide +kernel) rfl, oa_at 849 (by decide +kernel) rfl⟩
theorem lk_L_159 : Cond.methodLink RL 159 yX6_sheet ∈ oa_gw := oa_at 847 (by decide +kernel) rfl
theorem hY_X7_sheet : oa_Y yX7_sheet cX7_sheet 5 (some .int) 3 := ⟨oa_at 1318 (by decide +kernel) rfl, oa_at 72 (by decide +kernel) rfl, by decide, by decide, by decide +kernel⟩
theorem hV_X7_sheet : oa_YV yX7_sheet := ⟨oa_at 1316 (by decide +kernel) rfl, oa_at 1317 (by decide +kernel) rfl⟩
theorem lk_L_162 : Cond.methodLink RL 162 yX7_sheet ∈ oa_gw := oa_at 1315 (by decide +kernel) rfl
theorem hY_X6_lay : oa_Y yX6_lay cX6_lay 5 (some .int) 3 := ⟨oa_at 859 (by decide +kernel) rfl, oa_at 63 (by decide +kernel) rfl, by decide, by decide, by decide +kernel⟩
theorem hV_X6_lay : oa_YV yX6_lay := ⟨oa_at 857 (by decide +kernel) rfl, oa_at 858 (by decide +kernel) rfl⟩
theorem lk_L_163 : Cond.methodLink RL 163 yX6_lay ∈ oa_gw := oa_at 856 (by decide +kernel) rfl
theorem hY_X7_lay : oa_Y yX7_lay cX7_lay 4 (some .int) 3 := ⟨oa_at 1322 (by decide +kernel) rfl, oa_at 72 (by decide +kernel) rfl, by decide, by decide, by decide +kernel⟩
theorem hV_X7_lay : oa_YV yX7_lay := ⟨oa_at 1320 (by decide +kernel) rfl, oa_at 1321 (by decide +kernel) rfl⟩
theorem lk_L_166 : Cond.methodLink RL 166 yX7_lay ∈ oa_gw := oa_at 1319 (by decide +kernel) rfl
theorem hY_X6_read : oa_Y yX6_read cX6_read 11 (some .int) 4 := ⟨oa_at 875 (by decide +kernel) rfl, oa_at 63 (by decide +kernel) rfl, by decide, by decide, by decide +kernel⟩
theorem hV_X6_read : oa_YV yX6_read := ⟨oa_at 873 (by decide +kernel) rfl, oa_at 874 (by decide +kernel) rfl⟩
theorem lk_L_167 : Cond.methodLink RL 167 yX6_read ∈ oa_gw := oa_at 872 (by decide +kernel) rfl
theorem hY_X7_read : oa_Y yX7_read cX7_read 9 (some .int) 4 := ⟨oa_at 1326 (by decide +kernel) rfl, oa_at 72 (by decide +kernel) rfl, by decide, by decide, by decide +kernel⟩
theorem hV_X7_read : oa_YV yX7_read := ⟨oa_at 1324 (by decide +kernel) rfl, oa_at 1325 (by decide +kernel) rfl⟩
theorem lk_L_171 : Cond.methodLink RL 171 yX7_read ∈ oa_gw := oa_at 1323 (by decide +kernel) rfl
theorem hY_X6_torn : oa_Y yX6_torn cX6_torn 1 (some .int) 0 := ⟨oa_at 885 (by decide +kernel) rfl, oa_at 63 (by decide +kernel) rfl, by decide, by decide, by decide +kernel⟩
theorem hV_X6_torn : oa_YV yX6_torn := ⟨oa_at 883 (by decide +kernel) rfl, oa_at 884 (by decide +kernel) rfl⟩
theorem lk_L_172 : Cond.methodLink RL 172 yX6_torn ∈ oa_gw := oa_at 882 (by decide +kernel) rfl
theorem hY_X7_torn : oa_Y yX7_torn cX7_torn 1 (some .int) 0 := ⟨oa_at 1331 (by decide +kernel) rfl, oa_at 72 (by decide +kernel) rfl, by decide, by decide, by decide +kernel⟩
theorem hV_X7_torn : oa_YV yX7_torn := ⟨oa_at 1329 (by decide +kernel) rfl, oa_at 1330 (by decide +kernel) rfl⟩
theorem lk_L_175 : Cond.methodLink RL 175 yX7_torn ∈ oa_gw := oa_at 1328 (by decide +kernel) rfl
theorem hY_X6_count : oa_Y yX6_count cX6_count 2 (some .int) 1 := ⟨oa_at 889 (by decide +kernel) rfl, oa_at 63 (by decide +kernel) rfl, by decide, by decide, by decide +kernel⟩
theorem hV_X6_count : oa_YV yX6_count := ⟨oa_at 887 (by decide +kernel) rfl, oa_at 888 (by decide +kernel) rfl⟩
theorem lk_L_176 : Cond.methodLink RL 176 yX6_count ∈ oa_gw := oa_at 886 (by decide +kernel) rfl
theorem hY_X7_count : oa_Y yX7_count cX7_count 4 (some .int) 1 := ⟨oa_at 1335 (by decide +kernel) rfl, oa_at 72 (by decide +kernel) rfl, by decide, by decide, by decide +kernel⟩
theorem hV_X7_count : oa_YV yX7_count := ⟨oa_at 1333 (by decide +kernel) rfl, oa_at 1334 (by decide +kernel) rfl⟩
theorem lk_L_179 : Cond.methodLink RL 179 yX7_count ∈ oa_gw := oa_at 1332 (by decide +kernel) rfl
theorem to_0_38 {x : Int32} (h0 : ¬ x = 0) (h1 : ¬ x = 1) (h2 : ¬ x = 2) (h3 : ¬ x = 3) (h4 : ¬ x = 4) (h5 : ¬ x = 5) (h6 : ¬ x = 6) (h7 : ¬ x = 7) (h8 : ¬ x = 8) (h9 : ¬ x = 9) (h10 : ¬ x = 10) (h11 : ¬ x = 11) (h12 : ¬ x = 12) (h13 : ¬ x = 13) (h14 : ¬ x = 14) (h15 : ¬ x = 15) (h16 : ¬ x = 16) (h17 : ¬ x = 17) (h18 : ¬ x = 18) (h19 : ¬ x = 19) (h20 : ¬ x = 20) (h21 : ¬ x = 21) (h22 : ¬ x = 22) (h23 : ¬ x = 23) (h24 : ¬ x = 24) (h25 : ¬ x = 25) (h26 : ¬ x = 26) (h27 : ¬ x = 27) (h28 : ¬ x = 28) (h29 : ¬ x = 29) (h30 : ¬ x = 30) (h31 : ¬ x = 31) (h32 : ¬ x = 32) (h33 : ¬ x = 33) (h34 : ¬ x = 34) (h35 : ¬ x = 35) (h36 : ¬ x = 36) (h37 : ¬ x = 37) (h38 : ¬ x = 38) : x.toInt < 0 ∨ 38 < x.toInt := by
  have e : ∀ k : Int32, ¬ x = k → x.toInt ≠ k.toInt := fun k h q => h (Int32.toInt_inj.mp q)
  have e0 := e 0 h0
  have e1 := e 1 h1
  have e2 := e 2 h2
  have e3 := e 3 h3
  have e4 := e 4 h4
  have e5 := e 5 h5
  have e6 := e 6 h6
  have e7 := e 7 h7
  have e8 := e 8 h8
  have e9 := e 9 h9
  have e10 := e 10 h10
  have e11 := e 11 h11
  have e12 := e 12 h12
  have e13 := e 13 h13
  have e14 := e 14 h14
  have e15 := e 15 h15
  have e16 := e 16 h16
  have e17 := e 17 h17
  have e18 := e 18 h18
  have e19 := e 19 h19
  have e20 := e 20 h20
  have e21 := e 21 h21
  have e22 := e 22 h22
  have e23 := e 23 h23
  have e24 := e 24 h24
  have e25 := e 25 h25
  have e26 := e 26 h26
  have e27 := e 27 h27
  have e28 := e 28 h28
  have e29 := e 29 h29
  have e30 := e 30 h30
  have e31 := e 31 h31
  have e32 := e 32 h32
  have e33 := e 33 h33
  have e34 := e 34 h34
  have e35 := e 35 h35
  have e36 := e 36 h36
  have e37 := e 37 h37
  have e38 := e 38 h38
  simp only [show ((0 : Int32)).toInt = 0 from rfl, show ((1 : Int32)).toInt = 1 from rfl, show ((2 : Int32)).toInt = 2 from rfl, show ((3 : Int32)).toInt = 3 from rfl, show ((4 : Int32)).toInt = 4 from rfl, show ((5 : Int32)).toInt = 5 from rfl, show ((6 : Int32)).toInt = 6 from rfl, show ((7 : Int32)).toInt = 7 from rfl, show ((8 : Int32)).toInt = 8 from rfl, show ((9 : Int32)).toInt = 9 from rfl, show ((10 : Int32)).toInt = 10 from rfl, show ((11 : Int32)).toInt = 11 from rfl, show ((12 : Int32)).toInt = 12 from rfl, show ((13 : Int32)).toInt = 13 from rfl, show ((14 : Int32)).toInt = 14 from rfl, show ((15 : Int32)).toInt = 15 from rfl, show ((16 : Int32)).toInt = 16 from rfl, show ((17 : Int32)).toInt = 17 from rfl, show ((18 : Int32)).toInt = 18 from rfl, show ((19 : Int32)).toInt = 19 from rfl, show ((20 : Int32)).toInt = 20 from rfl, show ((21 : Int32)).toInt = 21 from rfl, show ((22 : Int32)).toInt = 22 from rfl, show ((23 : Int32)).toInt = 23 from rfl, show ((24 : Int32)).toInt = 24 from rfl, show ((25 : Int32)).toInt = 25 from rfl, show ((26 : Int32)).toInt = 26 from rfl, show ((27 : Int32)).toInt = 27 from rfl, show ((28 : Int32)).toInt = 28 from rfl, show ((29 : Int32)).toInt = 29 from rfl, show ((30 : Int32)).toInt = 30 from rfl, show ((31 : Int32)).toInt = 31 from rfl, show ((32 : Int32)).toInt = 32 from rfl, show ((33 : Int32)).toInt = 33 from rfl, show ((34 : Int32)).toInt = 34 from rfl, show ((35 : Int32)).toInt = 35 from rfl, show ((36 : Int32)).toInt = 36 from rfl, show ((37 : Int32)).toInt = 37 from rfl, show ((38 : Int32)).toInt = 38 from rfl] at e0 e1 e2 e3 e4 e5 e6 e7 e8 e9 e10 e11 e12 e13 e14 e15 e16 e17 e18 e19 e20 e21 e22 e23 e24 e25 e26 e27 e28 e29 e30 e31 e32 e33 e34 e35 e36 e37 e38
  omega
theorem dL_law_0 : decode cL_law 0 = .ok (.new 7, 3) := by decide +kernel
theorem dL_law_3 : decode cL_law 3 = .ok (.dup, 1) := by decide +kernel
theorem dL_law_4 : decode cL_law 4 = .ok (.invokespecial 9, 3) := by decide +kernel
theorem dL_law_7 : decode cL_law 7 = .ok (.astore_n 1, 1) := by decide +kernel
theorem dL_law_8 : decode cL_law 8 = .ok (.new 10, 3) := by decide +kernel
theorem dL_law_11 : decode cL_law 11 = .ok (.dup, 1) := by decide +kernel
theorem dL_law_12 : decode cL_law 12 = .ok (.invokespecial 12, 3) := by decide +kernel
theorem dL_law_15 : decode cL_law 15 = .ok (.astore_n 2, 1) := by decide +kernel
theorem dL_law_16 : decode cL_law 16 = .ok (.iconst 0, 1) := by decide +kernel
theorem dL_law_17 : decode cL_law 17 = .ok (.istore_n 3, 1) := by decide +kernel
theorem dL_law_18 : decode cL_law 18 = .ok (.iload_n 3, 1) := by decide +kernel
theorem dL_law_19 : decode cL_law 19 = .ok (.aload_n 0, 1) := by decide +kernel
theorem dL_law_20 : decode cL_law 20 = .ok (.arraylength, 1) := by decide +kernel
theorem dL_law_21 : decode cL_law 21 = .ok (.iconst 5, 1) := by decide +kernel
theorem dL_law_22 : decode cL_law 22 = .ok (.isub, 1) := by decide +kernel
theorem dL_law_23 : decode cL_law 23 = .ok (.if_icmp .gt 1297, 3) := by decide +kernel
theorem dL_law_26 : decode cL_law 26 = .ok (.aload_n 0, 1) := by decide +kernel
theorem dL_law_27 : decode cL_law 27 = .ok (.iload_n 3, 1) := by decide +kernel
theorem dL_law_28 : decode cL_law 28 = .ok (.iaload, 1) := by decide +kernel
theorem dL_law_29 : decode cL_law 29 = .ok (.bipush 63, 2) := by decide +kernel
theorem dL_law_31 : decode cL_law 31 = .ok (.iand, 1) := by decide +kernel
theorem dL_law_32 : decode cL_law 32 = .ok (.tableswitch 1282 0 38 #[172, 225, 248, 261, 274, 297, 330, 373, 406, 429, 462, 495, 528, 571, 594, 627, 650, 673, 706, 719, 742, 765, 808, 822, 845, 858, 881, 914, 937, 960, 1004, 1038, 1061, 1084, 1107, 1150, 1193, 1246, 1259], 172) := by decide +kernel
theorem dL_law_204 : decode cL_law 204 = .ok (.aload_n 1, 1) := by decide +kernel
theorem dL_law_205 : decode cL_law 205 = .ok (.aload_n 0, 1) := by decide +kernel
theorem dL_law_206 : decode cL_law 206 = .ok (.iload_n 3, 1) := by decide +kernel
theorem dL_law_207 : decode cL_law 207 = .ok (.iconst 1, 1) := by decide +kernel
theorem dL_law_208 : decode cL_law 208 = .ok (.iadd, 1) := by decide +kernel
theorem dL_law_209 : decode cL_law 209 = .ok (.iaload, 1) := by decide +kernel
theorem dL_law_210 : decode cL_law 210 = .ok (.i2l, 1) := by decide +kernel
theorem dL_law_211 : decode cL_law 211 = .ok (.bipush 32, 2) := by decide +kernel
theorem dL_law_213 : decode cL_law 213 = .ok (.lshl, 1) := by decide +kernel
theorem dL_law_214 : decode cL_law 214 = .ok (.aload_n 0, 1) := by decide +kernel
theorem dL_law_215 : decode cL_law 215 = .ok (.iload_n 3, 1) := by decide +kernel
theorem dL_law_216 : decode cL_law 216 = .ok (.iconst 2, 1) := by decide +kernel
theorem dL_law_217 : decode cL_law 217 = .ok (.iadd, 1) := by decide +kernel
theorem dL_law_218 : decode cL_law 218 = .ok (.iaload, 1) := by decide +kernel
theorem dL_law_219 : decode cL_law 219 = .ok (.i2l, 1) := by decide +kernel
theorem dL_law_220 : decode cL_law 220 = .ok (.ldc2_w 13, 3) := by decide +kernel
theorem dL_law_223 : decode cL_law 223 = .ok (.land, 1) := by decide +kernel
theorem dL_law_224 : decode cL_law 224 = .ok (.lor, 1) := by decide +kernel
theorem dL_law_225 : decode cL_law 225 = .ok (.invokevirtual 15, 3) := by decide +kernel
theorem dL_law_228 : decode cL_law 228 = .ok (.aload_n 2, 1) := by decide +kernel
theorem dL_law_229 : decode cL_law 229 = .ok (.aload_n 0, 1) := by decide +kernel
theorem dL_law_230 : decode cL_law 230 = .ok (.iload_n 3, 1) := by decide +kernel
theorem dL_law_231 : decode cL_law 231 = .ok (.iconst 1, 1) := by decide +kernel
theorem dL_law_232 : decode cL_law 232 = .ok (.iadd, 1) := by decide +kernel
theorem dL_law_233 : decode cL_law 233 = .ok (.iaload, 1) := by decide +kernel
theorem dL_law_234 : decode cL_law 234 = .ok (.i2l, 1) := by decide +kernel
theorem dL_law_235 : decode cL_law 235 = .ok (.bipush 32, 2) := by decide +kernel
theorem dL_law_237 : decode cL_law 237 = .ok (.lshl, 1) := by decide +kernel
theorem dL_law_238 : decode cL_law 238 = .ok (.aload_n 0, 1) := by decide +kernel
theorem dL_law_239 : decode cL_law 239 = .ok (.iload_n 3, 1) := by decide +kernel
theorem dL_law_240 : decode cL_law 240 = .ok (.iconst 2, 1) := by decide +kernel
theorem dL_law_241 : decode cL_law 241 = .ok (.iadd, 1) := by decide +kernel
theorem dL_law_242 : decode cL_law 242 = .ok (.iaload, 1) := by decide +kernel
theorem dL_law_243 : decode cL_law 243 = .ok (.i2l, 1) := by decide +kernel
theorem dL_law_244 : decode cL_law 244 = .ok (.ldc2_w 13, 3) := by decide +kernel
theorem dL_law_247 : decode cL_law 247 = .ok (.land, 1) := by decide +kernel
theorem dL_law_248 : decode cL_law 248 = .ok (.lor, 1) := by decide +kernel
theorem dL_law_249 : decode cL_law 249 = .ok (.invokevirtual 19, 3) := by decide +kernel
theorem dL_law_252 : decode cL_law 252 = .ok (.if_icmp .eq 1062, 3) := by decide +kernel
theorem dL_law_255 : decode cL_law 255 = .ok (.iconst 0, 1) := by decide +kernel
theorem dL_law_256 : decode cL_law 256 = .ok (.ireturn, 1) := by decide +kernel
theorem dL_law_257 : decode cL_law 257 = .ok (.aload_n 1, 1) := by decide +kernel
theorem dL_law_258 : decode cL_law 258 = .ok (.aload_n 0, 1) := by decide +kernel
theorem dL_law_259 : decode cL_law 259 = .ok (.iload_n 3, 1) := by decide +kernel
theorem dL_law_260 : decode cL_law 260 = .ok (.iconst 1, 1) := by decide +kernel
theorem dL_law_261 : decode cL_law 261 = .ok (.iadd, 1) := by decide +kernel
theorem dL_law_262 : decode cL_law 262 = .ok (.iaload, 1) := by decide +kernel
theorem dL_law_263 : decode cL_law 263 = .ok (.invokevirtual 20, 3) := by decide +kernel
theorem dL_law_266 : decode cL_law 266 = .ok (.aload_n 2, 1) := by decide +kernel
theorem dL_law_267 : decode cL_law 267 = .ok (.aload_n 0, 1) := by decide +kernel
theorem dL_law_268 : decode cL_law 268 = .ok (.iload_n 3, 1) := by decide +kernel
theorem dL_law_269 : decode cL_law 269 = .ok (.iconst 1, 1) := by decide +kernel
theorem dL_law_270 : decode cL_law 270 = .ok (.iadd, 1) := by decide +kernel
theorem dL_law_271 : decode cL_law 271 = .ok (.iaload, 1) := by decide +kernel
theorem dL_law_272 : decode cL_law 272 = .ok (.invokevirtual 24, 3) := by decide +kernel
theorem dL_law_275 : decode cL_law 275 = .ok (.if_icmp .eq 1039, 3) := by decide +kernel
theorem dL_law_278 : decode cL_law 278 = .ok (.iconst 0, 1) := by decide +kernel
theorem dL_law_279 : decode cL_law 279 = .ok (.ireturn, 1) := by decide +kernel
theorem dL_law_280 : decode cL_law 280 = .ok (.aload_n 1, 1) := by decide +kernel
theorem dL_law_281 : decode cL_law 281 = .ok (.invokevirtual 25, 3) := by decide +kernel
theorem dL_law_284 : decode cL_law 284 = .ok (.aload_n 2, 1) := by decide +kernel
theorem dL_law_285 : decode cL_law 285 = .ok (.invokevirtual 29, 3) := by decide +kernel
theorem dL_law_288 : decode cL_law 288 = .ok (.if_icmp .eq 1026, 3) := by decide +kernel
theorem dL_law_291 : decode cL_law 291 = .ok (.iconst 0, 1) := by decide +kernel
theorem dL_law_292 : decode cL_law 292 = .ok (.ireturn, 1) := by decide +kernel
theorem dL_law_293 : decode cL_law 293 = .ok (.aload_n 1, 1) := by decide +kernel
theorem dL_law_294 : decode cL_law 294 = .ok (.invokevirtual 30, 3) := by decide +kernel
theorem dL_law_297 : decode cL_law 297 = .ok (.aload_n 2, 1) := by decide +kernel
theorem dL_law_298 : decode cL_law 298 = .ok (.invokevirtual 33, 3) := by decide +kernel
theorem dL_law_301 : decode cL_law 301 = .ok (.if_icmp .eq 1013, 3) := by decide +kernel
theorem dL_law_304 : decode cL_law 304 = .ok (.iconst 0, 1) := by decide +kernel
theorem dL_law_305 : decode cL_law 305 = .ok (.ireturn, 1) := by decide +kernel
theorem dL_law_306 : decode cL_law 306 = .ok (.aload_n 1, 1) := by decide +kernel
theorem dL_law_307 : decode cL_law 307 = .ok (.aload_n 0, 1) := by decide +kernel
theorem dL_law_308 : decode cL_law 308 = .ok (.iload_n 3, 1) := by decide +kernel
theorem dL_law_309 : decode cL_law 309 = .ok (.iconst 1, 1) := by decide +kernel
theorem dL_law_310 : decode cL_law 310 = .ok (.iadd, 1) := by decide +kernel
theorem dL_law_311 : decode cL_law 311 = .ok (.iaload, 1) := by decide +kernel
theorem dL_law_312 : decode cL_law 312 = .ok (.invokevirtual 34, 3) := by decide +kernel
theorem dL_law_315 : decode cL_law 315 = .ok (.aload_n 2, 1) := by decide +kernel
theorem dL_law_316 : decode cL_law 316 = .ok (.aload_n 0, 1) := by decide +kernel
theorem dL_law_317 : decode cL_law 317 = .ok (.iload_n 3, 1) := by decide +kernel
theorem dL_law_318 : decode cL_law 318 = .ok (.iconst 1, 1) := by decide +kernel
theorem dL_law_319 : decode cL_law 319 = .ok (.iadd, 1) := by decide +kernel
theorem dL_law_320 : decode cL_law 320 = .ok (.iaload, 1) := by decide +kernel
theorem dL_law_321 : decode cL_law 321 = .ok (.invokevirtual 37, 3) := by decide +kernel
theorem dL_law_324 : decode cL_law 324 = .ok (.if_icmp .eq 990, 3) := by decide +kernel
theorem dL_law_327 : decode cL_law 327 = .ok (.iconst 0, 1) := by decide +kernel
theorem dL_law_328 : decode cL_law 328 = .ok (.ireturn, 1) := by decide +kernel
theorem dL_law_329 : decode cL_law 329 = .ok (.aload_n 1, 1) := by decide +kernel
theorem dL_law_330 : decode cL_law 330 = .ok (.aload_n 0, 1) := by decide +kernel
theorem dL_law_331 : decode cL_law 331 = .ok (.iload_n 3, 1) := by decide +kernel
theorem dL_law_332 : decode cL_law 332 = .ok (.iconst 1, 1) := by decide +kernel
theorem dL_law_333 : decode cL_law 333 = .ok (.iadd, 1) := by decide +kernel
theorem dL_law_334 : decode cL_law 334 = .ok (.iaload, 1) := by decide +kernel
theorem dL_law_335 : decode cL_law 335 = .ok (.aload_n 0, 1) := by decide +kernel
theorem dL_law_336 : decode cL_law 336 = .ok (.iload_n 3, 1) := by decide +kernel
theorem dL_law_337 : decode cL_law 337 = .ok (.iconst 2, 1) := by decide +kernel
theorem dL_law_338 : decode cL_law 338 = .ok (.iadd, 1) := by decide +kernel
theorem dL_law_339 : decode cL_law 339 = .ok (.iaload, 1) := by decide +kernel
theorem dL_law_340 : decode cL_law 340 = .ok (.invokevirtual 38, 3) := by decide +kernel
theorem dL_law_343 : decode cL_law 343 = .ok (.aload_n 2, 1) := by decide +kernel
theorem dL_law_344 : decode cL_law 344 = .ok (.aload_n 0, 1) := by decide +kernel
theorem dL_law_345 : decode cL_law 345 = .ok (.iload_n 3, 1) := by decide +kernel
theorem dL_law_346 : decode cL_law 346 = .ok (.iconst 1, 1) := by decide +kernel
theorem dL_law_347 : decode cL_law 347 = .ok (.iadd, 1) := by decide +kernel
theorem dL_law_348 : decode cL_law 348 = .ok (.iaload, 1) := by decide +kernel
theorem dL_law_349 : decode cL_law 349 = .ok (.aload_n 0, 1) := by decide +kernel
theorem dL_law_350 : decode cL_law 350 = .ok (.iload_n 3, 1) := by decide +kernel
theorem dL_law_351 : decode cL_law 351 = .ok (.iconst 2, 1) := by decide +kernel
theorem dL_law_352 : decode cL_law 352 = .ok (.iadd, 1) := by decide +kernel
theorem dL_law_353 : decode cL_law 353 = .ok (.iaload, 1) := by decide +kernel
theorem dL_law_354 : decode cL_law 354 = .ok (.invokevirtual 42, 3) := by decide +kernel
theorem dL_law_357 : decode cL_law 357 = .ok (.if_icmp .eq 957, 3) := by decide +kernel
theorem dL_law_360 : decode cL_law 360 = .ok (.iconst 0, 1) := by decide +kernel
theorem dL_law_361 : decode cL_law 361 = .ok (.ireturn, 1) := by decide +kernel
theorem dL_law_362 : decode cL_law 362 = .ok (.aload_n 1, 1) := by decide +kernel
theorem dL_law_363 : decode cL_law 363 = .ok (.aload_n 0, 1) := by decide +kernel
theorem dL_law_364 : decode cL_law 364 = .ok (.iload_n 3, 1) := by decide +kernel
theorem dL_law_365 : decode cL_law 365 = .ok (.iconst 1, 1) := by decide +kernel
theorem dL_law_366 : decode cL_law 366 = .ok (.iadd, 1) := by decide +kernel
theorem dL_law_367 : decode cL_law 367 = .ok (.iaload, 1) := by decide +kernel
theorem dL_law_368 : decode cL_law 368 = .ok (.aload_n 0, 1) := by decide +kernel
theorem dL_law_369 : decode cL_law 369 = .ok (.iload_n 3, 1) := by decide +kernel
theorem dL_law_370 : decode cL_law 370 = .ok (.iconst 2, 1) := by decide +kernel
theorem dL_law_371 : decode cL_law 371 = .ok (.iadd, 1) := by decide +kernel
theorem dL_law_372 : decode cL_law 372 = .ok (.iaload, 1) := by decide +kernel
theorem dL_law_373 : decode cL_law 373 = .ok (.aload_n 0, 1) := by decide +kernel
theorem dL_law_374 : decode cL_law 374 = .ok (.iload_n 3, 1) := by decide +kernel
theorem dL_law_375 : decode cL_law 375 = .ok (.iconst 3, 1) := by decide +kernel
theorem dL_law_376 : decode cL_law 376 = .ok (.iadd, 1) := by decide +kernel
theorem dL_law_377 : decode cL_law 377 = .ok (.iaload, 1) := by decide +kernel
theorem dL_law_378 : decode cL_law 378 = .ok (.invokevirtual 43, 3) := by decide +kernel
theorem dL_law_381 : decode cL_law 381 = .ok (.aload_n 2, 1) := by decide +kernel
theorem dL_law_382 : decode cL_law 382 = .ok (.aload_n 0, 1) := by decide +kernel
theorem dL_law_383 : decode cL_law 383 = .ok (.iload_n 3, 1) := by decide +kernel
theorem dL_law_384 : decode cL_law 384 = .ok (.iconst 1, 1) := by decide +kernel
theorem dL_law_385 : decode cL_law 385 = .ok (.iadd, 1) := by decide +kernel
theorem dL_law_386 : decode cL_law 386 = .ok (.iaload, 1) := by decide +kernel
theorem dL_law_387 : decode cL_law 387 = .ok (.aload_n 0, 1) := by decide +kernel
theorem dL_law_388 : decode cL_law 388 = .ok (.iload_n 3, 1) := by decide +kernel
theorem dL_law_389 : decode cL_law 389 = .ok (.iconst 2, 1) := by decide +kernel
theorem dL_law_390 : decode cL_law 390 = .ok (.iadd, 1) := by decide +kernel
theorem dL_law_391 : decode cL_law 391 = .ok (.iaload, 1) := by decide +kernel
theorem dL_law_392 : decode cL_law 392 = .ok (.aload_n 0, 1) := by decide +kernel
theorem dL_law_393 : decode cL_law 393 = .ok (.iload_n 3, 1) := by decide +kernel
theorem dL_law_394 : decode cL_law 394 = .ok (.iconst 3, 1) := by decide +kernel
theorem dL_law_395 : decode cL_law 395 = .ok (.iadd, 1) := by decide +kernel
theorem dL_law_396 : decode cL_law 396 = .ok (.iaload, 1) := by decide +kernel
theorem dL_law_397 : decode cL_law 397 = .ok (.invokevirtual 47, 3) := by decide +kernel
theorem dL_law_400 : decode cL_law 400 = .ok (.if_icmp .eq 914, 3) := by decide +kernel
theorem dL_law_403 : decode cL_law 403 = .ok (.iconst 0, 1) := by decide +kernel
theorem dL_law_404 : decode cL_law 404 = .ok (.ireturn, 1) := by decide +kernel
theorem dL_law_405 : decode cL_law 405 = .ok (.aload_n 1, 1) := by decide +kernel
theorem dL_law_406 : decode cL_law 406 = .ok (.aload_n 0, 1) := by decide +kernel
theorem dL_law_407 : decode cL_law 407 = .ok (.iload_n 3, 1) := by decide +kernel
theorem dL_law_408 : decode cL_law 408 = .ok (.iconst 1, 1) := by decide +kernel
theorem dL_law_409 : decode cL_law 409 = .ok (.iadd, 1) := by decide +kernel
theorem dL_law_410 : decode cL_law 410 = .ok (.iaload, 1) := by decide +kernel
theorem dL_law_411 : decode cL_law 411 = .ok (.aload_n 0, 1) := by decide +kernel
theorem dL_law_412 : decode cL_law 412 = .ok (.iload_n 3, 1) := by decide +kernel
theorem dL_law_413 : decode cL_law 413 = .ok (.iconst 2, 1) := by decide +kernel
theorem dL_law_414 : decode cL_law 414 = .ok (.iadd, 1) := by decide +kernel
theorem dL_law_415 : decode cL_law 415 = .ok (.iaload, 1) := by decide +kernel
theorem dL_law_416 : decode cL_law 416 = .ok (.invokevirtual 48, 3) := by decide +kernel
theorem dL_law_419 : decode cL_law 419 = .ok (.aload_n 2, 1) := by decide +kernel
theorem dL_law_420 : decode cL_law 420 = .ok (.aload_n 0, 1) := by decide +kernel
theorem dL_law_421 : decode cL_law 421 = .ok (.iload_n 3, 1) := by decide +kernel
theorem dL_law_422 : decode cL_law 422 = .ok (.iconst 1, 1) := by decide +kernel
theorem dL_law_423 : decode cL_law 423 = .ok (.iadd, 1) := by decide +kernel
theorem dL_law_424 : decode cL_law 424 = .ok (.iaload, 1) := by decide +kernel
theorem dL_law_425 : decode cL_law 425 = .ok (.aload_n 0, 1) := by decide +kernel
theorem dL_law_426 : decode cL_law 426 = .ok (.iload_n 3, 1) := by decide +kernel
theorem dL_law_427 : decode cL_law 427 = .ok (.iconst 2, 1) := by decide +kernel
theorem dL_law_428 : decode cL_law 428 = .ok (.iadd, 1) := by decide +kernel
theorem dL_law_429 : decode cL_law 429 = .ok (.iaload, 1) := by decide +kernel
theorem dL_law_430 : decode cL_law 430 = .ok (.invokevirtual 51, 3) := by decide +kernel
theorem dL_law_433 : decode cL_law 433 = .ok (.if_icmp .eq 881, 3) := by decide +kernel
theorem dL_law_436 : decode cL_law 436 = .ok (.iconst 0, 1) := by decide +kernel
theorem dL_law_437 : decode cL_law 437 = .ok (.ireturn, 1) := by decide +kernel
theorem dL_law_438 : decode cL_law 438 = .ok (.aload_n 1, 1) := by decide +kernel
theorem dL_law_439 : decode cL_law 439 = .ok (.aload_n 0, 1) := by decide +kernel
theorem dL_law_440 : decode cL_law 440 = .ok (.iload_n 3, 1) := by decide +kernel
theorem dL_law_441 : decode cL_law 441 = .ok (.iconst 1, 1) := by decide +kernel
theorem dL_law_442 : decode cL_law 442 = .ok (.iadd, 1) := by decide +kernel
theorem dL_law_443 : decode cL_law 443 = .ok (.iaload, 1) := by decide +kernel
theorem dL_law_444 : decode cL_law 444 = .ok (.invokevirtual 52, 3) := by decide +kernel
theorem dL_law_447 : decode cL_law 447 = .ok (.aload_n 2, 1) := by decide +kernel
theorem dL_law_448 : decode cL_law 448 = .ok (.aload_n 0, 1) := by decide +kernel
theorem dL_law_449 : decode cL_law 449 = .ok (.iload_n 3, 1) := by decide +kernel
theorem dL_law_450 : decode cL_law 450 = .ok (.iconst 1, 1) := by decide +kernel
theorem dL_law_451 : decode cL_law 451 = .ok (.iadd, 1) := by decide +kernel
theorem dL_law_452 : decode cL_law 452 = .ok (.iaload, 1) := by decide +kernel
theorem dL_law_453 : decode cL_law 453 = .ok (.invokevirtual 55, 3) := by decide +kernel
theorem dL_law_456 : decode cL_law 456 = .ok (.if_icmp .eq 858, 3) := by decide +kernel
theorem dL_law_459 : decode cL_law 459 = .ok (.iconst 0, 1) := by decide +kernel
theorem dL_law_460 : decode cL_law 460 = .ok (.ireturn, 1) := by decide +kernel
theorem dL_law_461 : decode cL_law 461 = .ok (.aload_n 1, 1) := by decide +kernel
theorem dL_law_462 : decode cL_law 462 = .ok (.aload_n 0, 1) := by decide +kernel
theorem dL_law_463 : decode cL_law 463 = .ok (.iload_n 3, 1) := by decide +kernel
theorem dL_law_464 : decode cL_law 464 = .ok (.iconst 1, 1) := by decide +kernel
theorem dL_law_465 : decode cL_law 465 = .ok (.iadd, 1) := by decide +kernel
theorem dL_law_466 : decode cL_law 466 = .ok (.iaload, 1) := by decide +kernel
theorem dL_law_467 : decode cL_law 467 = .ok (.aload_n 0, 1) := by decide +kernel
theorem dL_law_468 : decode cL_law 468 = .ok (.iload_n 3, 1) := by decide +kernel
theorem dL_law_469 : decode cL_law 469 = .ok (.iconst 2, 1) := by decide +kernel
theorem dL_law_470 : decode cL_law 470 = .ok (.iadd, 1) := by decide +kernel
theorem dL_law_471 : decode cL_law 471 = .ok (.iaload, 1) := by decide +kernel
theorem dL_law_472 : decode cL_law 472 = .ok (.invokevirtual 56, 3) := by decide +kernel
theorem dL_law_475 : decode cL_law 475 = .ok (.aload_n 2, 1) := by decide +kernel
theorem dL_law_476 : decode cL_law 476 = .ok (.aload_n 0, 1) := by decide +kernel
theorem dL_law_477 : decode cL_law 477 = .ok (.iload_n 3, 1) := by decide +kernel
theorem dL_law_478 : decode cL_law 478 = .ok (.iconst 1, 1) := by decide +kernel
theorem dL_law_479 : decode cL_law 479 = .ok (.iadd, 1) := by decide +kernel
theorem dL_law_480 : decode cL_law 480 = .ok (.iaload, 1) := by decide +kernel
theorem dL_law_481 : decode cL_law 481 = .ok (.aload_n 0, 1) := by decide +kernel
theorem dL_law_482 : decode cL_law 482 = .ok (.iload_n 3, 1) := by decide +kernel
theorem dL_law_483 : decode cL_law 483 = .ok (.iconst 2, 1) := by decide +kernel
theorem dL_law_484 : decode cL_law 484 = .ok (.iadd, 1) := by decide +kernel
theorem dL_law_485 : decode cL_law 485 = .ok (.iaload, 1) := by decide +kernel
theorem dL_law_486 : decode cL_law 486 = .ok (.invokevirtual 59, 3) := by decide +kernel
theorem dL_law_489 : decode cL_law 489 = .ok (.if_icmp .eq 825, 3) := by decide +kernel
theorem dL_law_492 : decode cL_law 492 = .ok (.iconst 0, 1) := by decide +kernel
theorem dL_law_493 : decode cL_law 493 = .ok (.ireturn, 1) := by decide +kernel
theorem dL_law_494 : decode cL_law 494 = .ok (.aload_n 1, 1) := by decide +kernel
theorem dL_law_495 : decode cL_law 495 = .ok (.aload_n 0, 1) := by decide +kernel
theorem dL_law_496 : decode cL_law 496 = .ok (.iload_n 3, 1) := by decide +kernel
theorem dL_law_497 : decode cL_law 497 = .ok (.iconst 1, 1) := by decide +kernel
theorem dL_law_498 : decode cL_law 498 = .ok (.iadd, 1) := by decide +kernel
theorem dL_law_499 : decode cL_law 499 = .ok (.iaload, 1) := by decide +kernel
theorem dL_law_500 : decode cL_law 500 = .ok (.aload_n 0, 1) := by decide +kernel
theorem dL_law_501 : decode cL_law 501 = .ok (.iload_n 3, 1) := by decide +kernel
theorem dL_law_502 : decode cL_law 502 = .ok (.iconst 2, 1) := by decide +kernel
theorem dL_law_503 : decode cL_law 503 = .ok (.iadd, 1) := by decide +kernel
theorem dL_law_504 : decode cL_law 504 = .ok (.iaload, 1) := by decide +kernel
theorem dL_law_505 : decode cL_law 505 = .ok (.invokevirtual 60, 3) := by decide +kernel
theorem dL_law_508 : decode cL_law 508 = .ok (.aload_n 2, 1) := by decide +kernel
theorem dL_law_509 : decode cL_law 509 = .ok (.aload_n 0, 1) := by decide +kernel
theorem dL_law_510 : decode cL_law 510 = .ok (.iload_n 3, 1) := by decide +kernel
theorem dL_law_511 : decode cL_law 511 = .ok (.iconst 1, 1) := by decide +kernel
theorem dL_law_512 : decode cL_law 512 = .ok (.iadd, 1) := by decide +kernel
theorem dL_law_513 : decode cL_law 513 = .ok (.iaload, 1) := by decide +kernel
theorem dL_law_514 : decode cL_law 514 = .ok (.aload_n 0, 1) := by decide +kernel
theorem dL_law_515 : decode cL_law 515 = .ok (.iload_n 3, 1) := by decide +kernel
theorem dL_law_516 : decode cL_law 516 = .ok (.iconst 2, 1) := by decide +kernel
theorem dL_law_517 : decode cL_law 517 = .ok (.iadd, 1) := by decide +kernel
theorem dL_law_518 : decode cL_law 518 = .ok (.iaload, 1) := by decide +kernel
theorem dL_law_519 : decode cL_law 519 = .ok (.invokevirtual 63, 3) := by decide +kernel
theorem dL_law_522 : decode cL_law 522 = .ok (.if_icmp .eq 792, 3) := by decide +kernel
theorem dL_law_525 : decode cL_law 525 = .ok (.iconst 0, 1) := by decide +kernel
theorem dL_law_526 : decode cL_law 526 = .ok (.ireturn, 1) := by decide +kernel
theorem dL_law_527 : decode cL_law 527 = .ok (.aload_n 1, 1) := by decide +kernel
theorem dL_law_528 : decode cL_law 528 = .ok (.aload_n 0, 1) := by decide +kernel
theorem dL_law_529 : decode cL_law 529 = .ok (.iload_n 3, 1) := by decide +kernel
theorem dL_law_530 : decode cL_law 530 = .ok (.iconst 1, 1) := by decide +kernel
theorem dL_law_531 : decode cL_law 531 = .ok (.iadd, 1) := by decide +kernel
theorem dL_law_532 : decode cL_law 532 = .ok (.iaload, 1) := by decide +kernel
theorem dL_law_533 : decode cL_law 533 = .ok (.aload_n 0, 1) := by decide +kernel
theorem dL_law_534 : decode cL_law 534 = .ok (.iload_n 3, 1) := by decide +kernel
theorem dL_law_535 : decode cL_law 535 = .ok (.iconst 2, 1) := by decide +kernel
theorem dL_law_536 : decode cL_law 536 = .ok (.iadd, 1) := by decide +kernel
theorem dL_law_537 : decode cL_law 537 = .ok (.iaload, 1) := by decide +kernel
theorem dL_law_538 : decode cL_law 538 = .ok (.invokevirtual 64, 3) := by decide +kernel
theorem dL_law_541 : decode cL_law 541 = .ok (.aload_n 2, 1) := by decide +kernel
theorem dL_law_542 : decode cL_law 542 = .ok (.aload_n 0, 1) := by decide +kernel
theorem dL_law_543 : decode cL_law 543 = .ok (.iload_n 3, 1) := by decide +kernel
theorem dL_law_544 : decode cL_law 544 = .ok (.iconst 1, 1) := by decide +kernel
theorem dL_law_545 : decode cL_law 545 = .ok (.iadd, 1) := by decide +kernel
theorem dL_law_546 : decode cL_law 546 = .ok (.iaload, 1) := by decide +kernel
theorem dL_law_547 : decode cL_law 547 = .ok (.aload_n 0, 1) := by decide +kernel
theorem dL_law_548 : decode cL_law 548 = .ok (.iload_n 3, 1) := by decide +kernel
theorem dL_law_549 : decode cL_law 549 = .ok (.iconst 2, 1) := by decide +kernel
theorem dL_law_550 : decode cL_law 550 = .ok (.iadd, 1) := by decide +kernel
theorem dL_law_551 : decode cL_law 551 = .ok (.iaload, 1) := by decide +kernel
theorem dL_law_552 : decode cL_law 552 = .ok (.invokevirtual 67, 3) := by decide +kernel
theorem dL_law_555 : decode cL_law 555 = .ok (.if_icmp .eq 759, 3) := by decide +kernel
theorem dL_law_558 : decode cL_law 558 = .ok (.iconst 0, 1) := by decide +kernel
theorem dL_law_559 : decode cL_law 559 = .ok (.ireturn, 1) := by decide +kernel
theorem dL_law_560 : decode cL_law 560 = .ok (.aload_n 1, 1) := by decide +kernel
theorem dL_law_561 : decode cL_law 561 = .ok (.aload_n 0, 1) := by decide +kernel
theorem dL_law_562 : decode cL_law 562 = .ok (.iload_n 3, 1) := by decide +kernel
theorem dL_law_563 : decode cL_law 563 = .ok (.iconst 1, 1) := by decide +kernel
theorem dL_law_564 : decode cL_law 564 = .ok (.iadd, 1) := by decide +kernel
theorem dL_law_565 : decode cL_law 565 = .ok (.iaload, 1) := by decide +kernel
theorem dL_law_566 : decode cL_law 566 = .ok (.aload_n 0, 1) := by decide +kernel
theorem dL_law_567 : decode cL_law 567 = .ok (.iload_n 3, 1) := by decide +kernel
theorem dL_law_568 : decode cL_law 568 = .ok (.iconst 2, 1) := by decide +kernel
theorem dL_law_569 : decode cL_law 569 = .ok (.iadd, 1) := by decide +kernel
theorem dL_law_570 : decode cL_law 570 = .ok (.iaload, 1) := by decide +kernel
theorem dL_law_571 : decode cL_law 571 = .ok (.aload_n 0, 1) := by decide +kernel
theorem dL_law_572 : decode cL_law 572 = .ok (.iload_n 3, 1) := by decide +kernel
theorem dL_law_573 : decode cL_law 573 = .ok (.iconst 3, 1) := by decide +kernel
theorem dL_law_574 : decode cL_law 574 = .ok (.iadd, 1) := by decide +kernel
theorem dL_law_575 : decode cL_law 575 = .ok (.iaload, 1) := by decide +kernel
theorem dL_law_576 : decode cL_law 576 = .ok (.invokevirtual 68, 3) := by decide +kernel
theorem dL_law_579 : decode cL_law 579 = .ok (.aload_n 2, 1) := by decide +kernel
theorem dL_law_580 : decode cL_law 580 = .ok (.aload_n 0, 1) := by decide +kernel
theorem dL_law_581 : decode cL_law 581 = .ok (.iload_n 3, 1) := by decide +kernel
theorem dL_law_582 : decode cL_law 582 = .ok (.iconst 1, 1) := by decide +kernel
theorem dL_law_583 : decode cL_law 583 = .ok (.iadd, 1) := by decide +kernel
theorem dL_law_584 : decode cL_law 584 = .ok (.iaload, 1) := by decide +kernel
theorem dL_law_585 : decode cL_law 585 = .ok (.aload_n 0, 1) := by decide +kernel
theorem dL_law_586 : decode cL_law 586 = .ok (.iload_n 3, 1) := by decide +kernel
theorem dL_law_587 : decode cL_law 587 = .ok (.iconst 2, 1) := by decide +kernel
theorem dL_law_588 : decode cL_law 588 = .ok (.iadd, 1) := by decide +kernel
theorem dL_law_589 : decode cL_law 589 = .ok (.iaload, 1) := by decide +kernel
theorem dL_law_590 : decode cL_law 590 = .ok (.aload_n 0, 1) := by decide +kernel
theorem dL_law_591 : decode cL_law 591 = .ok (.iload_n 3, 1) := by decide +kernel
theorem dL_law_592 : decode cL_law 592 = .ok (.iconst 3, 1) := by decide +kernel
theorem dL_law_593 : decode cL_law 593 = .ok (.iadd, 1) := by decide +kernel
theorem dL_law_594 : decode cL_law 594 = .ok (.iaload, 1) := by decide +kernel
theorem dL_law_595 : decode cL_law 595 = .ok (.invokevirtual 71, 3) := by decide +kernel
theorem dL_law_598 : decode cL_law 598 = .ok (.if_icmp .eq 716, 3) := by decide +kernel
theorem dL_law_601 : decode cL_law 601 = .ok (.iconst 0, 1) := by decide +kernel
theorem dL_law_602 : decode cL_law 602 = .ok (.ireturn, 1) := by decide +kernel
theorem dL_law_603 : decode cL_law 603 = .ok (.aload_n 1, 1) := by decide +kernel
theorem dL_law_604 : decode cL_law 604 = .ok (.aload_n 0, 1) := by decide +kernel
theorem dL_law_605 : decode cL_law 605 = .ok (.iload_n 3, 1) := by decide +kernel
theorem dL_law_606 : decode cL_law 606 = .ok (.iconst 1, 1) := by decide +kernel
theorem dL_law_607 : decode cL_law 607 = .ok (.iadd, 1) := by decide +kernel
theorem dL_law_608 : decode cL_law 608 = .ok (.iaload, 1) := by decide +kernel
theorem dL_law_609 : decode cL_law 609 = .ok (.invokevirtual 72, 3) := by decide +kernel
theorem dL_law_612 : decode cL_law 612 = .ok (.aload_n 2, 1) := by decide +kernel
theorem dL_law_613 : decode cL_law 613 = .ok (.aload_n 0, 1) := by decide +kernel
theorem dL_law_614 : decode cL_law 614 = .ok (.iload_n 3, 1) := by decide +kernel
theorem dL_law_615 : decode cL_law 615 = .ok (.iconst 1, 1) := by decide +kernel
theorem dL_law_616 : decode cL_law 616 = .ok (.iadd, 1) := by decide +kernel
theorem dL_law_617 : decode cL_law 617 = .ok (.iaload, 1) := by decide +kernel
theorem dL_law_618 : decode cL_law 618 = .ok (.invokevirtual 75, 3) := by decide +kernel
theorem dL_law_621 : decode cL_law 621 = .ok (.if_icmp .eq 693, 3) := by decide +kernel
theorem dL_law_624 : decode cL_law 624 = .ok (.iconst 0, 1) := by decide +kernel
theorem dL_law_625 : decode cL_law 625 = .ok (.ireturn, 1) := by decide +kernel
theorem dL_law_626 : decode cL_law 626 = .ok (.aload_n 1, 1) := by decide +kernel
theorem dL_law_627 : decode cL_law 627 = .ok (.aload_n 0, 1) := by decide +kernel
theorem dL_law_628 : decode cL_law 628 = .ok (.iload_n 3, 1) := by decide +kernel
theorem dL_law_629 : decode cL_law 629 = .ok (.iconst 1, 1) := by decide +kernel
theorem dL_law_630 : decode cL_law 630 = .ok (.iadd, 1) := by decide +kernel
theorem dL_law_631 : decode cL_law 631 = .ok (.iaload, 1) := by decide +kernel
theorem dL_law_632 : decode cL_law 632 = .ok (.aload_n 0, 1) := by decide +kernel
theorem dL_law_633 : decode cL_law 633 = .ok (.iload_n 3, 1) := by decide +kernel
theorem dL_law_634 : decode cL_law 634 = .ok (.iconst 2, 1) := by decide +kernel
theorem dL_law_635 : decode cL_law 635 = .ok (.iadd, 1) := by decide +kernel
theorem dL_law_636 : decode cL_law 636 = .ok (.iaload, 1) := by decide +kernel
theorem dL_law_637 : decode cL_law 637 = .ok (.invokevirtual 76, 3) := by decide +kernel
theorem dL_law_640 : decode cL_law 640 = .ok (.aload_n 2, 1) := by decide +kernel
theorem dL_law_641 : decode cL_law 641 = .ok (.aload_n 0, 1) := by decide +kernel
theorem dL_law_642 : decode cL_law 642 = .ok (.iload_n 3, 1) := by decide +kernel
theorem dL_law_643 : decode cL_law 643 = .ok (.iconst 1, 1) := by decide +kernel
theorem dL_law_644 : decode cL_law 644 = .ok (.iadd, 1) := by decide +kernel
theorem dL_law_645 : decode cL_law 645 = .ok (.iaload, 1) := by decide +kernel
theorem dL_law_646 : decode cL_law 646 = .ok (.aload_n 0, 1) := by decide +kernel
theorem dL_law_647 : decode cL_law 647 = .ok (.iload_n 3, 1) := by decide +kernel
theorem dL_law_648 : decode cL_law 648 = .ok (.iconst 2, 1) := by decide +kernel
theorem dL_law_649 : decode cL_law 649 = .ok (.iadd, 1) := by decide +kernel
theorem dL_law_650 : decode cL_law 650 = .ok (.iaload, 1) := by decide +kernel
theorem dL_law_651 : decode cL_law 651 = .ok (.invokevirtual 79, 3) := by decide +kernel
theorem dL_law_654 : decode cL_law 654 = .ok (.if_icmp .eq 660, 3) := by decide +kernel
theorem dL_law_657 : decode cL_law 657 = .ok (.iconst 0, 1) := by decide +kernel
theorem dL_law_658 : decode cL_law 658 = .ok (.ireturn, 1) := by decide +kernel
theorem dL_law_659 : decode cL_law 659 = .ok (.aload_n 1, 1) := by decide +kernel
theorem dL_law_660 : decode cL_law 660 = .ok (.aload_n 0, 1) := by decide +kernel
theorem dL_law_661 : decode cL_law 661 = .ok (.iload_n 3, 1) := by decide +kernel
theorem dL_law_662 : decode cL_law 662 = .ok (.iconst 1, 1) := by decide +kernel
theorem dL_law_663 : decode cL_law 663 = .ok (.iadd, 1) := by decide +kernel
theorem dL_law_664 : decode cL_law 664 = .ok (.iaload, 1) := by decide +kernel
theorem dL_law_665 : decode cL_law 665 = .ok (.invokevirtual 80, 3) := by decide +kernel
theorem dL_law_668 : decode cL_law 668 = .ok (.aload_n 2, 1) := by decide +kernel
theorem dL_law_669 : decode cL_law 669 = .ok (.aload_n 0, 1) := by decide +kernel
theorem dL_law_670 : decode cL_law 670 = .ok (.iload_n 3, 1) := by decide +kernel
theorem dL_law_671 : decode cL_law 671 = .ok (.iconst 1, 1) := by decide +kernel
theorem dL_law_672 : decode cL_law 672 = .ok (.iadd, 1) := by decide +kernel
theorem dL_law_673 : decode cL_law 673 = .ok (.iaload, 1) := by decide +kernel
theorem dL_law_674 : decode cL_law 674 = .ok (.invokevirtual 83, 3) := by decide +kernel
theorem dL_law_677 : decode cL_law 677 = .ok (.if_icmp .eq 637, 3) := by decide +kernel
theorem dL_law_680 : decode cL_law 680 = .ok (.iconst 0, 1) := by decide +kernel
theorem dL_law_681 : decode cL_law 681 = .ok (.ireturn, 1) := by decide +kernel
theorem dL_law_682 : decode cL_law 682 = .ok (.aload_n 1, 1) := by decide +kernel
theorem dL_law_683 : decode cL_law 683 = .ok (.aload_n 0, 1) := by decide +kernel
theorem dL_law_684 : decode cL_law 684 = .ok (.iload_n 3, 1) := by decide +kernel
theorem dL_law_685 : decode cL_law 685 = .ok (.iconst 1, 1) := by decide +kernel
theorem dL_law_686 : decode cL_law 686 = .ok (.iadd, 1) := by decide +kernel
theorem dL_law_687 : decode cL_law 687 = .ok (.iaload, 1) := by decide +kernel
theorem dL_law_688 : decode cL_law 688 = .ok (.invokevirtual 84, 3) := by decide +kernel
theorem dL_law_691 : decode cL_law 691 = .ok (.aload_n 2, 1) := by decide +kernel
theorem dL_law_692 : decode cL_law 692 = .ok (.aload_n 0, 1) := by decide +kernel
theorem dL_law_693 : decode cL_law 693 = .ok (.iload_n 3, 1) := by decide +kernel
theorem dL_law_694 : decode cL_law 694 = .ok (.iconst 1, 1) := by decide +kernel
theorem dL_law_695 : decode cL_law 695 = .ok (.iadd, 1) := by decide +kernel
theorem dL_law_696 : decode cL_law 696 = .ok (.iaload, 1) := by decide +kernel
theorem dL_law_697 : decode cL_law 697 = .ok (.invokevirtual 87, 3) := by decide +kernel
theorem dL_law_700 : decode cL_law 700 = .ok (.if_icmp .eq 614, 3) := by decide +kernel
theorem dL_law_703 : decode cL_law 703 = .ok (.iconst 0, 1) := by decide +kernel
theorem dL_law_704 : decode cL_law 704 = .ok (.ireturn, 1) := by decide +kernel
theorem dL_law_705 : decode cL_law 705 = .ok (.aload_n 1, 1) := by decide +kernel
theorem dL_law_706 : decode cL_law 706 = .ok (.aload_n 0, 1) := by decide +kernel
theorem dL_law_707 : decode cL_law 707 = .ok (.iload_n 3, 1) := by decide +kernel
theorem dL_law_708 : decode cL_law 708 = .ok (.iconst 1, 1) := by decide +kernel
theorem dL_law_709 : decode cL_law 709 = .ok (.iadd, 1) := by decide +kernel
theorem dL_law_710 : decode cL_law 710 = .ok (.iaload, 1) := by decide +kernel
theorem dL_law_711 : decode cL_law 711 = .ok (.aload_n 0, 1) := by decide +kernel
theorem dL_law_712 : decode cL_law 712 = .ok (.iload_n 3, 1) := by decide +kernel
theorem dL_law_713 : decode cL_law 713 = .ok (.iconst 2, 1) := by decide +kernel
theorem dL_law_714 : decode cL_law 714 = .ok (.iadd, 1) := by decide +kernel
theorem dL_law_715 : decode cL_law 715 = .ok (.iaload, 1) := by decide +kernel
theorem dL_law_716 : decode cL_law 716 = .ok (.invokevirtual 88, 3) := by decide +kernel
theorem dL_law_719 : decode cL_law 719 = .ok (.aload_n 2, 1) := by decide +kernel
theorem dL_law_720 : decode cL_law 720 = .ok (.aload_n 0, 1) := by decide +kernel
theorem dL_law_721 : decode cL_law 721 = .ok (.iload_n 3, 1) := by decide +kernel
theorem dL_law_722 : decode cL_law 722 = .ok (.iconst 1, 1) := by decide +kernel
theorem dL_law_723 : decode cL_law 723 = .ok (.iadd, 1) := by decide +kernel
theorem dL_law_724 : decode cL_law 724 = .ok (.iaload, 1) := by decide +kernel
theorem dL_law_725 : decode cL_law 725 = .ok (.aload_n 0, 1) := by decide +kernel
theorem dL_law_726 : decode cL_law 726 = .ok (.iload_n 3, 1) := by decide +kernel
theorem dL_law_727 : decode cL_law 727 = .ok (.iconst 2, 1) := by decide +kernel
theorem dL_law_728 : decode cL_law 728 = .ok (.iadd, 1) := by decide +kernel
theorem dL_law_729 : decode cL_law 729 = .ok (.iaload, 1) := by decide +kernel
theorem dL_law_730 : decode cL_law 730 = .ok (.invokevirtual 91, 3) := by decide +kernel
theorem dL_law_733 : decode cL_law 733 = .ok (.if_icmp .eq 581, 3) := by decide +kernel
theorem dL_law_736 : decode cL_law 736 = .ok (.iconst 0, 1) := by decide +kernel
theorem dL_law_737 : decode cL_law 737 = .ok (.ireturn, 1) := by decide +kernel
theorem dL_law_738 : decode cL_law 738 = .ok (.aload_n 1, 1) := by decide +kernel
theorem dL_law_739 : decode cL_law 739 = .ok (.invokevirtual 92, 3) := by decide +kernel
theorem dL_law_742 : decode cL_law 742 = .ok (.aload_n 2, 1) := by decide +kernel
theorem dL_law_743 : decode cL_law 743 = .ok (.invokevirtual 95, 3) := by decide +kernel
theorem dL_law_746 : decode cL_law 746 = .ok (.if_icmp .eq 568, 3) := by decide +kernel
theorem dL_law_749 : decode cL_law 749 = .ok (.iconst 0, 1) := by decide +kernel
theorem dL_law_750 : decode cL_law 750 = .ok (.ireturn, 1) := by decide +kernel
theorem dL_law_751 : decode cL_law 751 = .ok (.aload_n 1, 1) := by decide +kernel
theorem dL_law_752 : decode cL_law 752 = .ok (.aload_n 0, 1) := by decide +kernel
theorem dL_law_753 : decode cL_law 753 = .ok (.iload_n 3, 1) := by decide +kernel
theorem dL_law_754 : decode cL_law 754 = .ok (.iconst 1, 1) := by decide +kernel
theorem dL_law_755 : decode cL_law 755 = .ok (.iadd, 1) := by decide +kernel
theorem dL_law_756 : decode cL_law 756 = .ok (.iaload, 1) := by decide +kernel
theorem dL_law_757 : decode cL_law 757 = .ok (.invokevirtual 96, 3) := by decide +kernel
theorem dL_law_760 : decode cL_law 760 = .ok (.aload_n 2, 1) := by decide +kernel
theorem dL_law_761 : decode cL_law 761 = .ok (.aload_n 0, 1) := by decide +kernel
theorem dL_law_762 : decode cL_law 762 = .ok (.iload_n 3, 1) := by decide +kernel
theorem dL_law_763 : decode cL_law 763 = .ok (.iconst 1, 1) := by decide +kernel
theorem dL_law_764 : decode cL_law 764 = .ok (.iadd, 1) := by decide +kernel
theorem dL_law_765 : decode cL_law 765 = .ok (.iaload, 1) := by decide +kernel
theorem dL_law_766 : decode cL_law 766 = .ok (.invokevirtual 99, 3) := by decide +kernel
theorem dL_law_769 : decode cL_law 769 = .ok (.if_icmp .eq 545, 3) := by decide +kernel
theorem dL_law_772 : decode cL_law 772 = .ok (.iconst 0, 1) := by decide +kernel
theorem dL_law_773 : decode cL_law 773 = .ok (.ireturn, 1) := by decide +kernel
theorem dL_law_774 : decode cL_law 774 = .ok (.aload_n 1, 1) := by decide +kernel
theorem dL_law_775 : decode cL_law 775 = .ok (.aload_n 0, 1) := by decide +kernel
theorem dL_law_776 : decode cL_law 776 = .ok (.iload_n 3, 1) := by decide +kernel
theorem dL_law_777 : decode cL_law 777 = .ok (.iconst 1, 1) := by decide +kernel
theorem dL_law_778 : decode cL_law 778 = .ok (.iadd, 1) := by decide +kernel
theorem dL_law_779 : decode cL_law 779 = .ok (.iaload, 1) := by decide +kernel
theorem dL_law_780 : decode cL_law 780 = .ok (.invokevirtual 100, 3) := by decide +kernel
theorem dL_law_783 : decode cL_law 783 = .ok (.aload_n 2, 1) := by decide +kernel
theorem dL_law_784 : decode cL_law 784 = .ok (.aload_n 0, 1) := by decide +kernel
theorem dL_law_785 : decode cL_law 785 = .ok (.iload_n 3, 1) := by decide +kernel
theorem dL_law_786 : decode cL_law 786 = .ok (.iconst 1, 1) := by decide +kernel
theorem dL_law_787 : decode cL_law 787 = .ok (.iadd, 1) := by decide +kernel
theorem dL_law_788 : decode cL_law 788 = .ok (.iaload, 1) := by decide +kernel
theorem dL_law_789 : decode cL_law 789 = .ok (.invokevirtual 103, 3) := by decide +kernel
theorem dL_law_792 : decode cL_law 792 = .ok (.if_icmp .eq 522, 3) := by decide +kernel
theorem dL_law_795 : decode cL_law 795 = .ok (.iconst 0, 1) := by decide +kernel
theorem dL_law_796 : decode cL_law 796 = .ok (.ireturn, 1) := by decide +kernel
theorem dL_law_797 : decode cL_law 797 = .ok (.aload_n 1, 1) := by decide +kernel
theorem dL_law_798 : decode cL_law 798 = .ok (.aload_n 0, 1) := by decide +kernel
theorem dL_law_799 : decode cL_law 799 = .ok (.iload_n 3, 1) := by decide +kernel
theorem dL_law_800 : decode cL_law 800 = .ok (.iconst 1, 1) := by decide +kernel
theorem dL_law_801 : decode cL_law 801 = .ok (.iadd, 1) := by decide +kernel
theorem dL_law_802 : decode cL_law 802 = .ok (.iaload, 1) := by decide +kernel
theorem dL_law_803 : decode cL_law 803 = .ok (.aload_n 0, 1) := by decide +kernel
theorem dL_law_804 : decode cL_law 804 = .ok (.iload_n 3, 1) := by decide +kernel
theorem dL_law_805 : decode cL_law 805 = .ok (.iconst 2, 1) := by decide +kernel
theorem dL_law_806 : decode cL_law 806 = .ok (.iadd, 1) := by decide +kernel
theorem dL_law_807 : decode cL_law 807 = .ok (.iaload, 1) := by decide +kernel
theorem dL_law_808 : decode cL_law 808 = .ok (.aload_n 0, 1) := by decide +kernel
theorem dL_law_809 : decode cL_law 809 = .ok (.iload_n 3, 1) := by decide +kernel
theorem dL_law_810 : decode cL_law 810 = .ok (.iconst 3, 1) := by decide +kernel
theorem dL_law_811 : decode cL_law 811 = .ok (.iadd, 1) := by decide +kernel
theorem dL_law_812 : decode cL_law 812 = .ok (.iaload, 1) := by decide +kernel
theorem dL_law_813 : decode cL_law 813 = .ok (.invokevirtual 104, 3) := by decide +kernel
theorem dL_law_816 : decode cL_law 816 = .ok (.aload_n 2, 1) := by decide +kernel
theorem dL_law_817 : decode cL_law 817 = .ok (.aload_n 0, 1) := by decide +kernel
theorem dL_law_818 : decode cL_law 818 = .ok (.iload_n 3, 1) := by decide +kernel
theorem dL_law_819 : decode cL_law 819 = .ok (.iconst 1, 1) := by decide +kernel
theorem dL_law_820 : decode cL_law 820 = .ok (.iadd, 1) := by decide +kernel
theorem dL_law_821 : decode cL_law 821 = .ok (.iaload, 1) := by decide +kernel
theorem dL_law_822 : decode cL_law 822 = .ok (.aload_n 0, 1) := by decide +kernel
theorem dL_law_823 : decode cL_law 823 = .ok (.iload_n 3, 1) := by decide +kernel
theorem dL_law_824 : decode cL_law 824 = .ok (.iconst 2, 1) := by decide +kernel
theorem dL_law_825 : decode cL_law 825 = .ok (.iadd, 1) := by decide +kernel
theorem dL_law_826 : decode cL_law 826 = .ok (.iaload, 1) := by decide +kernel
theorem dL_law_827 : decode cL_law 827 = .ok (.aload_n 0, 1) := by decide +kernel
theorem dL_law_828 : decode cL_law 828 = .ok (.iload_n 3, 1) := by decide +kernel
theorem dL_law_829 : decode cL_law 829 = .ok (.iconst 3, 1) := by decide +kernel
theorem dL_law_830 : decode cL_law 830 = .ok (.iadd, 1) := by decide +kernel
theorem dL_law_831 : decode cL_law 831 = .ok (.iaload, 1) := by decide +kernel
theorem dL_law_832 : decode cL_law 832 = .ok (.invokevirtual 107, 3) := by decide +kernel
theorem dL_law_835 : decode cL_law 835 = .ok (.if_icmp .eq 479, 3) := by decide +kernel
theorem dL_law_838 : decode cL_law 838 = .ok (.iconst 0, 1) := by decide +kernel
theorem dL_law_839 : decode cL_law 839 = .ok (.ireturn, 1) := by decide +kernel
theorem dL_law_840 : decode cL_law 840 = .ok (.aload_n 1, 1) := by decide +kernel
theorem dL_law_841 : decode cL_law 841 = .ok (.invokevirtual 108, 3) := by decide +kernel
theorem dL_law_844 : decode cL_law 844 = .ok (.aload_n 2, 1) := by decide +kernel
theorem dL_law_845 : decode cL_law 845 = .ok (.invokevirtual 112, 3) := by decide +kernel
theorem dL_law_848 : decode cL_law 848 = .ok (.lcmp, 1) := by decide +kernel
theorem dL_law_849 : decode cL_law 849 = .ok (.ifCond .eq 465, 3) := by decide +kernel
theorem dL_law_852 : decode cL_law 852 = .ok (.iconst 0, 1) := by decide +kernel
theorem dL_law_853 : decode cL_law 853 = .ok (.ireturn, 1) := by decide +kernel
theorem dL_law_854 : decode cL_law 854 = .ok (.aload_n 1, 1) := by decide +kernel
theorem dL_law_855 : decode cL_law 855 = .ok (.aload_n 0, 1) := by decide +kernel
theorem dL_law_856 : decode cL_law 856 = .ok (.iload_n 3, 1) := by decide +kernel
theorem dL_law_857 : decode cL_law 857 = .ok (.iconst 1, 1) := by decide +kernel
theorem dL_law_858 : decode cL_law 858 = .ok (.iadd, 1) := by decide +kernel
theorem dL_law_859 : decode cL_law 859 = .ok (.iaload, 1) := by decide +kernel
theorem dL_law_860 : decode cL_law 860 = .ok (.invokevirtual 113, 3) := by decide +kernel
theorem dL_law_863 : decode cL_law 863 = .ok (.aload_n 2, 1) := by decide +kernel
theorem dL_law_864 : decode cL_law 864 = .ok (.aload_n 0, 1) := by decide +kernel
theorem dL_law_865 : decode cL_law 865 = .ok (.iload_n 3, 1) := by decide +kernel
theorem dL_law_866 : decode cL_law 866 = .ok (.iconst 1, 1) := by decide +kernel
theorem dL_law_867 : decode cL_law 867 = .ok (.iadd, 1) := by decide +kernel
theorem dL_law_868 : decode cL_law 868 = .ok (.iaload, 1) := by decide +kernel
theorem dL_law_869 : decode cL_law 869 = .ok (.invokevirtual 116, 3) := by decide +kernel
theorem dL_law_872 : decode cL_law 872 = .ok (.if_icmp .eq 442, 3) := by decide +kernel
theorem dL_law_875 : decode cL_law 875 = .ok (.iconst 0, 1) := by decide +kernel
theorem dL_law_876 : decode cL_law 876 = .ok (.ireturn, 1) := by decide +kernel
theorem dL_law_877 : decode cL_law 877 = .ok (.aload_n 1, 1) := by decide +kernel
theorem dL_law_878 : decode cL_law 878 = .ok (.invokevirtual 117, 3) := by decide +kernel
theorem dL_law_881 : decode cL_law 881 = .ok (.aload_n 2, 1) := by decide +kernel
theorem dL_law_882 : decode cL_law 882 = .ok (.invokevirtual 120, 3) := by decide +kernel
theorem dL_law_885 : decode cL_law 885 = .ok (.if_icmp .eq 429, 3) := by decide +kernel
theorem dL_law_888 : decode cL_law 888 = .ok (.iconst 0, 1) := by decide +kernel
theorem dL_law_889 : decode cL_law 889 = .ok (.ireturn, 1) := by decide +kernel
theorem dL_law_890 : decode cL_law 890 = .ok (.aload_n 1, 1) := by decide +kernel
theorem dL_law_891 : decode cL_law 891 = .ok (.aload_n 0, 1) := by decide +kernel
theorem dL_law_892 : decode cL_law 892 = .ok (.iload_n 3, 1) := by decide +kernel
theorem dL_law_893 : decode cL_law 893 = .ok (.iconst 1, 1) := by decide +kernel
theorem dL_law_894 : decode cL_law 894 = .ok (.iadd, 1) := by decide +kernel
theorem dL_law_895 : decode cL_law 895 = .ok (.iaload, 1) := by decide +kernel
theorem dL_law_896 : decode cL_law 896 = .ok (.invokevirtual 121, 3) := by decide +kernel
theorem dL_law_899 : decode cL_law 899 = .ok (.aload_n 2, 1) := by decide +kernel
theorem dL_law_900 : decode cL_law 900 = .ok (.aload_n 0, 1) := by decide +kernel
theorem dL_law_901 : decode cL_law 901 = .ok (.iload_n 3, 1) := by decide +kernel
theorem dL_law_902 : decode cL_law 902 = .ok (.iconst 1, 1) := by decide +kernel
theorem dL_law_903 : decode cL_law 903 = .ok (.iadd, 1) := by decide +kernel
theorem dL_law_904 : decode cL_law 904 = .ok (.iaload, 1) := by decide +kernel
theorem dL_law_905 : decode cL_law 905 = .ok (.invokevirtual 124, 3) := by decide +kernel
theorem dL_law_908 : decode cL_law 908 = .ok (.if_icmp .eq 406, 3) := by decide +kernel
theorem dL_law_911 : decode cL_law 911 = .ok (.iconst 0, 1) := by decide +kernel
theorem dL_law_912 : decode cL_law 912 = .ok (.ireturn, 1) := by decide +kernel
theorem dL_law_913 : decode cL_law 913 = .ok (.aload_n 1, 1) := by decide +kernel
theorem dL_law_914 : decode cL_law 914 = .ok (.aload_n 0, 1) := by decide +kernel
theorem dL_law_915 : decode cL_law 915 = .ok (.iload_n 3, 1) := by decide +kernel
theorem dL_law_916 : decode cL_law 916 = .ok (.iconst 1, 1) := by decide +kernel
theorem dL_law_917 : decode cL_law 917 = .ok (.iadd, 1) := by decide +kernel
theorem dL_law_918 : decode cL_law 918 = .ok (.iaload, 1) := by decide +kernel
theorem dL_law_919 : decode cL_law 919 = .ok (.aload_n 0, 1) := by decide +kernel
theorem dL_law_920 : decode cL_law 920 = .ok (.iload_n 3, 1) := by decide +kernel
theorem dL_law_921 : decode cL_law 921 = .ok (.iconst 2, 1) := by decide +kernel
theorem dL_law_922 : decode cL_law 922 = .ok (.iadd, 1) := by decide +kernel
theorem dL_law_923 : decode cL_law 923 = .ok (.iaload, 1) := by decide +kernel
theorem dL_law_924 : decode cL_law 924 = .ok (.invokevirtual 125, 3) := by decide +kernel
theorem dL_law_927 : decode cL_law 927 = .ok (.aload_n 2, 1) := by decide +kernel
theorem dL_law_928 : decode cL_law 928 = .ok (.aload_n 0, 1) := by decide +kernel
theorem dL_law_929 : decode cL_law 929 = .ok (.iload_n 3, 1) := by decide +kernel
theorem dL_law_930 : decode cL_law 930 = .ok (.iconst 1, 1) := by decide +kernel
theorem dL_law_931 : decode cL_law 931 = .ok (.iadd, 1) := by decide +kernel
theorem dL_law_932 : decode cL_law 932 = .ok (.iaload, 1) := by decide +kernel
theorem dL_law_933 : decode cL_law 933 = .ok (.aload_n 0, 1) := by decide +kernel
theorem dL_law_934 : decode cL_law 934 = .ok (.iload_n 3, 1) := by decide +kernel
theorem dL_law_935 : decode cL_law 935 = .ok (.iconst 2, 1) := by decide +kernel
theorem dL_law_936 : decode cL_law 936 = .ok (.iadd, 1) := by decide +kernel
theorem dL_law_937 : decode cL_law 937 = .ok (.iaload, 1) := by decide +kernel
theorem dL_law_938 : decode cL_law 938 = .ok (.invokevirtual 128, 3) := by decide +kernel
theorem dL_law_941 : decode cL_law 941 = .ok (.if_icmp .eq 373, 3) := by decide +kernel
theorem dL_law_944 : decode cL_law 944 = .ok (.iconst 0, 1) := by decide +kernel
theorem dL_law_945 : decode cL_law 945 = .ok (.ireturn, 1) := by decide +kernel
theorem dL_law_946 : decode cL_law 946 = .ok (.aload_n 1, 1) := by decide +kernel
theorem dL_law_947 : decode cL_law 947 = .ok (.aload_n 0, 1) := by decide +kernel
theorem dL_law_948 : decode cL_law 948 = .ok (.iload_n 3, 1) := by decide +kernel
theorem dL_law_949 : decode cL_law 949 = .ok (.iconst 1, 1) := by decide +kernel
theorem dL_law_950 : decode cL_law 950 = .ok (.iadd, 1) := by decide +kernel
theorem dL_law_951 : decode cL_law 951 = .ok (.iaload, 1) := by decide +kernel
theorem dL_law_952 : decode cL_law 952 = .ok (.invokevirtual 129, 3) := by decide +kernel
theorem dL_law_955 : decode cL_law 955 = .ok (.aload_n 2, 1) := by decide +kernel
theorem dL_law_956 : decode cL_law 956 = .ok (.aload_n 0, 1) := by decide +kernel
theorem dL_law_957 : decode cL_law 957 = .ok (.iload_n 3, 1) := by decide +kernel
theorem dL_law_958 : decode cL_law 958 = .ok (.iconst 1, 1) := by decide +kernel
theorem dL_law_959 : decode cL_law 959 = .ok (.iadd, 1) := by decide +kernel
theorem dL_law_960 : decode cL_law 960 = .ok (.iaload, 1) := by decide +kernel
theorem dL_law_961 : decode cL_law 961 = .ok (.invokevirtual 132, 3) := by decide +kernel
theorem dL_law_964 : decode cL_law 964 = .ok (.if_icmp .eq 350, 3) := by decide +kernel
theorem dL_law_967 : decode cL_law 967 = .ok (.iconst 0, 1) := by decide +kernel
theorem dL_law_968 : decode cL_law 968 = .ok (.ireturn, 1) := by decide +kernel
theorem dL_law_969 : decode cL_law 969 = .ok (.aload_n 1, 1) := by decide +kernel
theorem dL_law_970 : decode cL_law 970 = .ok (.aload_n 0, 1) := by decide +kernel
theorem dL_law_971 : decode cL_law 971 = .ok (.iload_n 3, 1) := by decide +kernel
theorem dL_law_972 : decode cL_law 972 = .ok (.iconst 1, 1) := by decide +kernel
theorem dL_law_973 : decode cL_law 973 = .ok (.iadd, 1) := by decide +kernel
theorem dL_law_974 : decode cL_law 974 = .ok (.iaload, 1) := by decide +kernel
theorem dL_law_975 : decode cL_law 975 = .ok (.invokevirtual 133, 3) := by decide +kernel
theorem dL_law_978 : decode cL_law 978 = .ok (.aload_n 2, 1) := by decide +kernel
theorem dL_law_979 : decode cL_law 979 = .ok (.aload_n 0, 1) := by decide +kernel
theorem dL_law_980 : decode cL_law 980 = .ok (.iload_n 3, 1) := by decide +kernel
theorem dL_law_981 : decode cL_law 981 = .ok (.iconst 1, 1) := by decide +kernel
theorem dL_law_982 : decode cL_law 982 = .ok (.iadd, 1) := by decide +kernel
theorem dL_law_983 : decode cL_law 983 = .ok (.iaload, 1) := by decide +kernel
theorem dL_law_984 : decode cL_law 984 = .ok (.invokevirtual 136, 3) := by decide +kernel
theorem dL_law_987 : decode cL_law 987 = .ok (.if_icmp .eq 327, 3) := by decide +kernel
theorem dL_law_990 : decode cL_law 990 = .ok (.iconst 0, 1) := by decide +kernel
theorem dL_law_991 : decode cL_law 991 = .ok (.ireturn, 1) := by decide +kernel
theorem dL_law_992 : decode cL_law 992 = .ok (.aload_n 1, 1) := by decide +kernel
theorem dL_law_993 : decode cL_law 993 = .ok (.aload_n 0, 1) := by decide +kernel
theorem dL_law_994 : decode cL_law 994 = .ok (.iload_n 3, 1) := by decide +kernel
theorem dL_law_995 : decode cL_law 995 = .ok (.iconst 1, 1) := by decide +kernel
theorem dL_law_996 : decode cL_law 996 = .ok (.iadd, 1) := by decide +kernel
theorem dL_law_997 : decode cL_law 997 = .ok (.iaload, 1) := by decide +kernel
theorem dL_law_998 : decode cL_law 998 = .ok (.aload_n 0, 1) := by decide +kernel
theorem dL_law_999 : decode cL_law 999 = .ok (.iload_n 3, 1) := by decide +kernel
theorem dL_law_1000 : decode cL_law 1000 = .ok (.iconst 2, 1) := by decide +kernel
theorem dL_law_1001 : decode cL_law 1001 = .ok (.iadd, 1) := by decide +kernel
theorem dL_law_1002 : decode cL_law 1002 = .ok (.iaload, 1) := by decide +kernel
theorem dL_law_1003 : decode cL_law 1003 = .ok (.aload_n 0, 1) := by decide +kernel
theorem dL_law_1004 : decode cL_law 1004 = .ok (.iload_n 3, 1) := by decide +kernel
theorem dL_law_1005 : decode cL_law 1005 = .ok (.iconst 3, 1) := by decide +kernel
theorem dL_law_1006 : decode cL_law 1006 = .ok (.iadd, 1) := by decide +kernel
theorem dL_law_1007 : decode cL_law 1007 = .ok (.iaload, 1) := by decide +kernel
theorem dL_law_1008 : decode cL_law 1008 = .ok (.invokevirtual 137, 3) := by decide +kernel
theorem dL_law_1011 : decode cL_law 1011 = .ok (.aload_n 2, 1) := by decide +kernel
theorem dL_law_1012 : decode cL_law 1012 = .ok (.aload_n 0, 1) := by decide +kernel
theorem dL_law_1013 : decode cL_law 1013 = .ok (.iload_n 3, 1) := by decide +kernel
theorem dL_law_1014 : decode cL_law 1014 = .ok (.iconst 1, 1) := by decide +kernel
theorem dL_law_1015 : decode cL_law 1015 = .ok (.iadd, 1) := by decide +kernel
theorem dL_law_1016 : decode cL_law 1016 = .ok (.iaload, 1) := by decide +kernel
theorem dL_law_1017 : decode cL_law 1017 = .ok (.aload_n 0, 1) := by decide +kernel
theorem dL_law_1018 : decode cL_law 1018 = .ok (.iload_n 3, 1) := by decide +kernel
theorem dL_law_1019 : decode cL_law 1019 = .ok (.iconst 2, 1) := by decide +kernel
theorem dL_law_1020 : decode cL_law 1020 = .ok (.iadd, 1) := by decide +kernel
theorem dL_law_1021 : decode cL_law 1021 = .ok (.iaload, 1) := by decide +kernel
theorem dL_law_1022 : decode cL_law 1022 = .ok (.aload_n 0, 1) := by decide +kernel
theorem dL_law_1023 : decode cL_law 1023 = .ok (.iload_n 3, 1) := by decide +kernel
theorem dL_law_1024 : decode cL_law 1024 = .ok (.iconst 3, 1) := by decide +kernel
theorem dL_law_1025 : decode cL_law 1025 = .ok (.iadd, 1) := by decide +kernel
theorem dL_law_1026 : decode cL_law 1026 = .ok (.iaload, 1) := by decide +kernel
theorem dL_law_1027 : decode cL_law 1027 = .ok (.invokevirtual 141, 3) := by decide +kernel
theorem dL_law_1030 : decode cL_law 1030 = .ok (.lcmp, 1) := by decide +kernel
theorem dL_law_1031 : decode cL_law 1031 = .ok (.ifCond .eq 283, 3) := by decide +kernel
theorem dL_law_1034 : decode cL_law 1034 = .ok (.iconst 0, 1) := by decide +kernel
theorem dL_law_1035 : decode cL_law 1035 = .ok (.ireturn, 1) := by decide +kernel
theorem dL_law_1036 : decode cL_law 1036 = .ok (.aload_n 1, 1) := by decide +kernel
theorem dL_law_1037 : decode cL_law 1037 = .ok (.aload_n 0, 1) := by decide +kernel
theorem dL_law_1038 : decode cL_law 1038 = .ok (.iload_n 3, 1) := by decide +kernel
theorem dL_law_1039 : decode cL_law 1039 = .ok (.iconst 1, 1) := by decide +kernel
theorem dL_law_1040 : decode cL_law 1040 = .ok (.iadd, 1) := by decide +kernel
theorem dL_law_1041 : decode cL_law 1041 = .ok (.iaload, 1) := by decide +kernel
theorem dL_law_1042 : decode cL_law 1042 = .ok (.aload_n 0, 1) := by decide +kernel
theorem dL_law_1043 : decode cL_law 1043 = .ok (.iload_n 3, 1) := by decide +kernel
theorem dL_law_1044 : decode cL_law 1044 = .ok (.iconst 2, 1) := by decide +kernel
theorem dL_law_1045 : decode cL_law 1045 = .ok (.iadd, 1) := by decide +kernel
theorem dL_law_1046 : decode cL_law 1046 = .ok (.iaload, 1) := by decide +kernel
theorem dL_law_1047 : decode cL_law 1047 = .ok (.invokevirtual 142, 3) := by decide +kernel
theorem dL_law_1050 : decode cL_law 1050 = .ok (.aload_n 2, 1) := by decide +kernel
theorem dL_law_1051 : decode cL_law 1051 = .ok (.aload_n 0, 1) := by decide +kernel
theorem dL_law_1052 : decode cL_law 1052 = .ok (.iload_n 3, 1) := by decide +kernel
theorem dL_law_1053 : decode cL_law 1053 = .ok (.iconst 1, 1) := by decide +kernel
theorem dL_law_1054 : decode cL_law 1054 = .ok (.iadd, 1) := by decide +kernel
theorem dL_law_1055 : decode cL_law 1055 = .ok (.iaload, 1) := by decide +kernel
theorem dL_law_1056 : decode cL_law 1056 = .ok (.aload_n 0, 1) := by decide +kernel
theorem dL_law_1057 : decode cL_law 1057 = .ok (.iload_n 3, 1) := by decide +kernel
theorem dL_law_1058 : decode cL_law 1058 = .ok (.iconst 2, 1) := by decide +kernel
theorem dL_law_1059 : decode cL_law 1059 = .ok (.iadd, 1) := by decide +kernel
theorem dL_law_1060 : decode cL_law 1060 = .ok (.iaload, 1) := by decide +kernel
theorem dL_law_1061 : decode cL_law 1061 = .ok (.invokevirtual 146, 3) := by decide +kernel
theorem dL_law_1064 : decode cL_law 1064 = .ok (.lcmp, 1) := by decide +kernel
theorem dL_law_1065 : decode cL_law 1065 = .ok (.ifCond .eq 249, 3) := by decide +kernel
theorem dL_law_1068 : decode cL_law 1068 = .ok (.iconst 0, 1) := by decide +kernel
theorem dL_law_1069 : decode cL_law 1069 = .ok (.ireturn, 1) := by decide +kernel
theorem dL_law_1070 : decode cL_law 1070 = .ok (.aload_n 1, 1) := by decide +kernel
theorem dL_law_1071 : decode cL_law 1071 = .ok (.aload_n 0, 1) := by decide +kernel
theorem dL_law_1072 : decode cL_law 1072 = .ok (.iload_n 3, 1) := by decide +kernel
theorem dL_law_1073 : decode cL_law 1073 = .ok (.iconst 1, 1) := by decide +kernel
theorem dL_law_1074 : decode cL_law 1074 = .ok (.iadd, 1) := by decide +kernel
theorem dL_law_1075 : decode cL_law 1075 = .ok (.iaload, 1) := by decide +kernel
theorem dL_law_1076 : decode cL_law 1076 = .ok (.invokevirtual 147, 3) := by decide +kernel
theorem dL_law_1079 : decode cL_law 1079 = .ok (.aload_n 2, 1) := by decide +kernel
theorem dL_law_1080 : decode cL_law 1080 = .ok (.aload_n 0, 1) := by decide +kernel
theorem dL_law_1081 : decode cL_law 1081 = .ok (.iload_n 3, 1) := by decide +kernel
theorem dL_law_1082 : decode cL_law 1082 = .ok (.iconst 1, 1) := by decide +kernel
theorem dL_law_1083 : decode cL_law 1083 = .ok (.iadd, 1) := by decide +kernel
theorem dL_law_1084 : decode cL_law 1084 = .ok (.iaload, 1) := by decide +kernel
theorem dL_law_1085 : decode cL_law 1085 = .ok (.invokevirtual 150, 3) := by decide +kernel
theorem dL_law_1088 : decode cL_law 1088 = .ok (.if_icmp .eq 226, 3) := by decide +kernel
theorem dL_law_1091 : decode cL_law 1091 = .ok (.iconst 0, 1) := by decide +kernel
theorem dL_law_1092 : decode cL_law 1092 = .ok (.ireturn, 1) := by decide +kernel
theorem dL_law_1093 : decode cL_law 1093 = .ok (.aload_n 1, 1) := by decide +kernel
theorem dL_law_1094 : decode cL_law 1094 = .ok (.aload_n 0, 1) := by decide +kernel
theorem dL_law_1095 : decode cL_law 1095 = .ok (.iload_n 3, 1) := by decide +kernel
theorem dL_law_1096 : decode cL_law 1096 = .ok (.iconst 1, 1) := by decide +kernel
theorem dL_law_1097 : decode cL_law 1097 = .ok (.iadd, 1) := by decide +kernel
theorem dL_law_1098 : decode cL_law 1098 = .ok (.iaload, 1) := by decide +kernel
theorem dL_law_1099 : decode cL_law 1099 = .ok (.invokevirtual 151, 3) := by decide +kernel
theorem dL_law_1102 : decode cL_law 1102 = .ok (.aload_n 2, 1) := by decide +kernel
theorem dL_law_1103 : decode cL_law 1103 = .ok (.aload_n 0, 1) := by decide +kernel
theorem dL_law_1104 : decode cL_law 1104 = .ok (.iload_n 3, 1) := by decide +kernel
theorem dL_law_1105 : decode cL_law 1105 = .ok (.iconst 1, 1) := by decide +kernel
theorem dL_law_1106 : decode cL_law 1106 = .ok (.iadd, 1) := by decide +kernel
theorem dL_law_1107 : decode cL_law 1107 = .ok (.iaload, 1) := by decide +kernel
theorem dL_law_1108 : decode cL_law 1108 = .ok (.invokevirtual 154, 3) := by decide +kernel
theorem dL_law_1111 : decode cL_law 1111 = .ok (.if_icmp .eq 203, 3) := by decide +kernel
theorem dL_law_1114 : decode cL_law 1114 = .ok (.iconst 0, 1) := by decide +kernel
theorem dL_law_1115 : decode cL_law 1115 = .ok (.ireturn, 1) := by decide +kernel
theorem dL_law_1116 : decode cL_law 1116 = .ok (.aload_n 1, 1) := by decide +kernel
theorem dL_law_1117 : decode cL_law 1117 = .ok (.aload_n 0, 1) := by decide +kernel
theorem dL_law_1118 : decode cL_law 1118 = .ok (.iload_n 3, 1) := by decide +kernel
theorem dL_law_1119 : decode cL_law 1119 = .ok (.iconst 1, 1) := by decide +kernel
theorem dL_law_1120 : decode cL_law 1120 = .ok (.iadd, 1) := by decide +kernel
theorem dL_law_1121 : decode cL_law 1121 = .ok (.iaload, 1) := by decide +kernel
theorem dL_law_1122 : decode cL_law 1122 = .ok (.invokevirtual 155, 3) := by decide +kernel
theorem dL_law_1125 : decode cL_law 1125 = .ok (.aload_n 2, 1) := by decide +kernel
theorem dL_law_1126 : decode cL_law 1126 = .ok (.aload_n 0, 1) := by decide +kernel
theorem dL_law_1127 : decode cL_law 1127 = .ok (.iload_n 3, 1) := by decide +kernel
theorem dL_law_1128 : decode cL_law 1128 = .ok (.iconst 1, 1) := by decide +kernel
theorem dL_law_1129 : decode cL_law 1129 = .ok (.iadd, 1) := by decide +kernel
theorem dL_law_1130 : decode cL_law 1130 = .ok (.iaload, 1) := by decide +kernel
theorem dL_law_1131 : decode cL_law 1131 = .ok (.invokevirtual 158, 3) := by decide +kernel
theorem dL_law_1134 : decode cL_law 1134 = .ok (.if_icmp .eq 180, 3) := by decide +kernel
theorem dL_law_1137 : decode cL_law 1137 = .ok (.iconst 0, 1) := by decide +kernel
theorem dL_law_1138 : decode cL_law 1138 = .ok (.ireturn, 1) := by decide +kernel
theorem dL_law_1139 : decode cL_law 1139 = .ok (.aload_n 1, 1) := by decide +kernel
theorem dL_law_1140 : decode cL_law 1140 = .ok (.aload_n 0, 1) := by decide +kernel
theorem dL_law_1141 : decode cL_law 1141 = .ok (.iload_n 3, 1) := by decide +kernel
theorem dL_law_1142 : decode cL_law 1142 = .ok (.iconst 1, 1) := by decide +kernel
theorem dL_law_1143 : decode cL_law 1143 = .ok (.iadd, 1) := by decide +kernel
theorem dL_law_1144 : decode cL_law 1144 = .ok (.iaload, 1) := by decide +kernel
theorem dL_law_1145 : decode cL_law 1145 = .ok (.aload_n 0, 1) := by decide +kernel
theorem dL_law_1146 : decode cL_law 1146 = .ok (.iload_n 3, 1) := by decide +kernel
theorem dL_law_1147 : decode cL_law 1147 = .ok (.iconst 2, 1) := by decide +kernel
theorem dL_law_1148 : decode cL_law 1148 = .ok (.iadd, 1) := by decide +kernel
theorem dL_law_1149 : decode cL_law 1149 = .ok (.iaload, 1) := by decide +kernel
theorem dL_law_1150 : decode cL_law 1150 = .ok (.aload_n 0, 1) := by decide +kernel
theorem dL_law_1151 : decode cL_law 1151 = .ok (.iload_n 3, 1) := by decide +kernel
theorem dL_law_1152 : decode cL_law 1152 = .ok (.iconst 3, 1) := by decide +kernel
theorem dL_law_1153 : decode cL_law 1153 = .ok (.iadd, 1) := by decide +kernel
theorem dL_law_1154 : decode cL_law 1154 = .ok (.iaload, 1) := by decide +kernel
theorem dL_law_1155 : decode cL_law 1155 = .ok (.invokevirtual 159, 3) := by decide +kernel
theorem dL_law_1158 : decode cL_law 1158 = .ok (.aload_n 2, 1) := by decide +kernel
theorem dL_law_1159 : decode cL_law 1159 = .ok (.aload_n 0, 1) := by decide +kernel
theorem dL_law_1160 : decode cL_law 1160 = .ok (.iload_n 3, 1) := by decide +kernel
theorem dL_law_1161 : decode cL_law 1161 = .ok (.iconst 1, 1) := by decide +kernel
theorem dL_law_1162 : decode cL_law 1162 = .ok (.iadd, 1) := by decide +kernel
theorem dL_law_1163 : decode cL_law 1163 = .ok (.iaload, 1) := by decide +kernel
theorem dL_law_1164 : decode cL_law 1164 = .ok (.aload_n 0, 1) := by decide +kernel
theorem dL_law_1165 : decode cL_law 1165 = .ok (.iload_n 3, 1) := by decide +kernel
theorem dL_law_1166 : decode cL_law 1166 = .ok (.iconst 2, 1) := by decide +kernel
theorem dL_law_1167 : decode cL_law 1167 = .ok (.iadd, 1) := by decide +kernel
theorem dL_law_1168 : decode cL_law 1168 = .ok (.iaload, 1) := by decide +kernel
theorem dL_law_1169 : decode cL_law 1169 = .ok (.aload_n 0, 1) := by decide +kernel
theorem dL_law_1170 : decode cL_law 1170 = .ok (.iload_n 3, 1) := by decide +kernel
theorem dL_law_1171 : decode cL_law 1171 = .ok (.iconst 3, 1) := by decide +kernel
theorem dL_law_1172 : decode cL_law 1172 = .ok (.iadd, 1) := by decide +kernel
theorem dL_law_1173 : decode cL_law 1173 = .ok (.iaload, 1) := by decide +kernel
theorem dL_law_1174 : decode cL_law 1174 = .ok (.invokevirtual 162, 3) := by decide +kernel
theorem dL_law_1177 : decode cL_law 1177 = .ok (.if_icmp .eq 137, 3) := by decide +kernel
theorem dL_law_1180 : decode cL_law 1180 = .ok (.iconst 0, 1) := by decide +kernel
theorem dL_law_1181 : decode cL_law 1181 = .ok (.ireturn, 1) := by decide +kernel
theorem dL_law_1182 : decode cL_law 1182 = .ok (.aload_n 1, 1) := by decide +kernel
theorem dL_law_1183 : decode cL_law 1183 = .ok (.aload_n 0, 1) := by decide +kernel
theorem dL_law_1184 : decode cL_law 1184 = .ok (.iload_n 3, 1) := by decide +kernel
theorem dL_law_1185 : decode cL_law 1185 = .ok (.iconst 1, 1) := by decide +kernel
theorem dL_law_1186 : decode cL_law 1186 = .ok (.iadd, 1) := by decide +kernel
theorem dL_law_1187 : decode cL_law 1187 = .ok (.iaload, 1) := by decide +kernel
theorem dL_law_1188 : decode cL_law 1188 = .ok (.aload_n 0, 1) := by decide +kernel
theorem dL_law_1189 : decode cL_law 1189 = .ok (.iload_n 3, 1) := by decide +kernel
theorem dL_law_1190 : decode cL_law 1190 = .ok (.iconst 2, 1) := by decide +kernel
theorem dL_law_1191 : decode cL_law 1191 = .ok (.iadd, 1) := by decide +kernel
theorem dL_law_1192 : decode cL_law 1192 = .ok (.iaload, 1) := by decide +kernel
theorem dL_law_1193 : decode cL_law 1193 = .ok (.aload_n 0, 1) := by decide +kernel
theorem dL_law_1194 : decode cL_law 1194 = .ok (.iload_n 3, 1) := by decide +kernel
theorem dL_law_1195 : decode cL_law 1195 = .ok (.iconst 3, 1) := by decide +kernel
theorem dL_law_1196 : decode cL_law 1196 = .ok (.iadd, 1) := by decide +kernel
theorem dL_law_1197 : decode cL_law 1197 = .ok (.iaload, 1) := by decide +kernel
theorem dL_law_1198 : decode cL_law 1198 = .ok (.invokevirtual 163, 3) := by decide +kernel
theorem dL_law_1201 : decode cL_law 1201 = .ok (.aload_n 2, 1) := by decide +kernel
theorem dL_law_1202 : decode cL_law 1202 = .ok (.aload_n 0, 1) := by decide +kernel
theorem dL_law_1203 : decode cL_law 1203 = .ok (.iload_n 3, 1) := by decide +kernel
theorem dL_law_1204 : decode cL_law 1204 = .ok (.iconst 1, 1) := by decide +kernel
theorem dL_law_1205 : decode cL_law 1205 = .ok (.iadd, 1) := by decide +kernel
theorem dL_law_1206 : decode cL_law 1206 = .ok (.iaload, 1) := by decide +kernel
theorem dL_law_1207 : decode cL_law 1207 = .ok (.aload_n 0, 1) := by decide +kernel
theorem dL_law_1208 : decode cL_law 1208 = .ok (.iload_n 3, 1) := by decide +kernel
theorem dL_law_1209 : decode cL_law 1209 = .ok (.iconst 2, 1) := by decide +kernel
theorem dL_law_1210 : decode cL_law 1210 = .ok (.iadd, 1) := by decide +kernel
theorem dL_law_1211 : decode cL_law 1211 = .ok (.iaload, 1) := by decide +kernel
theorem dL_law_1212 : decode cL_law 1212 = .ok (.aload_n 0, 1) := by decide +kernel
theorem dL_law_1213 : decode cL_law 1213 = .ok (.iload_n 3, 1) := by decide +kernel
theorem dL_law_1214 : decode cL_law 1214 = .ok (.iconst 3, 1) := by decide +kernel
theorem dL_law_1215 : decode cL_law 1215 = .ok (.iadd, 1) := by decide +kernel
theorem dL_law_1216 : decode cL_law 1216 = .ok (.iaload, 1) := by decide +kernel
theorem dL_law_1217 : decode cL_law 1217 = .ok (.invokevirtual 166, 3) := by decide +kernel
theorem dL_law_1220 : decode cL_law 1220 = .ok (.if_icmp .eq 94, 3) := by decide +kernel
theorem dL_law_1223 : decode cL_law 1223 = .ok (.iconst 0, 1) := by decide +kernel
theorem dL_law_1224 : decode cL_law 1224 = .ok (.ireturn, 1) := by decide +kernel
theorem dL_law_1225 : decode cL_law 1225 = .ok (.aload_n 1, 1) := by decide +kernel
theorem dL_law_1226 : decode cL_law 1226 = .ok (.aload_n 0, 1) := by decide +kernel
theorem dL_law_1227 : decode cL_law 1227 = .ok (.iload_n 3, 1) := by decide +kernel
theorem dL_law_1228 : decode cL_law 1228 = .ok (.iconst 1, 1) := by decide +kernel
theorem dL_law_1229 : decode cL_law 1229 = .ok (.iadd, 1) := by decide +kernel
theorem dL_law_1230 : decode cL_law 1230 = .ok (.iaload, 1) := by decide +kernel
theorem dL_law_1231 : decode cL_law 1231 = .ok (.aload_n 0, 1) := by decide +kernel
theorem dL_law_1232 : decode cL_law 1232 = .ok (.iload_n 3, 1) := by decide +kernel
theorem dL_law_1233 : decode cL_law 1233 = .ok (.iconst 2, 1) := by decide +kernel
theorem dL_law_1234 : decode cL_law 1234 = .ok (.iadd, 1) := by decide +kernel
theorem dL_law_1235 : decode cL_law 1235 = .ok (.iaload, 1) := by decide +kernel
theorem dL_law_1236 : decode cL_law 1236 = .ok (.aload_n 0, 1) := by decide +kernel
theorem dL_law_1237 : decode cL_law 1237 = .ok (.iload_n 3, 1) := by decide +kernel
theorem dL_law_1238 : decode cL_law 1238 = .ok (.iconst 3, 1) := by decide +kernel
theorem dL_law_1239 : decode cL_law 1239 = .ok (.iadd, 1) := by decide +kernel
theorem dL_law_1240 : decode cL_law 1240 = .ok (.iaload, 1) := by decide +kernel
theorem dL_law_1241 : decode cL_law 1241 = .ok (.aload_n 0, 1) := by decide +kernel
theorem dL_law_1242 : decode cL_law 1242 = .ok (.iload_n 3, 1) := by decide +kernel
theorem dL_law_1243 : decode cL_law 1243 = .ok (.iconst 4, 1) := by decide +kernel
theorem dL_law_1244 : decode cL_law 1244 = .ok (.iadd, 1) := by decide +kernel
theorem dL_law_1245 : decode cL_law 1245 = .ok (.iaload, 1) := by decide +kernel
theorem dL_law_1246 : decode cL_law 1246 = .ok (.invokevirtual 167, 3) := by decide +kernel
theorem dL_law_1249 : decode cL_law 1249 = .ok (.aload_n 2, 1) := by decide +kernel
theorem dL_law_1250 : decode cL_law 1250 = .ok (.aload_n 0, 1) := by decide +kernel
theorem dL_law_1251 : decode cL_law 1251 = .ok (.iload_n 3, 1) := by decide +kernel
theorem dL_law_1252 : decode cL_law 1252 = .ok (.iconst 1, 1) := by decide +kernel
theorem dL_law_1253 : decode cL_law 1253 = .ok (.iadd, 1) := by decide +kernel
theorem dL_law_1254 : decode cL_law 1254 = .ok (.iaload, 1) := by decide +kernel
theorem dL_law_1255 : decode cL_law 1255 = .ok (.aload_n 0, 1) := by decide +kernel
theorem dL_law_1256 : decode cL_law 1256 = .ok (.iload_n 3, 1) := by decide +kernel
theorem dL_law_1257 : decode cL_law 1257 = .ok (.iconst 2, 1) := by decide +kernel
theorem dL_law_1258 : decode cL_law 1258 = .ok (.iadd, 1) := by decide +kernel
theorem dL_law_1259 : decode cL_law 1259 = .ok (.iaload, 1) := by decide +kernel
theorem dL_law_1260 : decode cL_law 1260 = .ok (.aload_n 0, 1) := by decide +kernel
theorem dL_law_1261 : decode cL_law 1261 = .ok (.iload_n 3, 1) := by decide +kernel
theorem dL_law_1262 : decode cL_law 1262 = .ok (.iconst 3, 1) := by decide +kernel
theorem dL_law_1263 : decode cL_law 1263 = .ok (.iadd, 1) := by decide +kernel
theorem dL_law_1264 : decode cL_law 1264 = .ok (.iaload, 1) := by decide +kernel
theorem dL_law_1265 : decode cL_law 1265 = .ok (.aload_n 0, 1) := by decide +kernel
theorem dL_law_1266 : decode cL_law 1266 = .ok (.iload_n 3, 1) := by decide +kernel
theorem dL_law_1267 : decode cL_law 1267 = .ok (.iconst 4, 1) := by decide +kernel
theorem dL_law_1268 : decode cL_law 1268 = .ok (.iadd, 1) := by decide +kernel
theorem dL_law_1269 : decode cL_law 1269 = .ok (.iaload, 1) := by decide +kernel
theorem dL_law_1270 : decode cL_law 1270 = .ok (.invokevirtual 171, 3) := by decide +kernel
theorem dL_law_1273 : decode cL_law 1273 = .ok (.if_icmp .eq 41, 3) := by decide +kernel
theorem dL_law_1276 : decode cL_law 1276 = .ok (.iconst 0, 1) := by decide +kernel
theorem dL_law_1277 : decode cL_law 1277 = .ok (.ireturn, 1) := by decide +kernel
theorem dL_law_1278 : decode cL_law 1278 = .ok (.aload_n 1, 1) := by decide +kernel
theorem dL_law_1279 : decode cL_law 1279 = .ok (.invokevirtual 172, 3) := by decide +kernel
theorem dL_law_1282 : decode cL_law 1282 = .ok (.aload_n 2, 1) := by decide +kernel
theorem dL_law_1283 : decode cL_law 1283 = .ok (.invokevirtual 175, 3) := by decide +kernel
theorem dL_law_1286 : decode cL_law 1286 = .ok (.if_icmp .eq 28, 3) := by decide +kernel
theorem dL_law_1289 : decode cL_law 1289 = .ok (.iconst 0, 1) := by decide +kernel
theorem dL_law_1290 : decode cL_law 1290 = .ok (.ireturn, 1) := by decide +kernel
theorem dL_law_1291 : decode cL_law 1291 = .ok (.aload_n 1, 1) := by decide +kernel
theorem dL_law_1292 : decode cL_law 1292 = .ok (.aload_n 0, 1) := by decide +kernel
theorem dL_law_1293 : decode cL_law 1293 = .ok (.iload_n 3, 1) := by decide +kernel
theorem dL_law_1294 : decode cL_law 1294 = .ok (.iconst 1, 1) := by decide +kernel
theorem dL_law_1295 : decode cL_law 1295 = .ok (.iadd, 1) := by decide +kernel
theorem dL_law_1296 : decode cL_law 1296 = .ok (.iaload, 1) := by decide +kernel
theorem dL_law_1297 : decode cL_law 1297 = .ok (.invokevirtual 176, 3) := by decide +kernel
theorem dL_law_1300 : decode cL_law 1300 = .ok (.aload_n 2, 1) := by decide +kernel
theorem dL_law_1301 : decode cL_law 1301 = .ok (.aload_n 0, 1) := by decide +kernel
theorem dL_law_1302 : decode cL_law 1302 = .ok (.iload_n 3, 1) := by decide +kernel
theorem dL_law_1303 : decode cL_law 1303 = .ok (.iconst 1, 1) := by decide +kernel
theorem dL_law_1304 : decode cL_law 1304 = .ok (.iadd, 1) := by decide +kernel
theorem dL_law_1305 : decode cL_law 1305 = .ok (.iaload, 1) := by decide +kernel
theorem dL_law_1306 : decode cL_law 1306 = .ok (.invokevirtual 179, 3) := by decide +kernel
theorem dL_law_1309 : decode cL_law 1309 = .ok (.if_icmp .eq 5, 3) := by decide +kernel
theorem dL_law_1312 : decode cL_law 1312 = .ok (.iconst 0, 1) := by decide +kernel
theorem dL_law_1313 : decode cL_law 1313 = .ok (.ireturn, 1) := by decide +kernel
theorem dL_law_1314 : decode cL_law 1314 = .ok (.iinc 3 5, 3) := by decide +kernel
theorem dL_law_1317 : decode cL_law 1317 = .ok (.goto (-1299), 3) := by decide +kernel
theorem dL_law_1320 : decode cL_law 1320 = .ok (.iconst 1, 1) := by decide +kernel
theorem dL_law_1321 : decode cL_law 1321 = .ok (.ireturn, 1) := by decide +kernel
def wd_L (O : oa_O) (a c : Nat → Nat) (B : oa_I3) (J : oa_J2) (M : oa_I2) (K : oa_J2) : va_W := wd_O O a B J ++ wd_M O c M K
/-- the law's script: outside every world -/
def oa_scr (G : oa_G) (A : Nat → Prop) (b Ls : Nat) (xs : Nat → Int32) : Prop := va_X b Ls xs G.2.2.2.2.1 G.2.2.2.2.1.heap ∧ b < G.2.2.2.2.1.heap.size ∧ ¬ A b
theorem oa_appC (w1 w2 : va_W) (n : Nat) (h : w1.length = n) : (List.range n).map (fun i => (w1 ++ w2)[i]?) = w1.map some := by
  subst h
  apply List.ext_getElem?
  intro i
  by_cases hi : i < w1.length
  · rw [List.getElem?_map, List.getElem?_map, List.getElem?_range hi]
    show some ((w1 ++ w2)[i]?) = (w1[i]?).map some
    rw [List.getElem?_append_left hi]
    simp [hi]
  · rw [List.getElem?_map, List.getElem?_map, List.getElem?_eq_none (by simp; omega), List.getElem?_eq_none (by omega)]
    rfl
theorem oa_appD (w1 w2 : va_W) (n m : Nat) (h : w1.length = n) (hm : w2.length = m) : ((List.range m).map (fun i => i + n)).map (fun i => (w1 ++ w2)[i]?) = w2.map some := by
  subst h hm
  rw [List.map_map]
  apply List.ext_getElem?
  intro i
  by_cases hi : i < w2.length
  · rw [List.getElem?_map, List.getElem?_map, List.getElem?_range hi]
    show some ((w1 ++ w2)[i + w1.length]?) = (w2[i]?).map some
    rw [List.getElem?_append_right (by omega), Nat.add_sub_cancel]
    simp [hi]
  · rw [List.getElem?_map, List.getElem?_map, List.getElem?_eq_none (by simp; omega), List.getElem?_eq_none (by omega)]
    rfl
theorem oa_putE (ws wd : va_W) (js : List Nat) (w' : va_W) (hlen : js.length = wd.length) (hl : w'.length = ws.length) (h : ∀ k : Nat, k < ws.length → ∀ q : Nat × va_E, (∀ j : Nat, js[j]? = some k → wd[j]? = some q) → (k ∉ js → ws[k]? = some q) → w'[k]? = some q) (hnd : ∀ k : Nat, k < ws.length → ∃ q : Nat × va_E, (∀ j : Nat, js[j]? = some k → wd[j]? = some q) ∧ (k ∉ js → ws[k]? = some q)) (hlp : (oa_put ws js wd).length = ws.length) : oa_put ws js wd = w' := by
  apply List.ext_getElem?
  intro k
  by_cases hk : k < ws.length
  · obtain ⟨q, q1, q2⟩ := hnd k hk
    rw [h k hk q q1 q2]
    obtain ⟨r, hr⟩ : ∃ r, (oa_put ws js wd)[k]? = some r := ⟨_, List.getElem?_eq_getElem (by omega)⟩
    rw [hr]
    rcases oa_put_get js wd ws k r hlen hr with ⟨j, h1, h2⟩ | ⟨h1, h2⟩
    · rw [← q1 j h1, h2]
    · rw [← q2 h1, h2]
  · rw [List.getElem?_eq_none (by omega), List.getElem?_eq_none (by omega)]
theorem oa_put_len : ∀ (js : List Nat) (wd ws : va_W), (oa_put ws js wd).length = ws.length
  | [], _, ws => by simp [oa_put]
  | i :: js, [], ws => by simp [oa_put]
  | i :: js, w :: wd, ws => by
    show (oa_put (ws.set i w) js wd).length = ws.length
    rw [oa_put_len js wd (ws.set i w), List.length_set]
theorem oa_appP (w1 wd w2 : va_W) (n : Nat) (h : w1.length = n) (hd : wd.length = n) : oa_put (w1 ++ w2) (List.range n) wd = wd ++ w2 := by
  refine oa_putE _ _ _ _ (by simp [hd]) (by simp [h, hd]) (fun k hk q q1 q2 => ?_) (fun k hk => ?_) (oa_put_len _ _ _)
  · by_cases hkn : k < n
    · rw [List.getElem?_append_left (by omega)]
      exact q1 k (by rw [List.getElem?_range hkn])
    · rw [List.getElem?_append_right (by omega), hd, ← h, ← List.getElem?_append_right (by omega)]
      exact q2 (by simp; omega)
  · by_cases hkn : k < n
    · refine ⟨wd[k], fun j hj => ?_, fun hne => absurd (List.mem_range.mpr hkn) hne⟩
      have hjn : j < n := by
        have := (List.getElem?_eq_some_iff.mp hj).1
        simpa using this
      rw [List.getElem?_range hjn] at hj
      cases hj
      exact List.getElem?_eq_getElem (by omega)
    · refine ⟨(w1 ++ w2)[k], fun j hj => ?_, fun _ => List.getElem?_eq_getElem hk⟩
      have hjn : j < n := by
        have := (List.getElem?_eq_some_iff.mp hj).1
        simpa using this
      rw [List.getElem?_range hjn] at hj
      cases hj
      exact absurd hjn hkn
theorem oa_appQ (w1 wd w2 : va_W) (n m : Nat) (h : w1.length = n) (h2 : w2.length = m) (hd : wd.length = m) : oa_put (w1 ++ w2) ((List.range m).map (fun i => i + n)) wd = w1 ++ wd := by
  refine oa_putE _ _ _ _ (by simp [hd]) (by simp [h2, hd]) (fun k hk q q1 q2 => ?_) (fun k hk => ?_) (oa_put_len _ _ _)
  · by_cases hkn : k < n
    · rw [List.getElem?_append_left (by omega), ← List.getElem?_append_left (l₂ := w2) (by omega)]
      exact q2 (by simp; omega)
    · rw [List.length_append] at hk
      rw [List.getElem?_append_right (by omega), h]
      exact q1 (k - n) (by rw [List.getElem?_map, List.getElem?_range (by omega)]; show some (k - n + n) = some k; congr 1; omega)
  · rw [List.length_append] at hk
    by_cases hkn : k < n
    · refine ⟨w1[k], fun j hj => ?_, fun _ => by rw [List.getElem?_append_left (by omega)]; exact List.getElem?_eq_getElem (by omega)⟩
      rw [List.getElem?_map] at hj
      cases hj2 : (List.range m)[j]? with
      | none => rw [hj2] at hj; cases hj
      | some x => rw [hj2] at hj; have : x + n = k := Option.some.inj hj; omega
    · refine ⟨wd[k - n], fun j hj => ?_, fun hne => absurd (List.mem_map.mpr ⟨k - n, List.mem_range.mpr (by omega), by omega⟩) hne⟩
      rw [List.getElem?_map] at hj
      have hjm : j < m := by
        rcases Nat.lt_or_ge j m with q | q
        · exact q
        · rw [List.getElem?_eq_none (by simp; omega)] at hj; cases hj
      rw [List.getElem?_range hjm] at hj
      have e : j = k - n := by have : j + n = k := Option.some.inj hj; omega
      subst e
      exact List.getElem?_eq_getElem (by omega)
section OA
variable {G : oa_G} {cc : ByteArray} {nL : Nat} {own : String} {ret : Option FieldType} {rm : Room} {O : oa_O} {A : Nat → Prop} {Q : State → Prop} {cs : Nat × Nat} {L : List (Nat × Value)} {rest : List Value} {ws : va_W} {pc : Nat}
theorem ww_scl {b Ls : Nat} {xs : Nat → Int32} (C : oa_C G cc nL own ret rm O A) (hX : oa_scr G A b Ls xs) (hd : decode cc pc = .ok (.arraylength, 1)) (kk : ww G nL O A Q cs (pc + 1) L (.int (nI Ls) :: rest) ws) : ww G nL O A Q cs pc L (.ref b :: rest) ws := by
  obtain ⟨p, l, e, R, s, m, args, below, meth, c⟩ := G
  obtain ⟨hR, hx, hb, hml, hown, hts, hr, hlk, hK, hA, hE⟩ := C
  obtain ⟨h1, h2, h3⟩ := hX
  intro H locs ls hP hD hS hl
  exact va_slen hx hb h1 h2 h3 hS hd (kk H locs ls hP hD hS hl)
theorem ww_scd {b Ls : Nat} {xs : Nat → Int32} {i y : Int32} (C : oa_C G cc nL own ret rm O A) (hX : oa_scr G A b Ls xs) (h : oa_rd xs Ls i = some y) (hd : decode cc pc = .ok (.iaload, 1)) (kk : ww G nL O A Q cs (pc + 1) L (.int y :: rest) ws) : ww G nL O A Q cs pc L (.int i :: .ref b :: rest) ws := by
  obtain ⟨p, l, e, R, s, m, args, below, meth, c⟩ := G
  obtain ⟨hR, hx, hb, hml, hown, hts, hr, hlk, hK, hA, hE⟩ := C
  obtain ⟨h1, h2, h3⟩ := hX
  obtain ⟨hin, rfl⟩ := oa_rd_some h
  intro H locs ls hP hD hS hl
  exact va_sld hx hb h1 h2 h3 hS hin hd (kk H locs ls hP hD hS hl)
theorem ww_callL {index ny n : Nat} {st0 st1 : List Value} {y : MethodName} {cy : ByteArray} {ry : Option FieldType} {rmy : Room} {As : List Value} {a c : Nat → Nat} {B B' : oa_I3} {J J' : oa_J2} {M : oa_I2} {K : oa_J2} {rv : Option Value} (C : oa_C G cc nL own ret rm O A) (hY : oa_Y y cy ny ry n) (hV : oa_YV y) (hcl : y.cls = RX6) (hlink : Cond.methodLink own index y ∈ oa_gw) (hM : oa_M G.2.1 y cy ny ry rmy O (.ref (a 0) :: As) (wd_O O a B J) rv (fun W1 => W1 = wd_O O a B' J')) (hz : rmy.cells = 0 ∧ rmy.slots = 0) (hcs : cs.1 ≤ rm.cells ∧ cs.2 ≤ rm.slots) (hrm : rmy.frames + 1 ≤ rm.frames ∧ 8 + (ny + 11) + rmy.locals ≤ rm.locals) (hAs : As.length = n) (hst : (rest.map fun v => v.category).sum ≤ 8) (h0 : As.reverse ++ .ref (a 0) :: rest = st0) (h1 : rv.toList ++ rest = st1) (hd : decode cc pc = .ok (.invokevirtual index, 3)) (kk : ww G nL O A Q cs (pc + 3) L st1 (wd_L O a c B' J' M K)) : ww G nL O A Q cs pc L st0 (wd_L O a c B J M K) :=
  ww_callV (wd := wd_O O a B' J') (ci := 6) (Cn := (TX6, 11)) C hY hV hlink hM (List.range 50) 0 (by rw [hcl]; rfl) rfl (by decide) (oa_appC _ _ 50 rfl) rfl (oa_appP _ _ _ 50 rfl rfl) (fun _ h => h) hz hcs hrm hAs hst h0 h1 hd kk
theorem ww_callK {index ny n : Nat} {st0 st1 : List Value} {y : MethodName} {cy : ByteArray} {ry : Option FieldType} {rmy : Room} {As : List Value} {a c : Nat → Nat} {B : oa_I3} {J : oa_J2} {M M' : oa_I2} {K K' : oa_J2} {rv : Option Value} (C : oa_C G cc nL own ret rm O A) (hY : oa_Y y cy ny ry n) (hV : oa_YV y) (hcl : y.cls = RX7) (hlink : Cond.methodLink own index y ∈ oa_gw) (hM : oa_M G.2.1 y cy ny ry rmy O (.ref (c 0) :: As) (wd_M O c M K) rv (fun W1 => W1 = wd_M O c M' K')) (hz : rmy.cells = 0 ∧ rmy.slots = 0) (hcs : cs.1 ≤ rm.cells ∧ cs.2 ≤ rm.slots) (hrm : rmy.frames + 1 ≤ rm.frames ∧ 8 + (ny + 11) + rmy.locals ≤ rm.locals) (hAs : As.length = n) (hst : (rest.map fun v => v.category).sum ≤ 8) (h0 : As.reverse ++ .ref (c 0) :: rest = st0) (h1 : rv.toList ++ rest = st1) (hd : decode cc pc = .ok (.invokevirtual index, 3)) (kk : ww G nL O A Q cs (pc + 3) L st1 (wd_L O a c B J M' K')) : ww G nL O A Q cs pc L st0 (wd_L O a c B J M K) :=
  ww_callV (wd := wd_M O c M' K') (ci := 7) (Cn := (TX7, 27)) C hY hV hlink hM ((List.range 15).map (fun i => i + 50)) 50 (by rw [hcl]; rfl) rfl (by decide) (oa_appD _ _ 50 15 rfl rfl) rfl (oa_appQ _ _ _ 50 15 rfl rfl rfl) (fun _ h => h) hz hcs hrm hAs hst h0 h1 hd kk
end OA

theorem t_b_law {G : oa_G} {O : oa_O} {A : Nat → Prop} {Q : State → Prop} {cs : Nat × Nat} {a c : Nat → Nat} {b : Nat} (C : oa_C G cL_law 4 RL (some .boolean) room_1 O A) (hcs : cs.1 ≤ room_1.cells ∧ cs.2 ≤ room_1.slots) {xs : Nat → Int32} {Ls : Nat} (hsc : oa_scr G A b Ls xs) (hend : ∀ (L : List (Nat × Value)) (ws : va_W), ww G 4 O A Q cs 1321 L [.int 1] ws) (k18 : oa_I3 → oa_J2 → oa_I2 → oa_J2 → Int32 → Option Int32) (hk18 : ∀ (B : oa_I3) (J : oa_J2) (M : oa_I2) (K : oa_J2) (x3 : Int32), k18 B J M K x3 = some 1 → ww G 4 O A Q cs 18 [(0, .ref b), (1, .ref (a 0)), (2, .ref (c 0)), (3, .int x3)] [] (wd_L O a c B J M K)) (B : oa_I3) (J : oa_J2) (M : oa_I2) (K : oa_J2) (x3 : Int32) (hf : b_law xs Ls k18 B J M K x3 = some 1) : ww G 4 O A Q cs 18 [(0, .ref b), (1, .ref (a 0)), (2, .ref (c 0)), (3, .int x3)] [] (wd_L O a c B J M K) := by
  delta b_law at hf
  refine ww_iload_n (pc := 18) (i := 3) C 3 dL_law_18 rfl rfl ?_
  refine ww_aload_n (pc := 19) (i := 0) C 0 dL_law_19 rfl rfl ?_
  refine ww_scl (pc := 20) C hsc dL_law_20 ?_
  refine ww_iconst (pc := 21) C dL_law_21 kc_5 ?_
  refine ww_isub (pc := 22) C dL_law_22 ?_
  refine ww_icmp_gt (pc := 23) (tgt := 1320) C dL_law_23 (by decide) (fun c1 => ?_) (fun c1 => ?_)
  · have hf := oa_ifp c1 hf
    refine ww_iconst (pc := 1320) C dL_law_1320 kc_1 ?_
    exact hend _ _
  · have hf := oa_ifn c1 hf
    refine ww_aload_n (pc := 26) (i := 0) C 0 dL_law_26 rfl rfl ?_
    refine ww_iload_n (pc := 27) (i := 3) C 3 dL_law_27 rfl rfl ?_
    obtain ⟨y2, e3, hf⟩ := oa_bind hf
    refine ww_scd (pc := 28) C hsc e3 dL_law_28 ?_
    refine ww_bipush (pc := 29) C dL_law_29 kb_63 ?_
    refine ww_iand (pc := 31) C dL_law_31 ?_
    by_cases c4 : (y2 &&& 63) = 0
    · have hf := oa_ifp c4 hf
      refine ww_tabI (pc := 32) (tgt := 204) C dL_law_32 (by rw [c4] <;> decide) (by rw [c4] <;> decide) (by rw [c4] <;> rfl) (by decide) ?_
      refine ww_aload_n (pc := 204) (i := 1) C 1 dL_law_204 rfl rfl ?_
      refine ww_aload_n (pc := 205) (i := 0) C 0 dL_law_205 rfl rfl ?_
      refine ww_iload_n (pc := 206) (i := 3) C 3 dL_law_206 rfl rfl ?_
      refine ww_iconst (pc := 207) C dL_law_207 kc_1 ?_
      refine ww_iadd (pc := 208) C dL_law_208 ?_
      obtain ⟨y5, e6, hf⟩ := oa_bind hf
      refine ww_scd (pc := 209) C hsc e6 dL_law_209 ?_
      refine ww_i2l (pc := 210) C dL_law_210 ?_
      refine ww_bipush (pc := 211) C dL_law_211 kb_32 ?_
      refine ww_lshl (pc := 213) C dL_law_213 ?_
      refine ww_aload_n (pc := 214) (i := 0) C 0 dL_law_214 rfl rfl ?_
      refine ww_iload_n (pc := 215) (i := 3) C 3 dL_law_215 rfl rfl ?_
      refine ww_iconst (pc := 216) C dL_law_216 kc_2 ?_
      refine ww_iadd (pc := 217) C dL_law_217 ?_
      obtain ⟨y7, e8, hf⟩ := oa_bind hf
      refine ww_scd (pc := 218) C hsc e8 dL_law_218 ?_
      refine ww_i2l (pc := 219) C dL_law_219 ?_
      refine ww_ldc2 (pc := 220) C cw_L_13 dL_law_220 ?_
      refine ww_land (pc := 223) C dL_law_223 ?_
      refine ww_lor (pc := 224) C dL_law_224 ?_
      obtain ⟨y9, B10, e11, hf⟩ := oa_bind2 hf
      refine ww_callL (pc := 225) (As := [.long (((Int32.toInt64 y5) <<< (Int32.toInt64 (32 : Int32) &&& 63)) ||| ((Int32.toInt64 y7) &&& 4294967295))]) (rest := []) (rv := (some (.int y9))) C hY_X6_feed hV_X6_feed rfl lk_L_15 (m_X6_feed _ O a B J (((Int32.toInt64 y5) <<< (Int32.toInt64 (32 : Int32) &&& 63)) ||| ((Int32.toInt64 y7) &&& 4294967295)) _ e11) ⟨rfl, rfl⟩ hcs ⟨Nat.le_of_ble_eq_true rfl, Nat.le_of_ble_eq_true rfl⟩ rfl (Nat.le_of_ble_eq_true rfl) rfl rfl dL_law_225 ?_
      refine ww_aload_n (pc := 228) (i := 2) C 2 dL_law_228 rfl rfl ?_
      refine ww_aload_n (pc := 229) (i := 0) C 0 dL_law_229 rfl rfl ?_
      refine ww_iload_n (pc := 230) (i := 3) C 3 dL_law_230 rfl rfl ?_
      refine ww_iconst (pc := 231) C dL_law_231 kc_1 ?_
      refine ww_iadd (pc := 232) C dL_law_232 ?_
      obtain ⟨y13, e14, hf⟩ := oa_bind hf
      refine ww_scd (pc := 233) C hsc e14 dL_law_233 ?_
      refine ww_i2l (pc := 234) C dL_law_234 ?_
      refine ww_bipush (pc := 235) C dL_law_235 kb_32 ?_
      refine ww_lshl (pc := 237) C dL_law_237 ?_
      refine ww_aload_n (pc := 238) (i := 0) C 0 dL_law_238 rfl rfl ?_
      refine ww_iload_n (pc := 239) (i := 3) C 3 dL_law_239 rfl rfl ?_
      refine ww_iconst (pc := 240) C dL_law_240 kc_2 ?_
      refine ww_iadd (pc := 241) C dL_law_241 ?_
      obtain ⟨y15, e16, hf⟩ := oa_bind hf
      refine ww_scd (pc := 242) C hsc e16 dL_law_242 ?_
      refine ww_i2l (pc := 243) C dL_law_243 ?_
      refine ww_ldc2 (pc := 244) C cw_L_13 dL_law_244 ?_
      refine ww_land (pc := 247) C dL_law_247 ?_
      refine ww_lor (pc := 248) C dL_law_248 ?_
      obtain ⟨y17, M18, e19, hf⟩ := oa_bind2 hf
      refine ww_callK (pc := 249) (As := [.long (((Int32.toInt64 y13) <<< (Int32.toInt64 (32 : Int32) &&& 63)) ||| ((Int32.toInt64 y15) &&& 4294967295))]) (rest := [.int y9]) (rv := (some (.int y17))) C hY_X7_feed hV_X7_feed rfl lk_L_19 (m_X7_feed _ O c M K (((Int32.toInt64 y13) <<< (Int32.toInt64 (32 : Int32) &&& 63)) ||| ((Int32.toInt64 y15) &&& 4294967295)) _ e19) ⟨rfl, rfl⟩ hcs ⟨Nat.le_of_ble_eq_true rfl, Nat.le_of_ble_eq_true rfl⟩ rfl (Nat.le_of_ble_eq_true rfl) rfl rfl dL_law_249 ?_
      refine ww_icmp_eq (pc := 252) (tgt := 1314) C dL_law_252 (by decide) (fun c21 => ?_) (fun c21 => ?_)
      · have hf := oa_ifp c21 hf
        refine ww_iinc (pc := 1314) (v := (x3 + 5)) (L' := [(0, .ref b), (1, .ref (a 0)), (2, .ref (c 0)), (3, .int (x3 + 5))]) C 3 [1, 2, 3, 0] dL_law_1314 rfl (ki_5 _) (Nat.le_of_ble_eq_true rfl) rfl ?_
        refine ww_goto (pc := 1317) (tgt := 18) C dL_law_1317 (by decide) ?_
        exact hk18 B10 J M18 K (x3 + 5) hf
      · have hf := oa_ifn c21 hf
        refine ww_iconst (pc := 255) C dL_law_255 kc_0 ?_
        exact absurd (Option.some.inj hf) (by decide)
    have hf := oa_ifn c4 hf
    by_cases c22 : (y2 &&& 63) = 1
    · have hf := oa_ifp c22 hf
      refine ww_tabI (pc := 32) (tgt := 257) C dL_law_32 (by rw [c22] <;> decide) (by rw [c22] <;> decide) (by rw [c22] <;> rfl) (by decide) ?_
      refine ww_aload_n (pc := 257) (i := 1) C 1 dL_law_257 rfl rfl ?_
      refine ww_aload_n (pc := 258) (i := 0) C 0 dL_law_258 rfl rfl ?_
      refine ww_iload_n (pc := 259) (i := 3) C 3 dL_law_259 rfl rfl ?_
      refine ww_iconst (pc := 260) C dL_law_260 kc_1 ?_
      refine ww_iadd (pc := 261) C dL_law_261 ?_
      obtain ⟨y23, e24, hf⟩ := oa_bind hf
      refine ww_scd (pc := 262) C hsc e24 dL_law_262 ?_
      obtain ⟨y25, B26, e27, hf⟩ := oa_bind2 hf
      refine ww_callL (pc := 263) (As := [.int y23]) (rest := []) (rv := (some (.int y25))) C hY_X6_end hV_X6_end rfl lk_L_20 (m_X6_end _ O a B J y23 _ e27) ⟨rfl, rfl⟩ hcs ⟨Nat.le_of_ble_eq_true rfl, Nat.le_of_ble_eq_true rfl⟩ rfl (Nat.le_of_ble_eq_true rfl) rfl rfl dL_law_263 ?_
      refine ww_aload_n (pc := 266) (i := 2) C 2 dL_law_266 rfl rfl ?_
      refine ww_aload_n (pc := 267) (i := 0) C 0 dL_law_267 rfl rfl ?_
      refine ww_iload_n (pc := 268) (i := 3) C 3 dL_law_268 rfl rfl ?_
      refine ww_iconst (pc := 269) C dL_law_269 kc_1 ?_
      refine ww_iadd (pc := 270) C dL_law_270 ?_
      obtain ⟨y29, e30, hf⟩ := oa_bind hf
      refine ww_scd (pc := 271) C hsc e30 dL_law_271 ?_
      obtain ⟨y31, M32, e33, hf⟩ := oa_bind2 hf
      refine ww_callK (pc := 272) (As := [.int y29]) (rest := [.int y25]) (rv := (some (.int y31))) C hY_X7_end hV_X7_end rfl lk_L_24 (m_X7_end _ O c M K y29 _ e33) ⟨rfl, rfl⟩ hcs ⟨Nat.le_of_ble_eq_true rfl, Nat.le_of_ble_eq_true rfl⟩ rfl (Nat.le_of_ble_eq_true rfl) rfl rfl dL_law_272 ?_
      refine ww_icmp_eq (pc := 275) (tgt := 1314) C dL_law_275 (by decide) (fun c35 => ?_) (fun c35 => ?_)
      · have hf := oa_ifp c35 hf
        refine ww_iinc (pc := 1314) (v := (x3 + 5)) (L' := [(0, .ref b), (1, .ref (a 0)), (2, .ref (c 0)), (3, .int (x3 + 5))]) C 3 [1, 2, 3, 0] dL_law_1314 rfl (ki_5 _) (Nat.le_of_ble_eq_true rfl) rfl ?_
        refine ww_goto (pc := 1317) (tgt := 18) C dL_law_1317 (by decide) ?_
        exact hk18 B26 J M32 K (x3 + 5) hf
      · have hf := oa_ifn c35 hf
        refine ww_iconst (pc := 278) C dL_law_278 kc_0 ?_
        exact absurd (Option.some.inj hf) (by decide)
    have hf := oa_ifn c22 hf
    by_cases c36 : (y2 &&& 63) = 2
    · have hf := oa_ifp c36 hf
      refine ww_tabI (pc := 32) (tgt := 280) C dL_law_32 (by rw [c36] <;> decide) (by rw [c36] <;> decide) (by rw [c36] <;> rfl) (by decide) ?_
      refine ww_aload_n (pc := 280) (i := 1) C 1 dL_law_280 rfl rfl ?_
      obtain ⟨y37, B38, e39, hf⟩ := oa_bind2 hf
      refine ww_callL (pc := 281) (As := []) (rest := []) (rv := (some (.int y37))) C hY_X6_village hV_X6_village rfl lk_L_25 (m_X6_village _ O a B J _ e39) ⟨rfl, rfl⟩ hcs ⟨Nat.le_of_ble_eq_true rfl, Nat.le_of_ble_eq_true rfl⟩ rfl (Nat.le_of_ble_eq_true rfl) rfl rfl dL_law_281 ?_
      refine ww_aload_n (pc := 284) (i := 2) C 2 dL_law_284 rfl rfl ?_
      obtain ⟨y41, M42, e43, hf⟩ := oa_bind2 hf
      refine ww_callK (pc := 285) (As := []) (rest := [.int y37]) (rv := (some (.int y41))) C hY_X7_village hV_X7_village rfl lk_L_29 (m_X7_village _ O c M K _ e43) ⟨rfl, rfl⟩ hcs ⟨Nat.le_of_ble_eq_true rfl, Nat.le_of_ble_eq_true rfl⟩ rfl (Nat.le_of_ble_eq_true rfl) rfl rfl dL_law_285 ?_
      refine ww_icmp_eq (pc := 288) (tgt := 1314) C dL_law_288 (by decide) (fun c45 => ?_) (fun c45 => ?_)
      · have hf := oa_ifp c45 hf
        refine ww_iinc (pc := 1314) (v := (x3 + 5)) (L' := [(0, .ref b), (1, .ref (a 0)), (2, .ref (c 0)), (3, .int (x3 + 5))]) C 3 [1, 2, 3, 0] dL_law_1314 rfl (ki_5 _) (Nat.le_of_ble_eq_true rfl) rfl ?_
        refine ww_goto (pc := 1317) (tgt := 18) C dL_law_1317 (by decide) ?_
        exact hk18 B38 J M42 K (x3 + 5) hf
      · have hf := oa_ifn c45 hf
        refine ww_iconst (pc := 291) C dL_law_291 kc_0 ?_
        exact absurd (Option.some.inj hf) (by decide)
    have hf := oa_ifn c36 hf
    by_cases c46 : (y2 &&& 63) = 3
    · have hf := oa_ifp c46 hf
      refine ww_tabI (pc := 32) (tgt := 293) C dL_law_32 (by rw [c46] <;> decide) (by rw [c46] <;> decide) (by rw [c46] <;> rfl) (by decide) ?_
      refine ww_aload_n (pc := 293) (i := 1) C 1 dL_law_293 rfl rfl ?_
      obtain ⟨y47, e48, hf⟩ := oa_bind hf
      refine ww_callL (pc := 294) (As := []) (rest := []) (rv := (some (.int y47))) C hY_X6_fault hV_X6_fault rfl lk_L_30 (m_X6_fault _ O a B J _ e48) ⟨rfl, rfl⟩ hcs ⟨Nat.le_of_ble_eq_true rfl, Nat.le_of_ble_eq_true rfl⟩ rfl (Nat.le_of_ble_eq_true rfl) rfl rfl dL_law_294 ?_
      refine ww_aload_n (pc := 297) (i := 2) C 2 dL_law_297 rfl rfl ?_
      obtain ⟨y50, e51, hf⟩ := oa_bind hf
      refine ww_callK (pc := 298) (As := []) (rest := [.int y47]) (rv := (some (.int y50))) C hY_X7_fault hV_X7_fault rfl lk_L_33 (m_X7_fault _ O c M K _ e51) ⟨rfl, rfl⟩ hcs ⟨Nat.le_of_ble_eq_true rfl, Nat.le_of_ble_eq_true rfl⟩ rfl (Nat.le_of_ble_eq_true rfl) rfl rfl dL_law_298 ?_
      refine ww_icmp_eq (pc := 301) (tgt := 1314) C dL_law_301 (by decide) (fun c53 => ?_) (fun c53 => ?_)
      · have hf := oa_ifp c53 hf
        refine ww_iinc (pc := 1314) (v := (x3 + 5)) (L' := [(0, .ref b), (1, .ref (a 0)), (2, .ref (c 0)), (3, .int (x3 + 5))]) C 3 [1, 2, 3, 0] dL_law_1314 rfl (ki_5 _) (Nat.le_of_ble_eq_true rfl) rfl ?_
        refine ww_goto (pc := 1317) (tgt := 18) C dL_law_1317 (by decide) ?_
        exact hk18 B J M K (x3 + 5) hf
      · have hf := oa_ifn c53 hf
        refine ww_iconst (pc := 304) C dL_law_304 kc_0 ?_
        exact absurd (Option.some.inj hf) (by decide)
    have hf := oa_ifn c46 hf
    by_cases c54 : (y2 &&& 63) = 4
    · have hf := oa_ifp c54 hf
      refine ww_tabI (pc := 32) (tgt := 306) C dL_law_32 (by rw [c54] <;> decide) (by rw [c54] <;> decide) (by rw [c54] <;> rfl) (by decide) ?_
      refine ww_aload_n (pc := 306) (i := 1) C 1 dL_law_306 rfl rfl ?_
      refine ww_aload_n (pc := 307) (i := 0) C 0 dL_law_307 rfl rfl ?_
      refine ww_iload_n (pc := 308) (i := 3) C 3 dL_law_308 rfl rfl ?_
      refine ww_iconst (pc := 309) C dL_law_309 kc_1 ?_
      refine ww_iadd (pc := 310) C dL_law_310 ?_
      obtain ⟨y55, e56, hf⟩ := oa_bind hf
      refine ww_scd (pc := 311) C hsc e56 dL_law_311 ?_
      obtain ⟨y57, e58, hf⟩ := oa_bind hf
      refine ww_callL (pc := 312) (As := [.int y55]) (rest := []) (rv := (some (.int y57))) C hY_X6_rule hV_X6_rule rfl lk_L_34 (m_X6_rule _ O a B J y55 _ e58) ⟨rfl, rfl⟩ hcs ⟨Nat.le_of_ble_eq_true rfl, Nat.le_of_ble_eq_true rfl⟩ rfl (Nat.le_of_ble_eq_true rfl) rfl rfl dL_law_312 ?_
      refine ww_aload_n (pc := 315) (i := 2) C 2 dL_law_315 rfl rfl ?_
      refine ww_aload_n (pc := 316) (i := 0) C 0 dL_law_316 rfl rfl ?_
      refine ww_iload_n (pc := 317) (i := 3) C 3 dL_law_317 rfl rfl ?_
      refine ww_iconst (pc := 318) C dL_law_318 kc_1 ?_
      refine ww_iadd (pc := 319) C dL_law_319 ?_
      obtain ⟨y60, e61, hf⟩ := oa_bind hf
      refine ww_scd (pc := 320) C hsc e61 dL_law_320 ?_
      obtain ⟨y62, e63, hf⟩ := oa_bind hf
      refine ww_callK (pc := 321) (As := [.int y60]) (rest := [.int y57]) (rv := (some (.int y62))) C hY_X7_rule hV_X7_rule rfl lk_L_37 (m_X7_rule _ O c M K y60 _ e63) ⟨rfl, rfl⟩ hcs ⟨Nat.le_of_ble_eq_true rfl, Nat.le_of_ble_eq_true rfl⟩ rfl (Nat.le_of_ble_eq_true rfl) rfl rfl dL_law_321 ?_
      refine ww_icmp_eq (pc := 324) (tgt := 1314) C dL_law_324 (by decide) (fun c65 => ?_) (fun c65 => ?_)
      · have hf := oa_ifp c65 hf
        refine ww_iinc (pc := 1314) (v := (x3 + 5)) (L' := [(0, .ref b), (1, .ref (a 0)), (2, .ref (c 0)), (3, .int (x3 + 5))]) C 3 [1, 2, 3, 0] dL_law_1314 rfl (ki_5 _) (Nat.le_of_ble_eq_true rfl) rfl ?_
        refine ww_goto (pc := 1317) (tgt := 18) C dL_law_1317 (by decide) ?_
        exact hk18 B J M K (x3 + 5) hf
      · have hf := oa_ifn c65 hf
        refine ww_iconst (pc := 327) C dL_law_327 kc_0 ?_
        exact absurd (Option.some.inj hf) (by decide)
    have hf := oa_ifn c54 hf
    by_cases c66 : (y2 &&& 63) = 5
    · have hf := oa_ifp c66 hf
      refine ww_tabI (pc := 32) (tgt := 329) C dL_law_32 (by rw [c66] <;> decide) (by rw [c66] <;> decide) (by rw [c66] <;> rfl) (by decide) ?_
      refine ww_aload_n (pc := 329) (i := 1) C 1 dL_law_329 rfl rfl ?_
      refine ww_aload_n (pc := 330) (i := 0) C 0 dL_law_330 rfl rfl ?_
      refine ww_iload_n (pc := 331) (i := 3) C 3 dL_law_331 rfl rfl ?_
      refine ww_iconst (pc := 332) C dL_law_332 kc_1 ?_
      refine ww_iadd (pc := 333) C dL_law_333 ?_
      obtain ⟨y67, e68, hf⟩ := oa_bind hf
      refine ww_scd (pc := 334) C hsc e68 dL_law_334 ?_
      refine ww_aload_n (pc := 335) (i := 0) C 0 dL_law_335 rfl rfl ?_
      refine ww_iload_n (pc := 336) (i := 3) C 3 dL_law_336 rfl rfl ?_
      refine ww_iconst (pc := 337) C dL_law_337 kc_2 ?_
      refine ww_iadd (pc := 338) C dL_law_338 ?_
      obtain ⟨y69, e70, hf⟩ := oa_bind hf
      refine ww_scd (pc := 339) C hsc e70 dL_law_339 ?_
      obtain ⟨y71, e72, hf⟩ := oa_bind hf
      refine ww_callL (pc := 340) (As := [.int y67, .int y69]) (rest := []) (rv := (some (.int y71))) C hY_X6_one hV_X6_one rfl lk_L_38 (m_X6_one _ O a B J y67 y69 _ e72) ⟨rfl, rfl⟩ hcs ⟨Nat.le_of_ble_eq_true rfl, Nat.le_of_ble_eq_true rfl⟩ rfl (Nat.le_of_ble_eq_true rfl) rfl rfl dL_law_340 ?_
      refine ww_aload_n (pc := 343) (i := 2) C 2 dL_law_343 rfl rfl ?_
      refine ww_aload_n (pc := 344) (i := 0) C 0 dL_law_344 rfl rfl ?_
      refine ww_iload_n (pc := 345) (i := 3) C 3 dL_law_345 rfl rfl ?_
      refine ww_iconst (pc := 346) C dL_law_346 kc_1 ?_
      refine ww_iadd (pc := 347) C dL_law_347 ?_
      obtain ⟨y74, e75, hf⟩ := oa_bind hf
      refine ww_scd (pc := 348) C hsc e75 dL_law_348 ?_
      refine ww_aload_n (pc := 349) (i := 0) C 0 dL_law_349 rfl rfl ?_
      refine ww_iload_n (pc := 350) (i := 3) C 3 dL_law_350 rfl rfl ?_
      refine ww_iconst (pc := 351) C dL_law_351 kc_2 ?_
      refine ww_iadd (pc := 352) C dL_law_352 ?_
      obtain ⟨y76, e77, hf⟩ := oa_bind hf
      refine ww_scd (pc := 353) C hsc e77 dL_law_353 ?_
      obtain ⟨y78, e79, hf⟩ := oa_bind hf
      refine ww_callK (pc := 354) (As := [.int y74, .int y76]) (rest := [.int y71]) (rv := (some (.int y78))) C hY_X7_one hV_X7_one rfl lk_L_42 (m_X7_one _ O c M K y74 y76 _ e79) ⟨rfl, rfl⟩ hcs ⟨Nat.le_of_ble_eq_true rfl, Nat.le_of_ble_eq_true rfl⟩ rfl (Nat.le_of_ble_eq_true rfl) rfl rfl dL_law_354 ?_
      refine ww_icmp_eq (pc := 357) (tgt := 1314) C dL_law_357 (by decide) (fun c81 => ?_) (fun c81 => ?_)
      · have hf := oa_ifp c81 hf
        refine ww_iinc (pc := 1314) (v := (x3 + 5)) (L' := [(0, .ref b), (1, .ref (a 0)), (2, .ref (c 0)), (3, .int (x3 + 5))]) C 3 [1, 2, 3, 0] dL_law_1314 rfl (ki_5 _) (Nat.le_of_ble_eq_true rfl) rfl ?_
        refine ww_goto (pc := 1317) (tgt := 18) C dL_law_1317 (by decide) ?_
        exact hk18 B J M K (x3 + 5) hf
      · have hf := oa_ifn c81 hf
        refine ww_iconst (pc := 360) C dL_law_360 kc_0 ?_
        exact absurd (Option.some.inj hf) (by decide)
    have hf := oa_ifn c66 hf
    by_cases c82 : (y2 &&& 63) = 6
    · have hf := oa_ifp c82 hf
      refine ww_tabI (pc := 32) (tgt := 362) C dL_law_32 (by rw [c82] <;> decide) (by rw [c82] <;> decide) (by rw [c82] <;> rfl) (by decide) ?_
      refine ww_aload_n (pc := 362) (i := 1) C 1 dL_law_362 rfl rfl ?_
      refine ww_aload_n (pc := 363) (i := 0) C 0 dL_law_363 rfl rfl ?_
      refine ww_iload_n (pc := 364) (i := 3) C 3 dL_law_364 rfl rfl ?_
      refine ww_iconst (pc := 365) C dL_law_365 kc_1 ?_
      refine ww_iadd (pc := 366) C dL_law_366 ?_
      obtain ⟨y83, e84, hf⟩ := oa_bind hf
      refine ww_scd (pc := 367) C hsc e84 dL_law_367 ?_
      refine ww_aload_n (pc := 368) (i := 0) C 0 dL_law_368 rfl rfl ?_
      refine ww_iload_n (pc := 369) (i := 3) C 3 dL_law_369 rfl rfl ?_
      refine ww_iconst (pc := 370) C dL_law_370 kc_2 ?_
      refine ww_iadd (pc := 371) C dL_law_371 ?_
      obtain ⟨y85, e86, hf⟩ := oa_bind hf
      refine ww_scd (pc := 372) C hsc e86 dL_law_372 ?_
      refine ww_aload_n (pc := 373) (i := 0) C 0 dL_law_373 rfl rfl ?_
      refine ww_iload_n (pc := 374) (i := 3) C 3 dL_law_374 rfl rfl ?_
      refine ww_iconst (pc := 375) C dL_law_375 kc_3 ?_
      refine ww_iadd (pc := 376) C dL_law_376 ?_
      obtain ⟨y87, e88, hf⟩ := oa_bind hf
      refine ww_scd (pc := 377) C hsc e88 dL_law_377 ?_
      obtain ⟨y89, B90, e91, hf⟩ := oa_bind2 hf
      refine ww_callL (pc := 378) (As := [.int y83, .int y85, .int y87]) (rest := []) (rv := (some (.int y89))) C hY_X6_set hV_X6_set rfl lk_L_43 (m_X6_set _ O a B J y83 y85 y87 _ e91) ⟨rfl, rfl⟩ hcs ⟨Nat.le_of_ble_eq_true rfl, Nat.le_of_ble_eq_true rfl⟩ rfl (Nat.le_of_ble_eq_true rfl) rfl rfl dL_law_378 ?_
      refine ww_aload_n (pc := 381) (i := 2) C 2 dL_law_381 rfl rfl ?_
      refine ww_aload_n (pc := 382) (i := 0) C 0 dL_law_382 rfl rfl ?_
      refine ww_iload_n (pc := 383) (i := 3) C 3 dL_law_383 rfl rfl ?_
      refine ww_iconst (pc := 384) C dL_law_384 kc_1 ?_
      refine ww_iadd (pc := 385) C dL_law_385 ?_
      obtain ⟨y93, e94, hf⟩ := oa_bind hf
      refine ww_scd (pc := 386) C hsc e94 dL_law_386 ?_
      refine ww_aload_n (pc := 387) (i := 0) C 0 dL_law_387 rfl rfl ?_
      refine ww_iload_n (pc := 388) (i := 3) C 3 dL_law_388 rfl rfl ?_
      refine ww_iconst (pc := 389) C dL_law_389 kc_2 ?_
      refine ww_iadd (pc := 390) C dL_law_390 ?_
      obtain ⟨y95, e96, hf⟩ := oa_bind hf
      refine ww_scd (pc := 391) C hsc e96 dL_law_391 ?_
      refine ww_aload_n (pc := 392) (i := 0) C 0 dL_law_392 rfl rfl ?_
      refine ww_iload_n (pc := 393) (i := 3) C 3 dL_law_393 rfl rfl ?_
      refine ww_iconst (pc := 394) C dL_law_394 kc_3 ?_
      refine ww_iadd (pc := 395) C dL_law_395 ?_
      obtain ⟨y97, e98, hf⟩ := oa_bind hf
      refine ww_scd (pc := 396) C hsc e98 dL_law_396 ?_
      obtain ⟨y99, M100, e101, hf⟩ := oa_bind2 hf
      refine ww_callK (pc := 397) (As := [.int y93, .int y95, .int y97]) (rest := [.int y89]) (rv := (some (.int y99))) C hY_X7_set hV_X7_set rfl lk_L_47 (m_X7_set _ O c M K y93 y95 y97 _ e101) ⟨rfl, rfl⟩ hcs ⟨Nat.le_of_ble_eq_true rfl, Nat.le_of_ble_eq_true rfl⟩ rfl (Nat.le_of_ble_eq_true rfl) rfl rfl dL_law_397 ?_
      refine ww_icmp_eq (pc := 400) (tgt := 1314) C dL_law_400 (by decide) (fun c103 => ?_) (fun c103 => ?_)
      · have hf := oa_ifp c103 hf
        refine ww_iinc (pc := 1314) (v := (x3 + 5)) (L' := [(0, .ref b), (1, .ref (a 0)), (2, .ref (c 0)), (3, .int (x3 + 5))]) C 3 [1, 2, 3, 0] dL_law_1314 rfl (ki_5 _) (Nat.le_of_ble_eq_true rfl) rfl ?_
        refine ww_goto (pc := 1317) (tgt := 18) C dL_law_1317 (by decide) ?_
        exact hk18 B90 J M100 K (x3 + 5) hf
      · have hf := oa_ifn c103 hf
        refine ww_iconst (pc := 403) C dL_law_403 kc_0 ?_
        exact absurd (Option.some.inj hf) (by decide)
    have hf := oa_ifn c82 hf
    by_cases c104 : (y2 &&& 63) = 7
    · have hf := oa_ifp c104 hf
      refine ww_tabI (pc := 32) (tgt := 405) C dL_law_32 (by rw [c104] <;> decide) (by rw [c104] <;> decide) (by rw [c104] <;> rfl) (by decide) ?_
      refine ww_aload_n (pc := 405) (i := 1) C 1 dL_law_405 rfl rfl ?_
      refine ww_aload_n (pc := 406) (i := 0) C 0 dL_law_406 rfl rfl ?_
      refine ww_iload_n (pc := 407) (i := 3) C 3 dL_law_407 rfl rfl ?_
      refine ww_iconst (pc := 408) C dL_law_408 kc_1 ?_
      refine ww_iadd (pc := 409) C dL_law_409 ?_
      obtain ⟨y105, e106, hf⟩ := oa_bind hf
      refine ww_scd (pc := 410) C hsc e106 dL_law_410 ?_
      refine ww_aload_n (pc := 411) (i := 0) C 0 dL_law_411 rfl rfl ?_
      refine ww_iload_n (pc := 412) (i := 3) C 3 dL_law_412 rfl rfl ?_
      refine ww_iconst (pc := 413) C dL_law_413 kc_2 ?_
      refine ww_iadd (pc := 414) C dL_law_414 ?_
      obtain ⟨y107, e108, hf⟩ := oa_bind hf
      refine ww_scd (pc := 415) C hsc e108 dL_law_415 ?_
      obtain ⟨y109, e110, hf⟩ := oa_bind hf
      refine ww_callL (pc := 416) (As := [.int y105, .int y107]) (rest := []) (rv := (some (.int y109))) C hY_X6_old hV_X6_old rfl lk_L_48 (m_X6_old _ O a B J y105 y107 _ e110) ⟨rfl, rfl⟩ hcs ⟨Nat.le_of_ble_eq_true rfl, Nat.le_of_ble_eq_true rfl⟩ rfl (Nat.le_of_ble_eq_true rfl) rfl rfl dL_law_416 ?_
      refine ww_aload_n (pc := 419) (i := 2) C 2 dL_law_419 rfl rfl ?_
      refine ww_aload_n (pc := 420) (i := 0) C 0 dL_law_420 rfl rfl ?_
      refine ww_iload_n (pc := 421) (i := 3) C 3 dL_law_421 rfl rfl ?_
      refine ww_iconst (pc := 422) C dL_law_422 kc_1 ?_
      refine ww_iadd (pc := 423) C dL_law_423 ?_
      obtain ⟨y112, e113, hf⟩ := oa_bind hf
      refine ww_scd (pc := 424) C hsc e113 dL_law_424 ?_
      refine ww_aload_n (pc := 425) (i := 0) C 0 dL_law_425 rfl rfl ?_
      refine ww_iload_n (pc := 426) (i := 3) C 3 dL_law_426 rfl rfl ?_
      refine ww_iconst (pc := 427) C dL_law_427 kc_2 ?_
      refine ww_iadd (pc := 428) C dL_law_428 ?_
      obtain ⟨y114, e115, hf⟩ := oa_bind hf
      refine ww_scd (pc := 429) C hsc e115 dL_law_429 ?_
      obtain ⟨y116, e117, hf⟩ := oa_bind hf
      refine ww_callK (pc := 430) (As := [.int y112, .int y114]) (rest := [.int y109]) (rv := (some (.int y116))) C hY_X7_old hV_X7_old rfl lk_L_51 (m_X7_old _ O c M K y112 y114 _ e117) ⟨rfl, rfl⟩ hcs ⟨Nat.le_of_ble_eq_true rfl, Nat.le_of_ble_eq_true rfl⟩ rfl (Nat.le_of_ble_eq_true rfl) rfl rfl dL_law_430 ?_
      refine ww_icmp_eq (pc := 433) (tgt := 1314) C dL_law_433 (by decide) (fun c119 => ?_) (fun c119 => ?_)
      · have hf := oa_ifp c119 hf
        refine ww_iinc (pc := 1314) (v := (x3 + 5)) (L' := [(0, .ref b), (1, .ref (a 0)), (2, .ref (c 0)), (3, .int (x3 + 5))]) C 3 [1, 2, 3, 0] dL_law_1314 rfl (ki_5 _) (Nat.le_of_ble_eq_true rfl) rfl ?_
        refine ww_goto (pc := 1317) (tgt := 18) C dL_law_1317 (by decide) ?_
        exact hk18 B J M K (x3 + 5) hf
      · have hf := oa_ifn c119 hf
        refine ww_iconst (pc := 436) C dL_law_436 kc_0 ?_
        exact absurd (Option.some.inj hf) (by decide)
    have hf := oa_ifn c104 hf
    by_cases c120 : (y2 &&& 63) = 8
    · have hf := oa_ifp c120 hf
      refine ww_tabI (pc := 32) (tgt := 438) C dL_law_32 (by rw [c120] <;> decide) (by rw [c120] <;> decide) (by rw [c120] <;> rfl) (by decide) ?_
      refine ww_aload_n (pc := 438) (i := 1) C 1 dL_law_438 rfl rfl ?_
      refine ww_aload_n (pc := 439) (i := 0) C 0 dL_law_439 rfl rfl ?_
      refine ww_iload_n (pc := 440) (i := 3) C 3 dL_law_440 rfl rfl ?_
      refine ww_iconst (pc := 441) C dL_law_441 kc_1 ?_
      refine ww_iadd (pc := 442) C dL_law_442 ?_
      obtain ⟨y121, e122, hf⟩ := oa_bind hf
      refine ww_scd (pc := 443) C hsc e122 dL_law_443 ?_
      obtain ⟨y123, e124, hf⟩ := oa_bind hf
      refine ww_callL (pc := 444) (As := [.int y121]) (rest := []) (rv := (some (.int y123))) C hY_X6_got hV_X6_got rfl lk_L_52 (m_X6_got _ O a B J y121 _ e124) ⟨rfl, rfl⟩ hcs ⟨Nat.le_of_ble_eq_true rfl, Nat.le_of_ble_eq_true rfl⟩ rfl (Nat.le_of_ble_eq_true rfl) rfl rfl dL_law_444 ?_
      refine ww_aload_n (pc := 447) (i := 2) C 2 dL_law_447 rfl rfl ?_
      refine ww_aload_n (pc := 448) (i := 0) C 0 dL_law_448 rfl rfl ?_
      refine ww_iload_n (pc := 449) (i := 3) C 3 dL_law_449 rfl rfl ?_
      refine ww_iconst (pc := 450) C dL_law_450 kc_1 ?_
      refine ww_iadd (pc := 451) C dL_law_451 ?_
      obtain ⟨y126, e127, hf⟩ := oa_bind hf
      refine ww_scd (pc := 452) C hsc e127 dL_law_452 ?_
      obtain ⟨y128, e129, hf⟩ := oa_bind hf
      refine ww_callK (pc := 453) (As := [.int y126]) (rest := [.int y123]) (rv := (some (.int y128))) C hY_X7_got hV_X7_got rfl lk_L_55 (m_X7_got _ O c M K y126 _ e129) ⟨rfl, rfl⟩ hcs ⟨Nat.le_of_ble_eq_true rfl, Nat.le_of_ble_eq_true rfl⟩ rfl (Nat.le_of_ble_eq_true rfl) rfl rfl dL_law_453 ?_
      refine ww_icmp_eq (pc := 456) (tgt := 1314) C dL_law_456 (by decide) (fun c131 => ?_) (fun c131 => ?_)
      · have hf := oa_ifp c131 hf
        refine ww_iinc (pc := 1314) (v := (x3 + 5)) (L' := [(0, .ref b), (1, .ref (a 0)), (2, .ref (c 0)), (3, .int (x3 + 5))]) C 3 [1, 2, 3, 0] dL_law_1314 rfl (ki_5 _) (Nat.le_of_ble_eq_true rfl) rfl ?_
        refine ww_goto (pc := 1317) (tgt := 18) C dL_law_1317 (by decide) ?_
        exact hk18 B J M K (x3 + 5) hf
      · have hf := oa_ifn c131 hf
        refine ww_iconst (pc := 459) C dL_law_459 kc_0 ?_
        exact absurd (Option.some.inj hf) (by decide)
    have hf := oa_ifn c120 hf
    by_cases c132 : (y2 &&& 63) = 9
    · have hf := oa_ifp c132 hf
      refine ww_tabI (pc := 32) (tgt := 461) C dL_law_32 (by rw [c132] <;> decide) (by rw [c132] <;> decide) (by rw [c132] <;> rfl) (by decide) ?_
      refine ww_aload_n (pc := 461) (i := 1) C 1 dL_law_461 rfl rfl ?_
      refine ww_aload_n (pc := 462) (i := 0) C 0 dL_law_462 rfl rfl ?_
      refine ww_iload_n (pc := 463) (i := 3) C 3 dL_law_463 rfl rfl ?_
      refine ww_iconst (pc := 464) C dL_law_464 kc_1 ?_
      refine ww_iadd (pc := 465) C dL_law_465 ?_
      obtain ⟨y133, e134, hf⟩ := oa_bind hf
      refine ww_scd (pc := 466) C hsc e134 dL_law_466 ?_
      refine ww_aload_n (pc := 467) (i := 0) C 0 dL_law_467 rfl rfl ?_
      refine ww_iload_n (pc := 468) (i := 3) C 3 dL_law_468 rfl rfl ?_
      refine ww_iconst (pc := 469) C dL_law_469 kc_2 ?_
      refine ww_iadd (pc := 470) C dL_law_470 ?_
      obtain ⟨y135, e136, hf⟩ := oa_bind hf
      refine ww_scd (pc := 471) C hsc e136 dL_law_471 ?_
      obtain ⟨y137, B138, e139, hf⟩ := oa_bind2 hf
      refine ww_callL (pc := 472) (As := [.int y133, .int y135]) (rest := []) (rv := (some (.int y137))) C hY_X6_point hV_X6_point rfl lk_L_56 (m_X6_point _ O a B J y133 y135 _ e139) ⟨rfl, rfl⟩ hcs ⟨Nat.le_of_ble_eq_true rfl, Nat.le_of_ble_eq_true rfl⟩ rfl (Nat.le_of_ble_eq_true rfl) rfl rfl dL_law_472 ?_
      refine ww_aload_n (pc := 475) (i := 2) C 2 dL_law_475 rfl rfl ?_
      refine ww_aload_n (pc := 476) (i := 0) C 0 dL_law_476 rfl rfl ?_
      refine ww_iload_n (pc := 477) (i := 3) C 3 dL_law_477 rfl rfl ?_
      refine ww_iconst (pc := 478) C dL_law_478 kc_1 ?_
      refine ww_iadd (pc := 479) C dL_law_479 ?_
      obtain ⟨y141, e142, hf⟩ := oa_bind hf
      refine ww_scd (pc := 480) C hsc e142 dL_law_480 ?_
      refine ww_aload_n (pc := 481) (i := 0) C 0 dL_law_481 rfl rfl ?_
      refine ww_iload_n (pc := 482) (i := 3) C 3 dL_law_482 rfl rfl ?_
      refine ww_iconst (pc := 483) C dL_law_483 kc_2 ?_
      refine ww_iadd (pc := 484) C dL_law_484 ?_
      obtain ⟨y143, e144, hf⟩ := oa_bind hf
      refine ww_scd (pc := 485) C hsc e144 dL_law_485 ?_
      obtain ⟨y145, M146, e147, hf⟩ := oa_bind2 hf
      refine ww_callK (pc := 486) (As := [.int y141, .int y143]) (rest := [.int y137]) (rv := (some (.int y145))) C hY_X7_point hV_X7_point rfl lk_L_59 (m_X7_point _ O c M K y141 y143 _ e147) ⟨rfl, rfl⟩ hcs ⟨Nat.le_of_ble_eq_true rfl, Nat.le_of_ble_eq_true rfl⟩ rfl (Nat.le_of_ble_eq_true rfl) rfl rfl dL_law_486 ?_
      refine ww_icmp_eq (pc := 489) (tgt := 1314) C dL_law_489 (by decide) (fun c149 => ?_) (fun c149 => ?_)
      · have hf := oa_ifp c149 hf
        refine ww_iinc (pc := 1314) (v := (x3 + 5)) (L' := [(0, .ref b), (1, .ref (a 0)), (2, .ref (c 0)), (3, .int (x3 + 5))]) C 3 [1, 2, 3, 0] dL_law_1314 rfl (ki_5 _) (Nat.le_of_ble_eq_true rfl) rfl ?_
        refine ww_goto (pc := 1317) (tgt := 18) C dL_law_1317 (by decide) ?_
        exact hk18 B138 J M146 K (x3 + 5) hf
      · have hf := oa_ifn c149 hf
        refine ww_iconst (pc := 492) C dL_law_492 kc_0 ?_
        exact absurd (Option.some.inj hf) (by decide)
    have hf := oa_ifn c132 hf
    by_cases c150 : (y2 &&& 63) = 10
    · have hf := oa_ifp c150 hf
      refine ww_tabI (pc := 32) (tgt := 494) C dL_law_32 (by rw [c150] <;> decide) (by rw [c150] <;> decide) (by rw [c150] <;> rfl) (by decide) ?_
      refine ww_aload_n (pc := 494) (i := 1) C 1 dL_law_494 rfl rfl ?_
      refine ww_aload_n (pc := 495) (i := 0) C 0 dL_law_495 rfl rfl ?_
      refine ww_iload_n (pc := 496) (i := 3) C 3 dL_law_496 rfl rfl ?_
      refine ww_iconst (pc := 497) C dL_law_497 kc_1 ?_
      refine ww_iadd (pc := 498) C dL_law_498 ?_
      obtain ⟨y151, e152, hf⟩ := oa_bind hf
      refine ww_scd (pc := 499) C hsc e152 dL_law_499 ?_
      refine ww_aload_n (pc := 500) (i := 0) C 0 dL_law_500 rfl rfl ?_
      refine ww_iload_n (pc := 501) (i := 3) C 3 dL_law_501 rfl rfl ?_
      refine ww_iconst (pc := 502) C dL_law_502 kc_2 ?_
      refine ww_iadd (pc := 503) C dL_law_503 ?_
      obtain ⟨y153, e154, hf⟩ := oa_bind hf
      refine ww_scd (pc := 504) C hsc e154 dL_law_504 ?_
      obtain ⟨y155, B156, e157, hf⟩ := oa_bind2 hf
      refine ww_callL (pc := 505) (As := [.int y151, .int y153]) (rest := []) (rv := (some (.int y155))) C hY_X6_rest hV_X6_rest rfl lk_L_60 (m_X6_rest _ O a B J y151 y153 _ e157) ⟨rfl, rfl⟩ hcs ⟨Nat.le_of_ble_eq_true rfl, Nat.le_of_ble_eq_true rfl⟩ rfl (Nat.le_of_ble_eq_true rfl) rfl rfl dL_law_505 ?_
      refine ww_aload_n (pc := 508) (i := 2) C 2 dL_law_508 rfl rfl ?_
      refine ww_aload_n (pc := 509) (i := 0) C 0 dL_law_509 rfl rfl ?_
      refine ww_iload_n (pc := 510) (i := 3) C 3 dL_law_510 rfl rfl ?_
      refine ww_iconst (pc := 511) C dL_law_511 kc_1 ?_
      refine ww_iadd (pc := 512) C dL_law_512 ?_
      obtain ⟨y159, e160, hf⟩ := oa_bind hf
      refine ww_scd (pc := 513) C hsc e160 dL_law_513 ?_
      refine ww_aload_n (pc := 514) (i := 0) C 0 dL_law_514 rfl rfl ?_
      refine ww_iload_n (pc := 515) (i := 3) C 3 dL_law_515 rfl rfl ?_
      refine ww_iconst (pc := 516) C dL_law_516 kc_2 ?_
      refine ww_iadd (pc := 517) C dL_law_517 ?_
      obtain ⟨y161, e162, hf⟩ := oa_bind hf
      refine ww_scd (pc := 518) C hsc e162 dL_law_518 ?_
      obtain ⟨y163, M164, e165, hf⟩ := oa_bind2 hf
      refine ww_callK (pc := 519) (As := [.int y159, .int y161]) (rest := [.int y155]) (rv := (some (.int y163))) C hY_X7_rest hV_X7_rest rfl lk_L_63 (m_X7_rest _ O c M K y159 y161 _ e165) ⟨rfl, rfl⟩ hcs ⟨Nat.le_of_ble_eq_true rfl, Nat.le_of_ble_eq_true rfl⟩ rfl (Nat.le_of_ble_eq_true rfl) rfl rfl dL_law_519 ?_
      refine ww_icmp_eq (pc := 522) (tgt := 1314) C dL_law_522 (by decide) (fun c167 => ?_) (fun c167 => ?_)
      · have hf := oa_ifp c167 hf
        refine ww_iinc (pc := 1314) (v := (x3 + 5)) (L' := [(0, .ref b), (1, .ref (a 0)), (2, .ref (c 0)), (3, .int (x3 + 5))]) C 3 [1, 2, 3, 0] dL_law_1314 rfl (ki_5 _) (Nat.le_of_ble_eq_true rfl) rfl ?_
        refine ww_goto (pc := 1317) (tgt := 18) C dL_law_1317 (by decide) ?_
        exact hk18 B156 J M164 K (x3 + 5) hf
      · have hf := oa_ifn c167 hf
        refine ww_iconst (pc := 525) C dL_law_525 kc_0 ?_
        exact absurd (Option.some.inj hf) (by decide)
    have hf := oa_ifn c150 hf
    by_cases c168 : (y2 &&& 63) = 11
    · have hf := oa_ifp c168 hf
      refine ww_tabI (pc := 32) (tgt := 527) C dL_law_32 (by rw [c168] <;> decide) (by rw [c168] <;> decide) (by rw [c168] <;> rfl) (by decide) ?_
      refine ww_aload_n (pc := 527) (i := 1) C 1 dL_law_527 rfl rfl ?_
      refine ww_aload_n (pc := 528) (i := 0) C 0 dL_law_528 rfl rfl ?_
      refine ww_iload_n (pc := 529) (i := 3) C 3 dL_law_529 rfl rfl ?_
      refine ww_iconst (pc := 530) C dL_law_530 kc_1 ?_
      refine ww_iadd (pc := 531) C dL_law_531 ?_
      obtain ⟨y169, e170, hf⟩ := oa_bind hf
      refine ww_scd (pc := 532) C hsc e170 dL_law_532 ?_
      refine ww_aload_n (pc := 533) (i := 0) C 0 dL_law_533 rfl rfl ?_
      refine ww_iload_n (pc := 534) (i := 3) C 3 dL_law_534 rfl rfl ?_
      refine ww_iconst (pc := 535) C dL_law_535 kc_2 ?_
      refine ww_iadd (pc := 536) C dL_law_536 ?_
      obtain ⟨y171, e172, hf⟩ := oa_bind hf
      refine ww_scd (pc := 537) C hsc e172 dL_law_537 ?_
      obtain ⟨y173, e174, hf⟩ := oa_bind hf
      refine ww_callL (pc := 538) (As := [.int y169, .int y171]) (rest := []) (rv := (some (.int y173))) C hY_X6_would hV_X6_would rfl lk_L_64 (m_X6_would _ O a B J y169 y171 _ e174) ⟨rfl, rfl⟩ hcs ⟨Nat.le_of_ble_eq_true rfl, Nat.le_of_ble_eq_true rfl⟩ rfl (Nat.le_of_ble_eq_true rfl) rfl rfl dL_law_538 ?_
      refine ww_aload_n (pc := 541) (i := 2) C 2 dL_law_541 rfl rfl ?_
      refine ww_aload_n (pc := 542) (i := 0) C 0 dL_law_542 rfl rfl ?_
      refine ww_iload_n (pc := 543) (i := 3) C 3 dL_law_543 rfl rfl ?_
      refine ww_iconst (pc := 544) C dL_law_544 kc_1 ?_
      refine ww_iadd (pc := 545) C dL_law_545 ?_
      obtain ⟨y176, e177, hf⟩ := oa_bind hf
      refine ww_scd (pc := 546) C hsc e177 dL_law_546 ?_
      refine ww_aload_n (pc := 547) (i := 0) C 0 dL_law_547 rfl rfl ?_
      refine ww_iload_n (pc := 548) (i := 3) C 3 dL_law_548 rfl rfl ?_
      refine ww_iconst (pc := 549) C dL_law_549 kc_2 ?_
      refine ww_iadd (pc := 550) C dL_law_550 ?_
      obtain ⟨y178, e179, hf⟩ := oa_bind hf
      refine ww_scd (pc := 551) C hsc e179 dL_law_551 ?_
      obtain ⟨y180, e181, hf⟩ := oa_bind hf
      refine ww_callK (pc := 552) (As := [.int y176, .int y178]) (rest := [.int y173]) (rv := (some (.int y180))) C hY_X7_would hV_X7_would rfl lk_L_67 (m_X7_would _ O c M K y176 y178 _ e181) ⟨rfl, rfl⟩ hcs ⟨Nat.le_of_ble_eq_true rfl, Nat.le_of_ble_eq_true rfl⟩ rfl (Nat.le_of_ble_eq_true rfl) rfl rfl dL_law_552 ?_
      refine ww_icmp_eq (pc := 555) (tgt := 1314) C dL_law_555 (by decide) (fun c183 => ?_) (fun c183 => ?_)
      · have hf := oa_ifp c183 hf
        refine ww_iinc (pc := 1314) (v := (x3 + 5)) (L' := [(0, .ref b), (1, .ref (a 0)), (2, .ref (c 0)), (3, .int (x3 + 5))]) C 3 [1, 2, 3, 0] dL_law_1314 rfl (ki_5 _) (Nat.le_of_ble_eq_true rfl) rfl ?_
        refine ww_goto (pc := 1317) (tgt := 18) C dL_law_1317 (by decide) ?_
        exact hk18 B J M K (x3 + 5) hf
      · have hf := oa_ifn c183 hf
        refine ww_iconst (pc := 558) C dL_law_558 kc_0 ?_
        exact absurd (Option.some.inj hf) (by decide)
    have hf := oa_ifn c168 hf
    by_cases c184 : (y2 &&& 63) = 12
    · have hf := oa_ifp c184 hf
      refine ww_tabI (pc := 32) (tgt := 560) C dL_law_32 (by rw [c184] <;> decide) (by rw [c184] <;> decide) (by rw [c184] <;> rfl) (by decide) ?_
      refine ww_aload_n (pc := 560) (i := 1) C 1 dL_law_560 rfl rfl ?_
      refine ww_aload_n (pc := 561) (i := 0) C 0 dL_law_561 rfl rfl ?_
      refine ww_iload_n (pc := 562) (i := 3) C 3 dL_law_562 rfl rfl ?_
      refine ww_iconst (pc := 563) C dL_law_563 kc_1 ?_
      refine ww_iadd (pc := 564) C dL_law_564 ?_
      obtain ⟨y185, e186, hf⟩ := oa_bind hf
      refine ww_scd (pc := 565) C hsc e186 dL_law_565 ?_
      refine ww_aload_n (pc := 566) (i := 0) C 0 dL_law_566 rfl rfl ?_
      refine ww_iload_n (pc := 567) (i := 3) C 3 dL_law_567 rfl rfl ?_
      refine ww_iconst (pc := 568) C dL_law_568 kc_2 ?_
      refine ww_iadd (pc := 569) C dL_law_569 ?_
      obtain ⟨y187, e188, hf⟩ := oa_bind hf
      refine ww_scd (pc := 570) C hsc e188 dL_law_570 ?_
      refine ww_aload_n (pc := 571) (i := 0) C 0 dL_law_571 rfl rfl ?_
      refine ww_iload_n (pc := 572) (i := 3) C 3 dL_law_572 rfl rfl ?_
      refine ww_iconst (pc := 573) C dL_law_573 kc_3 ?_
      refine ww_iadd (pc := 574) C dL_law_574 ?_
      obtain ⟨y189, e190, hf⟩ := oa_bind hf
      refine ww_scd (pc := 575) C hsc e190 dL_law_575 ?_
      obtain ⟨y191, e192, hf⟩ := oa_bind hf
      refine ww_callL (pc := 576) (As := [.int y185, .int y187, .int y189]) (rest := []) (rv := (some (.int y191))) C hY_X6_worth hV_X6_worth rfl lk_L_68 (m_X6_worth _ O a B J y185 y187 y189 _ e192) ⟨rfl, rfl⟩ hcs ⟨Nat.le_of_ble_eq_true rfl, Nat.le_of_ble_eq_true rfl⟩ rfl (Nat.le_of_ble_eq_true rfl) rfl rfl dL_law_576 ?_
      refine ww_aload_n (pc := 579) (i := 2) C 2 dL_law_579 rfl rfl ?_
      refine ww_aload_n (pc := 580) (i := 0) C 0 dL_law_580 rfl rfl ?_
      refine ww_iload_n (pc := 581) (i := 3) C 3 dL_law_581 rfl rfl ?_
      refine ww_iconst (pc := 582) C dL_law_582 kc_1 ?_
      refine ww_iadd (pc := 583) C dL_law_583 ?_
      obtain ⟨y194, e195, hf⟩ := oa_bind hf
      refine ww_scd (pc := 584) C hsc e195 dL_law_584 ?_
      refine ww_aload_n (pc := 585) (i := 0) C 0 dL_law_585 rfl rfl ?_
      refine ww_iload_n (pc := 586) (i := 3) C 3 dL_law_586 rfl rfl ?_
      refine ww_iconst (pc := 587) C dL_law_587 kc_2 ?_
      refine ww_iadd (pc := 588) C dL_law_588 ?_
      obtain ⟨y196, e197, hf⟩ := oa_bind hf
      refine ww_scd (pc := 589) C hsc e197 dL_law_589 ?_
      refine ww_aload_n (pc := 590) (i := 0) C 0 dL_law_590 rfl rfl ?_
      refine ww_iload_n (pc := 591) (i := 3) C 3 dL_law_591 rfl rfl ?_
      refine ww_iconst (pc := 592) C dL_law_592 kc_3 ?_
      refine ww_iadd (pc := 593) C dL_law_593 ?_
      obtain ⟨y198, e199, hf⟩ := oa_bind hf
      refine ww_scd (pc := 594) C hsc e199 dL_law_594 ?_
      obtain ⟨y200, e201, hf⟩ := oa_bind hf
      refine ww_callK (pc := 595) (As := [.int y194, .int y196, .int y198]) (rest := [.int y191]) (rv := (some (.int y200))) C hY_X7_worth hV_X7_worth rfl lk_L_71 (m_X7_worth _ O c M K y194 y196 y198 _ e201) ⟨rfl, rfl⟩ hcs ⟨Nat.le_of_ble_eq_true rfl, Nat.le_of_ble_eq_true rfl⟩ rfl (Nat.le_of_ble_eq_true rfl) rfl rfl dL_law_595 ?_
      refine ww_icmp_eq (pc := 598) (tgt := 1314) C dL_law_598 (by decide) (fun c203 => ?_) (fun c203 => ?_)
      · have hf := oa_ifp c203 hf
        refine ww_iinc (pc := 1314) (v := (x3 + 5)) (L' := [(0, .ref b), (1, .ref (a 0)), (2, .ref (c 0)), (3, .int (x3 + 5))]) C 3 [1, 2, 3, 0] dL_law_1314 rfl (ki_5 _) (Nat.le_of_ble_eq_true rfl) rfl ?_
        refine ww_goto (pc := 1317) (tgt := 18) C dL_law_1317 (by decide) ?_
        exact hk18 B J M K (x3 + 5) hf
      · have hf := oa_ifn c203 hf
        refine ww_iconst (pc := 601) C dL_law_601 kc_0 ?_
        exact absurd (Option.some.inj hf) (by decide)
    have hf := oa_ifn c184 hf
    by_cases c204 : (y2 &&& 63) = 13
    · have hf := oa_ifp c204 hf
      refine ww_tabI (pc := 32) (tgt := 603) C dL_law_32 (by rw [c204] <;> decide) (by rw [c204] <;> decide) (by rw [c204] <;> rfl) (by decide) ?_
      refine ww_aload_n (pc := 603) (i := 1) C 1 dL_law_603 rfl rfl ?_
      refine ww_aload_n (pc := 604) (i := 0) C 0 dL_law_604 rfl rfl ?_
      refine ww_iload_n (pc := 605) (i := 3) C 3 dL_law_605 rfl rfl ?_
      refine ww_iconst (pc := 606) C dL_law_606 kc_1 ?_
      refine ww_iadd (pc := 607) C dL_law_607 ?_
      obtain ⟨y205, e206, hf⟩ := oa_bind hf
      refine ww_scd (pc := 608) C hsc e206 dL_law_608 ?_
      obtain ⟨y207, e208, hf⟩ := oa_bind hf
      refine ww_callL (pc := 609) (As := [.int y205]) (rest := []) (rv := (some (.int y207))) C hY_X6_whom hV_X6_whom rfl lk_L_72 (m_X6_whom _ O a B J y205 _ e208) ⟨rfl, rfl⟩ hcs ⟨Nat.le_of_ble_eq_true rfl, Nat.le_of_ble_eq_true rfl⟩ rfl (Nat.le_of_ble_eq_true rfl) rfl rfl dL_law_609 ?_
      refine ww_aload_n (pc := 612) (i := 2) C 2 dL_law_612 rfl rfl ?_
      refine ww_aload_n (pc := 613) (i := 0) C 0 dL_law_613 rfl rfl ?_
      refine ww_iload_n (pc := 614) (i := 3) C 3 dL_law_614 rfl rfl ?_
      refine ww_iconst (pc := 615) C dL_law_615 kc_1 ?_
      refine ww_iadd (pc := 616) C dL_law_616 ?_
      obtain ⟨y210, e211, hf⟩ := oa_bind hf
      refine ww_scd (pc := 617) C hsc e211 dL_law_617 ?_
      obtain ⟨y212, e213, hf⟩ := oa_bind hf
      refine ww_callK (pc := 618) (As := [.int y210]) (rest := [.int y207]) (rv := (some (.int y212))) C hY_X7_whom hV_X7_whom rfl lk_L_75 (m_X7_whom _ O c M K y210 _ e213) ⟨rfl, rfl⟩ hcs ⟨Nat.le_of_ble_eq_true rfl, Nat.le_of_ble_eq_true rfl⟩ rfl (Nat.le_of_ble_eq_true rfl) rfl rfl dL_law_618 ?_
      refine ww_icmp_eq (pc := 621) (tgt := 1314) C dL_law_621 (by decide) (fun c215 => ?_) (fun c215 => ?_)
      · have hf := oa_ifp c215 hf
        refine ww_iinc (pc := 1314) (v := (x3 + 5)) (L' := [(0, .ref b), (1, .ref (a 0)), (2, .ref (c 0)), (3, .int (x3 + 5))]) C 3 [1, 2, 3, 0] dL_law_1314 rfl (ki_5 _) (Nat.le_of_ble_eq_true rfl) rfl ?_
        refine ww_goto (pc := 1317) (tgt := 18) C dL_law_1317 (by decide) ?_
        exact hk18 B J M K (x3 + 5) hf
      · have hf := oa_ifn c215 hf
        refine ww_iconst (pc := 624) C dL_law_624 kc_0 ?_
        exact absurd (Option.some.inj hf) (by decide)
    have hf := oa_ifn c204 hf
    by_cases c216 : (y2 &&& 63) = 14
    · have hf := oa_ifp c216 hf
      refine ww_tabI (pc := 32) (tgt := 626) C dL_law_32 (by rw [c216] <;> decide) (by rw [c216] <;> decide) (by rw [c216] <;> rfl) (by decide) ?_
      refine ww_aload_n (pc := 626) (i := 1) C 1 dL_law_626 rfl rfl ?_
      refine ww_aload_n (pc := 627) (i := 0) C 0 dL_law_627 rfl rfl ?_
      refine ww_iload_n (pc := 628) (i := 3) C 3 dL_law_628 rfl rfl ?_
      refine ww_iconst (pc := 629) C dL_law_629 kc_1 ?_
      refine ww_iadd (pc := 630) C dL_law_630 ?_
      obtain ⟨y217, e218, hf⟩ := oa_bind hf
      refine ww_scd (pc := 631) C hsc e218 dL_law_631 ?_
      refine ww_aload_n (pc := 632) (i := 0) C 0 dL_law_632 rfl rfl ?_
      refine ww_iload_n (pc := 633) (i := 3) C 3 dL_law_633 rfl rfl ?_
      refine ww_iconst (pc := 634) C dL_law_634 kc_2 ?_
      refine ww_iadd (pc := 635) C dL_law_635 ?_
      obtain ⟨y219, e220, hf⟩ := oa_bind hf
      refine ww_scd (pc := 636) C hsc e220 dL_law_636 ?_
      obtain ⟨y221, B222, e223, hf⟩ := oa_bind2 hf
      refine ww_callL (pc := 637) (As := [.int y217, .int y219]) (rest := []) (rv := (some (.int y221))) C hY_X6_wrong hV_X6_wrong rfl lk_L_76 (m_X6_wrong _ O a B J y217 y219 _ e223) ⟨rfl, rfl⟩ hcs ⟨Nat.le_of_ble_eq_true rfl, Nat.le_of_ble_eq_true rfl⟩ rfl (Nat.le_of_ble_eq_true rfl) rfl rfl dL_law_637 ?_
      refine ww_aload_n (pc := 640) (i := 2) C 2 dL_law_640 rfl rfl ?_
      refine ww_aload_n (pc := 641) (i := 0) C 0 dL_law_641 rfl rfl ?_
      refine ww_iload_n (pc := 642) (i := 3) C 3 dL_law_642 rfl rfl ?_
      refine ww_iconst (pc := 643) C dL_law_643 kc_1 ?_
      refine ww_iadd (pc := 644) C dL_law_644 ?_
      obtain ⟨y225, e226, hf⟩ := oa_bind hf
      refine ww_scd (pc := 645) C hsc e226 dL_law_645 ?_
      refine ww_aload_n (pc := 646) (i := 0) C 0 dL_law_646 rfl rfl ?_
      refine ww_iload_n (pc := 647) (i := 3) C 3 dL_law_647 rfl rfl ?_
      refine ww_iconst (pc := 648) C dL_law_648 kc_2 ?_
      refine ww_iadd (pc := 649) C dL_law_649 ?_
      obtain ⟨y227, e228, hf⟩ := oa_bind hf
      refine ww_scd (pc := 650) C hsc e228 dL_law_650 ?_
      obtain ⟨y229, M230, e231, hf⟩ := oa_bind2 hf
      refine ww_callK (pc := 651) (As := [.int y225, .int y227]) (rest := [.int y221]) (rv := (some (.int y229))) C hY_X7_wrong hV_X7_wrong rfl lk_L_79 (m_X7_wrong _ O c M K y225 y227 _ e231) ⟨rfl, rfl⟩ hcs ⟨Nat.le_of_ble_eq_true rfl, Nat.le_of_ble_eq_true rfl⟩ rfl (Nat.le_of_ble_eq_true rfl) rfl rfl dL_law_651 ?_
      refine ww_icmp_eq (pc := 654) (tgt := 1314) C dL_law_654 (by decide) (fun c233 => ?_) (fun c233 => ?_)
      · have hf := oa_ifp c233 hf
        refine ww_iinc (pc := 1314) (v := (x3 + 5)) (L' := [(0, .ref b), (1, .ref (a 0)), (2, .ref (c 0)), (3, .int (x3 + 5))]) C 3 [1, 2, 3, 0] dL_law_1314 rfl (ki_5 _) (Nat.le_of_ble_eq_true rfl) rfl ?_
        refine ww_goto (pc := 1317) (tgt := 18) C dL_law_1317 (by decide) ?_
        exact hk18 B222 J M230 K (x3 + 5) hf
      · have hf := oa_ifn c233 hf
        refine ww_iconst (pc := 657) C dL_law_657 kc_0 ?_
        exact absurd (Option.some.inj hf) (by decide)
    have hf := oa_ifn c216 hf
    by_cases c234 : (y2 &&& 63) = 15
    · have hf := oa_ifp c234 hf
      refine ww_tabI (pc := 32) (tgt := 659) C dL_law_32 (by rw [c234] <;> decide) (by rw [c234] <;> decide) (by rw [c234] <;> rfl) (by decide) ?_
      refine ww_aload_n (pc := 659) (i := 1) C 1 dL_law_659 rfl rfl ?_
      refine ww_aload_n (pc := 660) (i := 0) C 0 dL_law_660 rfl rfl ?_
      refine ww_iload_n (pc := 661) (i := 3) C 3 dL_law_661 rfl rfl ?_
      refine ww_iconst (pc := 662) C dL_law_662 kc_1 ?_
      refine ww_iadd (pc := 663) C dL_law_663 ?_
      obtain ⟨y235, e236, hf⟩ := oa_bind hf
      refine ww_scd (pc := 664) C hsc e236 dL_law_664 ?_
      obtain ⟨y237, B238, e239, hf⟩ := oa_bind2 hf
      refine ww_callL (pc := 665) (As := [.int y235]) (rest := []) (rv := (some (.int y237))) C hY_X6_go hV_X6_go rfl lk_L_80 (m_X6_go _ O a B J y235 _ e239) ⟨rfl, rfl⟩ hcs ⟨Nat.le_of_ble_eq_true rfl, Nat.le_of_ble_eq_true rfl⟩ rfl (Nat.le_of_ble_eq_true rfl) rfl rfl dL_law_665 ?_
      refine ww_aload_n (pc := 668) (i := 2) C 2 dL_law_668 rfl rfl ?_
      refine ww_aload_n (pc := 669) (i := 0) C 0 dL_law_669 rfl rfl ?_
      refine ww_iload_n (pc := 670) (i := 3) C 3 dL_law_670 rfl rfl ?_
      refine ww_iconst (pc := 671) C dL_law_671 kc_1 ?_
      refine ww_iadd (pc := 672) C dL_law_672 ?_
      obtain ⟨y241, e242, hf⟩ := oa_bind hf
      refine ww_scd (pc := 673) C hsc e242 dL_law_673 ?_
      obtain ⟨y243, M244, e245, hf⟩ := oa_bind2 hf
      refine ww_callK (pc := 674) (As := [.int y241]) (rest := [.int y237]) (rv := (some (.int y243))) C hY_X7_go hV_X7_go rfl lk_L_83 (m_X7_go _ O c M K y241 _ e245) ⟨rfl, rfl⟩ hcs ⟨Nat.le_of_ble_eq_true rfl, Nat.le_of_ble_eq_true rfl⟩ rfl (Nat.le_of_ble_eq_true rfl) rfl rfl dL_law_674 ?_
      refine ww_icmp_eq (pc := 677) (tgt := 1314) C dL_law_677 (by decide) (fun c247 => ?_) (fun c247 => ?_)
      · have hf := oa_ifp c247 hf
        refine ww_iinc (pc := 1314) (v := (x3 + 5)) (L' := [(0, .ref b), (1, .ref (a 0)), (2, .ref (c 0)), (3, .int (x3 + 5))]) C 3 [1, 2, 3, 0] dL_law_1314 rfl (ki_5 _) (Nat.le_of_ble_eq_true rfl) rfl ?_
        refine ww_goto (pc := 1317) (tgt := 18) C dL_law_1317 (by decide) ?_
        exact hk18 B238 J M244 K (x3 + 5) hf
      · have hf := oa_ifn c247 hf
        refine ww_iconst (pc := 680) C dL_law_680 kc_0 ?_
        exact absurd (Option.some.inj hf) (by decide)
    have hf := oa_ifn c234 hf
    by_cases c248 : (y2 &&& 63) = 16
    · have hf := oa_ifp c248 hf
      refine ww_tabI (pc := 32) (tgt := 682) C dL_law_32 (by rw [c248] <;> decide) (by rw [c248] <;> decide) (by rw [c248] <;> rfl) (by decide) ?_
      refine ww_aload_n (pc := 682) (i := 1) C 1 dL_law_682 rfl rfl ?_
      refine ww_aload_n (pc := 683) (i := 0) C 0 dL_law_683 rfl rfl ?_
      refine ww_iload_n (pc := 684) (i := 3) C 3 dL_law_684 rfl rfl ?_
      refine ww_iconst (pc := 685) C dL_law_685 kc_1 ?_
      refine ww_iadd (pc := 686) C dL_law_686 ?_
      obtain ⟨y249, e250, hf⟩ := oa_bind hf
      refine ww_scd (pc := 687) C hsc e250 dL_law_687 ?_
      obtain ⟨y251, e252, hf⟩ := oa_bind hf
      refine ww_callL (pc := 688) (As := [.int y249]) (rest := []) (rv := (some (.int y251))) C hY_X6_now hV_X6_now rfl lk_L_84 (m_X6_now _ O a B J y249 _ e252) ⟨rfl, rfl⟩ hcs ⟨Nat.le_of_ble_eq_true rfl, Nat.le_of_ble_eq_true rfl⟩ rfl (Nat.le_of_ble_eq_true rfl) rfl rfl dL_law_688 ?_
      refine ww_aload_n (pc := 691) (i := 2) C 2 dL_law_691 rfl rfl ?_
      refine ww_aload_n (pc := 692) (i := 0) C 0 dL_law_692 rfl rfl ?_
      refine ww_iload_n (pc := 693) (i := 3) C 3 dL_law_693 rfl rfl ?_
      refine ww_iconst (pc := 694) C dL_law_694 kc_1 ?_
      refine ww_iadd (pc := 695) C dL_law_695 ?_
      obtain ⟨y254, e255, hf⟩ := oa_bind hf
      refine ww_scd (pc := 696) C hsc e255 dL_law_696 ?_
      obtain ⟨y256, e257, hf⟩ := oa_bind hf
      refine ww_callK (pc := 697) (As := [.int y254]) (rest := [.int y251]) (rv := (some (.int y256))) C hY_X7_now hV_X7_now rfl lk_L_87 (m_X7_now _ O c M K y254 _ e257) ⟨rfl, rfl⟩ hcs ⟨Nat.le_of_ble_eq_true rfl, Nat.le_of_ble_eq_true rfl⟩ rfl (Nat.le_of_ble_eq_true rfl) rfl rfl dL_law_697 ?_
      refine ww_icmp_eq (pc := 700) (tgt := 1314) C dL_law_700 (by decide) (fun c259 => ?_) (fun c259 => ?_)
      · have hf := oa_ifp c259 hf
        refine ww_iinc (pc := 1314) (v := (x3 + 5)) (L' := [(0, .ref b), (1, .ref (a 0)), (2, .ref (c 0)), (3, .int (x3 + 5))]) C 3 [1, 2, 3, 0] dL_law_1314 rfl (ki_5 _) (Nat.le_of_ble_eq_true rfl) rfl ?_
        refine ww_goto (pc := 1317) (tgt := 18) C dL_law_1317 (by decide) ?_
        exact hk18 B J M K (x3 + 5) hf
      · have hf := oa_ifn c259 hf
        refine ww_iconst (pc := 703) C dL_law_703 kc_0 ?_
        exact absurd (Option.some.inj hf) (by decide)
    have hf := oa_ifn c248 hf
    by_cases c260 : (y2 &&& 63) = 17
    · have hf := oa_ifp c260 hf
      refine ww_tabI (pc := 32) (tgt := 705) C dL_law_32 (by rw [c260] <;> decide) (by rw [c260] <;> decide) (by rw [c260] <;> rfl) (by decide) ?_
      refine ww_aload_n (pc := 705) (i := 1) C 1 dL_law_705 rfl rfl ?_
      refine ww_aload_n (pc := 706) (i := 0) C 0 dL_law_706 rfl rfl ?_
      refine ww_iload_n (pc := 707) (i := 3) C 3 dL_law_707 rfl rfl ?_
      refine ww_iconst (pc := 708) C dL_law_708 kc_1 ?_
      refine ww_iadd (pc := 709) C dL_law_709 ?_
      obtain ⟨y261, e262, hf⟩ := oa_bind hf
      refine ww_scd (pc := 710) C hsc e262 dL_law_710 ?_
      refine ww_aload_n (pc := 711) (i := 0) C 0 dL_law_711 rfl rfl ?_
      refine ww_iload_n (pc := 712) (i := 3) C 3 dL_law_712 rfl rfl ?_
      refine ww_iconst (pc := 713) C dL_law_713 kc_2 ?_
      refine ww_iadd (pc := 714) C dL_law_714 ?_
      obtain ⟨y263, e264, hf⟩ := oa_bind hf
      refine ww_scd (pc := 715) C hsc e264 dL_law_715 ?_
      obtain ⟨y265, B266, e267, hf⟩ := oa_bind2 hf
      refine ww_callL (pc := 716) (As := [.int y261, .int y263]) (rest := []) (rv := (some (.int y265))) C hY_X6_run hV_X6_run rfl lk_L_88 (m_X6_run _ O a B J y261 y263 _ e267) ⟨rfl, rfl⟩ hcs ⟨Nat.le_of_ble_eq_true rfl, Nat.le_of_ble_eq_true rfl⟩ rfl (Nat.le_of_ble_eq_true rfl) rfl rfl dL_law_716 ?_
      refine ww_aload_n (pc := 719) (i := 2) C 2 dL_law_719 rfl rfl ?_
      refine ww_aload_n (pc := 720) (i := 0) C 0 dL_law_720 rfl rfl ?_
      refine ww_iload_n (pc := 721) (i := 3) C 3 dL_law_721 rfl rfl ?_
      refine ww_iconst (pc := 722) C dL_law_722 kc_1 ?_
      refine ww_iadd (pc := 723) C dL_law_723 ?_
      obtain ⟨y269, e270, hf⟩ := oa_bind hf
      refine ww_scd (pc := 724) C hsc e270 dL_law_724 ?_
      refine ww_aload_n (pc := 725) (i := 0) C 0 dL_law_725 rfl rfl ?_
      refine ww_iload_n (pc := 726) (i := 3) C 3 dL_law_726 rfl rfl ?_
      refine ww_iconst (pc := 727) C dL_law_727 kc_2 ?_
      refine ww_iadd (pc := 728) C dL_law_728 ?_
      obtain ⟨y271, e272, hf⟩ := oa_bind hf
      refine ww_scd (pc := 729) C hsc e272 dL_law_729 ?_
      obtain ⟨y273, M274, e275, hf⟩ := oa_bind2 hf
      refine ww_callK (pc := 730) (As := [.int y269, .int y271]) (rest := [.int y265]) (rv := (some (.int y273))) C hY_X7_run hV_X7_run rfl lk_L_91 (m_X7_run _ O c M K y269 y271 _ e275) ⟨rfl, rfl⟩ hcs ⟨Nat.le_of_ble_eq_true rfl, Nat.le_of_ble_eq_true rfl⟩ rfl (Nat.le_of_ble_eq_true rfl) rfl rfl dL_law_730 ?_
      refine ww_icmp_eq (pc := 733) (tgt := 1314) C dL_law_733 (by decide) (fun c277 => ?_) (fun c277 => ?_)
      · have hf := oa_ifp c277 hf
        refine ww_iinc (pc := 1314) (v := (x3 + 5)) (L' := [(0, .ref b), (1, .ref (a 0)), (2, .ref (c 0)), (3, .int (x3 + 5))]) C 3 [1, 2, 3, 0] dL_law_1314 rfl (ki_5 _) (Nat.le_of_ble_eq_true rfl) rfl ?_
        refine ww_goto (pc := 1317) (tgt := 18) C dL_law_1317 (by decide) ?_
        exact hk18 B266 J M274 K (x3 + 5) hf
      · have hf := oa_ifn c277 hf
        refine ww_iconst (pc := 736) C dL_law_736 kc_0 ?_
        exact absurd (Option.some.inj hf) (by decide)
    have hf := oa_ifn c260 hf
    by_cases c278 : (y2 &&& 63) = 18
    · have hf := oa_ifp c278 hf
      refine ww_tabI (pc := 32) (tgt := 738) C dL_law_32 (by rw [c278] <;> decide) (by rw [c278] <;> decide) (by rw [c278] <;> rfl) (by decide) ?_
      refine ww_aload_n (pc := 738) (i := 1) C 1 dL_law_738 rfl rfl ?_
      obtain ⟨y279, B280, e281, hf⟩ := oa_bind2 hf
      refine ww_callL (pc := 739) (As := []) (rest := []) (rv := (some (.int y279))) C hY_X6_peace hV_X6_peace rfl lk_L_92 (m_X6_peace _ O a B J _ e281) ⟨rfl, rfl⟩ hcs ⟨Nat.le_of_ble_eq_true rfl, Nat.le_of_ble_eq_true rfl⟩ rfl (Nat.le_of_ble_eq_true rfl) rfl rfl dL_law_739 ?_
      refine ww_aload_n (pc := 742) (i := 2) C 2 dL_law_742 rfl rfl ?_
      obtain ⟨y283, M284, e285, hf⟩ := oa_bind2 hf
      refine ww_callK (pc := 743) (As := []) (rest := [.int y279]) (rv := (some (.int y283))) C hY_X7_peace hV_X7_peace rfl lk_L_95 (m_X7_peace _ O c M K _ e285) ⟨rfl, rfl⟩ hcs ⟨Nat.le_of_ble_eq_true rfl, Nat.le_of_ble_eq_true rfl⟩ rfl (Nat.le_of_ble_eq_true rfl) rfl rfl dL_law_743 ?_
      refine ww_icmp_eq (pc := 746) (tgt := 1314) C dL_law_746 (by decide) (fun c287 => ?_) (fun c287 => ?_)
      · have hf := oa_ifp c287 hf
        refine ww_iinc (pc := 1314) (v := (x3 + 5)) (L' := [(0, .ref b), (1, .ref (a 0)), (2, .ref (c 0)), (3, .int (x3 + 5))]) C 3 [1, 2, 3, 0] dL_law_1314 rfl (ki_5 _) (Nat.le_of_ble_eq_true rfl) rfl ?_
        refine ww_goto (pc := 1317) (tgt := 18) C dL_law_1317 (by decide) ?_
        exact hk18 B280 J M284 K (x3 + 5) hf
      · have hf := oa_ifn c287 hf
        refine ww_iconst (pc := 749) C dL_law_749 kc_0 ?_
        exact absurd (Option.some.inj hf) (by decide)
    have hf := oa_ifn c278 hf
    by_cases c288 : (y2 &&& 63) = 19
    · have hf := oa_ifp c288 hf
      refine ww_tabI (pc := 32) (tgt := 751) C dL_law_32 (by rw [c288] <;> decide) (by rw [c288] <;> decide) (by rw [c288] <;> rfl) (by decide) ?_
      refine ww_aload_n (pc := 751) (i := 1) C 1 dL_law_751 rfl rfl ?_
      refine ww_aload_n (pc := 752) (i := 0) C 0 dL_law_752 rfl rfl ?_
      refine ww_iload_n (pc := 753) (i := 3) C 3 dL_law_753 rfl rfl ?_
      refine ww_iconst (pc := 754) C dL_law_754 kc_1 ?_
      refine ww_iadd (pc := 755) C dL_law_755 ?_
      obtain ⟨y289, e290, hf⟩ := oa_bind hf
      refine ww_scd (pc := 756) C hsc e290 dL_law_756 ?_
      obtain ⟨y291, B292, e293, hf⟩ := oa_bind2 hf
      refine ww_callL (pc := 757) (As := [.int y289]) (rest := []) (rv := (some (.int y291))) C hY_X6_again hV_X6_again rfl lk_L_96 (m_X6_again _ O a B J y289 _ e293) ⟨rfl, rfl⟩ hcs ⟨Nat.le_of_ble_eq_true rfl, Nat.le_of_ble_eq_true rfl⟩ rfl (Nat.le_of_ble_eq_true rfl) rfl rfl dL_law_757 ?_
      refine ww_aload_n (pc := 760) (i := 2) C 2 dL_law_760 rfl rfl ?_
      refine ww_aload_n (pc := 761) (i := 0) C 0 dL_law_761 rfl rfl ?_
      refine ww_iload_n (pc := 762) (i := 3) C 3 dL_law_762 rfl rfl ?_
      refine ww_iconst (pc := 763) C dL_law_763 kc_1 ?_
      refine ww_iadd (pc := 764) C dL_law_764 ?_
      obtain ⟨y295, e296, hf⟩ := oa_bind hf
      refine ww_scd (pc := 765) C hsc e296 dL_law_765 ?_
      obtain ⟨y297, M298, e299, hf⟩ := oa_bind2 hf
      refine ww_callK (pc := 766) (As := [.int y295]) (rest := [.int y291]) (rv := (some (.int y297))) C hY_X7_again hV_X7_again rfl lk_L_99 (m_X7_again _ O c M K y295 _ e299) ⟨rfl, rfl⟩ hcs ⟨Nat.le_of_ble_eq_true rfl, Nat.le_of_ble_eq_true rfl⟩ rfl (Nat.le_of_ble_eq_true rfl) rfl rfl dL_law_766 ?_
      refine ww_icmp_eq (pc := 769) (tgt := 1314) C dL_law_769 (by decide) (fun c301 => ?_) (fun c301 => ?_)
      · have hf := oa_ifp c301 hf
        refine ww_iinc (pc := 1314) (v := (x3 + 5)) (L' := [(0, .ref b), (1, .ref (a 0)), (2, .ref (c 0)), (3, .int (x3 + 5))]) C 3 [1, 2, 3, 0] dL_law_1314 rfl (ki_5 _) (Nat.le_of_ble_eq_true rfl) rfl ?_
        refine ww_goto (pc := 1317) (tgt := 18) C dL_law_1317 (by decide) ?_
        exact hk18 B292 J M298 K (x3 + 5) hf
      · have hf := oa_ifn c301 hf
        refine ww_iconst (pc := 772) C dL_law_772 kc_0 ?_
        exact absurd (Option.some.inj hf) (by decide)
    have hf := oa_ifn c288 hf
    by_cases c302 : (y2 &&& 63) = 20
    · have hf := oa_ifp c302 hf
      refine ww_tabI (pc := 32) (tgt := 774) C dL_law_32 (by rw [c302] <;> decide) (by rw [c302] <;> decide) (by rw [c302] <;> rfl) (by decide) ?_
      refine ww_aload_n (pc := 774) (i := 1) C 1 dL_law_774 rfl rfl ?_
      refine ww_aload_n (pc := 775) (i := 0) C 0 dL_law_775 rfl rfl ?_
      refine ww_iload_n (pc := 776) (i := 3) C 3 dL_law_776 rfl rfl ?_
      refine ww_iconst (pc := 777) C dL_law_777 kc_1 ?_
      refine ww_iadd (pc := 778) C dL_law_778 ?_
      obtain ⟨y303, e304, hf⟩ := oa_bind hf
      refine ww_scd (pc := 779) C hsc e304 dL_law_779 ?_
      obtain ⟨y305, B306, e307, hf⟩ := oa_bind2 hf
      refine ww_callL (pc := 780) (As := [.int y303]) (rest := []) (rv := (some (.int y305))) C hY_X6_two hV_X6_two rfl lk_L_100 (m_X6_two _ O a B J y303 _ e307) ⟨rfl, rfl⟩ hcs ⟨Nat.le_of_ble_eq_true rfl, Nat.le_of_ble_eq_true rfl⟩ rfl (Nat.le_of_ble_eq_true rfl) rfl rfl dL_law_780 ?_
      refine ww_aload_n (pc := 783) (i := 2) C 2 dL_law_783 rfl rfl ?_
      refine ww_aload_n (pc := 784) (i := 0) C 0 dL_law_784 rfl rfl ?_
      refine ww_iload_n (pc := 785) (i := 3) C 3 dL_law_785 rfl rfl ?_
      refine ww_iconst (pc := 786) C dL_law_786 kc_1 ?_
      refine ww_iadd (pc := 787) C dL_law_787 ?_
      obtain ⟨y309, e310, hf⟩ := oa_bind hf
      refine ww_scd (pc := 788) C hsc e310 dL_law_788 ?_
      obtain ⟨y311, M312, e313, hf⟩ := oa_bind2 hf
      refine ww_callK (pc := 789) (As := [.int y309]) (rest := [.int y305]) (rv := (some (.int y311))) C hY_X7_two hV_X7_two rfl lk_L_103 (m_X7_two _ O c M K y309 _ e313) ⟨rfl, rfl⟩ hcs ⟨Nat.le_of_ble_eq_true rfl, Nat.le_of_ble_eq_true rfl⟩ rfl (Nat.le_of_ble_eq_true rfl) rfl rfl dL_law_789 ?_
      refine ww_icmp_eq (pc := 792) (tgt := 1314) C dL_law_792 (by decide) (fun c315 => ?_) (fun c315 => ?_)
      · have hf := oa_ifp c315 hf
        refine ww_iinc (pc := 1314) (v := (x3 + 5)) (L' := [(0, .ref b), (1, .ref (a 0)), (2, .ref (c 0)), (3, .int (x3 + 5))]) C 3 [1, 2, 3, 0] dL_law_1314 rfl (ki_5 _) (Nat.le_of_ble_eq_true rfl) rfl ?_
        refine ww_goto (pc := 1317) (tgt := 18) C dL_law_1317 (by decide) ?_
        exact hk18 B306 J M312 K (x3 + 5) hf
      · have hf := oa_ifn c315 hf
        refine ww_iconst (pc := 795) C dL_law_795 kc_0 ?_
        exact absurd (Option.some.inj hf) (by decide)
    have hf := oa_ifn c302 hf
    by_cases c316 : (y2 &&& 63) = 21
    · have hf := oa_ifp c316 hf
      refine ww_tabI (pc := 32) (tgt := 797) C dL_law_32 (by rw [c316] <;> decide) (by rw [c316] <;> decide) (by rw [c316] <;> rfl) (by decide) ?_
      refine ww_aload_n (pc := 797) (i := 1) C 1 dL_law_797 rfl rfl ?_
      refine ww_aload_n (pc := 798) (i := 0) C 0 dL_law_798 rfl rfl ?_
      refine ww_iload_n (pc := 799) (i := 3) C 3 dL_law_799 rfl rfl ?_
      refine ww_iconst (pc := 800) C dL_law_800 kc_1 ?_
      refine ww_iadd (pc := 801) C dL_law_801 ?_
      obtain ⟨y317, e318, hf⟩ := oa_bind hf
      refine ww_scd (pc := 802) C hsc e318 dL_law_802 ?_
      refine ww_aload_n (pc := 803) (i := 0) C 0 dL_law_803 rfl rfl ?_
      refine ww_iload_n (pc := 804) (i := 3) C 3 dL_law_804 rfl rfl ?_
      refine ww_iconst (pc := 805) C dL_law_805 kc_2 ?_
      refine ww_iadd (pc := 806) C dL_law_806 ?_
      obtain ⟨y319, e320, hf⟩ := oa_bind hf
      refine ww_scd (pc := 807) C hsc e320 dL_law_807 ?_
      refine ww_aload_n (pc := 808) (i := 0) C 0 dL_law_808 rfl rfl ?_
      refine ww_iload_n (pc := 809) (i := 3) C 3 dL_law_809 rfl rfl ?_
      refine ww_iconst (pc := 810) C dL_law_810 kc_3 ?_
      refine ww_iadd (pc := 811) C dL_law_811 ?_
      obtain ⟨y321, e322, hf⟩ := oa_bind hf
      refine ww_scd (pc := 812) C hsc e322 dL_law_812 ?_
      obtain ⟨y323, B324, e325, hf⟩ := oa_bind2 hf
      refine ww_callL (pc := 813) (As := [.int y317, .int y319, .int y321]) (rest := []) (rv := (some (.int y323))) C hY_X6_were hV_X6_were rfl lk_L_104 (m_X6_were _ O a B J y317 y319 y321 _ e325) ⟨rfl, rfl⟩ hcs ⟨Nat.le_of_ble_eq_true rfl, Nat.le_of_ble_eq_true rfl⟩ rfl (Nat.le_of_ble_eq_true rfl) rfl rfl dL_law_813 ?_
      refine ww_aload_n (pc := 816) (i := 2) C 2 dL_law_816 rfl rfl ?_
      refine ww_aload_n (pc := 817) (i := 0) C 0 dL_law_817 rfl rfl ?_
      refine ww_iload_n (pc := 818) (i := 3) C 3 dL_law_818 rfl rfl ?_
      refine ww_iconst (pc := 819) C dL_law_819 kc_1 ?_
      refine ww_iadd (pc := 820) C dL_law_820 ?_
      obtain ⟨y327, e328, hf⟩ := oa_bind hf
      refine ww_scd (pc := 821) C hsc e328 dL_law_821 ?_
      refine ww_aload_n (pc := 822) (i := 0) C 0 dL_law_822 rfl rfl ?_
      refine ww_iload_n (pc := 823) (i := 3) C 3 dL_law_823 rfl rfl ?_
      refine ww_iconst (pc := 824) C dL_law_824 kc_2 ?_
      refine ww_iadd (pc := 825) C dL_law_825 ?_
      obtain ⟨y329, e330, hf⟩ := oa_bind hf
      refine ww_scd (pc := 826) C hsc e330 dL_law_826 ?_
      refine ww_aload_n (pc := 827) (i := 0) C 0 dL_law_827 rfl rfl ?_
      refine ww_iload_n (pc := 828) (i := 3) C 3 dL_law_828 rfl rfl ?_
      refine ww_iconst (pc := 829) C dL_law_829 kc_3 ?_
      refine ww_iadd (pc := 830) C dL_law_830 ?_
      obtain ⟨y331, e332, hf⟩ := oa_bind hf
      refine ww_scd (pc := 831) C hsc e332 dL_law_831 ?_
      obtain ⟨y333, M334, e335, hf⟩ := oa_bind2 hf
      refine ww_callK (pc := 832) (As := [.int y327, .int y329, .int y331]) (rest := [.int y323]) (rv := (some (.int y333))) C hY_X7_were hV_X7_were rfl lk_L_107 (m_X7_were _ O c M K y327 y329 y331 _ e335) ⟨rfl, rfl⟩ hcs ⟨Nat.le_of_ble_eq_true rfl, Nat.le_of_ble_eq_true rfl⟩ rfl (Nat.le_of_ble_eq_true rfl) rfl rfl dL_law_832 ?_
      refine ww_icmp_eq (pc := 835) (tgt := 1314) C dL_law_835 (by decide) (fun c337 => ?_) (fun c337 => ?_)
      · have hf := oa_ifp c337 hf
        refine ww_iinc (pc := 1314) (v := (x3 + 5)) (L' := [(0, .ref b), (1, .ref (a 0)), (2, .ref (c 0)), (3, .int (x3 + 5))]) C 3 [1, 2, 3, 0] dL_law_1314 rfl (ki_5 _) (Nat.le_of_ble_eq_true rfl) rfl ?_
        refine ww_goto (pc := 1317) (tgt := 18) C dL_law_1317 (by decide) ?_
        exact hk18 B324 J M334 K (x3 + 5) hf
      · have hf := oa_ifn c337 hf
        refine ww_iconst (pc := 838) C dL_law_838 kc_0 ?_
        exact absurd (Option.some.inj hf) (by decide)
    have hf := oa_ifn c316 hf
    by_cases c338 : (y2 &&& 63) = 22
    · have hf := oa_ifp c338 hf
      refine ww_tabI (pc := 32) (tgt := 840) C dL_law_32 (by rw [c338] <;> decide) (by rw [c338] <;> decide) (by rw [c338] <;> rfl) (by decide) ?_
      refine ww_aload_n (pc := 840) (i := 1) C 1 dL_law_840 rfl rfl ?_
      obtain ⟨y339, e340, hf⟩ := oa_bind hf
      refine ww_callL (pc := 841) (As := []) (rest := []) (rv := (some (.long y339))) C hY_X6_open hV_X6_open rfl lk_L_108 (m_X6_open _ O a B J _ e340) ⟨rfl, rfl⟩ hcs ⟨Nat.le_of_ble_eq_true rfl, Nat.le_of_ble_eq_true rfl⟩ rfl (Nat.le_of_ble_eq_true rfl) rfl rfl dL_law_841 ?_
      refine ww_aload_n (pc := 844) (i := 2) C 2 dL_law_844 rfl rfl ?_
      obtain ⟨y342, e343, hf⟩ := oa_bind hf
      refine ww_callK (pc := 845) (As := []) (rest := [.long y339]) (rv := (some (.long y342))) C hY_X7_open hV_X7_open rfl lk_L_112 (m_X7_open _ O c M K _ e343) ⟨rfl, rfl⟩ hcs ⟨Nat.le_of_ble_eq_true rfl, Nat.le_of_ble_eq_true rfl⟩ rfl (Nat.le_of_ble_eq_true rfl) rfl rfl dL_law_845 ?_
      refine ww_lcmp (pc := 848) C dL_law_848 ?_
      refine ww_if_eq (pc := 849) (tgt := 1314) C dL_law_849 (by decide) (fun c345 => ?_) (fun c345 => ?_)
      · have hf := oa_ifp c345 hf
        refine ww_iinc (pc := 1314) (v := (x3 + 5)) (L' := [(0, .ref b), (1, .ref (a 0)), (2, .ref (c 0)), (3, .int (x3 + 5))]) C 3 [1, 2, 3, 0] dL_law_1314 rfl (ki_5 _) (Nat.le_of_ble_eq_true rfl) rfl ?_
        refine ww_goto (pc := 1317) (tgt := 18) C dL_law_1317 (by decide) ?_
        exact hk18 B J M K (x3 + 5) hf
      · have hf := oa_ifn c345 hf
        refine ww_iconst (pc := 852) C dL_law_852 kc_0 ?_
        exact absurd (Option.some.inj hf) (by decide)
    have hf := oa_ifn c338 hf
    by_cases c346 : (y2 &&& 63) = 23
    · have hf := oa_ifp c346 hf
      refine ww_tabI (pc := 32) (tgt := 854) C dL_law_32 (by rw [c346] <;> decide) (by rw [c346] <;> decide) (by rw [c346] <;> rfl) (by decide) ?_
      refine ww_aload_n (pc := 854) (i := 1) C 1 dL_law_854 rfl rfl ?_
      refine ww_aload_n (pc := 855) (i := 0) C 0 dL_law_855 rfl rfl ?_
      refine ww_iload_n (pc := 856) (i := 3) C 3 dL_law_856 rfl rfl ?_
      refine ww_iconst (pc := 857) C dL_law_857 kc_1 ?_
      refine ww_iadd (pc := 858) C dL_law_858 ?_
      obtain ⟨y347, e348, hf⟩ := oa_bind hf
      refine ww_scd (pc := 859) C hsc e348 dL_law_859 ?_
      obtain ⟨y349, B350, e351, hf⟩ := oa_bind2 hf
      refine ww_callL (pc := 860) (As := [.int y347]) (rest := []) (rv := (some (.int y349))) C hY_X6_fewest hV_X6_fewest rfl lk_L_113 (m_X6_fewest _ O a B J y347 _ e351) ⟨rfl, rfl⟩ hcs ⟨Nat.le_of_ble_eq_true rfl, Nat.le_of_ble_eq_true rfl⟩ rfl (Nat.le_of_ble_eq_true rfl) rfl rfl dL_law_860 ?_
      refine ww_aload_n (pc := 863) (i := 2) C 2 dL_law_863 rfl rfl ?_
      refine ww_aload_n (pc := 864) (i := 0) C 0 dL_law_864 rfl rfl ?_
      refine ww_iload_n (pc := 865) (i := 3) C 3 dL_law_865 rfl rfl ?_
      refine ww_iconst (pc := 866) C dL_law_866 kc_1 ?_
      refine ww_iadd (pc := 867) C dL_law_867 ?_
      obtain ⟨y353, e354, hf⟩ := oa_bind hf
      refine ww_scd (pc := 868) C hsc e354 dL_law_868 ?_
      obtain ⟨y355, M356, e357, hf⟩ := oa_bind2 hf
      refine ww_callK (pc := 869) (As := [.int y353]) (rest := [.int y349]) (rv := (some (.int y355))) C hY_X7_fewest hV_X7_fewest rfl lk_L_116 (m_X7_fewest _ O c M K y353 _ e357) ⟨rfl, rfl⟩ hcs ⟨Nat.le_of_ble_eq_true rfl, Nat.le_of_ble_eq_true rfl⟩ rfl (Nat.le_of_ble_eq_true rfl) rfl rfl dL_law_869 ?_
      refine ww_icmp_eq (pc := 872) (tgt := 1314) C dL_law_872 (by decide) (fun c359 => ?_) (fun c359 => ?_)
      · have hf := oa_ifp c359 hf
        refine ww_iinc (pc := 1314) (v := (x3 + 5)) (L' := [(0, .ref b), (1, .ref (a 0)), (2, .ref (c 0)), (3, .int (x3 + 5))]) C 3 [1, 2, 3, 0] dL_law_1314 rfl (ki_5 _) (Nat.le_of_ble_eq_true rfl) rfl ?_
        refine ww_goto (pc := 1317) (tgt := 18) C dL_law_1317 (by decide) ?_
        exact hk18 B350 J M356 K (x3 + 5) hf
      · have hf := oa_ifn c359 hf
        refine ww_iconst (pc := 875) C dL_law_875 kc_0 ?_
        exact absurd (Option.some.inj hf) (by decide)
    have hf := oa_ifn c346 hf
    by_cases c360 : (y2 &&& 63) = 24
    · have hf := oa_ifp c360 hf
      refine ww_tabI (pc := 32) (tgt := 877) C dL_law_32 (by rw [c360] <;> decide) (by rw [c360] <;> decide) (by rw [c360] <;> rfl) (by decide) ?_
      refine ww_aload_n (pc := 877) (i := 1) C 1 dL_law_877 rfl rfl ?_
      obtain ⟨y361, B362, e363, hf⟩ := oa_bind2 hf
      refine ww_callL (pc := 878) (As := []) (rest := []) (rv := (some (.int y361))) C hY_X6_always hV_X6_always rfl lk_L_117 (m_X6_always _ O a B J _ e363) ⟨rfl, rfl⟩ hcs ⟨Nat.le_of_ble_eq_true rfl, Nat.le_of_ble_eq_true rfl⟩ rfl (Nat.le_of_ble_eq_true rfl) rfl rfl dL_law_878 ?_
      refine ww_aload_n (pc := 881) (i := 2) C 2 dL_law_881 rfl rfl ?_
      obtain ⟨y365, M366, e367, hf⟩ := oa_bind2 hf
      refine ww_callK (pc := 882) (As := []) (rest := [.int y361]) (rv := (some (.int y365))) C hY_X7_always hV_X7_always rfl lk_L_120 (m_X7_always _ O c M K _ e367) ⟨rfl, rfl⟩ hcs ⟨Nat.le_of_ble_eq_true rfl, Nat.le_of_ble_eq_true rfl⟩ rfl (Nat.le_of_ble_eq_true rfl) rfl rfl dL_law_882 ?_
      refine ww_icmp_eq (pc := 885) (tgt := 1314) C dL_law_885 (by decide) (fun c369 => ?_) (fun c369 => ?_)
      · have hf := oa_ifp c369 hf
        refine ww_iinc (pc := 1314) (v := (x3 + 5)) (L' := [(0, .ref b), (1, .ref (a 0)), (2, .ref (c 0)), (3, .int (x3 + 5))]) C 3 [1, 2, 3, 0] dL_law_1314 rfl (ki_5 _) (Nat.le_of_ble_eq_true rfl) rfl ?_
        refine ww_goto (pc := 1317) (tgt := 18) C dL_law_1317 (by decide) ?_
        exact hk18 B362 J M366 K (x3 + 5) hf
      · have hf := oa_ifn c369 hf
        refine ww_iconst (pc := 888) C dL_law_888 kc_0 ?_
        exact absurd (Option.some.inj hf) (by decide)
    have hf := oa_ifn c360 hf
    by_cases c370 : (y2 &&& 63) = 25
    · have hf := oa_ifp c370 hf
      refine ww_tabI (pc := 32) (tgt := 890) C dL_law_32 (by rw [c370] <;> decide) (by rw [c370] <;> decide) (by rw [c370] <;> rfl) (by decide) ?_
      refine ww_aload_n (pc := 890) (i := 1) C 1 dL_law_890 rfl rfl ?_
      refine ww_aload_n (pc := 891) (i := 0) C 0 dL_law_891 rfl rfl ?_
      refine ww_iload_n (pc := 892) (i := 3) C 3 dL_law_892 rfl rfl ?_
      refine ww_iconst (pc := 893) C dL_law_893 kc_1 ?_
      refine ww_iadd (pc := 894) C dL_law_894 ?_
      obtain ⟨y371, e372, hf⟩ := oa_bind hf
      refine ww_scd (pc := 895) C hsc e372 dL_law_895 ?_
      obtain ⟨y373, B374, e375, hf⟩ := oa_bind2 hf
      refine ww_callL (pc := 896) (As := [.int y371]) (rest := []) (rv := (some (.int y373))) C hY_X6_where hV_X6_where rfl lk_L_121 (m_X6_where _ O a B J y371 _ e375) ⟨rfl, rfl⟩ hcs ⟨Nat.le_of_ble_eq_true rfl, Nat.le_of_ble_eq_true rfl⟩ rfl (Nat.le_of_ble_eq_true rfl) rfl rfl dL_law_896 ?_
      refine ww_aload_n (pc := 899) (i := 2) C 2 dL_law_899 rfl rfl ?_
      refine ww_aload_n (pc := 900) (i := 0) C 0 dL_law_900 rfl rfl ?_
      refine ww_iload_n (pc := 901) (i := 3) C 3 dL_law_901 rfl rfl ?_
      refine ww_iconst (pc := 902) C dL_law_902 kc_1 ?_
      refine ww_iadd (pc := 903) C dL_law_903 ?_
      obtain ⟨y377, e378, hf⟩ := oa_bind hf
      refine ww_scd (pc := 904) C hsc e378 dL_law_904 ?_
      obtain ⟨y379, M380, e381, hf⟩ := oa_bind2 hf
      refine ww_callK (pc := 905) (As := [.int y377]) (rest := [.int y373]) (rv := (some (.int y379))) C hY_X7_where hV_X7_where rfl lk_L_124 (m_X7_where _ O c M K y377 _ e381) ⟨rfl, rfl⟩ hcs ⟨Nat.le_of_ble_eq_true rfl, Nat.le_of_ble_eq_true rfl⟩ rfl (Nat.le_of_ble_eq_true rfl) rfl rfl dL_law_905 ?_
      refine ww_icmp_eq (pc := 908) (tgt := 1314) C dL_law_908 (by decide) (fun c383 => ?_) (fun c383 => ?_)
      · have hf := oa_ifp c383 hf
        refine ww_iinc (pc := 1314) (v := (x3 + 5)) (L' := [(0, .ref b), (1, .ref (a 0)), (2, .ref (c 0)), (3, .int (x3 + 5))]) C 3 [1, 2, 3, 0] dL_law_1314 rfl (ki_5 _) (Nat.le_of_ble_eq_true rfl) rfl ?_
        refine ww_goto (pc := 1317) (tgt := 18) C dL_law_1317 (by decide) ?_
        exact hk18 B374 J M380 K (x3 + 5) hf
      · have hf := oa_ifn c383 hf
        refine ww_iconst (pc := 911) C dL_law_911 kc_0 ?_
        exact absurd (Option.some.inj hf) (by decide)
    have hf := oa_ifn c370 hf
    by_cases c384 : (y2 &&& 63) = 26
    · have hf := oa_ifp c384 hf
      refine ww_tabI (pc := 32) (tgt := 913) C dL_law_32 (by rw [c384] <;> decide) (by rw [c384] <;> decide) (by rw [c384] <;> rfl) (by decide) ?_
      refine ww_aload_n (pc := 913) (i := 1) C 1 dL_law_913 rfl rfl ?_
      refine ww_aload_n (pc := 914) (i := 0) C 0 dL_law_914 rfl rfl ?_
      refine ww_iload_n (pc := 915) (i := 3) C 3 dL_law_915 rfl rfl ?_
      refine ww_iconst (pc := 916) C dL_law_916 kc_1 ?_
      refine ww_iadd (pc := 917) C dL_law_917 ?_
      obtain ⟨y385, e386, hf⟩ := oa_bind hf
      refine ww_scd (pc := 918) C hsc e386 dL_law_918 ?_
      refine ww_aload_n (pc := 919) (i := 0) C 0 dL_law_919 rfl rfl ?_
      refine ww_iload_n (pc := 920) (i := 3) C 3 dL_law_920 rfl rfl ?_
      refine ww_iconst (pc := 921) C dL_law_921 kc_2 ?_
      refine ww_iadd (pc := 922) C dL_law_922 ?_
      obtain ⟨y387, e388, hf⟩ := oa_bind hf
      refine ww_scd (pc := 923) C hsc e388 dL_law_923 ?_
      obtain ⟨y389, e390, hf⟩ := oa_bind hf
      refine ww_callL (pc := 924) (As := [.int y385, .int y387]) (rest := []) (rv := (some (.int y389))) C hY_X6_hire hV_X6_hire rfl lk_L_125 (m_X6_hire _ O a B J y385 y387 _ e390) ⟨rfl, rfl⟩ hcs ⟨Nat.le_of_ble_eq_true rfl, Nat.le_of_ble_eq_true rfl⟩ rfl (Nat.le_of_ble_eq_true rfl) rfl rfl dL_law_924 ?_
      refine ww_aload_n (pc := 927) (i := 2) C 2 dL_law_927 rfl rfl ?_
      refine ww_aload_n (pc := 928) (i := 0) C 0 dL_law_928 rfl rfl ?_
      refine ww_iload_n (pc := 929) (i := 3) C 3 dL_law_929 rfl rfl ?_
      refine ww_iconst (pc := 930) C dL_law_930 kc_1 ?_
      refine ww_iadd (pc := 931) C dL_law_931 ?_
      obtain ⟨y392, e393, hf⟩ := oa_bind hf
      refine ww_scd (pc := 932) C hsc e393 dL_law_932 ?_
      refine ww_aload_n (pc := 933) (i := 0) C 0 dL_law_933 rfl rfl ?_
      refine ww_iload_n (pc := 934) (i := 3) C 3 dL_law_934 rfl rfl ?_
      refine ww_iconst (pc := 935) C dL_law_935 kc_2 ?_
      refine ww_iadd (pc := 936) C dL_law_936 ?_
      obtain ⟨y394, e395, hf⟩ := oa_bind hf
      refine ww_scd (pc := 937) C hsc e395 dL_law_937 ?_
      obtain ⟨y396, e397, hf⟩ := oa_bind hf
      refine ww_callK (pc := 938) (As := [.int y392, .int y394]) (rest := [.int y389]) (rv := (some (.int y396))) C hY_X7_hire hV_X7_hire rfl lk_L_128 (m_X7_hire _ O c M K y392 y394 _ e397) ⟨rfl, rfl⟩ hcs ⟨Nat.le_of_ble_eq_true rfl, Nat.le_of_ble_eq_true rfl⟩ rfl (Nat.le_of_ble_eq_true rfl) rfl rfl dL_law_938 ?_
      refine ww_icmp_eq (pc := 941) (tgt := 1314) C dL_law_941 (by decide) (fun c399 => ?_) (fun c399 => ?_)
      · have hf := oa_ifp c399 hf
        refine ww_iinc (pc := 1314) (v := (x3 + 5)) (L' := [(0, .ref b), (1, .ref (a 0)), (2, .ref (c 0)), (3, .int (x3 + 5))]) C 3 [1, 2, 3, 0] dL_law_1314 rfl (ki_5 _) (Nat.le_of_ble_eq_true rfl) rfl ?_
        refine ww_goto (pc := 1317) (tgt := 18) C dL_law_1317 (by decide) ?_
        exact hk18 B J M K (x3 + 5) hf
      · have hf := oa_ifn c399 hf
        refine ww_iconst (pc := 944) C dL_law_944 kc_0 ?_
        exact absurd (Option.some.inj hf) (by decide)
    have hf := oa_ifn c384 hf
    by_cases c400 : (y2 &&& 63) = 27
    · have hf := oa_ifp c400 hf
      refine ww_tabI (pc := 32) (tgt := 946) C dL_law_32 (by rw [c400] <;> decide) (by rw [c400] <;> decide) (by rw [c400] <;> rfl) (by decide) ?_
      refine ww_aload_n (pc := 946) (i := 1) C 1 dL_law_946 rfl rfl ?_
      refine ww_aload_n (pc := 947) (i := 0) C 0 dL_law_947 rfl rfl ?_
      refine ww_iload_n (pc := 948) (i := 3) C 3 dL_law_948 rfl rfl ?_
      refine ww_iconst (pc := 949) C dL_law_949 kc_1 ?_
      refine ww_iadd (pc := 950) C dL_law_950 ?_
      obtain ⟨y401, e402, hf⟩ := oa_bind hf
      refine ww_scd (pc := 951) C hsc e402 dL_law_951 ?_
      obtain ⟨y403, e404, hf⟩ := oa_bind hf
      refine ww_callL (pc := 952) (As := [.int y401]) (rest := []) (rv := (some (.int y403))) C hY_X6_price hV_X6_price rfl lk_L_129 (m_X6_price _ O a B J y401 _ e404) ⟨rfl, rfl⟩ hcs ⟨Nat.le_of_ble_eq_true rfl, Nat.le_of_ble_eq_true rfl⟩ rfl (Nat.le_of_ble_eq_true rfl) rfl rfl dL_law_952 ?_
      refine ww_aload_n (pc := 955) (i := 2) C 2 dL_law_955 rfl rfl ?_
      refine ww_aload_n (pc := 956) (i := 0) C 0 dL_law_956 rfl rfl ?_
      refine ww_iload_n (pc := 957) (i := 3) C 3 dL_law_957 rfl rfl ?_
      refine ww_iconst (pc := 958) C dL_law_958 kc_1 ?_
      refine ww_iadd (pc := 959) C dL_law_959 ?_
      obtain ⟨y406, e407, hf⟩ := oa_bind hf
      refine ww_scd (pc := 960) C hsc e407 dL_law_960 ?_
      obtain ⟨y408, e409, hf⟩ := oa_bind hf
      refine ww_callK (pc := 961) (As := [.int y406]) (rest := [.int y403]) (rv := (some (.int y408))) C hY_X7_price hV_X7_price rfl lk_L_132 (m_X7_price _ O c M K y406 _ e409) ⟨rfl, rfl⟩ hcs ⟨Nat.le_of_ble_eq_true rfl, Nat.le_of_ble_eq_true rfl⟩ rfl (Nat.le_of_ble_eq_true rfl) rfl rfl dL_law_961 ?_
      refine ww_icmp_eq (pc := 964) (tgt := 1314) C dL_law_964 (by decide) (fun c411 => ?_) (fun c411 => ?_)
      · have hf := oa_ifp c411 hf
        refine ww_iinc (pc := 1314) (v := (x3 + 5)) (L' := [(0, .ref b), (1, .ref (a 0)), (2, .ref (c 0)), (3, .int (x3 + 5))]) C 3 [1, 2, 3, 0] dL_law_1314 rfl (ki_5 _) (Nat.le_of_ble_eq_true rfl) rfl ?_
        refine ww_goto (pc := 1317) (tgt := 18) C dL_law_1317 (by decide) ?_
        exact hk18 B J M K (x3 + 5) hf
      · have hf := oa_ifn c411 hf
        refine ww_iconst (pc := 967) C dL_law_967 kc_0 ?_
        exact absurd (Option.some.inj hf) (by decide)
    have hf := oa_ifn c400 hf
    by_cases c412 : (y2 &&& 63) = 28
    · have hf := oa_ifp c412 hf
      refine ww_tabI (pc := 32) (tgt := 969) C dL_law_32 (by rw [c412] <;> decide) (by rw [c412] <;> decide) (by rw [c412] <;> rfl) (by decide) ?_
      refine ww_aload_n (pc := 969) (i := 1) C 1 dL_law_969 rfl rfl ?_
      refine ww_aload_n (pc := 970) (i := 0) C 0 dL_law_970 rfl rfl ?_
      refine ww_iload_n (pc := 971) (i := 3) C 3 dL_law_971 rfl rfl ?_
      refine ww_iconst (pc := 972) C dL_law_972 kc_1 ?_
      refine ww_iadd (pc := 973) C dL_law_973 ?_
      obtain ⟨y413, e414, hf⟩ := oa_bind hf
      refine ww_scd (pc := 974) C hsc e414 dL_law_974 ?_
      obtain ⟨y415, B416, e417, hf⟩ := oa_bind2 hf
      refine ww_callL (pc := 975) (As := [.int y413]) (rest := []) (rv := (some (.int y415))) C hY_X6_ring hV_X6_ring rfl lk_L_133 (m_X6_ring _ O a B J y413 _ e417) ⟨rfl, rfl⟩ hcs ⟨Nat.le_of_ble_eq_true rfl, Nat.le_of_ble_eq_true rfl⟩ rfl (Nat.le_of_ble_eq_true rfl) rfl rfl dL_law_975 ?_
      refine ww_aload_n (pc := 978) (i := 2) C 2 dL_law_978 rfl rfl ?_
      refine ww_aload_n (pc := 979) (i := 0) C 0 dL_law_979 rfl rfl ?_
      refine ww_iload_n (pc := 980) (i := 3) C 3 dL_law_980 rfl rfl ?_
      refine ww_iconst (pc := 981) C dL_law_981 kc_1 ?_
      refine ww_iadd (pc := 982) C dL_law_982 ?_
      obtain ⟨y419, e420, hf⟩ := oa_bind hf
      refine ww_scd (pc := 983) C hsc e420 dL_law_983 ?_
      obtain ⟨y421, M422, e423, hf⟩ := oa_bind2 hf
      refine ww_callK (pc := 984) (As := [.int y419]) (rest := [.int y415]) (rv := (some (.int y421))) C hY_X7_ring hV_X7_ring rfl lk_L_136 (m_X7_ring _ O c M K y419 _ e423) ⟨rfl, rfl⟩ hcs ⟨Nat.le_of_ble_eq_true rfl, Nat.le_of_ble_eq_true rfl⟩ rfl (Nat.le_of_ble_eq_true rfl) rfl rfl dL_law_984 ?_
      refine ww_icmp_eq (pc := 987) (tgt := 1314) C dL_law_987 (by decide) (fun c425 => ?_) (fun c425 => ?_)
      · have hf := oa_ifp c425 hf
        refine ww_iinc (pc := 1314) (v := (x3 + 5)) (L' := [(0, .ref b), (1, .ref (a 0)), (2, .ref (c 0)), (3, .int (x3 + 5))]) C 3 [1, 2, 3, 0] dL_law_1314 rfl (ki_5 _) (Nat.le_of_ble_eq_true rfl) rfl ?_
        refine ww_goto (pc := 1317) (tgt := 18) C dL_law_1317 (by decide) ?_
        exact hk18 B416 J M422 K (x3 + 5) hf
      · have hf := oa_ifn c425 hf
        refine ww_iconst (pc := 990) C dL_law_990 kc_0 ?_
        exact absurd (Option.some.inj hf) (by decide)
    have hf := oa_ifn c412 hf
    by_cases c426 : (y2 &&& 63) = 29
    · have hf := oa_ifp c426 hf
      refine ww_tabI (pc := 32) (tgt := 992) C dL_law_32 (by rw [c426] <;> decide) (by rw [c426] <;> decide) (by rw [c426] <;> rfl) (by decide) ?_
      refine ww_aload_n (pc := 992) (i := 1) C 1 dL_law_992 rfl rfl ?_
      refine ww_aload_n (pc := 993) (i := 0) C 0 dL_law_993 rfl rfl ?_
      refine ww_iload_n (pc := 994) (i := 3) C 3 dL_law_994 rfl rfl ?_
      refine ww_iconst (pc := 995) C dL_law_995 kc_1 ?_
      refine ww_iadd (pc := 996) C dL_law_996 ?_
      obtain ⟨y427, e428, hf⟩ := oa_bind hf
      refine ww_scd (pc := 997) C hsc e428 dL_law_997 ?_
      refine ww_aload_n (pc := 998) (i := 0) C 0 dL_law_998 rfl rfl ?_
      refine ww_iload_n (pc := 999) (i := 3) C 3 dL_law_999 rfl rfl ?_
      refine ww_iconst (pc := 1000) C dL_law_1000 kc_2 ?_
      refine ww_iadd (pc := 1001) C dL_law_1001 ?_
      obtain ⟨y429, e430, hf⟩ := oa_bind hf
      refine ww_scd (pc := 1002) C hsc e430 dL_law_1002 ?_
      refine ww_aload_n (pc := 1003) (i := 0) C 0 dL_law_1003 rfl rfl ?_
      refine ww_iload_n (pc := 1004) (i := 3) C 3 dL_law_1004 rfl rfl ?_
      refine ww_iconst (pc := 1005) C dL_law_1005 kc_3 ?_
      refine ww_iadd (pc := 1006) C dL_law_1006 ?_
      obtain ⟨y431, e432, hf⟩ := oa_bind hf
      refine ww_scd (pc := 1007) C hsc e432 dL_law_1007 ?_
      obtain ⟨y433, J434, e435, hf⟩ := oa_bind2 hf
      refine ww_callL (pc := 1008) (As := [.int y427, .int y429, .int y431]) (rest := []) (rv := (some (.long y433))) C hY_X6_odds hV_X6_odds rfl lk_L_137 (m_X6_odds _ O a B J y427 y429 y431 _ e435) ⟨rfl, rfl⟩ hcs ⟨Nat.le_of_ble_eq_true rfl, Nat.le_of_ble_eq_true rfl⟩ rfl (Nat.le_of_ble_eq_true rfl) rfl rfl dL_law_1008 ?_
      refine ww_aload_n (pc := 1011) (i := 2) C 2 dL_law_1011 rfl rfl ?_
      refine ww_aload_n (pc := 1012) (i := 0) C 0 dL_law_1012 rfl rfl ?_
      refine ww_iload_n (pc := 1013) (i := 3) C 3 dL_law_1013 rfl rfl ?_
      refine ww_iconst (pc := 1014) C dL_law_1014 kc_1 ?_
      refine ww_iadd (pc := 1015) C dL_law_1015 ?_
      obtain ⟨y437, e438, hf⟩ := oa_bind hf
      refine ww_scd (pc := 1016) C hsc e438 dL_law_1016 ?_
      refine ww_aload_n (pc := 1017) (i := 0) C 0 dL_law_1017 rfl rfl ?_
      refine ww_iload_n (pc := 1018) (i := 3) C 3 dL_law_1018 rfl rfl ?_
      refine ww_iconst (pc := 1019) C dL_law_1019 kc_2 ?_
      refine ww_iadd (pc := 1020) C dL_law_1020 ?_
      obtain ⟨y439, e440, hf⟩ := oa_bind hf
      refine ww_scd (pc := 1021) C hsc e440 dL_law_1021 ?_
      refine ww_aload_n (pc := 1022) (i := 0) C 0 dL_law_1022 rfl rfl ?_
      refine ww_iload_n (pc := 1023) (i := 3) C 3 dL_law_1023 rfl rfl ?_
      refine ww_iconst (pc := 1024) C dL_law_1024 kc_3 ?_
      refine ww_iadd (pc := 1025) C dL_law_1025 ?_
      obtain ⟨y441, e442, hf⟩ := oa_bind hf
      refine ww_scd (pc := 1026) C hsc e442 dL_law_1026 ?_
      obtain ⟨y443, J444, e445, hf⟩ := oa_bind2 hf
      refine ww_callK (pc := 1027) (As := [.int y437, .int y439, .int y441]) (rest := [.long y433]) (rv := (some (.long y443))) C hY_X7_odds hV_X7_odds rfl lk_L_141 (m_X7_odds _ O c M K y437 y439 y441 _ e445) ⟨rfl, rfl⟩ hcs ⟨Nat.le_of_ble_eq_true rfl, Nat.le_of_ble_eq_true rfl⟩ rfl (Nat.le_of_ble_eq_true rfl) rfl rfl dL_law_1027 ?_
      refine ww_lcmp (pc := 1030) C dL_law_1030 ?_
      refine ww_if_eq (pc := 1031) (tgt := 1314) C dL_law_1031 (by decide) (fun c447 => ?_) (fun c447 => ?_)
      · have hf := oa_ifp c447 hf
        refine ww_iinc (pc := 1314) (v := (x3 + 5)) (L' := [(0, .ref b), (1, .ref (a 0)), (2, .ref (c 0)), (3, .int (x3 + 5))]) C 3 [1, 2, 3, 0] dL_law_1314 rfl (ki_5 _) (Nat.le_of_ble_eq_true rfl) rfl ?_
        refine ww_goto (pc := 1317) (tgt := 18) C dL_law_1317 (by decide) ?_
        exact hk18 B J434 M J444 (x3 + 5) hf
      · have hf := oa_ifn c447 hf
        refine ww_iconst (pc := 1034) C dL_law_1034 kc_0 ?_
        exact absurd (Option.some.inj hf) (by decide)
    have hf := oa_ifn c426 hf
    by_cases c448 : (y2 &&& 63) = 30
    · have hf := oa_ifp c448 hf
      refine ww_tabI (pc := 32) (tgt := 1036) C dL_law_32 (by rw [c448] <;> decide) (by rw [c448] <;> decide) (by rw [c448] <;> rfl) (by decide) ?_
      refine ww_aload_n (pc := 1036) (i := 1) C 1 dL_law_1036 rfl rfl ?_
      refine ww_aload_n (pc := 1037) (i := 0) C 0 dL_law_1037 rfl rfl ?_
      refine ww_iload_n (pc := 1038) (i := 3) C 3 dL_law_1038 rfl rfl ?_
      refine ww_iconst (pc := 1039) C dL_law_1039 kc_1 ?_
      refine ww_iadd (pc := 1040) C dL_law_1040 ?_
      obtain ⟨y449, e450, hf⟩ := oa_bind hf
      refine ww_scd (pc := 1041) C hsc e450 dL_law_1041 ?_
      refine ww_aload_n (pc := 1042) (i := 0) C 0 dL_law_1042 rfl rfl ?_
      refine ww_iload_n (pc := 1043) (i := 3) C 3 dL_law_1043 rfl rfl ?_
      refine ww_iconst (pc := 1044) C dL_law_1044 kc_2 ?_
      refine ww_iadd (pc := 1045) C dL_law_1045 ?_
      obtain ⟨y451, e452, hf⟩ := oa_bind hf
      refine ww_scd (pc := 1046) C hsc e452 dL_law_1046 ?_
      obtain ⟨y453, J454, e455, hf⟩ := oa_bind2 hf
      refine ww_callL (pc := 1047) (As := [.int y449, .int y451]) (rest := []) (rv := (some (.long y453))) C hY_X6_mean hV_X6_mean rfl lk_L_142 (m_X6_mean _ O a B J y449 y451 _ e455) ⟨rfl, rfl⟩ hcs ⟨Nat.le_of_ble_eq_true rfl, Nat.le_of_ble_eq_true rfl⟩ rfl (Nat.le_of_ble_eq_true rfl) rfl rfl dL_law_1047 ?_
      refine ww_aload_n (pc := 1050) (i := 2) C 2 dL_law_1050 rfl rfl ?_
      refine ww_aload_n (pc := 1051) (i := 0) C 0 dL_law_1051 rfl rfl ?_
      refine ww_iload_n (pc := 1052) (i := 3) C 3 dL_law_1052 rfl rfl ?_
      refine ww_iconst (pc := 1053) C dL_law_1053 kc_1 ?_
      refine ww_iadd (pc := 1054) C dL_law_1054 ?_
      obtain ⟨y457, e458, hf⟩ := oa_bind hf
      refine ww_scd (pc := 1055) C hsc e458 dL_law_1055 ?_
      refine ww_aload_n (pc := 1056) (i := 0) C 0 dL_law_1056 rfl rfl ?_
      refine ww_iload_n (pc := 1057) (i := 3) C 3 dL_law_1057 rfl rfl ?_
      refine ww_iconst (pc := 1058) C dL_law_1058 kc_2 ?_
      refine ww_iadd (pc := 1059) C dL_law_1059 ?_
      obtain ⟨y459, e460, hf⟩ := oa_bind hf
      refine ww_scd (pc := 1060) C hsc e460 dL_law_1060 ?_
      obtain ⟨y461, J462, e463, hf⟩ := oa_bind2 hf
      refine ww_callK (pc := 1061) (As := [.int y457, .int y459]) (rest := [.long y453]) (rv := (some (.long y461))) C hY_X7_mean hV_X7_mean rfl lk_L_146 (m_X7_mean _ O c M K y457 y459 _ e463) ⟨rfl, rfl⟩ hcs ⟨Nat.le_of_ble_eq_true rfl, Nat.le_of_ble_eq_true rfl⟩ rfl (Nat.le_of_ble_eq_true rfl) rfl rfl dL_law_1061 ?_
      refine ww_lcmp (pc := 1064) C dL_law_1064 ?_
      refine ww_if_eq (pc := 1065) (tgt := 1314) C dL_law_1065 (by decide) (fun c465 => ?_) (fun c465 => ?_)
      · have hf := oa_ifp c465 hf
        refine ww_iinc (pc := 1314) (v := (x3 + 5)) (L' := [(0, .ref b), (1, .ref (a 0)), (2, .ref (c 0)), (3, .int (x3 + 5))]) C 3 [1, 2, 3, 0] dL_law_1314 rfl (ki_5 _) (Nat.le_of_ble_eq_true rfl) rfl ?_
        refine ww_goto (pc := 1317) (tgt := 18) C dL_law_1317 (by decide) ?_
        exact hk18 B J454 M J462 (x3 + 5) hf
      · have hf := oa_ifn c465 hf
        refine ww_iconst (pc := 1068) C dL_law_1068 kc_0 ?_
        exact absurd (Option.some.inj hf) (by decide)
    have hf := oa_ifn c448 hf
    by_cases c466 : (y2 &&& 63) = 31
    · have hf := oa_ifp c466 hf
      refine ww_tabI (pc := 32) (tgt := 1070) C dL_law_32 (by rw [c466] <;> decide) (by rw [c466] <;> decide) (by rw [c466] <;> rfl) (by decide) ?_
      refine ww_aload_n (pc := 1070) (i := 1) C 1 dL_law_1070 rfl rfl ?_
      refine ww_aload_n (pc := 1071) (i := 0) C 0 dL_law_1071 rfl rfl ?_
      refine ww_iload_n (pc := 1072) (i := 3) C 3 dL_law_1072 rfl rfl ?_
      refine ww_iconst (pc := 1073) C dL_law_1073 kc_1 ?_
      refine ww_iadd (pc := 1074) C dL_law_1074 ?_
      obtain ⟨y467, e468, hf⟩ := oa_bind hf
      refine ww_scd (pc := 1075) C hsc e468 dL_law_1075 ?_
      obtain ⟨y469, J470, e471, hf⟩ := oa_bind2 hf
      refine ww_callL (pc := 1076) (As := [.int y467]) (rest := []) (rv := (some (.int y469))) C hY_X6_likeliest hV_X6_likeliest rfl lk_L_147 (m_X6_likeliest _ O a B J y467 _ e471) ⟨rfl, rfl⟩ hcs ⟨Nat.le_of_ble_eq_true rfl, Nat.le_of_ble_eq_true rfl⟩ rfl (Nat.le_of_ble_eq_true rfl) rfl rfl dL_law_1076 ?_
      refine ww_aload_n (pc := 1079) (i := 2) C 2 dL_law_1079 rfl rfl ?_
      refine ww_aload_n (pc := 1080) (i := 0) C 0 dL_law_1080 rfl rfl ?_
      refine ww_iload_n (pc := 1081) (i := 3) C 3 dL_law_1081 rfl rfl ?_
      refine ww_iconst (pc := 1082) C dL_law_1082 kc_1 ?_
      refine ww_iadd (pc := 1083) C dL_law_1083 ?_
      obtain ⟨y473, e474, hf⟩ := oa_bind hf
      refine ww_scd (pc := 1084) C hsc e474 dL_law_1084 ?_
      obtain ⟨y475, J476, e477, hf⟩ := oa_bind2 hf
      refine ww_callK (pc := 1085) (As := [.int y473]) (rest := [.int y469]) (rv := (some (.int y475))) C hY_X7_likeliest hV_X7_likeliest rfl lk_L_150 (m_X7_likeliest _ O c M K y473 _ e477) ⟨rfl, rfl⟩ hcs ⟨Nat.le_of_ble_eq_true rfl, Nat.le_of_ble_eq_true rfl⟩ rfl (Nat.le_of_ble_eq_true rfl) rfl rfl dL_law_1085 ?_
      refine ww_icmp_eq (pc := 1088) (tgt := 1314) C dL_law_1088 (by decide) (fun c479 => ?_) (fun c479 => ?_)
      · have hf := oa_ifp c479 hf
        refine ww_iinc (pc := 1314) (v := (x3 + 5)) (L' := [(0, .ref b), (1, .ref (a 0)), (2, .ref (c 0)), (3, .int (x3 + 5))]) C 3 [1, 2, 3, 0] dL_law_1314 rfl (ki_5 _) (Nat.le_of_ble_eq_true rfl) rfl ?_
        refine ww_goto (pc := 1317) (tgt := 18) C dL_law_1317 (by decide) ?_
        exact hk18 B J470 M J476 (x3 + 5) hf
      · have hf := oa_ifn c479 hf
        refine ww_iconst (pc := 1091) C dL_law_1091 kc_0 ?_
        exact absurd (Option.some.inj hf) (by decide)
    have hf := oa_ifn c466 hf
    by_cases c480 : (y2 &&& 63) = 32
    · have hf := oa_ifp c480 hf
      refine ww_tabI (pc := 32) (tgt := 1093) C dL_law_32 (by rw [c480] <;> decide) (by rw [c480] <;> decide) (by rw [c480] <;> rfl) (by decide) ?_
      refine ww_aload_n (pc := 1093) (i := 1) C 1 dL_law_1093 rfl rfl ?_
      refine ww_aload_n (pc := 1094) (i := 0) C 0 dL_law_1094 rfl rfl ?_
      refine ww_iload_n (pc := 1095) (i := 3) C 3 dL_law_1095 rfl rfl ?_
      refine ww_iconst (pc := 1096) C dL_law_1096 kc_1 ?_
      refine ww_iadd (pc := 1097) C dL_law_1097 ?_
      obtain ⟨y481, e482, hf⟩ := oa_bind hf
      refine ww_scd (pc := 1098) C hsc e482 dL_law_1098 ?_
      obtain ⟨y483, B484, e485, hf⟩ := oa_bind2 hf
      refine ww_callL (pc := 1099) (As := [.int y481]) (rest := []) (rv := (some (.int y483))) C hY_X6_keep hV_X6_keep rfl lk_L_151 (m_X6_keep _ O a B J y481 _ e485) ⟨rfl, rfl⟩ hcs ⟨Nat.le_of_ble_eq_true rfl, Nat.le_of_ble_eq_true rfl⟩ rfl (Nat.le_of_ble_eq_true rfl) rfl rfl dL_law_1099 ?_
      refine ww_aload_n (pc := 1102) (i := 2) C 2 dL_law_1102 rfl rfl ?_
      refine ww_aload_n (pc := 1103) (i := 0) C 0 dL_law_1103 rfl rfl ?_
      refine ww_iload_n (pc := 1104) (i := 3) C 3 dL_law_1104 rfl rfl ?_
      refine ww_iconst (pc := 1105) C dL_law_1105 kc_1 ?_
      refine ww_iadd (pc := 1106) C dL_law_1106 ?_
      obtain ⟨y487, e488, hf⟩ := oa_bind hf
      refine ww_scd (pc := 1107) C hsc e488 dL_law_1107 ?_
      obtain ⟨y489, M490, e491, hf⟩ := oa_bind2 hf
      refine ww_callK (pc := 1108) (As := [.int y487]) (rest := [.int y483]) (rv := (some (.int y489))) C hY_X7_keep hV_X7_keep rfl lk_L_154 (m_X7_keep _ O c M K y487 _ e491) ⟨rfl, rfl⟩ hcs ⟨Nat.le_of_ble_eq_true rfl, Nat.le_of_ble_eq_true rfl⟩ rfl (Nat.le_of_ble_eq_true rfl) rfl rfl dL_law_1108 ?_
      refine ww_icmp_eq (pc := 1111) (tgt := 1314) C dL_law_1111 (by decide) (fun c493 => ?_) (fun c493 => ?_)
      · have hf := oa_ifp c493 hf
        refine ww_iinc (pc := 1314) (v := (x3 + 5)) (L' := [(0, .ref b), (1, .ref (a 0)), (2, .ref (c 0)), (3, .int (x3 + 5))]) C 3 [1, 2, 3, 0] dL_law_1314 rfl (ki_5 _) (Nat.le_of_ble_eq_true rfl) rfl ?_
        refine ww_goto (pc := 1317) (tgt := 18) C dL_law_1317 (by decide) ?_
        exact hk18 B484 J M490 K (x3 + 5) hf
      · have hf := oa_ifn c493 hf
        refine ww_iconst (pc := 1114) C dL_law_1114 kc_0 ?_
        exact absurd (Option.some.inj hf) (by decide)
    have hf := oa_ifn c480 hf
    by_cases c494 : (y2 &&& 63) = 33
    · have hf := oa_ifp c494 hf
      refine ww_tabI (pc := 32) (tgt := 1116) C dL_law_32 (by rw [c494] <;> decide) (by rw [c494] <;> decide) (by rw [c494] <;> rfl) (by decide) ?_
      refine ww_aload_n (pc := 1116) (i := 1) C 1 dL_law_1116 rfl rfl ?_
      refine ww_aload_n (pc := 1117) (i := 0) C 0 dL_law_1117 rfl rfl ?_
      refine ww_iload_n (pc := 1118) (i := 3) C 3 dL_law_1118 rfl rfl ?_
      refine ww_iconst (pc := 1119) C dL_law_1119 kc_1 ?_
      refine ww_iadd (pc := 1120) C dL_law_1120 ?_
      obtain ⟨y495, e496, hf⟩ := oa_bind hf
      refine ww_scd (pc := 1121) C hsc e496 dL_law_1121 ?_
      obtain ⟨y497, B498, e499, hf⟩ := oa_bind2 hf
      refine ww_callL (pc := 1122) (As := [.int y495]) (rest := []) (rv := (some (.int y497))) C hY_X6_back hV_X6_back rfl lk_L_155 (m_X6_back _ O a B J y495 _ e499) ⟨rfl, rfl⟩ hcs ⟨Nat.le_of_ble_eq_true rfl, Nat.le_of_ble_eq_true rfl⟩ rfl (Nat.le_of_ble_eq_true rfl) rfl rfl dL_law_1122 ?_
      refine ww_aload_n (pc := 1125) (i := 2) C 2 dL_law_1125 rfl rfl ?_
      refine ww_aload_n (pc := 1126) (i := 0) C 0 dL_law_1126 rfl rfl ?_
      refine ww_iload_n (pc := 1127) (i := 3) C 3 dL_law_1127 rfl rfl ?_
      refine ww_iconst (pc := 1128) C dL_law_1128 kc_1 ?_
      refine ww_iadd (pc := 1129) C dL_law_1129 ?_
      obtain ⟨y501, e502, hf⟩ := oa_bind hf
      refine ww_scd (pc := 1130) C hsc e502 dL_law_1130 ?_
      obtain ⟨y503, M504, e505, hf⟩ := oa_bind2 hf
      refine ww_callK (pc := 1131) (As := [.int y501]) (rest := [.int y497]) (rv := (some (.int y503))) C hY_X7_back hV_X7_back rfl lk_L_158 (m_X7_back _ O c M K y501 _ e505) ⟨rfl, rfl⟩ hcs ⟨Nat.le_of_ble_eq_true rfl, Nat.le_of_ble_eq_true rfl⟩ rfl (Nat.le_of_ble_eq_true rfl) rfl rfl dL_law_1131 ?_
      refine ww_icmp_eq (pc := 1134) (tgt := 1314) C dL_law_1134 (by decide) (fun c507 => ?_) (fun c507 => ?_)
      · have hf := oa_ifp c507 hf
        refine ww_iinc (pc := 1314) (v := (x3 + 5)) (L' := [(0, .ref b), (1, .ref (a 0)), (2, .ref (c 0)), (3, .int (x3 + 5))]) C 3 [1, 2, 3, 0] dL_law_1314 rfl (ki_5 _) (Nat.le_of_ble_eq_true rfl) rfl ?_
        refine ww_goto (pc := 1317) (tgt := 18) C dL_law_1317 (by decide) ?_
        exact hk18 B498 J M504 K (x3 + 5) hf
      · have hf := oa_ifn c507 hf
        refine ww_iconst (pc := 1137) C dL_law_1137 kc_0 ?_
        exact absurd (Option.some.inj hf) (by decide)
    have hf := oa_ifn c494 hf
    by_cases c508 : (y2 &&& 63) = 34
    · have hf := oa_ifp c508 hf
      refine ww_tabI (pc := 32) (tgt := 1139) C dL_law_32 (by rw [c508] <;> decide) (by rw [c508] <;> decide) (by rw [c508] <;> rfl) (by decide) ?_
      refine ww_aload_n (pc := 1139) (i := 1) C 1 dL_law_1139 rfl rfl ?_
      refine ww_aload_n (pc := 1140) (i := 0) C 0 dL_law_1140 rfl rfl ?_
      refine ww_iload_n (pc := 1141) (i := 3) C 3 dL_law_1141 rfl rfl ?_
      refine ww_iconst (pc := 1142) C dL_law_1142 kc_1 ?_
      refine ww_iadd (pc := 1143) C dL_law_1143 ?_
      obtain ⟨y509, e510, hf⟩ := oa_bind hf
      refine ww_scd (pc := 1144) C hsc e510 dL_law_1144 ?_
      refine ww_aload_n (pc := 1145) (i := 0) C 0 dL_law_1145 rfl rfl ?_
      refine ww_iload_n (pc := 1146) (i := 3) C 3 dL_law_1146 rfl rfl ?_
      refine ww_iconst (pc := 1147) C dL_law_1147 kc_2 ?_
      refine ww_iadd (pc := 1148) C dL_law_1148 ?_
      obtain ⟨y511, e512, hf⟩ := oa_bind hf
      refine ww_scd (pc := 1149) C hsc e512 dL_law_1149 ?_
      refine ww_aload_n (pc := 1150) (i := 0) C 0 dL_law_1150 rfl rfl ?_
      refine ww_iload_n (pc := 1151) (i := 3) C 3 dL_law_1151 rfl rfl ?_
      refine ww_iconst (pc := 1152) C dL_law_1152 kc_3 ?_
      refine ww_iadd (pc := 1153) C dL_law_1153 ?_
      obtain ⟨y513, e514, hf⟩ := oa_bind hf
      refine ww_scd (pc := 1154) C hsc e514 dL_law_1154 ?_
      obtain ⟨y515, B516, e517, hf⟩ := oa_bind2 hf
      refine ww_callL (pc := 1155) (As := [.int y509, .int y511, .int y513]) (rest := []) (rv := (some (.int y515))) C hY_X6_sheet hV_X6_sheet rfl lk_L_159 (m_X6_sheet _ O a B J y509 y511 y513 _ e517) ⟨rfl, rfl⟩ hcs ⟨Nat.le_of_ble_eq_true rfl, Nat.le_of_ble_eq_true rfl⟩ rfl (Nat.le_of_ble_eq_true rfl) rfl rfl dL_law_1155 ?_
      refine ww_aload_n (pc := 1158) (i := 2) C 2 dL_law_1158 rfl rfl ?_
      refine ww_aload_n (pc := 1159) (i := 0) C 0 dL_law_1159 rfl rfl ?_
      refine ww_iload_n (pc := 1160) (i := 3) C 3 dL_law_1160 rfl rfl ?_
      refine ww_iconst (pc := 1161) C dL_law_1161 kc_1 ?_
      refine ww_iadd (pc := 1162) C dL_law_1162 ?_
      obtain ⟨y519, e520, hf⟩ := oa_bind hf
      refine ww_scd (pc := 1163) C hsc e520 dL_law_1163 ?_
      refine ww_aload_n (pc := 1164) (i := 0) C 0 dL_law_1164 rfl rfl ?_
      refine ww_iload_n (pc := 1165) (i := 3) C 3 dL_law_1165 rfl rfl ?_
      refine ww_iconst (pc := 1166) C dL_law_1166 kc_2 ?_
      refine ww_iadd (pc := 1167) C dL_law_1167 ?_
      obtain ⟨y521, e522, hf⟩ := oa_bind hf
      refine ww_scd (pc := 1168) C hsc e522 dL_law_1168 ?_
      refine ww_aload_n (pc := 1169) (i := 0) C 0 dL_law_1169 rfl rfl ?_
      refine ww_iload_n (pc := 1170) (i := 3) C 3 dL_law_1170 rfl rfl ?_
      refine ww_iconst (pc := 1171) C dL_law_1171 kc_3 ?_
      refine ww_iadd (pc := 1172) C dL_law_1172 ?_
      obtain ⟨y523, e524, hf⟩ := oa_bind hf
      refine ww_scd (pc := 1173) C hsc e524 dL_law_1173 ?_
      obtain ⟨y525, M526, e527, hf⟩ := oa_bind2 hf
      refine ww_callK (pc := 1174) (As := [.int y519, .int y521, .int y523]) (rest := [.int y515]) (rv := (some (.int y525))) C hY_X7_sheet hV_X7_sheet rfl lk_L_162 (m_X7_sheet _ O c M K y519 y521 y523 _ e527) ⟨rfl, rfl⟩ hcs ⟨Nat.le_of_ble_eq_true rfl, Nat.le_of_ble_eq_true rfl⟩ rfl (Nat.le_of_ble_eq_true rfl) rfl rfl dL_law_1174 ?_
      refine ww_icmp_eq (pc := 1177) (tgt := 1314) C dL_law_1177 (by decide) (fun c529 => ?_) (fun c529 => ?_)
      · have hf := oa_ifp c529 hf
        refine ww_iinc (pc := 1314) (v := (x3 + 5)) (L' := [(0, .ref b), (1, .ref (a 0)), (2, .ref (c 0)), (3, .int (x3 + 5))]) C 3 [1, 2, 3, 0] dL_law_1314 rfl (ki_5 _) (Nat.le_of_ble_eq_true rfl) rfl ?_
        refine ww_goto (pc := 1317) (tgt := 18) C dL_law_1317 (by decide) ?_
        exact hk18 B516 J M526 K (x3 + 5) hf
      · have hf := oa_ifn c529 hf
        refine ww_iconst (pc := 1180) C dL_law_1180 kc_0 ?_
        exact absurd (Option.some.inj hf) (by decide)
    have hf := oa_ifn c508 hf
    by_cases c530 : (y2 &&& 63) = 35
    · have hf := oa_ifp c530 hf
      refine ww_tabI (pc := 32) (tgt := 1182) C dL_law_32 (by rw [c530] <;> decide) (by rw [c530] <;> decide) (by rw [c530] <;> rfl) (by decide) ?_
      refine ww_aload_n (pc := 1182) (i := 1) C 1 dL_law_1182 rfl rfl ?_
      refine ww_aload_n (pc := 1183) (i := 0) C 0 dL_law_1183 rfl rfl ?_
      refine ww_iload_n (pc := 1184) (i := 3) C 3 dL_law_1184 rfl rfl ?_
      refine ww_iconst (pc := 1185) C dL_law_1185 kc_1 ?_
      refine ww_iadd (pc := 1186) C dL_law_1186 ?_
      obtain ⟨y531, e532, hf⟩ := oa_bind hf
      refine ww_scd (pc := 1187) C hsc e532 dL_law_1187 ?_
      refine ww_aload_n (pc := 1188) (i := 0) C 0 dL_law_1188 rfl rfl ?_
      refine ww_iload_n (pc := 1189) (i := 3) C 3 dL_law_1189 rfl rfl ?_
      refine ww_iconst (pc := 1190) C dL_law_1190 kc_2 ?_
      refine ww_iadd (pc := 1191) C dL_law_1191 ?_
      obtain ⟨y533, e534, hf⟩ := oa_bind hf
      refine ww_scd (pc := 1192) C hsc e534 dL_law_1192 ?_
      refine ww_aload_n (pc := 1193) (i := 0) C 0 dL_law_1193 rfl rfl ?_
      refine ww_iload_n (pc := 1194) (i := 3) C 3 dL_law_1194 rfl rfl ?_
      refine ww_iconst (pc := 1195) C dL_law_1195 kc_3 ?_
      refine ww_iadd (pc := 1196) C dL_law_1196 ?_
      obtain ⟨y535, e536, hf⟩ := oa_bind hf
      refine ww_scd (pc := 1197) C hsc e536 dL_law_1197 ?_
      obtain ⟨y537, B538, e539, hf⟩ := oa_bind2 hf
      refine ww_callL (pc := 1198) (As := [.int y531, .int y533, .int y535]) (rest := []) (rv := (some (.int y537))) C hY_X6_lay hV_X6_lay rfl lk_L_163 (m_X6_lay _ O a B J y531 y533 y535 _ e539) ⟨rfl, rfl⟩ hcs ⟨Nat.le_of_ble_eq_true rfl, Nat.le_of_ble_eq_true rfl⟩ rfl (Nat.le_of_ble_eq_true rfl) rfl rfl dL_law_1198 ?_
      refine ww_aload_n (pc := 1201) (i := 2) C 2 dL_law_1201 rfl rfl ?_
      refine ww_aload_n (pc := 1202) (i := 0) C 0 dL_law_1202 rfl rfl ?_
      refine ww_iload_n (pc := 1203) (i := 3) C 3 dL_law_1203 rfl rfl ?_
      refine ww_iconst (pc := 1204) C dL_law_1204 kc_1 ?_
      refine ww_iadd (pc := 1205) C dL_law_1205 ?_
      obtain ⟨y541, e542, hf⟩ := oa_bind hf
      refine ww_scd (pc := 1206) C hsc e542 dL_law_1206 ?_
      refine ww_aload_n (pc := 1207) (i := 0) C 0 dL_law_1207 rfl rfl ?_
      refine ww_iload_n (pc := 1208) (i := 3) C 3 dL_law_1208 rfl rfl ?_
      refine ww_iconst (pc := 1209) C dL_law_1209 kc_2 ?_
      refine ww_iadd (pc := 1210) C dL_law_1210 ?_
      obtain ⟨y543, e544, hf⟩ := oa_bind hf
      refine ww_scd (pc := 1211) C hsc e544 dL_law_1211 ?_
      refine ww_aload_n (pc := 1212) (i := 0) C 0 dL_law_1212 rfl rfl ?_
      refine ww_iload_n (pc := 1213) (i := 3) C 3 dL_law_1213 rfl rfl ?_
      refine ww_iconst (pc := 1214) C dL_law_1214 kc_3 ?_
      refine ww_iadd (pc := 1215) C dL_law_1215 ?_
      obtain ⟨y545, e546, hf⟩ := oa_bind hf
      refine ww_scd (pc := 1216) C hsc e546 dL_law_1216 ?_
      obtain ⟨y547, M548, e549, hf⟩ := oa_bind2 hf
      refine ww_callK (pc := 1217) (As := [.int y541, .int y543, .int y545]) (rest := [.int y537]) (rv := (some (.int y547))) C hY_X7_lay hV_X7_lay rfl lk_L_166 (m_X7_lay _ O c M K y541 y543 y545 _ e549) ⟨rfl, rfl⟩ hcs ⟨Nat.le_of_ble_eq_true rfl, Nat.le_of_ble_eq_true rfl⟩ rfl (Nat.le_of_ble_eq_true rfl) rfl rfl dL_law_1217 ?_
      refine ww_icmp_eq (pc := 1220) (tgt := 1314) C dL_law_1220 (by decide) (fun c551 => ?_) (fun c551 => ?_)
      · have hf := oa_ifp c551 hf
        refine ww_iinc (pc := 1314) (v := (x3 + 5)) (L' := [(0, .ref b), (1, .ref (a 0)), (2, .ref (c 0)), (3, .int (x3 + 5))]) C 3 [1, 2, 3, 0] dL_law_1314 rfl (ki_5 _) (Nat.le_of_ble_eq_true rfl) rfl ?_
        refine ww_goto (pc := 1317) (tgt := 18) C dL_law_1317 (by decide) ?_
        exact hk18 B538 J M548 K (x3 + 5) hf
      · have hf := oa_ifn c551 hf
        refine ww_iconst (pc := 1223) C dL_law_1223 kc_0 ?_
        exact absurd (Option.some.inj hf) (by decide)
    have hf := oa_ifn c530 hf
    by_cases c552 : (y2 &&& 63) = 36
    · have hf := oa_ifp c552 hf
      refine ww_tabI (pc := 32) (tgt := 1225) C dL_law_32 (by rw [c552] <;> decide) (by rw [c552] <;> decide) (by rw [c552] <;> rfl) (by decide) ?_
      refine ww_aload_n (pc := 1225) (i := 1) C 1 dL_law_1225 rfl rfl ?_
      refine ww_aload_n (pc := 1226) (i := 0) C 0 dL_law_1226 rfl rfl ?_
      refine ww_iload_n (pc := 1227) (i := 3) C 3 dL_law_1227 rfl rfl ?_
      refine ww_iconst (pc := 1228) C dL_law_1228 kc_1 ?_
      refine ww_iadd (pc := 1229) C dL_law_1229 ?_
      obtain ⟨y553, e554, hf⟩ := oa_bind hf
      refine ww_scd (pc := 1230) C hsc e554 dL_law_1230 ?_
      refine ww_aload_n (pc := 1231) (i := 0) C 0 dL_law_1231 rfl rfl ?_
      refine ww_iload_n (pc := 1232) (i := 3) C 3 dL_law_1232 rfl rfl ?_
      refine ww_iconst (pc := 1233) C dL_law_1233 kc_2 ?_
      refine ww_iadd (pc := 1234) C dL_law_1234 ?_
      obtain ⟨y555, e556, hf⟩ := oa_bind hf
      refine ww_scd (pc := 1235) C hsc e556 dL_law_1235 ?_
      refine ww_aload_n (pc := 1236) (i := 0) C 0 dL_law_1236 rfl rfl ?_
      refine ww_iload_n (pc := 1237) (i := 3) C 3 dL_law_1237 rfl rfl ?_
      refine ww_iconst (pc := 1238) C dL_law_1238 kc_3 ?_
      refine ww_iadd (pc := 1239) C dL_law_1239 ?_
      obtain ⟨y557, e558, hf⟩ := oa_bind hf
      refine ww_scd (pc := 1240) C hsc e558 dL_law_1240 ?_
      refine ww_aload_n (pc := 1241) (i := 0) C 0 dL_law_1241 rfl rfl ?_
      refine ww_iload_n (pc := 1242) (i := 3) C 3 dL_law_1242 rfl rfl ?_
      refine ww_iconst (pc := 1243) C dL_law_1243 kc_4 ?_
      refine ww_iadd (pc := 1244) C dL_law_1244 ?_
      obtain ⟨y559, e560, hf⟩ := oa_bind hf
      refine ww_scd (pc := 1245) C hsc e560 dL_law_1245 ?_
      obtain ⟨y561, B562, e563, hf⟩ := oa_bind2 hf
      refine ww_callL (pc := 1246) (As := [.int y553, .int y555, .int y557, .int y559]) (rest := []) (rv := (some (.int y561))) C hY_X6_read hV_X6_read rfl lk_L_167 (m_X6_read _ O a B J y553 y555 y557 y559 _ e563) ⟨rfl, rfl⟩ hcs ⟨Nat.le_of_ble_eq_true rfl, Nat.le_of_ble_eq_true rfl⟩ rfl (Nat.le_of_ble_eq_true rfl) rfl rfl dL_law_1246 ?_
      refine ww_aload_n (pc := 1249) (i := 2) C 2 dL_law_1249 rfl rfl ?_
      refine ww_aload_n (pc := 1250) (i := 0) C 0 dL_law_1250 rfl rfl ?_
      refine ww_iload_n (pc := 1251) (i := 3) C 3 dL_law_1251 rfl rfl ?_
      refine ww_iconst (pc := 1252) C dL_law_1252 kc_1 ?_
      refine ww_iadd (pc := 1253) C dL_law_1253 ?_
      obtain ⟨y565, e566, hf⟩ := oa_bind hf
      refine ww_scd (pc := 1254) C hsc e566 dL_law_1254 ?_
      refine ww_aload_n (pc := 1255) (i := 0) C 0 dL_law_1255 rfl rfl ?_
      refine ww_iload_n (pc := 1256) (i := 3) C 3 dL_law_1256 rfl rfl ?_
      refine ww_iconst (pc := 1257) C dL_law_1257 kc_2 ?_
      refine ww_iadd (pc := 1258) C dL_law_1258 ?_
      obtain ⟨y567, e568, hf⟩ := oa_bind hf
      refine ww_scd (pc := 1259) C hsc e568 dL_law_1259 ?_
      refine ww_aload_n (pc := 1260) (i := 0) C 0 dL_law_1260 rfl rfl ?_
      refine ww_iload_n (pc := 1261) (i := 3) C 3 dL_law_1261 rfl rfl ?_
      refine ww_iconst (pc := 1262) C dL_law_1262 kc_3 ?_
      refine ww_iadd (pc := 1263) C dL_law_1263 ?_
      obtain ⟨y569, e570, hf⟩ := oa_bind hf
      refine ww_scd (pc := 1264) C hsc e570 dL_law_1264 ?_
      refine ww_aload_n (pc := 1265) (i := 0) C 0 dL_law_1265 rfl rfl ?_
      refine ww_iload_n (pc := 1266) (i := 3) C 3 dL_law_1266 rfl rfl ?_
      refine ww_iconst (pc := 1267) C dL_law_1267 kc_4 ?_
      refine ww_iadd (pc := 1268) C dL_law_1268 ?_
      obtain ⟨y571, e572, hf⟩ := oa_bind hf
      refine ww_scd (pc := 1269) C hsc e572 dL_law_1269 ?_
      obtain ⟨y573, M574, e575, hf⟩ := oa_bind2 hf
      refine ww_callK (pc := 1270) (As := [.int y565, .int y567, .int y569, .int y571]) (rest := [.int y561]) (rv := (some (.int y573))) C hY_X7_read hV_X7_read rfl lk_L_171 (m_X7_read _ O c M K y565 y567 y569 y571 _ e575) ⟨rfl, rfl⟩ hcs ⟨Nat.le_of_ble_eq_true rfl, Nat.le_of_ble_eq_true rfl⟩ rfl (Nat.le_of_ble_eq_true rfl) rfl rfl dL_law_1270 ?_
      refine ww_icmp_eq (pc := 1273) (tgt := 1314) C dL_law_1273 (by decide) (fun c577 => ?_) (fun c577 => ?_)
      · have hf := oa_ifp c577 hf
        refine ww_iinc (pc := 1314) (v := (x3 + 5)) (L' := [(0, .ref b), (1, .ref (a 0)), (2, .ref (c 0)), (3, .int (x3 + 5))]) C 3 [1, 2, 3, 0] dL_law_1314 rfl (ki_5 _) (Nat.le_of_ble_eq_true rfl) rfl ?_
        refine ww_goto (pc := 1317) (tgt := 18) C dL_law_1317 (by decide) ?_
        exact hk18 B562 J M574 K (x3 + 5) hf
      · have hf := oa_ifn c577 hf
        refine ww_iconst (pc := 1276) C dL_law_1276 kc_0 ?_
        exact absurd (Option.some.inj hf) (by decide)
    have hf := oa_ifn c552 hf
    by_cases c578 : (y2 &&& 63) = 37
    · have hf := oa_ifp c578 hf
      refine ww_tabI (pc := 32) (tgt := 1278) C dL_law_32 (by rw [c578] <;> decide) (by rw [c578] <;> decide) (by rw [c578] <;> rfl) (by decide) ?_
      refine ww_aload_n (pc := 1278) (i := 1) C 1 dL_law_1278 rfl rfl ?_
      obtain ⟨y579, e580, hf⟩ := oa_bind hf
      refine ww_callL (pc := 1279) (As := []) (rest := []) (rv := (some (.int y579))) C hY_X6_torn hV_X6_torn rfl lk_L_172 (m_X6_torn _ O a B J _ e580) ⟨rfl, rfl⟩ hcs ⟨Nat.le_of_ble_eq_true rfl, Nat.le_of_ble_eq_true rfl⟩ rfl (Nat.le_of_ble_eq_true rfl) rfl rfl dL_law_1279 ?_
      refine ww_aload_n (pc := 1282) (i := 2) C 2 dL_law_1282 rfl rfl ?_
      obtain ⟨y582, e583, hf⟩ := oa_bind hf
      refine ww_callK (pc := 1283) (As := []) (rest := [.int y579]) (rv := (some (.int y582))) C hY_X7_torn hV_X7_torn rfl lk_L_175 (m_X7_torn _ O c M K _ e583) ⟨rfl, rfl⟩ hcs ⟨Nat.le_of_ble_eq_true rfl, Nat.le_of_ble_eq_true rfl⟩ rfl (Nat.le_of_ble_eq_true rfl) rfl rfl dL_law_1283 ?_
      refine ww_icmp_eq (pc := 1286) (tgt := 1314) C dL_law_1286 (by decide) (fun c585 => ?_) (fun c585 => ?_)
      · have hf := oa_ifp c585 hf
        refine ww_iinc (pc := 1314) (v := (x3 + 5)) (L' := [(0, .ref b), (1, .ref (a 0)), (2, .ref (c 0)), (3, .int (x3 + 5))]) C 3 [1, 2, 3, 0] dL_law_1314 rfl (ki_5 _) (Nat.le_of_ble_eq_true rfl) rfl ?_
        refine ww_goto (pc := 1317) (tgt := 18) C dL_law_1317 (by decide) ?_
        exact hk18 B J M K (x3 + 5) hf
      · have hf := oa_ifn c585 hf
        refine ww_iconst (pc := 1289) C dL_law_1289 kc_0 ?_
        exact absurd (Option.some.inj hf) (by decide)
    have hf := oa_ifn c578 hf
    by_cases c586 : (y2 &&& 63) = 38
    · have hf := oa_ifp c586 hf
      refine ww_tabI (pc := 32) (tgt := 1291) C dL_law_32 (by rw [c586] <;> decide) (by rw [c586] <;> decide) (by rw [c586] <;> rfl) (by decide) ?_
      refine ww_aload_n (pc := 1291) (i := 1) C 1 dL_law_1291 rfl rfl ?_
      refine ww_aload_n (pc := 1292) (i := 0) C 0 dL_law_1292 rfl rfl ?_
      refine ww_iload_n (pc := 1293) (i := 3) C 3 dL_law_1293 rfl rfl ?_
      refine ww_iconst (pc := 1294) C dL_law_1294 kc_1 ?_
      refine ww_iadd (pc := 1295) C dL_law_1295 ?_
      obtain ⟨y587, e588, hf⟩ := oa_bind hf
      refine ww_scd (pc := 1296) C hsc e588 dL_law_1296 ?_
      obtain ⟨y589, e590, hf⟩ := oa_bind hf
      refine ww_callL (pc := 1297) (As := [.int y587]) (rest := []) (rv := (some (.int y589))) C hY_X6_count hV_X6_count rfl lk_L_176 (m_X6_count _ O a B J y587 _ e590) ⟨rfl, rfl⟩ hcs ⟨Nat.le_of_ble_eq_true rfl, Nat.le_of_ble_eq_true rfl⟩ rfl (Nat.le_of_ble_eq_true rfl) rfl rfl dL_law_1297 ?_
      refine ww_aload_n (pc := 1300) (i := 2) C 2 dL_law_1300 rfl rfl ?_
      refine ww_aload_n (pc := 1301) (i := 0) C 0 dL_law_1301 rfl rfl ?_
      refine ww_iload_n (pc := 1302) (i := 3) C 3 dL_law_1302 rfl rfl ?_
      refine ww_iconst (pc := 1303) C dL_law_1303 kc_1 ?_
      refine ww_iadd (pc := 1304) C dL_law_1304 ?_
      obtain ⟨y592, e593, hf⟩ := oa_bind hf
      refine ww_scd (pc := 1305) C hsc e593 dL_law_1305 ?_
      obtain ⟨y594, e595, hf⟩ := oa_bind hf
      refine ww_callK (pc := 1306) (As := [.int y592]) (rest := [.int y589]) (rv := (some (.int y594))) C hY_X7_count hV_X7_count rfl lk_L_179 (m_X7_count _ O c M K y592 _ e595) ⟨rfl, rfl⟩ hcs ⟨Nat.le_of_ble_eq_true rfl, Nat.le_of_ble_eq_true rfl⟩ rfl (Nat.le_of_ble_eq_true rfl) rfl rfl dL_law_1306 ?_
      refine ww_icmp_eq (pc := 1309) (tgt := 1314) C dL_law_1309 (by decide) (fun c597 => ?_) (fun c597 => ?_)
      · have hf := oa_ifp c597 hf
        refine ww_iinc (pc := 1314) (v := (x3 + 5)) (L' := [(0, .ref b), (1, .ref (a 0)), (2, .ref (c 0)), (3, .int (x3 + 5))]) C 3 [1, 2, 3, 0] dL_law_1314 rfl (ki_5 _) (Nat.le_of_ble_eq_true rfl) rfl ?_
        refine ww_goto (pc := 1317) (tgt := 18) C dL_law_1317 (by decide) ?_
        exact hk18 B J M K (x3 + 5) hf
      · have hf := oa_ifn c597 hf
        refine ww_iconst (pc := 1312) C dL_law_1312 kc_0 ?_
        exact absurd (Option.some.inj hf) (by decide)
    have hf := oa_ifn c586 hf
    refine ww_tabO (pc := 32) (tgt := 1314) C dL_law_32 (to_0_38 c4 c22 c36 c46 c54 c66 c82 c104 c120 c132 c150 c168 c184 c204 c216 c234 c248 c260 c278 c288 c302 c316 c338 c346 c360 c370 c384 c400 c412 c426 c448 c466 c480 c494 c508 c530 c552 c578 c586) (by decide) ?_
    refine ww_iinc (pc := 1314) (v := (x3 + 5)) (L' := [(0, .ref b), (1, .ref (a 0)), (2, .ref (c 0)), (3, .int (x3 + 5))]) C 3 [1, 2, 3, 0] dL_law_1314 rfl (ki_5 _) (Nat.le_of_ble_eq_true rfl) rfl ?_
    refine ww_goto (pc := 1317) (tgt := 18) C dL_law_1317 (by decide) ?_
    exact hk18 B J M K (x3 + 5) hf
