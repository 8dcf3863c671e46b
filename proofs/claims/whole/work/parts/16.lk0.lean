theorem cq_0 : pm_code 0 = cd_0 := rfl
theorem lk_0_0 : Lk 0 0 (.aload_n 0) 0 0 (0) := ⟨1, 0, (congrArg (fun l => pm_look l 0) cq_0).trans rfl⟩
theorem lk_0_1 : Lk 0 1 (.invokespecial 3) 999 0 (0) := ⟨3, 378, (congrArg (fun l => pm_look l 1) cq_0).trans rfl⟩
theorem lk_0_4 : Lk 0 4 (.aload_n 0) 0 0 (0) := ⟨1, 0, (congrArg (fun l => pm_look l 4) cq_0).trans rfl⟩
theorem lk_0_5 : Lk 0 5 (.iconst 0) 0 0 (0) := ⟨1, 0, (congrArg (fun l => pm_look l 5) cq_0).trans rfl⟩
theorem lk_0_6 : Lk 0 6 (.newarray .int) 100 0 (0) := ⟨2, 0, (congrArg (fun l => pm_look l 6) cq_0).trans rfl⟩
theorem lk_0_8 : Lk 0 8 (.putfield 9) 0 1 (2) := ⟨3, 383, (congrArg (fun l => pm_look l 8) cq_0).trans rfl⟩
theorem lk_0_11 : Lk 0 11 (.aload_n 0) 0 0 (0) := ⟨1, 0, (congrArg (fun l => pm_look l 11) cq_0).trans rfl⟩
theorem lk_0_12 : Lk 0 12 (.aload_n 1) 0 0 (0) := ⟨1, 0, (congrArg (fun l => pm_look l 12) cq_0).trans rfl⟩
theorem lk_0_13 : Lk 0 13 (.putfield 15) 0 0 (2) := ⟨3, 379, (congrArg (fun l => pm_look l 13) cq_0).trans rfl⟩
theorem lk_0_16 : Lk 0 16 (.return_) 0 0 (0) := ⟨1, 0, (congrArg (fun l => pm_look l 16) cq_0).trans rfl⟩
theorem cq_1 : pm_code 1 = cd_1 := rfl
theorem lk_1_0 : Lk 1 0 (.iconst 1) 0 0 (0) := ⟨1, 0, (congrArg (fun l => pm_look l 0) cq_1).trans rfl⟩
theorem lk_1_1 : Lk 1 1 (.aload_n 0) 0 0 (0) := ⟨1, 0, (congrArg (fun l => pm_look l 1) cq_1).trans rfl⟩
theorem lk_1_2 : Lk 1 2 (.getfield 15) 0 0 (2) := ⟨3, 379, (congrArg (fun l => pm_look l 2) cq_1).trans rfl⟩
theorem lk_1_5 : Lk 1 5 (.getfield 19) 8 1 (0) := ⟨3, 152, (congrArg (fun l => pm_look l 5) cq_1).trans rfl⟩
theorem lk_1_8 : Lk 1 8 (.aload_n 0) 0 0 (0) := ⟨1, 0, (congrArg (fun l => pm_look l 8) cq_1).trans rfl⟩
theorem lk_1_9 : Lk 1 9 (.getfield 15) 0 0 (2) := ⟨3, 379, (congrArg (fun l => pm_look l 9) cq_1).trans rfl⟩
theorem lk_1_12 : Lk 1 12 (.getfield 25) 8 2 (0) := ⟨3, 159, (congrArg (fun l => pm_look l 12) cq_1).trans rfl⟩
theorem lk_1_15 : Lk 1 15 (.iadd) 0 0 (0) := ⟨1, 0, (congrArg (fun l => pm_look l 15) cq_1).trans rfl⟩
theorem lk_1_16 : Lk 1 16 (.ishl) 0 0 (0) := ⟨1, 0, (congrArg (fun l => pm_look l 16) cq_1).trans rfl⟩
theorem lk_1_17 : Lk 1 17 (.ireturn) 0 0 (0) := ⟨1, 0, (congrArg (fun l => pm_look l 17) cq_1).trans rfl⟩
theorem cq_2 : pm_code 2 = cd_2 := rfl
theorem lk_2_0 : Lk 2 0 (.iload_n 1) 0 0 (0) := ⟨1, 0, (congrArg (fun l => pm_look l 0) cq_2).trans rfl⟩
theorem lk_2_1 : Lk 2 1 (.aload_n 0) 0 0 (0) := ⟨1, 0, (congrArg (fun l => pm_look l 1) cq_2).trans rfl⟩
theorem lk_2_2 : Lk 2 2 (.getfield 15) 0 0 (2) := ⟨3, 379, (congrArg (fun l => pm_look l 2) cq_2).trans rfl⟩
theorem lk_2_5 : Lk 2 5 (.getfield 25) 8 2 (0) := ⟨3, 159, (congrArg (fun l => pm_look l 5) cq_2).trans rfl⟩
theorem lk_2_8 : Lk 2 8 (.ishl) 0 0 (0) := ⟨1, 0, (congrArg (fun l => pm_look l 8) cq_2).trans rfl⟩
theorem lk_2_9 : Lk 2 9 (.iload_n 2) 0 0 (0) := ⟨1, 0, (congrArg (fun l => pm_look l 9) cq_2).trans rfl⟩
theorem lk_2_10 : Lk 2 10 (.ior) 0 0 (0) := ⟨1, 0, (congrArg (fun l => pm_look l 10) cq_2).trans rfl⟩
theorem lk_2_11 : Lk 2 11 (.ireturn) 0 0 (0) := ⟨1, 0, (congrArg (fun l => pm_look l 11) cq_2).trans rfl⟩
theorem cq_3 : pm_code 3 = cd_3 := rfl
theorem lk_3_0 : Lk 3 0 (.aload_n 0) 0 0 (0) := ⟨1, 0, (congrArg (fun l => pm_look l 0) cq_3).trans rfl⟩
theorem lk_3_1 : Lk 3 1 (.getfield 9) 0 1 (2) := ⟨3, 383, (congrArg (fun l => pm_look l 1) cq_3).trans rfl⟩
theorem lk_3_4 : Lk 3 4 (.iload_n 1) 0 0 (0) := ⟨1, 0, (congrArg (fun l => pm_look l 4) cq_3).trans rfl⟩
theorem lk_3_5 : Lk 3 5 (.iaload) 0 0 (0) := ⟨1, 0, (congrArg (fun l => pm_look l 5) cq_3).trans rfl⟩
theorem lk_3_6 : Lk 3 6 (.sipush 1023) 0 0 (0) := ⟨3, 0, (congrArg (fun l => pm_look l 6) cq_3).trans rfl⟩
theorem lk_3_9 : Lk 3 9 (.iand) 0 0 (0) := ⟨1, 0, (congrArg (fun l => pm_look l 9) cq_3).trans rfl⟩
theorem lk_3_10 : Lk 3 10 (.ireturn) 0 0 (0) := ⟨1, 0, (congrArg (fun l => pm_look l 10) cq_3).trans rfl⟩
theorem cq_4 : pm_code 4 = cd_4 := rfl
theorem lk_4_0 : Lk 4 0 (.aload_n 0) 0 0 (0) := ⟨1, 0, (congrArg (fun l => pm_look l 0) cq_4).trans rfl⟩
theorem lk_4_1 : Lk 4 1 (.getfield 9) 0 1 (2) := ⟨3, 383, (congrArg (fun l => pm_look l 1) cq_4).trans rfl⟩
theorem lk_4_4 : Lk 4 4 (.iload_n 1) 0 0 (0) := ⟨1, 0, (congrArg (fun l => pm_look l 4) cq_4).trans rfl⟩
theorem lk_4_5 : Lk 4 5 (.iaload) 0 0 (0) := ⟨1, 0, (congrArg (fun l => pm_look l 5) cq_4).trans rfl⟩
theorem lk_4_6 : Lk 4 6 (.sipush 1023) 0 0 (0) := ⟨3, 0, (congrArg (fun l => pm_look l 6) cq_4).trans rfl⟩
theorem lk_4_9 : Lk 4 9 (.iand) 0 0 (0) := ⟨1, 0, (congrArg (fun l => pm_look l 9) cq_4).trans rfl⟩
theorem lk_4_10 : Lk 4 10 (.invokestatic 28) 163 1 (0) := ⟨3, 984, (congrArg (fun l => pm_look l 10) cq_4).trans rfl⟩
theorem lk_4_13 : Lk 4 13 (.ireturn) 1 0 (0) := ⟨1, 0, (congrArg (fun l => pm_look l 13) cq_4).trans rfl⟩
theorem cq_5 : pm_code 5 = cd_5 := rfl
theorem lk_5_0 : Lk 5 0 (.aload_n 0) 0 0 (0) := ⟨1, 0, (congrArg (fun l => pm_look l 0) cq_5).trans rfl⟩
theorem lk_5_1 : Lk 5 1 (.getfield 9) 0 1 (2) := ⟨3, 383, (congrArg (fun l => pm_look l 1) cq_5).trans rfl⟩
theorem lk_5_4 : Lk 5 4 (.iload_n 1) 0 0 (0) := ⟨1, 0, (congrArg (fun l => pm_look l 4) cq_5).trans rfl⟩
theorem lk_5_5 : Lk 5 5 (.iaload) 0 0 (0) := ⟨1, 0, (congrArg (fun l => pm_look l 5) cq_5).trans rfl⟩
theorem lk_5_6 : Lk 5 6 (.bipush 10) 0 0 (0) := ⟨2, 0, (congrArg (fun l => pm_look l 6) cq_5).trans rfl⟩
theorem lk_5_8 : Lk 5 8 (.ishr) 0 0 (0) := ⟨1, 0, (congrArg (fun l => pm_look l 8) cq_5).trans rfl⟩
theorem lk_5_9 : Lk 5 9 (.ireturn) 0 0 (0) := ⟨1, 0, (congrArg (fun l => pm_look l 9) cq_5).trans rfl⟩
theorem cq_6 : pm_code 6 = cd_6 := rfl
theorem lk_6_0 : Lk 6 0 (.aload_n 0) 0 0 (0) := ⟨1, 0, (congrArg (fun l => pm_look l 0) cq_6).trans rfl⟩
theorem lk_6_1 : Lk 6 1 (.getfield 32) 0 2 (0) := ⟨3, 384, (congrArg (fun l => pm_look l 1) cq_6).trans rfl⟩
theorem lk_6_4 : Lk 6 4 (.ifCond .eq 4) 0 0 (0) := ⟨3, 0, (congrArg (fun l => pm_look l 4) cq_6).trans rfl⟩
theorem lk_6_7 : Lk 6 7 (.return_) 0 0 (0) := ⟨1, 0, (congrArg (fun l => pm_look l 7) cq_6).trans rfl⟩
theorem lk_6_8 : Lk 6 8 (.aload_n 0) 0 0 (0) := ⟨1, 0, (congrArg (fun l => pm_look l 8) cq_6).trans rfl⟩
theorem lk_6_9 : Lk 6 9 (.iconst 1) 0 0 (0) := ⟨1, 0, (congrArg (fun l => pm_look l 9) cq_6).trans rfl⟩
theorem lk_6_10 : Lk 6 10 (.putfield 32) 0 2 (0) := ⟨3, 384, (congrArg (fun l => pm_look l 10) cq_6).trans rfl⟩
theorem lk_6_13 : Lk 6 13 (.aload_n 0) 0 0 (0) := ⟨1, 0, (congrArg (fun l => pm_look l 13) cq_6).trans rfl⟩
theorem lk_6_14 : Lk 6 14 (.getfield 9) 0 1 (2) := ⟨3, 383, (congrArg (fun l => pm_look l 14) cq_6).trans rfl⟩
theorem lk_6_17 : Lk 6 17 (.arraylength) 0 0 (0) := ⟨1, 0, (congrArg (fun l => pm_look l 17) cq_6).trans rfl⟩
theorem lk_6_18 : Lk 6 18 (.aload_n 0) 0 0 (0) := ⟨1, 0, (congrArg (fun l => pm_look l 18) cq_6).trans rfl⟩
theorem lk_6_19 : Lk 6 19 (.invokevirtual 36) 1 0 (0) := ⟨3, 957, (congrArg (fun l => pm_look l 19) cq_6).trans rfl⟩
theorem lk_6_22 : Lk 6 22 (.if_icmp .ge 13) 0 0 (0) := ⟨3, 0, (congrArg (fun l => pm_look l 22) cq_6).trans rfl⟩
theorem lk_6_25 : Lk 6 25 (.aload_n 0) 0 0 (0) := ⟨1, 0, (congrArg (fun l => pm_look l 25) cq_6).trans rfl⟩
theorem lk_6_26 : Lk 6 26 (.aload_n 0) 0 0 (0) := ⟨1, 0, (congrArg (fun l => pm_look l 26) cq_6).trans rfl⟩
theorem lk_6_27 : Lk 6 27 (.invokevirtual 36) 1 0 (0) := ⟨3, 957, (congrArg (fun l => pm_look l 27) cq_6).trans rfl⟩
theorem lk_6_30 : Lk 6 30 (.newarray .int) 100 0 (0) := ⟨2, 0, (congrArg (fun l => pm_look l 30) cq_6).trans rfl⟩
theorem lk_6_32 : Lk 6 32 (.putfield 9) 0 1 (2) := ⟨3, 383, (congrArg (fun l => pm_look l 32) cq_6).trans rfl⟩
theorem lk_6_35 : Lk 6 35 (.iconst 1) 0 0 (0) := ⟨1, 0, (congrArg (fun l => pm_look l 35) cq_6).trans rfl⟩
theorem lk_6_36 : Lk 6 36 (.istore_n 1) 0 0 (0) := ⟨1, 0, (congrArg (fun l => pm_look l 36) cq_6).trans rfl⟩
theorem lk_6_37 : Lk 6 37 (.iload_n 1) 0 0 (0) := ⟨1, 0, (congrArg (fun l => pm_look l 37) cq_6).trans rfl⟩
theorem lk_6_38 : Lk 6 38 (.aload_n 0) 0 0 (0) := ⟨1, 0, (congrArg (fun l => pm_look l 38) cq_6).trans rfl⟩
theorem lk_6_39 : Lk 6 39 (.getfield 15) 0 0 (2) := ⟨3, 379, (congrArg (fun l => pm_look l 39) cq_6).trans rfl⟩
theorem lk_6_42 : Lk 6 42 (.invokevirtual 40) 86 0 (0) := ⟨3, 961, (congrArg (fun l => pm_look l 42) cq_6).trans rfl⟩
theorem lk_6_45 : Lk 6 45 (.if_icmp .gt 87) 0 0 (0) := ⟨3, 0, (congrArg (fun l => pm_look l 45) cq_6).trans rfl⟩
theorem lk_6_48 : Lk 6 48 (.iload_n 1) 0 0 (0) := ⟨1, 0, (congrArg (fun l => pm_look l 48) cq_6).trans rfl⟩
theorem lk_6_49 : Lk 6 49 (.iload_n 1) 0 0 (0) := ⟨1, 0, (congrArg (fun l => pm_look l 49) cq_6).trans rfl⟩
theorem lk_6_50 : Lk 6 50 (.ineg) 0 0 (0) := ⟨1, 0, (congrArg (fun l => pm_look l 50) cq_6).trans rfl⟩
theorem lk_6_51 : Lk 6 51 (.iand) 0 0 (0) := ⟨1, 0, (congrArg (fun l => pm_look l 51) cq_6).trans rfl⟩
theorem lk_6_52 : Lk 6 52 (.istore_n 2) 0 0 (0) := ⟨1, 0, (congrArg (fun l => pm_look l 52) cq_6).trans rfl⟩
theorem lk_6_53 : Lk 6 53 (.iload_n 2) 0 0 (0) := ⟨1, 0, (congrArg (fun l => pm_look l 53) cq_6).trans rfl⟩
theorem lk_6_54 : Lk 6 54 (.iload_n 1) 0 0 (0) := ⟨1, 0, (congrArg (fun l => pm_look l 54) cq_6).trans rfl⟩
theorem lk_6_55 : Lk 6 55 (.if_icmp .ne 14) 0 0 (0) := ⟨3, 0, (congrArg (fun l => pm_look l 55) cq_6).trans rfl⟩
theorem lk_6_58 : Lk 6 58 (.aload_n 0) 0 0 (0) := ⟨1, 0, (congrArg (fun l => pm_look l 58) cq_6).trans rfl⟩
theorem lk_6_59 : Lk 6 59 (.iload_n 2) 0 0 (0) := ⟨1, 0, (congrArg (fun l => pm_look l 59) cq_6).trans rfl⟩
theorem lk_6_60 : Lk 6 60 (.invokestatic 43) 165 1 (0) := ⟨3, 962, (congrArg (fun l => pm_look l 60) cq_6).trans rfl⟩
theorem lk_6_63 : Lk 6 63 (.invokevirtual 47) 7 0 (0) := ⟨3, 963, (congrArg (fun l => pm_look l 63) cq_6).trans rfl⟩
theorem lk_6_66 : Lk 6 66 (.goto 60) 0 0 (0) := ⟨3, 0, (congrArg (fun l => pm_look l 66) cq_6).trans rfl⟩
theorem lk_6_69 : Lk 6 69 (.iconst 1) 0 0 (0) := ⟨1, 0, (congrArg (fun l => pm_look l 69) cq_6).trans rfl⟩
theorem lk_6_70 : Lk 6 70 (.istore_n 3) 0 0 (0) := ⟨1, 0, (congrArg (fun l => pm_look l 70) cq_6).trans rfl⟩
theorem lk_6_71 : Lk 6 71 (.iload_n 3) 0 0 (0) := ⟨1, 0, (congrArg (fun l => pm_look l 71) cq_6).trans rfl⟩
theorem lk_6_72 : Lk 6 72 (.aload_n 0) 0 0 (0) := ⟨1, 0, (congrArg (fun l => pm_look l 72) cq_6).trans rfl⟩
theorem lk_6_73 : Lk 6 73 (.getfield 15) 0 0 (2) := ⟨3, 379, (congrArg (fun l => pm_look l 73) cq_6).trans rfl⟩
theorem lk_6_76 : Lk 6 76 (.invokevirtual 51) 87 0 (0) := ⟨3, 975, (congrArg (fun l => pm_look l 76) cq_6).trans rfl⟩
theorem lk_6_79 : Lk 6 79 (.if_icmp .gt 47) 0 0 (0) := ⟨3, 0, (congrArg (fun l => pm_look l 79) cq_6).trans rfl⟩
theorem lk_6_82 : Lk 6 82 (.aload_n 0) 0 0 (0) := ⟨1, 0, (congrArg (fun l => pm_look l 82) cq_6).trans rfl⟩
theorem lk_6_83 : Lk 6 83 (.getfield 9) 0 1 (2) := ⟨3, 383, (congrArg (fun l => pm_look l 83) cq_6).trans rfl⟩
theorem lk_6_86 : Lk 6 86 (.aload_n 0) 0 0 (0) := ⟨1, 0, (congrArg (fun l => pm_look l 86) cq_6).trans rfl⟩
theorem lk_6_87 : Lk 6 87 (.iload_n 1) 0 0 (0) := ⟨1, 0, (congrArg (fun l => pm_look l 87) cq_6).trans rfl⟩
theorem lk_6_88 : Lk 6 88 (.iload_n 3) 0 0 (0) := ⟨1, 0, (congrArg (fun l => pm_look l 88) cq_6).trans rfl⟩
theorem lk_6_89 : Lk 6 89 (.invokevirtual 54) 2 0 (0) := ⟨3, 967, (congrArg (fun l => pm_look l 89) cq_6).trans rfl⟩
theorem lk_6_92 : Lk 6 92 (.aload_n 0) 0 0 (0) := ⟨1, 0, (congrArg (fun l => pm_look l 92) cq_6).trans rfl⟩
theorem lk_6_93 : Lk 6 93 (.getfield 9) 0 1 (2) := ⟨3, 383, (congrArg (fun l => pm_look l 93) cq_6).trans rfl⟩
theorem lk_6_96 : Lk 6 96 (.aload_n 0) 0 0 (0) := ⟨1, 0, (congrArg (fun l => pm_look l 96) cq_6).trans rfl⟩
theorem lk_6_97 : Lk 6 97 (.iload_n 2) 0 0 (0) := ⟨1, 0, (congrArg (fun l => pm_look l 97) cq_6).trans rfl⟩
theorem lk_6_98 : Lk 6 98 (.iload_n 3) 0 0 (0) := ⟨1, 0, (congrArg (fun l => pm_look l 98) cq_6).trans rfl⟩
theorem lk_6_99 : Lk 6 99 (.invokevirtual 54) 2 0 (0) := ⟨3, 967, (congrArg (fun l => pm_look l 99) cq_6).trans rfl⟩
theorem lk_6_102 : Lk 6 102 (.iaload) 0 0 (0) := ⟨1, 0, (congrArg (fun l => pm_look l 102) cq_6).trans rfl⟩
theorem lk_6_103 : Lk 6 103 (.aload_n 0) 0 0 (0) := ⟨1, 0, (congrArg (fun l => pm_look l 103) cq_6).trans rfl⟩
theorem lk_6_104 : Lk 6 104 (.getfield 9) 0 1 (2) := ⟨3, 383, (congrArg (fun l => pm_look l 104) cq_6).trans rfl⟩
theorem lk_6_107 : Lk 6 107 (.aload_n 0) 0 0 (0) := ⟨1, 0, (congrArg (fun l => pm_look l 107) cq_6).trans rfl⟩
theorem lk_6_108 : Lk 6 108 (.iload_n 1) 0 0 (0) := ⟨1, 0, (congrArg (fun l => pm_look l 108) cq_6).trans rfl⟩
theorem lk_6_109 : Lk 6 109 (.iload_n 2) 0 0 (0) := ⟨1, 0, (congrArg (fun l => pm_look l 109) cq_6).trans rfl⟩
theorem lk_6_110 : Lk 6 110 (.ixor) 0 0 (0) := ⟨1, 0, (congrArg (fun l => pm_look l 110) cq_6).trans rfl⟩
theorem lk_6_111 : Lk 6 111 (.iload_n 3) 0 0 (0) := ⟨1, 0, (congrArg (fun l => pm_look l 111) cq_6).trans rfl⟩
theorem lk_6_112 : Lk 6 112 (.invokevirtual 54) 2 0 (0) := ⟨3, 967, (congrArg (fun l => pm_look l 112) cq_6).trans rfl⟩
theorem lk_6_115 : Lk 6 115 (.iaload) 0 0 (0) := ⟨1, 0, (congrArg (fun l => pm_look l 115) cq_6).trans rfl⟩
theorem lk_6_116 : Lk 6 116 (.invokestatic 58) 8 0 (0) := ⟨3, 972, (congrArg (fun l => pm_look l 116) cq_6).trans rfl⟩
theorem lk_6_119 : Lk 6 119 (.iastore) 0 0 (0) := ⟨1, 0, (congrArg (fun l => pm_look l 119) cq_6).trans rfl⟩
theorem lk_6_120 : Lk 6 120 (.iinc 3 1) 0 0 (0) := ⟨3, 0, (congrArg (fun l => pm_look l 120) cq_6).trans rfl⟩
theorem lk_6_123 : Lk 6 123 (.goto (-52)) 0 0 (0) := ⟨3, 0, (congrArg (fun l => pm_look l 123) cq_6).trans rfl⟩
theorem lk_6_126 : Lk 6 126 (.iinc 1 1) 0 0 (0) := ⟨3, 0, (congrArg (fun l => pm_look l 126) cq_6).trans rfl⟩
theorem lk_6_129 : Lk 6 129 (.goto (-92)) 0 0 (0) := ⟨3, 0, (congrArg (fun l => pm_look l 129) cq_6).trans rfl⟩
theorem lk_6_132 : Lk 6 132 (.return_) 0 0 (0) := ⟨1, 0, (congrArg (fun l => pm_look l 132) cq_6).trans rfl⟩
theorem cq_7 : pm_code 7 = cd_7 := rfl
theorem lk_7_0 : Lk 7 0 (.aload_n 0) 0 0 (0) := ⟨1, 0, (congrArg (fun l => pm_look l 0) cq_7).trans rfl⟩
theorem lk_7_1 : Lk 7 1 (.getfield 9) 0 1 (2) := ⟨3, 383, (congrArg (fun l => pm_look l 1) cq_7).trans rfl⟩
theorem lk_7_4 : Lk 7 4 (.aload_n 0) 0 0 (0) := ⟨1, 0, (congrArg (fun l => pm_look l 4) cq_7).trans rfl⟩
theorem lk_7_5 : Lk 7 5 (.iconst 1) 0 0 (0) := ⟨1, 0, (congrArg (fun l => pm_look l 5) cq_7).trans rfl⟩
theorem lk_7_6 : Lk 7 6 (.iload_n 1) 0 0 (0) := ⟨1, 0, (congrArg (fun l => pm_look l 6) cq_7).trans rfl⟩
theorem lk_7_7 : Lk 7 7 (.ishl) 0 0 (0) := ⟨1, 0, (congrArg (fun l => pm_look l 7) cq_7).trans rfl⟩
theorem lk_7_8 : Lk 7 8 (.iconst 0) 0 0 (0) := ⟨1, 0, (congrArg (fun l => pm_look l 8) cq_7).trans rfl⟩
theorem lk_7_9 : Lk 7 9 (.invokevirtual 54) 2 0 (0) := ⟨3, 967, (congrArg (fun l => pm_look l 9) cq_7).trans rfl⟩
theorem lk_7_12 : Lk 7 12 (.iconst 0) 0 0 (0) := ⟨1, 0, (congrArg (fun l => pm_look l 12) cq_7).trans rfl⟩
theorem lk_7_13 : Lk 7 13 (.iastore) 0 0 (0) := ⟨1, 0, (congrArg (fun l => pm_look l 13) cq_7).trans rfl⟩
theorem lk_7_14 : Lk 7 14 (.iconst 0) 0 0 (0) := ⟨1, 0, (congrArg (fun l => pm_look l 14) cq_7).trans rfl⟩
theorem lk_7_15 : Lk 7 15 (.istore_n 2) 0 0 (0) := ⟨1, 0, (congrArg (fun l => pm_look l 15) cq_7).trans rfl⟩
theorem lk_7_16 : Lk 7 16 (.iload_n 2) 0 0 (0) := ⟨1, 0, (congrArg (fun l => pm_look l 16) cq_7).trans rfl⟩
theorem lk_7_17 : Lk 7 17 (.aload_n 0) 0 0 (0) := ⟨1, 0, (congrArg (fun l => pm_look l 17) cq_7).trans rfl⟩
theorem lk_7_18 : Lk 7 18 (.getfield 15) 0 0 (2) := ⟨3, 379, (congrArg (fun l => pm_look l 18) cq_7).trans rfl⟩
theorem lk_7_21 : Lk 7 21 (.getfield 25) 8 2 (0) := ⟨3, 159, (congrArg (fun l => pm_look l 21) cq_7).trans rfl⟩
theorem lk_7_24 : Lk 7 24 (.if_icmp .ge 92) 0 0 (0) := ⟨3, 0, (congrArg (fun l => pm_look l 24) cq_7).trans rfl⟩
theorem lk_7_27 : Lk 7 27 (.aload_n 0) 0 0 (0) := ⟨1, 0, (congrArg (fun l => pm_look l 27) cq_7).trans rfl⟩
theorem lk_7_28 : Lk 7 28 (.getfield 15) 0 0 (2) := ⟨3, 379, (congrArg (fun l => pm_look l 28) cq_7).trans rfl⟩
theorem lk_7_31 : Lk 7 31 (.iload_n 1) 0 0 (0) := ⟨1, 0, (congrArg (fun l => pm_look l 31) cq_7).trans rfl⟩
theorem lk_7_32 : Lk 7 32 (.iload_n 2) 0 0 (0) := ⟨1, 0, (congrArg (fun l => pm_look l 32) cq_7).trans rfl⟩
theorem lk_7_33 : Lk 7 33 (.invokevirtual 61) 85 0 (0) := ⟨3, 971, (congrArg (fun l => pm_look l 33) cq_7).trans rfl⟩
theorem lk_7_36 : Lk 7 36 (.istore_n 3) 0 0 (0) := ⟨1, 0, (congrArg (fun l => pm_look l 36) cq_7).trans rfl⟩
theorem lk_7_37 : Lk 7 37 (.iload_n 3) 0 0 (0) := ⟨1, 0, (congrArg (fun l => pm_look l 37) cq_7).trans rfl⟩
theorem lk_7_38 : Lk 7 38 (.bipush 10) 0 0 (0) := ⟨2, 0, (congrArg (fun l => pm_look l 38) cq_7).trans rfl⟩
theorem lk_7_40 : Lk 7 40 (.if_icmp .ne 7) 0 0 (0) := ⟨3, 0, (congrArg (fun l => pm_look l 40) cq_7).trans rfl⟩
theorem lk_7_43 : Lk 7 43 (.iconst 0) 0 0 (0) := ⟨1, 0, (congrArg (fun l => pm_look l 43) cq_7).trans rfl⟩
theorem lk_7_44 : Lk 7 44 (.goto 10) 0 0 (0) := ⟨3, 0, (congrArg (fun l => pm_look l 44) cq_7).trans rfl⟩
theorem lk_7_47 : Lk 7 47 (.iconst 1) 0 0 (0) := ⟨1, 0, (congrArg (fun l => pm_look l 47) cq_7).trans rfl⟩
theorem lk_7_48 : Lk 7 48 (.iload_n 3) 0 0 (0) := ⟨1, 0, (congrArg (fun l => pm_look l 48) cq_7).trans rfl⟩
theorem lk_7_49 : Lk 7 49 (.ishl) 0 0 (0) := ⟨1, 0, (congrArg (fun l => pm_look l 49) cq_7).trans rfl⟩
theorem lk_7_50 : Lk 7 50 (.sipush 1024) 0 0 (0) := ⟨3, 0, (congrArg (fun l => pm_look l 50) cq_7).trans rfl⟩
theorem lk_7_53 : Lk 7 53 (.iadd) 0 0 (0) := ⟨1, 0, (congrArg (fun l => pm_look l 53) cq_7).trans rfl⟩
theorem lk_7_54 : Lk 7 54 (.istore 4) 0 0 (0) := ⟨2, 0, (congrArg (fun l => pm_look l 54) cq_7).trans rfl⟩
theorem lk_7_56 : Lk 7 56 (.iconst 0) 0 0 (0) := ⟨1, 0, (congrArg (fun l => pm_look l 56) cq_7).trans rfl⟩
theorem lk_7_57 : Lk 7 57 (.istore 5) 0 0 (0) := ⟨2, 0, (congrArg (fun l => pm_look l 57) cq_7).trans rfl⟩
theorem lk_7_59 : Lk 7 59 (.iload 5) 0 0 (0) := ⟨2, 0, (congrArg (fun l => pm_look l 59) cq_7).trans rfl⟩
theorem lk_7_61 : Lk 7 61 (.iconst 1) 0 0 (0) := ⟨1, 0, (congrArg (fun l => pm_look l 61) cq_7).trans rfl⟩
theorem lk_7_62 : Lk 7 62 (.iload_n 2) 0 0 (0) := ⟨1, 0, (congrArg (fun l => pm_look l 62) cq_7).trans rfl⟩
theorem lk_7_63 : Lk 7 63 (.ishl) 0 0 (0) := ⟨1, 0, (congrArg (fun l => pm_look l 63) cq_7).trans rfl⟩
theorem lk_7_64 : Lk 7 64 (.if_icmp .ge 46) 0 0 (0) := ⟨3, 0, (congrArg (fun l => pm_look l 64) cq_7).trans rfl⟩
theorem lk_7_67 : Lk 7 67 (.aload_n 0) 0 0 (0) := ⟨1, 0, (congrArg (fun l => pm_look l 67) cq_7).trans rfl⟩
theorem lk_7_68 : Lk 7 68 (.getfield 9) 0 1 (2) := ⟨3, 383, (congrArg (fun l => pm_look l 68) cq_7).trans rfl⟩
theorem lk_7_71 : Lk 7 71 (.aload_n 0) 0 0 (0) := ⟨1, 0, (congrArg (fun l => pm_look l 71) cq_7).trans rfl⟩
theorem lk_7_72 : Lk 7 72 (.iconst 1) 0 0 (0) := ⟨1, 0, (congrArg (fun l => pm_look l 72) cq_7).trans rfl⟩
theorem lk_7_73 : Lk 7 73 (.iload_n 1) 0 0 (0) := ⟨1, 0, (congrArg (fun l => pm_look l 73) cq_7).trans rfl⟩
theorem lk_7_74 : Lk 7 74 (.ishl) 0 0 (0) := ⟨1, 0, (congrArg (fun l => pm_look l 74) cq_7).trans rfl⟩
theorem lk_7_75 : Lk 7 75 (.iload 5) 0 0 (0) := ⟨2, 0, (congrArg (fun l => pm_look l 75) cq_7).trans rfl⟩
theorem lk_7_77 : Lk 7 77 (.iconst 1) 0 0 (0) := ⟨1, 0, (congrArg (fun l => pm_look l 77) cq_7).trans rfl⟩
theorem lk_7_78 : Lk 7 78 (.iload_n 2) 0 0 (0) := ⟨1, 0, (congrArg (fun l => pm_look l 78) cq_7).trans rfl⟩
theorem lk_7_79 : Lk 7 79 (.ishl) 0 0 (0) := ⟨1, 0, (congrArg (fun l => pm_look l 79) cq_7).trans rfl⟩
theorem lk_7_80 : Lk 7 80 (.ior) 0 0 (0) := ⟨1, 0, (congrArg (fun l => pm_look l 80) cq_7).trans rfl⟩
theorem lk_7_81 : Lk 7 81 (.invokevirtual 54) 2 0 (0) := ⟨3, 967, (congrArg (fun l => pm_look l 81) cq_7).trans rfl⟩
theorem lk_7_84 : Lk 7 84 (.iload 4) 0 0 (0) := ⟨2, 0, (congrArg (fun l => pm_look l 84) cq_7).trans rfl⟩
theorem lk_7_86 : Lk 7 86 (.aload_n 0) 0 0 (0) := ⟨1, 0, (congrArg (fun l => pm_look l 86) cq_7).trans rfl⟩
theorem lk_7_87 : Lk 7 87 (.getfield 9) 0 1 (2) := ⟨3, 383, (congrArg (fun l => pm_look l 87) cq_7).trans rfl⟩
theorem lk_7_90 : Lk 7 90 (.aload_n 0) 0 0 (0) := ⟨1, 0, (congrArg (fun l => pm_look l 90) cq_7).trans rfl⟩
theorem lk_7_91 : Lk 7 91 (.iconst 1) 0 0 (0) := ⟨1, 0, (congrArg (fun l => pm_look l 91) cq_7).trans rfl⟩
theorem lk_7_92 : Lk 7 92 (.iload_n 1) 0 0 (0) := ⟨1, 0, (congrArg (fun l => pm_look l 92) cq_7).trans rfl⟩
theorem lk_7_93 : Lk 7 93 (.ishl) 0 0 (0) := ⟨1, 0, (congrArg (fun l => pm_look l 93) cq_7).trans rfl⟩
theorem lk_7_94 : Lk 7 94 (.iload 5) 0 0 (0) := ⟨2, 0, (congrArg (fun l => pm_look l 94) cq_7).trans rfl⟩
theorem lk_7_96 : Lk 7 96 (.invokevirtual 54) 2 0 (0) := ⟨3, 967, (congrArg (fun l => pm_look l 96) cq_7).trans rfl⟩
theorem lk_7_99 : Lk 7 99 (.iaload) 0 0 (0) := ⟨1, 0, (congrArg (fun l => pm_look l 99) cq_7).trans rfl⟩
theorem lk_7_100 : Lk 7 100 (.invokestatic 58) 8 0 (0) := ⟨3, 972, (congrArg (fun l => pm_look l 100) cq_7).trans rfl⟩
theorem lk_7_103 : Lk 7 103 (.iastore) 0 0 (0) := ⟨1, 0, (congrArg (fun l => pm_look l 103) cq_7).trans rfl⟩
theorem lk_7_104 : Lk 7 104 (.iinc 5 1) 0 0 (0) := ⟨3, 0, (congrArg (fun l => pm_look l 104) cq_7).trans rfl⟩
theorem lk_7_107 : Lk 7 107 (.goto (-48)) 0 0 (0) := ⟨3, 0, (congrArg (fun l => pm_look l 107) cq_7).trans rfl⟩
theorem lk_7_110 : Lk 7 110 (.iinc 2 1) 0 0 (0) := ⟨3, 0, (congrArg (fun l => pm_look l 110) cq_7).trans rfl⟩
theorem lk_7_113 : Lk 7 113 (.goto (-97)) 0 0 (0) := ⟨3, 0, (congrArg (fun l => pm_look l 113) cq_7).trans rfl⟩
theorem lk_7_116 : Lk 7 116 (.return_) 0 0 (0) := ⟨1, 0, (congrArg (fun l => pm_look l 116) cq_7).trans rfl⟩
theorem cq_8 : pm_code 8 = cd_8 := rfl
theorem lk_8_0 : Lk 8 0 (.iload_n 0) 0 0 (0) := ⟨1, 0, (congrArg (fun l => pm_look l 0) cq_8).trans rfl⟩
theorem lk_8_1 : Lk 8 1 (.iload_n 1) 0 0 (0) := ⟨1, 0, (congrArg (fun l => pm_look l 1) cq_8).trans rfl⟩
theorem lk_8_2 : Lk 8 2 (.ior) 0 0 (0) := ⟨1, 0, (congrArg (fun l => pm_look l 2) cq_8).trans rfl⟩
theorem lk_8_3 : Lk 8 3 (.sipush 1023) 0 0 (0) := ⟨3, 0, (congrArg (fun l => pm_look l 3) cq_8).trans rfl⟩
theorem lk_8_6 : Lk 8 6 (.iand) 0 0 (0) := ⟨1, 0, (congrArg (fun l => pm_look l 6) cq_8).trans rfl⟩
theorem lk_8_7 : Lk 8 7 (.iload_n 0) 0 0 (0) := ⟨1, 0, (congrArg (fun l => pm_look l 7) cq_8).trans rfl⟩
theorem lk_8_8 : Lk 8 8 (.sipush (-1024)) 0 0 (0) := ⟨3, 0, (congrArg (fun l => pm_look l 8) cq_8).trans rfl⟩
theorem lk_8_11 : Lk 8 11 (.iand) 0 0 (0) := ⟨1, 0, (congrArg (fun l => pm_look l 11) cq_8).trans rfl⟩
theorem lk_8_12 : Lk 8 12 (.iadd) 0 0 (0) := ⟨1, 0, (congrArg (fun l => pm_look l 12) cq_8).trans rfl⟩
theorem lk_8_13 : Lk 8 13 (.iload_n 1) 0 0 (0) := ⟨1, 0, (congrArg (fun l => pm_look l 13) cq_8).trans rfl⟩
theorem lk_8_14 : Lk 8 14 (.sipush (-1024)) 0 0 (0) := ⟨3, 0, (congrArg (fun l => pm_look l 14) cq_8).trans rfl⟩
theorem lk_8_17 : Lk 8 17 (.iand) 0 0 (0) := ⟨1, 0, (congrArg (fun l => pm_look l 17) cq_8).trans rfl⟩
theorem lk_8_18 : Lk 8 18 (.iadd) 0 0 (0) := ⟨1, 0, (congrArg (fun l => pm_look l 18) cq_8).trans rfl⟩
theorem lk_8_19 : Lk 8 19 (.ireturn) 0 0 (0) := ⟨1, 0, (congrArg (fun l => pm_look l 19) cq_8).trans rfl⟩
theorem cq_9 : pm_code 9 = cd_9 := rfl
theorem lk_9_0 : Lk 9 0 (.iload_n 2) 0 0 (0) := ⟨1, 0, (congrArg (fun l => pm_look l 0) cq_9).trans rfl⟩
theorem lk_9_1 : Lk 9 1 (.iload_n 2) 0 0 (0) := ⟨1, 0, (congrArg (fun l => pm_look l 1) cq_9).trans rfl⟩
theorem lk_9_2 : Lk 9 2 (.ineg) 0 0 (0) := ⟨1, 0, (congrArg (fun l => pm_look l 2) cq_9).trans rfl⟩
theorem lk_9_3 : Lk 9 3 (.iand) 0 0 (0) := ⟨1, 0, (congrArg (fun l => pm_look l 3) cq_9).trans rfl⟩
theorem lk_9_4 : Lk 9 4 (.istore 6) 0 0 (0) := ⟨2, 0, (congrArg (fun l => pm_look l 4) cq_9).trans rfl⟩
theorem lk_9_6 : Lk 9 6 (.iload_n 2) 0 0 (0) := ⟨1, 0, (congrArg (fun l => pm_look l 6) cq_9).trans rfl⟩
theorem lk_9_7 : Lk 9 7 (.iload 6) 0 0 (0) := ⟨2, 0, (congrArg (fun l => pm_look l 7) cq_9).trans rfl⟩
theorem lk_9_9 : Lk 9 9 (.ixor) 0 0 (0) := ⟨1, 0, (congrArg (fun l => pm_look l 9) cq_9).trans rfl⟩
theorem lk_9_10 : Lk 9 10 (.istore 7) 0 0 (0) := ⟨2, 0, (congrArg (fun l => pm_look l 10) cq_9).trans rfl⟩
theorem lk_9_12 : Lk 9 12 (.ldc 64) 0 0 (1000000) := ⟨2, 993, (congrArg (fun l => pm_look l 12) cq_9).trans rfl⟩
theorem lk_9_14 : Lk 9 14 (.istore 8) 0 0 (0) := ⟨2, 0, (congrArg (fun l => pm_look l 14) cq_9).trans rfl⟩
theorem lk_9_16 : Lk 9 16 (.aload_n 0) 0 0 (0) := ⟨1, 0, (congrArg (fun l => pm_look l 16) cq_9).trans rfl⟩
theorem lk_9_17 : Lk 9 17 (.iconst 0) 0 0 (0) := ⟨1, 0, (congrArg (fun l => pm_look l 17) cq_9).trans rfl⟩
theorem lk_9_18 : Lk 9 18 (.putfield 65) 0 3 (0) := ⟨3, 387, (congrArg (fun l => pm_look l 18) cq_9).trans rfl⟩
theorem lk_9_21 : Lk 9 21 (.iload 7) 0 0 (0) := ⟨2, 0, (congrArg (fun l => pm_look l 21) cq_9).trans rfl⟩
theorem lk_9_23 : Lk 9 23 (.istore 9) 0 0 (0) := ⟨2, 0, (congrArg (fun l => pm_look l 23) cq_9).trans rfl⟩
theorem lk_9_25 : Lk 9 25 (.iload 9) 0 0 (0) := ⟨2, 0, (congrArg (fun l => pm_look l 25) cq_9).trans rfl⟩
theorem lk_9_27 : Lk 9 27 (.ifCond .le 85) 0 0 (0) := ⟨3, 0, (congrArg (fun l => pm_look l 27) cq_9).trans rfl⟩
theorem lk_9_30 : Lk 9 30 (.iload 9) 0 0 (0) := ⟨2, 0, (congrArg (fun l => pm_look l 30) cq_9).trans rfl⟩
theorem lk_9_32 : Lk 9 32 (.iconst 1) 0 0 (0) := ⟨1, 0, (congrArg (fun l => pm_look l 32) cq_9).trans rfl⟩
theorem lk_9_33 : Lk 9 33 (.isub) 0 0 (0) := ⟨1, 0, (congrArg (fun l => pm_look l 33) cq_9).trans rfl⟩
theorem lk_9_34 : Lk 9 34 (.iload 7) 0 0 (0) := ⟨2, 0, (congrArg (fun l => pm_look l 34) cq_9).trans rfl⟩
theorem lk_9_36 : Lk 9 36 (.iand) 0 0 (0) := ⟨1, 0, (congrArg (fun l => pm_look l 36) cq_9).trans rfl⟩
theorem lk_9_37 : Lk 9 37 (.istore 9) 0 0 (0) := ⟨2, 0, (congrArg (fun l => pm_look l 37) cq_9).trans rfl⟩
theorem lk_9_39 : Lk 9 39 (.aload_n 1) 0 0 (0) := ⟨1, 0, (congrArg (fun l => pm_look l 39) cq_9).trans rfl⟩
theorem lk_9_40 : Lk 9 40 (.iload 6) 0 0 (0) := ⟨2, 0, (congrArg (fun l => pm_look l 40) cq_9).trans rfl⟩
theorem lk_9_42 : Lk 9 42 (.iload 9) 0 0 (0) := ⟨2, 0, (congrArg (fun l => pm_look l 42) cq_9).trans rfl⟩
theorem lk_9_44 : Lk 9 44 (.ior) 0 0 (0) := ⟨1, 0, (congrArg (fun l => pm_look l 44) cq_9).trans rfl⟩
theorem lk_9_45 : Lk 9 45 (.iload_n 3) 0 0 (0) := ⟨1, 0, (congrArg (fun l => pm_look l 45) cq_9).trans rfl⟩
theorem lk_9_46 : Lk 9 46 (.ishl) 0 0 (0) := ⟨1, 0, (congrArg (fun l => pm_look l 46) cq_9).trans rfl⟩
theorem lk_9_47 : Lk 9 47 (.iload 4) 0 0 (0) := ⟨2, 0, (congrArg (fun l => pm_look l 47) cq_9).trans rfl⟩
theorem lk_9_49 : Lk 9 49 (.ior) 0 0 (0) := ⟨1, 0, (congrArg (fun l => pm_look l 49) cq_9).trans rfl⟩
theorem lk_9_50 : Lk 9 50 (.iaload) 0 0 (0) := ⟨1, 0, (congrArg (fun l => pm_look l 50) cq_9).trans rfl⟩
theorem lk_9_51 : Lk 9 51 (.istore 10) 0 0 (0) := ⟨2, 0, (congrArg (fun l => pm_look l 51) cq_9).trans rfl⟩
theorem lk_9_53 : Lk 9 53 (.aload_n 1) 0 0 (0) := ⟨1, 0, (congrArg (fun l => pm_look l 53) cq_9).trans rfl⟩
theorem lk_9_54 : Lk 9 54 (.iload 7) 0 0 (0) := ⟨2, 0, (congrArg (fun l => pm_look l 54) cq_9).trans rfl⟩
theorem lk_9_56 : Lk 9 56 (.iload 9) 0 0 (0) := ⟨2, 0, (congrArg (fun l => pm_look l 56) cq_9).trans rfl⟩
theorem lk_9_58 : Lk 9 58 (.ixor) 0 0 (0) := ⟨1, 0, (congrArg (fun l => pm_look l 58) cq_9).trans rfl⟩
theorem lk_9_59 : Lk 9 59 (.iload_n 3) 0 0 (0) := ⟨1, 0, (congrArg (fun l => pm_look l 59) cq_9).trans rfl⟩
theorem lk_9_60 : Lk 9 60 (.ishl) 0 0 (0) := ⟨1, 0, (congrArg (fun l => pm_look l 60) cq_9).trans rfl⟩
theorem lk_9_61 : Lk 9 61 (.iload 4) 0 0 (0) := ⟨2, 0, (congrArg (fun l => pm_look l 61) cq_9).trans rfl⟩
theorem lk_9_63 : Lk 9 63 (.ior) 0 0 (0) := ⟨1, 0, (congrArg (fun l => pm_look l 63) cq_9).trans rfl⟩
theorem lk_9_64 : Lk 9 64 (.iaload) 0 0 (0) := ⟨1, 0, (congrArg (fun l => pm_look l 64) cq_9).trans rfl⟩
theorem lk_9_65 : Lk 9 65 (.istore 11) 0 0 (0) := ⟨2, 0, (congrArg (fun l => pm_look l 65) cq_9).trans rfl⟩
theorem lk_9_67 : Lk 9 67 (.iload 5) 0 0 (0) := ⟨2, 0, (congrArg (fun l => pm_look l 67) cq_9).trans rfl⟩
theorem lk_9_69 : Lk 9 69 (.ifCond .eq 11) 0 0 (0) := ⟨3, 0, (congrArg (fun l => pm_look l 69) cq_9).trans rfl⟩
theorem lk_9_72 : Lk 9 72 (.iload 10) 0 0 (0) := ⟨2, 0, (congrArg (fun l => pm_look l 72) cq_9).trans rfl⟩
theorem lk_9_74 : Lk 9 74 (.iload 11) 0 0 (0) := ⟨2, 0, (congrArg (fun l => pm_look l 74) cq_9).trans rfl⟩
theorem lk_9_76 : Lk 9 76 (.iadd) 0 0 (0) := ⟨1, 0, (congrArg (fun l => pm_look l 76) cq_9).trans rfl⟩
theorem lk_9_77 : Lk 9 77 (.goto 10) 0 0 (0) := ⟨3, 0, (congrArg (fun l => pm_look l 77) cq_9).trans rfl⟩
theorem lk_9_80 : Lk 9 80 (.iload 10) 0 0 (0) := ⟨2, 0, (congrArg (fun l => pm_look l 80) cq_9).trans rfl⟩
theorem lk_9_82 : Lk 9 82 (.iload 11) 0 0 (0) := ⟨2, 0, (congrArg (fun l => pm_look l 82) cq_9).trans rfl⟩
theorem lk_9_84 : Lk 9 84 (.invokestatic 68) 1000 0 (0) := ⟨3, 994, (congrArg (fun l => pm_look l 84) cq_9).trans rfl⟩
theorem lk_9_87 : Lk 9 87 (.istore 12) 0 0 (0) := ⟨2, 0, (congrArg (fun l => pm_look l 87) cq_9).trans rfl⟩
theorem lk_9_89 : Lk 9 89 (.iload 12) 0 0 (0) := ⟨2, 0, (congrArg (fun l => pm_look l 89) cq_9).trans rfl⟩
theorem lk_9_91 : Lk 9 91 (.iload 8) 0 0 (0) := ⟨2, 0, (congrArg (fun l => pm_look l 91) cq_9).trans rfl⟩
theorem lk_9_93 : Lk 9 93 (.if_icmp .gt 16) 0 0 (0) := ⟨3, 0, (congrArg (fun l => pm_look l 93) cq_9).trans rfl⟩
theorem lk_9_96 : Lk 9 96 (.iload 12) 0 0 (0) := ⟨2, 0, (congrArg (fun l => pm_look l 96) cq_9).trans rfl⟩
theorem lk_9_98 : Lk 9 98 (.istore 8) 0 0 (0) := ⟨2, 0, (congrArg (fun l => pm_look l 98) cq_9).trans rfl⟩
theorem lk_9_100 : Lk 9 100 (.aload_n 0) 0 0 (0) := ⟨1, 0, (congrArg (fun l => pm_look l 100) cq_9).trans rfl⟩
theorem lk_9_101 : Lk 9 101 (.iload 6) 0 0 (0) := ⟨2, 0, (congrArg (fun l => pm_look l 101) cq_9).trans rfl⟩
theorem lk_9_103 : Lk 9 103 (.iload 9) 0 0 (0) := ⟨2, 0, (congrArg (fun l => pm_look l 103) cq_9).trans rfl⟩
theorem lk_9_105 : Lk 9 105 (.ior) 0 0 (0) := ⟨1, 0, (congrArg (fun l => pm_look l 105) cq_9).trans rfl⟩
theorem lk_9_106 : Lk 9 106 (.putfield 65) 0 3 (0) := ⟨3, 387, (congrArg (fun l => pm_look l 106) cq_9).trans rfl⟩
theorem lk_9_109 : Lk 9 109 (.goto (-84)) 0 0 (0) := ⟨3, 0, (congrArg (fun l => pm_look l 109) cq_9).trans rfl⟩
theorem lk_9_112 : Lk 9 112 (.iload 8) 0 0 (0) := ⟨2, 0, (congrArg (fun l => pm_look l 112) cq_9).trans rfl⟩
theorem lk_9_114 : Lk 9 114 (.ireturn) 0 0 (0) := ⟨1, 0, (congrArg (fun l => pm_look l 114) cq_9).trans rfl⟩
theorem cq_10 : pm_code 10 = cd_10 := rfl
theorem lk_10_0 : Lk 10 0 (.aload_n 0) 0 0 (0) := ⟨1, 0, (congrArg (fun l => pm_look l 0) cq_10).trans rfl⟩
theorem lk_10_1 : Lk 10 1 (.invokespecial 3) 999 0 (0) := ⟨3, 492, (congrArg (fun l => pm_look l 1) cq_10).trans rfl⟩
theorem lk_10_4 : Lk 10 4 (.aload_n 0) 0 0 (0) := ⟨1, 0, (congrArg (fun l => pm_look l 4) cq_10).trans rfl⟩
theorem lk_10_5 : Lk 10 5 (.iconst 0) 0 0 (0) := ⟨1, 0, (congrArg (fun l => pm_look l 5) cq_10).trans rfl⟩
theorem lk_10_6 : Lk 10 6 (.newarray .int) 100 0 (0) := ⟨2, 0, (congrArg (fun l => pm_look l 6) cq_10).trans rfl⟩
theorem lk_10_8 : Lk 10 8 (.putfield 9) 1 4 (2) := ⟨3, 499, (congrArg (fun l => pm_look l 8) cq_10).trans rfl⟩
theorem lk_10_11 : Lk 10 11 (.aload_n 0) 0 0 (0) := ⟨1, 0, (congrArg (fun l => pm_look l 11) cq_10).trans rfl⟩
theorem lk_10_12 : Lk 10 12 (.aload_n 1) 0 0 (0) := ⟨1, 0, (congrArg (fun l => pm_look l 12) cq_10).trans rfl⟩
theorem lk_10_13 : Lk 10 13 (.putfield 15) 1 0 (2) := ⟨3, 495, (congrArg (fun l => pm_look l 13) cq_10).trans rfl⟩
theorem lk_10_16 : Lk 10 16 (.aload_n 0) 0 0 (0) := ⟨1, 0, (congrArg (fun l => pm_look l 16) cq_10).trans rfl⟩
theorem lk_10_17 : Lk 10 17 (.aload_n 1) 0 0 (0) := ⟨1, 0, (congrArg (fun l => pm_look l 17) cq_10).trans rfl⟩
theorem lk_10_18 : Lk 10 18 (.getfield 19) 0 0 (2) := ⟨3, 380, (congrArg (fun l => pm_look l 18) cq_10).trans rfl⟩
theorem lk_10_21 : Lk 10 21 (.putfield 25) 1 1 (2) := ⟨3, 496, (congrArg (fun l => pm_look l 21) cq_10).trans rfl⟩
theorem lk_10_24 : Lk 10 24 (.aload_n 0) 0 0 (0) := ⟨1, 0, (congrArg (fun l => pm_look l 24) cq_10).trans rfl⟩
theorem lk_10_25 : Lk 10 25 (.iload_n 2) 0 0 (0) := ⟨1, 0, (congrArg (fun l => pm_look l 25) cq_10).trans rfl⟩
theorem lk_10_26 : Lk 10 26 (.putfield 26) 1 2 (0) := ⟨3, 497, (congrArg (fun l => pm_look l 26) cq_10).trans rfl⟩
theorem lk_10_29 : Lk 10 29 (.aload_n 0) 0 0 (0) := ⟨1, 0, (congrArg (fun l => pm_look l 29) cq_10).trans rfl⟩
theorem lk_10_30 : Lk 10 30 (.new 30) 4 0 (0) := ⟨3, 493, (congrArg (fun l => pm_look l 30) cq_10).trans rfl⟩
theorem lk_10_33 : Lk 10 33 (.dup) 0 0 (0) := ⟨1, 0, (congrArg (fun l => pm_look l 33) cq_10).trans rfl⟩
theorem lk_10_34 : Lk 10 34 (.bipush 71) 0 0 (0) := ⟨2, 0, (congrArg (fun l => pm_look l 34) cq_10).trans rfl⟩
theorem lk_10_36 : Lk 10 36 (.invokespecial 32) 35 0 (0) := ⟨3, 494, (congrArg (fun l => pm_look l 36) cq_10).trans rfl⟩
theorem lk_10_39 : Lk 10 39 (.putfield 35) 1 3 (2) := ⟨3, 498, (congrArg (fun l => pm_look l 39) cq_10).trans rfl⟩
theorem lk_10_42 : Lk 10 42 (.return_) 0 0 (0) := ⟨1, 0, (congrArg (fun l => pm_look l 42) cq_10).trans rfl⟩
theorem cq_11 : pm_code 11 = cd_11 := rfl
theorem lk_11_0 : Lk 11 0 (.aload_n 0) 0 0 (0) := ⟨1, 0, (congrArg (fun l => pm_look l 0) cq_11).trans rfl⟩
theorem lk_11_1 : Lk 11 1 (.invokevirtual 39) 12 0 (0) := ⟨3, 949, (congrArg (fun l => pm_look l 1) cq_11).trans rfl⟩
theorem lk_11_4 : Lk 11 4 (.aload_n 0) 0 0 (0) := ⟨1, 0, (congrArg (fun l => pm_look l 4) cq_11).trans rfl⟩
theorem lk_11_5 : Lk 11 5 (.getfield 15) 1 0 (2) := ⟨3, 495, (congrArg (fun l => pm_look l 5) cq_11).trans rfl⟩
theorem lk_11_8 : Lk 11 8 (.iload_n 1) 0 0 (0) := ⟨1, 0, (congrArg (fun l => pm_look l 8) cq_11).trans rfl⟩
theorem lk_11_9 : Lk 11 9 (.iload_n 2) 0 0 (0) := ⟨1, 0, (congrArg (fun l => pm_look l 9) cq_11).trans rfl⟩
theorem lk_11_10 : Lk 11 10 (.invokevirtual 42) 2 0 (0) := ⟨3, 979, (congrArg (fun l => pm_look l 10) cq_11).trans rfl⟩
theorem lk_11_13 : Lk 11 13 (.istore_n 3) 0 0 (0) := ⟨1, 0, (congrArg (fun l => pm_look l 13) cq_11).trans rfl⟩
theorem lk_11_14 : Lk 11 14 (.iload_n 3) 0 0 (0) := ⟨1, 0, (congrArg (fun l => pm_look l 14) cq_11).trans rfl⟩
theorem lk_11_15 : Lk 11 15 (.ifCond .lt 21) 0 0 (0) := ⟨3, 0, (congrArg (fun l => pm_look l 15) cq_11).trans rfl⟩
theorem lk_11_18 : Lk 11 18 (.iload_n 3) 0 0 (0) := ⟨1, 0, (congrArg (fun l => pm_look l 18) cq_11).trans rfl⟩
theorem lk_11_19 : Lk 11 19 (.aload_n 0) 0 0 (0) := ⟨1, 0, (congrArg (fun l => pm_look l 19) cq_11).trans rfl⟩
theorem lk_11_20 : Lk 11 20 (.getfield 9) 1 4 (2) := ⟨3, 499, (congrArg (fun l => pm_look l 20) cq_11).trans rfl⟩
theorem lk_11_23 : Lk 11 23 (.arraylength) 0 0 (0) := ⟨1, 0, (congrArg (fun l => pm_look l 23) cq_11).trans rfl⟩
theorem lk_11_24 : Lk 11 24 (.if_icmp .ge 12) 0 0 (0) := ⟨3, 0, (congrArg (fun l => pm_look l 24) cq_11).trans rfl⟩
theorem lk_11_27 : Lk 11 27 (.aload_n 0) 0 0 (0) := ⟨1, 0, (congrArg (fun l => pm_look l 27) cq_11).trans rfl⟩
theorem lk_11_28 : Lk 11 28 (.getfield 9) 1 4 (2) := ⟨3, 499, (congrArg (fun l => pm_look l 28) cq_11).trans rfl⟩
theorem lk_11_31 : Lk 11 31 (.iload_n 3) 0 0 (0) := ⟨1, 0, (congrArg (fun l => pm_look l 31) cq_11).trans rfl⟩
theorem lk_11_32 : Lk 11 32 (.iaload) 0 0 (0) := ⟨1, 0, (congrArg (fun l => pm_look l 32) cq_11).trans rfl⟩
theorem lk_11_33 : Lk 11 33 (.goto 4) 0 0 (0) := ⟨3, 0, (congrArg (fun l => pm_look l 33) cq_11).trans rfl⟩
theorem lk_11_36 : Lk 11 36 (.iconst (-1)) 0 0 (0) := ⟨1, 0, (congrArg (fun l => pm_look l 36) cq_11).trans rfl⟩
theorem lk_11_37 : Lk 11 37 (.ireturn) 0 0 (0) := ⟨1, 0, (congrArg (fun l => pm_look l 37) cq_11).trans rfl⟩
theorem cq_12 : pm_code 12 = cd_12 := rfl
theorem lk_12_0 : Lk 12 0 (.aload_n 0) 0 0 (0) := ⟨1, 0, (congrArg (fun l => pm_look l 0) cq_12).trans rfl⟩
theorem lk_12_1 : Lk 12 1 (.getfield 46) 1 5 (0) := ⟨3, 500, (congrArg (fun l => pm_look l 1) cq_12).trans rfl⟩
theorem lk_12_4 : Lk 12 4 (.ifCond .eq 4) 0 0 (0) := ⟨3, 0, (congrArg (fun l => pm_look l 4) cq_12).trans rfl⟩
theorem lk_12_7 : Lk 12 7 (.return_) 0 0 (0) := ⟨1, 0, (congrArg (fun l => pm_look l 7) cq_12).trans rfl⟩
theorem lk_12_8 : Lk 12 8 (.aload_n 0) 0 0 (0) := ⟨1, 0, (congrArg (fun l => pm_look l 8) cq_12).trans rfl⟩
theorem lk_12_9 : Lk 12 9 (.iconst 1) 0 0 (0) := ⟨1, 0, (congrArg (fun l => pm_look l 9) cq_12).trans rfl⟩
theorem lk_12_10 : Lk 12 10 (.putfield 46) 1 5 (0) := ⟨3, 500, (congrArg (fun l => pm_look l 10) cq_12).trans rfl⟩
theorem lk_12_13 : Lk 12 13 (.aload_n 0) 0 0 (0) := ⟨1, 0, (congrArg (fun l => pm_look l 13) cq_12).trans rfl⟩
theorem lk_12_14 : Lk 12 14 (.getfield 15) 1 0 (2) := ⟨3, 495, (congrArg (fun l => pm_look l 14) cq_12).trans rfl⟩
theorem lk_12_17 : Lk 12 17 (.invokevirtual 50) 6 0 (0) := ⟨3, 953, (congrArg (fun l => pm_look l 17) cq_12).trans rfl⟩
theorem lk_12_20 : Lk 12 20 (.aload_n 0) 0 0 (0) := ⟨1, 0, (congrArg (fun l => pm_look l 20) cq_12).trans rfl⟩
theorem lk_12_21 : Lk 12 21 (.getfield 9) 1 4 (2) := ⟨3, 499, (congrArg (fun l => pm_look l 21) cq_12).trans rfl⟩
theorem lk_12_24 : Lk 12 24 (.arraylength) 0 0 (0) := ⟨1, 0, (congrArg (fun l => pm_look l 24) cq_12).trans rfl⟩
theorem lk_12_25 : Lk 12 25 (.aload_n 0) 0 0 (0) := ⟨1, 0, (congrArg (fun l => pm_look l 25) cq_12).trans rfl⟩
theorem lk_12_26 : Lk 12 26 (.getfield 15) 1 0 (2) := ⟨3, 495, (congrArg (fun l => pm_look l 26) cq_12).trans rfl⟩
theorem lk_12_29 : Lk 12 29 (.invokevirtual 53) 1 0 (0) := ⟨3, 976, (congrArg (fun l => pm_look l 29) cq_12).trans rfl⟩
theorem lk_12_32 : Lk 12 32 (.if_icmp .ge 16) 0 0 (0) := ⟨3, 0, (congrArg (fun l => pm_look l 32) cq_12).trans rfl⟩
theorem lk_12_35 : Lk 12 35 (.aload_n 0) 0 0 (0) := ⟨1, 0, (congrArg (fun l => pm_look l 35) cq_12).trans rfl⟩
theorem lk_12_36 : Lk 12 36 (.aload_n 0) 0 0 (0) := ⟨1, 0, (congrArg (fun l => pm_look l 36) cq_12).trans rfl⟩
theorem lk_12_37 : Lk 12 37 (.getfield 15) 1 0 (2) := ⟨3, 495, (congrArg (fun l => pm_look l 37) cq_12).trans rfl⟩
theorem lk_12_40 : Lk 12 40 (.invokevirtual 53) 1 0 (0) := ⟨3, 976, (congrArg (fun l => pm_look l 40) cq_12).trans rfl⟩
theorem lk_12_43 : Lk 12 43 (.newarray .int) 100 0 (0) := ⟨2, 0, (congrArg (fun l => pm_look l 43) cq_12).trans rfl⟩
theorem lk_12_45 : Lk 12 45 (.putfield 9) 1 4 (2) := ⟨3, 499, (congrArg (fun l => pm_look l 45) cq_12).trans rfl⟩
theorem lk_12_48 : Lk 12 48 (.aload_n 0) 0 0 (0) := ⟨1, 0, (congrArg (fun l => pm_look l 48) cq_12).trans rfl⟩
theorem lk_12_49 : Lk 12 49 (.getfield 25) 1 1 (2) := ⟨3, 496, (congrArg (fun l => pm_look l 49) cq_12).trans rfl⟩
theorem lk_12_52 : Lk 12 52 (.invokevirtual 57) 86 0 (0) := ⟨3, 977, (congrArg (fun l => pm_look l 52) cq_12).trans rfl⟩
theorem lk_12_55 : Lk 12 55 (.istore_n 1) 0 0 (0) := ⟨1, 0, (congrArg (fun l => pm_look l 55) cq_12).trans rfl⟩
theorem lk_12_56 : Lk 12 56 (.aload_n 0) 0 0 (0) := ⟨1, 0, (congrArg (fun l => pm_look l 56) cq_12).trans rfl⟩
theorem lk_12_57 : Lk 12 57 (.getfield 25) 1 1 (2) := ⟨3, 496, (congrArg (fun l => pm_look l 57) cq_12).trans rfl⟩
theorem lk_12_60 : Lk 12 60 (.invokevirtual 62) 87 0 (0) := ⟨3, 978, (congrArg (fun l => pm_look l 60) cq_12).trans rfl⟩
theorem lk_12_63 : Lk 12 63 (.istore_n 2) 0 0 (0) := ⟨1, 0, (congrArg (fun l => pm_look l 63) cq_12).trans rfl⟩
theorem lk_12_64 : Lk 12 64 (.iconst 1) 0 0 (0) := ⟨1, 0, (congrArg (fun l => pm_look l 64) cq_12).trans rfl⟩
theorem lk_12_65 : Lk 12 65 (.istore_n 3) 0 0 (0) := ⟨1, 0, (congrArg (fun l => pm_look l 65) cq_12).trans rfl⟩
theorem lk_12_66 : Lk 12 66 (.iload_n 3) 0 0 (0) := ⟨1, 0, (congrArg (fun l => pm_look l 66) cq_12).trans rfl⟩
theorem lk_12_67 : Lk 12 67 (.iload_n 1) 0 0 (0) := ⟨1, 0, (congrArg (fun l => pm_look l 67) cq_12).trans rfl⟩
theorem lk_12_68 : Lk 12 68 (.if_icmp .gt 95) 0 0 (0) := ⟨3, 0, (congrArg (fun l => pm_look l 68) cq_12).trans rfl⟩
theorem lk_12_71 : Lk 12 71 (.iconst 1) 0 0 (0) := ⟨1, 0, (congrArg (fun l => pm_look l 71) cq_12).trans rfl⟩
theorem lk_12_72 : Lk 12 72 (.istore 4) 0 0 (0) := ⟨2, 0, (congrArg (fun l => pm_look l 72) cq_12).trans rfl⟩
theorem lk_12_74 : Lk 12 74 (.iload 4) 0 0 (0) := ⟨2, 0, (congrArg (fun l => pm_look l 74) cq_12).trans rfl⟩
theorem lk_12_76 : Lk 12 76 (.iload_n 2) 0 0 (0) := ⟨1, 0, (congrArg (fun l => pm_look l 76) cq_12).trans rfl⟩
theorem lk_12_77 : Lk 12 77 (.if_icmp .gt 80) 0 0 (0) := ⟨3, 0, (congrArg (fun l => pm_look l 77) cq_12).trans rfl⟩
theorem lk_12_80 : Lk 12 80 (.aload_n 0) 0 0 (0) := ⟨1, 0, (congrArg (fun l => pm_look l 80) cq_12).trans rfl⟩
theorem lk_12_81 : Lk 12 81 (.getfield 15) 1 0 (2) := ⟨3, 495, (congrArg (fun l => pm_look l 81) cq_12).trans rfl⟩
theorem lk_12_84 : Lk 12 84 (.iload_n 3) 0 0 (0) := ⟨1, 0, (congrArg (fun l => pm_look l 84) cq_12).trans rfl⟩
theorem lk_12_85 : Lk 12 85 (.iload 4) 0 0 (0) := ⟨2, 0, (congrArg (fun l => pm_look l 85) cq_12).trans rfl⟩
theorem lk_12_87 : Lk 12 87 (.invokevirtual 42) 2 0 (0) := ⟨3, 979, (congrArg (fun l => pm_look l 87) cq_12).trans rfl⟩
theorem lk_12_90 : Lk 12 90 (.istore 5) 0 0 (0) := ⟨2, 0, (congrArg (fun l => pm_look l 90) cq_12).trans rfl⟩
theorem lk_12_92 : Lk 12 92 (.aload_n 0) 0 0 (0) := ⟨1, 0, (congrArg (fun l => pm_look l 92) cq_12).trans rfl⟩
theorem lk_12_93 : Lk 12 93 (.getfield 15) 1 0 (2) := ⟨3, 495, (congrArg (fun l => pm_look l 93) cq_12).trans rfl⟩
theorem lk_12_96 : Lk 12 96 (.iload 5) 0 0 (0) := ⟨2, 0, (congrArg (fun l => pm_look l 96) cq_12).trans rfl⟩
theorem lk_12_98 : Lk 12 98 (.invokevirtual 65) 4 0 (0) := ⟨3, 980, (congrArg (fun l => pm_look l 98) cq_12).trans rfl⟩
theorem lk_12_101 : Lk 12 101 (.ifCond .eq 26) 0 0 (0) := ⟨3, 0, (congrArg (fun l => pm_look l 101) cq_12).trans rfl⟩
theorem lk_12_104 : Lk 12 104 (.aload_n 0) 0 0 (0) := ⟨1, 0, (congrArg (fun l => pm_look l 104) cq_12).trans rfl⟩
theorem lk_12_105 : Lk 12 105 (.getfield 9) 1 4 (2) := ⟨3, 499, (congrArg (fun l => pm_look l 105) cq_12).trans rfl⟩
theorem lk_12_108 : Lk 12 108 (.iload 5) 0 0 (0) := ⟨2, 0, (congrArg (fun l => pm_look l 108) cq_12).trans rfl⟩
theorem lk_12_110 : Lk 12 110 (.aload_n 0) 0 0 (0) := ⟨1, 0, (congrArg (fun l => pm_look l 110) cq_12).trans rfl⟩
theorem lk_12_111 : Lk 12 111 (.getfield 26) 1 2 (0) := ⟨3, 497, (congrArg (fun l => pm_look l 111) cq_12).trans rfl⟩
theorem lk_12_114 : Lk 12 114 (.iconst 1) 0 0 (0) := ⟨1, 0, (congrArg (fun l => pm_look l 114) cq_12).trans rfl⟩
theorem lk_12_115 : Lk 12 115 (.if_icmp .ne 7) 0 0 (0) := ⟨3, 0, (congrArg (fun l => pm_look l 115) cq_12).trans rfl⟩
theorem lk_12_118 : Lk 12 118 (.iconst 1) 0 0 (0) := ⟨1, 0, (congrArg (fun l => pm_look l 118) cq_12).trans rfl⟩
theorem lk_12_119 : Lk 12 119 (.goto 4) 0 0 (0) := ⟨3, 0, (congrArg (fun l => pm_look l 119) cq_12).trans rfl⟩
theorem lk_12_122 : Lk 12 122 (.iconst 0) 0 0 (0) := ⟨1, 0, (congrArg (fun l => pm_look l 122) cq_12).trans rfl⟩
theorem lk_12_123 : Lk 12 123 (.iastore) 0 0 (0) := ⟨1, 0, (congrArg (fun l => pm_look l 123) cq_12).trans rfl⟩
theorem lk_12_124 : Lk 12 124 (.goto 27) 0 0 (0) := ⟨3, 0, (congrArg (fun l => pm_look l 124) cq_12).trans rfl⟩
theorem lk_12_127 : Lk 12 127 (.aload_n 0) 0 0 (0) := ⟨1, 0, (congrArg (fun l => pm_look l 127) cq_12).trans rfl⟩
theorem lk_12_128 : Lk 12 128 (.getfield 9) 1 4 (2) := ⟨3, 499, (congrArg (fun l => pm_look l 128) cq_12).trans rfl⟩
theorem lk_12_131 : Lk 12 131 (.iload 5) 0 0 (0) := ⟨2, 0, (congrArg (fun l => pm_look l 131) cq_12).trans rfl⟩
theorem lk_12_133 : Lk 12 133 (.aload_n 0) 0 0 (0) := ⟨1, 0, (congrArg (fun l => pm_look l 133) cq_12).trans rfl⟩
theorem lk_12_134 : Lk 12 134 (.iload_n 3) 0 0 (0) := ⟨1, 0, (congrArg (fun l => pm_look l 134) cq_12).trans rfl⟩
theorem lk_12_135 : Lk 12 135 (.iload 4) 0 0 (0) := ⟨2, 0, (congrArg (fun l => pm_look l 135) cq_12).trans rfl⟩
theorem lk_12_137 : Lk 12 137 (.invokevirtual 69) 13 0 (0) := ⟨3, 985, (congrArg (fun l => pm_look l 137) cq_12).trans rfl⟩
theorem lk_12_140 : Lk 12 140 (.aload_n 0) 0 0 (0) := ⟨1, 0, (congrArg (fun l => pm_look l 140) cq_12).trans rfl⟩
theorem lk_12_141 : Lk 12 141 (.iload_n 3) 0 0 (0) := ⟨1, 0, (congrArg (fun l => pm_look l 141) cq_12).trans rfl⟩
theorem lk_12_142 : Lk 12 142 (.iload 4) 0 0 (0) := ⟨2, 0, (congrArg (fun l => pm_look l 142) cq_12).trans rfl⟩
theorem lk_12_144 : Lk 12 144 (.invokevirtual 72) 14 0 (0) := ⟨3, 1003, (congrArg (fun l => pm_look l 144) cq_12).trans rfl⟩
theorem lk_12_147 : Lk 12 147 (.invokestatic 75) 1001 0 (0) := ⟨3, 1007, (congrArg (fun l => pm_look l 147) cq_12).trans rfl⟩
theorem lk_12_150 : Lk 12 150 (.iastore) 0 0 (0) := ⟨1, 0, (congrArg (fun l => pm_look l 150) cq_12).trans rfl⟩
theorem lk_12_151 : Lk 12 151 (.iinc 4 1) 0 0 (0) := ⟨3, 0, (congrArg (fun l => pm_look l 151) cq_12).trans rfl⟩
theorem lk_12_154 : Lk 12 154 (.goto (-80)) 0 0 (0) := ⟨3, 0, (congrArg (fun l => pm_look l 154) cq_12).trans rfl⟩
theorem lk_12_157 : Lk 12 157 (.iinc 3 1) 0 0 (0) := ⟨3, 0, (congrArg (fun l => pm_look l 157) cq_12).trans rfl⟩
theorem lk_12_160 : Lk 12 160 (.goto (-94)) 0 0 (0) := ⟨3, 0, (congrArg (fun l => pm_look l 160) cq_12).trans rfl⟩
theorem lk_12_163 : Lk 12 163 (.return_) 0 0 (0) := ⟨1, 0, (congrArg (fun l => pm_look l 163) cq_12).trans rfl⟩
theorem cq_13 : pm_code 13 = cd_13 := rfl
theorem lk_13_0 : Lk 13 0 (.aload_n 0) 0 0 (0) := ⟨1, 0, (congrArg (fun l => pm_look l 0) cq_13).trans rfl⟩
theorem lk_13_1 : Lk 13 1 (.getfield 15) 1 0 (2) := ⟨3, 495, (congrArg (fun l => pm_look l 1) cq_13).trans rfl⟩
theorem lk_13_4 : Lk 13 4 (.aload_n 0) 0 0 (0) := ⟨1, 0, (congrArg (fun l => pm_look l 4) cq_13).trans rfl⟩
theorem lk_13_5 : Lk 13 5 (.getfield 9) 1 4 (2) := ⟨3, 499, (congrArg (fun l => pm_look l 5) cq_13).trans rfl⟩
theorem lk_13_8 : Lk 13 8 (.iload_n 1) 0 0 (0) := ⟨1, 0, (congrArg (fun l => pm_look l 8) cq_13).trans rfl⟩
theorem lk_13_9 : Lk 13 9 (.aload_n 0) 0 0 (0) := ⟨1, 0, (congrArg (fun l => pm_look l 9) cq_13).trans rfl⟩
theorem lk_13_10 : Lk 13 10 (.getfield 25) 1 1 (2) := ⟨3, 496, (congrArg (fun l => pm_look l 10) cq_13).trans rfl⟩
theorem lk_13_13 : Lk 13 13 (.getfield 80) 8 2 (0) := ⟨3, 162, (congrArg (fun l => pm_look l 13) cq_13).trans rfl⟩
theorem lk_13_16 : Lk 13 16 (.iload_n 2) 0 0 (0) := ⟨1, 0, (congrArg (fun l => pm_look l 16) cq_13).trans rfl⟩
theorem lk_13_17 : Lk 13 17 (.aload_n 0) 0 0 (0) := ⟨1, 0, (congrArg (fun l => pm_look l 17) cq_13).trans rfl⟩
theorem lk_13_18 : Lk 13 18 (.getfield 26) 1 2 (0) := ⟨3, 497, (congrArg (fun l => pm_look l 18) cq_13).trans rfl⟩
theorem lk_13_21 : Lk 13 21 (.ifCond .eq 7) 0 0 (0) := ⟨3, 0, (congrArg (fun l => pm_look l 21) cq_13).trans rfl⟩
theorem lk_13_24 : Lk 13 24 (.iconst 1) 0 0 (0) := ⟨1, 0, (congrArg (fun l => pm_look l 24) cq_13).trans rfl⟩
theorem lk_13_25 : Lk 13 25 (.goto 4) 0 0 (0) := ⟨3, 0, (congrArg (fun l => pm_look l 25) cq_13).trans rfl⟩
theorem lk_13_28 : Lk 13 28 (.iconst 0) 0 0 (0) := ⟨1, 0, (congrArg (fun l => pm_look l 28) cq_13).trans rfl⟩
theorem lk_13_29 : Lk 13 29 (.invokevirtual 83) 9 0 (0) := ⟨3, 989, (congrArg (fun l => pm_look l 29) cq_13).trans rfl⟩
theorem lk_13_32 : Lk 13 32 (.aload_n 0) 0 0 (0) := ⟨1, 0, (congrArg (fun l => pm_look l 32) cq_13).trans rfl⟩
theorem lk_13_33 : Lk 13 33 (.aload_n 0) 0 0 (0) := ⟨1, 0, (congrArg (fun l => pm_look l 33) cq_13).trans rfl⟩
theorem lk_13_34 : Lk 13 34 (.getfield 25) 1 1 (2) := ⟨3, 496, (congrArg (fun l => pm_look l 34) cq_13).trans rfl⟩
theorem lk_13_37 : Lk 13 37 (.getfield 87) 8 3 (0) := ⟨3, 169, (congrArg (fun l => pm_look l 37) cq_13).trans rfl⟩
theorem lk_13_40 : Lk 13 40 (.aload_n 0) 0 0 (0) := ⟨1, 0, (congrArg (fun l => pm_look l 40) cq_13).trans rfl⟩
theorem lk_13_41 : Lk 13 41 (.getfield 15) 1 0 (2) := ⟨3, 495, (congrArg (fun l => pm_look l 41) cq_13).trans rfl⟩
theorem lk_13_44 : Lk 13 44 (.iload_n 1) 0 0 (0) := ⟨1, 0, (congrArg (fun l => pm_look l 44) cq_13).trans rfl⟩
theorem lk_13_45 : Lk 13 45 (.iload_n 2) 0 0 (0) := ⟨1, 0, (congrArg (fun l => pm_look l 45) cq_13).trans rfl⟩
theorem lk_13_46 : Lk 13 46 (.invokevirtual 42) 2 0 (0) := ⟨3, 979, (congrArg (fun l => pm_look l 46) cq_13).trans rfl⟩
theorem lk_13_49 : Lk 13 49 (.invokevirtual 90) 15 0 (0) := ⟨3, 995, (congrArg (fun l => pm_look l 49) cq_13).trans rfl⟩
theorem lk_13_52 : Lk 13 52 (.iadd) 0 0 (0) := ⟨1, 0, (congrArg (fun l => pm_look l 52) cq_13).trans rfl⟩
theorem lk_13_53 : Lk 13 53 (.ireturn) 0 0 (0) := ⟨1, 0, (congrArg (fun l => pm_look l 53) cq_13).trans rfl⟩
theorem cq_14 : pm_code 14 = cd_14 := rfl
theorem lk_14_0 : Lk 14 0 (.aload_n 0) 0 0 (0) := ⟨1, 0, (congrArg (fun l => pm_look l 0) cq_14).trans rfl⟩
theorem lk_14_1 : Lk 14 1 (.getfield 15) 1 0 (2) := ⟨3, 495, (congrArg (fun l => pm_look l 1) cq_14).trans rfl⟩
theorem lk_14_4 : Lk 14 4 (.aload_n 0) 0 0 (0) := ⟨1, 0, (congrArg (fun l => pm_look l 4) cq_14).trans rfl⟩
theorem lk_14_5 : Lk 14 5 (.getfield 9) 1 4 (2) := ⟨3, 499, (congrArg (fun l => pm_look l 5) cq_14).trans rfl⟩
theorem lk_14_8 : Lk 14 8 (.iload_n 2) 0 0 (0) := ⟨1, 0, (congrArg (fun l => pm_look l 8) cq_14).trans rfl⟩
theorem lk_14_9 : Lk 14 9 (.iconst 0) 0 0 (0) := ⟨1, 0, (congrArg (fun l => pm_look l 9) cq_14).trans rfl⟩
theorem lk_14_10 : Lk 14 10 (.iload_n 1) 0 0 (0) := ⟨1, 0, (congrArg (fun l => pm_look l 10) cq_14).trans rfl⟩
theorem lk_14_11 : Lk 14 11 (.aload_n 0) 0 0 (0) := ⟨1, 0, (congrArg (fun l => pm_look l 11) cq_14).trans rfl⟩
theorem lk_14_12 : Lk 14 12 (.getfield 25) 1 1 (2) := ⟨3, 496, (congrArg (fun l => pm_look l 12) cq_14).trans rfl⟩
theorem lk_14_15 : Lk 14 15 (.getfield 80) 8 2 (0) := ⟨3, 162, (congrArg (fun l => pm_look l 15) cq_14).trans rfl⟩
theorem lk_14_18 : Lk 14 18 (.ishl) 0 0 (0) := ⟨1, 0, (congrArg (fun l => pm_look l 18) cq_14).trans rfl⟩
theorem lk_14_19 : Lk 14 19 (.aload_n 0) 0 0 (0) := ⟨1, 0, (congrArg (fun l => pm_look l 19) cq_14).trans rfl⟩
theorem lk_14_20 : Lk 14 20 (.getfield 26) 1 2 (0) := ⟨3, 497, (congrArg (fun l => pm_look l 20) cq_14).trans rfl⟩
theorem lk_14_23 : Lk 14 23 (.ifCond .eq 7) 0 0 (0) := ⟨3, 0, (congrArg (fun l => pm_look l 23) cq_14).trans rfl⟩
theorem lk_14_26 : Lk 14 26 (.iconst 1) 0 0 (0) := ⟨1, 0, (congrArg (fun l => pm_look l 26) cq_14).trans rfl⟩
theorem lk_14_27 : Lk 14 27 (.goto 4) 0 0 (0) := ⟨3, 0, (congrArg (fun l => pm_look l 27) cq_14).trans rfl⟩
theorem lk_14_30 : Lk 14 30 (.iconst 0) 0 0 (0) := ⟨1, 0, (congrArg (fun l => pm_look l 30) cq_14).trans rfl⟩
theorem lk_14_31 : Lk 14 31 (.invokevirtual 83) 9 0 (0) := ⟨3, 989, (congrArg (fun l => pm_look l 31) cq_14).trans rfl⟩
theorem lk_14_34 : Lk 14 34 (.aload_n 0) 0 0 (0) := ⟨1, 0, (congrArg (fun l => pm_look l 34) cq_14).trans rfl⟩
theorem lk_14_35 : Lk 14 35 (.aload_n 0) 0 0 (0) := ⟨1, 0, (congrArg (fun l => pm_look l 35) cq_14).trans rfl⟩
theorem lk_14_36 : Lk 14 36 (.getfield 25) 1 1 (2) := ⟨3, 496, (congrArg (fun l => pm_look l 36) cq_14).trans rfl⟩
theorem lk_14_39 : Lk 14 39 (.getfield 93) 8 4 (0) := ⟨3, 177, (congrArg (fun l => pm_look l 39) cq_14).trans rfl⟩
theorem lk_14_42 : Lk 14 42 (.aload_n 0) 0 0 (0) := ⟨1, 0, (congrArg (fun l => pm_look l 42) cq_14).trans rfl⟩
theorem lk_14_43 : Lk 14 43 (.getfield 15) 1 0 (2) := ⟨3, 495, (congrArg (fun l => pm_look l 43) cq_14).trans rfl⟩
theorem lk_14_46 : Lk 14 46 (.iload_n 1) 0 0 (0) := ⟨1, 0, (congrArg (fun l => pm_look l 46) cq_14).trans rfl⟩
theorem lk_14_47 : Lk 14 47 (.iload_n 2) 0 0 (0) := ⟨1, 0, (congrArg (fun l => pm_look l 47) cq_14).trans rfl⟩
theorem lk_14_48 : Lk 14 48 (.invokevirtual 42) 2 0 (0) := ⟨3, 979, (congrArg (fun l => pm_look l 48) cq_14).trans rfl⟩
theorem lk_14_51 : Lk 14 51 (.invokevirtual 90) 15 0 (0) := ⟨3, 995, (congrArg (fun l => pm_look l 51) cq_14).trans rfl⟩
theorem lk_14_54 : Lk 14 54 (.iadd) 0 0 (0) := ⟨1, 0, (congrArg (fun l => pm_look l 54) cq_14).trans rfl⟩
theorem lk_14_55 : Lk 14 55 (.ireturn) 0 0 (0) := ⟨1, 0, (congrArg (fun l => pm_look l 55) cq_14).trans rfl⟩
theorem cq_15 : pm_code 15 = cd_15 := rfl
theorem lk_15_0 : Lk 15 0 (.aload_n 0) 0 0 (0) := ⟨1, 0, (congrArg (fun l => pm_look l 0) cq_15).trans rfl⟩
theorem lk_15_1 : Lk 15 1 (.getfield 26) 1 2 (0) := ⟨3, 497, (congrArg (fun l => pm_look l 1) cq_15).trans rfl⟩
theorem lk_15_4 : Lk 15 4 (.lookupswitch 32 #[(0, 28), (1, 30)]) 0 0 (0) := ⟨28, 0, (congrArg (fun l => pm_look l 4) cq_15).trans rfl⟩
theorem lk_15_32 : Lk 15 32 (.iload_n 1) 0 0 (0) := ⟨1, 0, (congrArg (fun l => pm_look l 32) cq_15).trans rfl⟩
theorem lk_15_33 : Lk 15 33 (.ireturn) 0 0 (0) := ⟨1, 0, (congrArg (fun l => pm_look l 33) cq_15).trans rfl⟩
theorem lk_15_34 : Lk 15 34 (.iconst 0) 0 0 (0) := ⟨1, 0, (congrArg (fun l => pm_look l 34) cq_15).trans rfl⟩
theorem lk_15_35 : Lk 15 35 (.ireturn) 0 0 (0) := ⟨1, 0, (congrArg (fun l => pm_look l 35) cq_15).trans rfl⟩
theorem lk_15_36 : Lk 15 36 (.iload_n 1) 0 0 (0) := ⟨1, 0, (congrArg (fun l => pm_look l 36) cq_15).trans rfl⟩
theorem lk_15_37 : Lk 15 37 (.aload_n 0) 0 0 (0) := ⟨1, 0, (congrArg (fun l => pm_look l 37) cq_15).trans rfl⟩
theorem lk_15_38 : Lk 15 38 (.getfield 15) 1 0 (2) := ⟨3, 495, (congrArg (fun l => pm_look l 38) cq_15).trans rfl⟩
theorem lk_15_41 : Lk 15 41 (.iload_n 2) 0 0 (0) := ⟨1, 0, (congrArg (fun l => pm_look l 41) cq_15).trans rfl⟩
theorem lk_15_42 : Lk 15 42 (.invokevirtual 96) 5 0 (0) := ⟨3, 999, (congrArg (fun l => pm_look l 42) cq_15).trans rfl⟩
theorem lk_15_45 : Lk 15 45 (.imul) 0 0 (0) := ⟨1, 0, (congrArg (fun l => pm_look l 45) cq_15).trans rfl⟩
theorem lk_15_46 : Lk 15 46 (.ireturn) 0 0 (0) := ⟨1, 0, (congrArg (fun l => pm_look l 46) cq_15).trans rfl⟩
theorem cq_16 : pm_code 16 = cd_16 := rfl
theorem lk_16_0 : Lk 16 0 (.aload_n 0) 0 0 (0) := ⟨1, 0, (congrArg (fun l => pm_look l 0) cq_16).trans rfl⟩
theorem lk_16_1 : Lk 16 1 (.getfield 100) 1 6 (0) := ⟨3, 502, (congrArg (fun l => pm_look l 1) cq_16).trans rfl⟩
theorem lk_16_4 : Lk 16 4 (.ifCond .ne 39) 0 0 (0) := ⟨3, 0, (congrArg (fun l => pm_look l 4) cq_16).trans rfl⟩
theorem lk_16_7 : Lk 16 7 (.aload_n 0) 0 0 (0) := ⟨1, 0, (congrArg (fun l => pm_look l 7) cq_16).trans rfl⟩
theorem lk_16_8 : Lk 16 8 (.iconst 1) 0 0 (0) := ⟨1, 0, (congrArg (fun l => pm_look l 8) cq_16).trans rfl⟩
theorem lk_16_9 : Lk 16 9 (.putfield 100) 1 6 (0) := ⟨3, 502, (congrArg (fun l => pm_look l 9) cq_16).trans rfl⟩
theorem lk_16_12 : Lk 16 12 (.aload_n 0) 0 0 (0) := ⟨1, 0, (congrArg (fun l => pm_look l 12) cq_16).trans rfl⟩
theorem lk_16_13 : Lk 16 13 (.invokevirtual 39) 12 0 (0) := ⟨3, 949, (congrArg (fun l => pm_look l 13) cq_16).trans rfl⟩
theorem lk_16_16 : Lk 16 16 (.aload_n 0) 0 0 (0) := ⟨1, 0, (congrArg (fun l => pm_look l 16) cq_16).trans rfl⟩
theorem lk_16_17 : Lk 16 17 (.getfield 35) 1 3 (2) := ⟨3, 498, (congrArg (fun l => pm_look l 17) cq_16).trans rfl⟩
theorem lk_16_20 : Lk 16 20 (.iconst 0) 0 0 (0) := ⟨1, 0, (congrArg (fun l => pm_look l 20) cq_16).trans rfl⟩
theorem lk_16_21 : Lk 16 21 (.putfield 103) 4 3 (0) := ⟨3, 212, (congrArg (fun l => pm_look l 21) cq_16).trans rfl⟩
theorem lk_16_24 : Lk 16 24 (.aload_n 0) 0 0 (0) := ⟨1, 0, (congrArg (fun l => pm_look l 24) cq_16).trans rfl⟩
theorem lk_16_25 : Lk 16 25 (.aload_n 0) 0 0 (0) := ⟨1, 0, (congrArg (fun l => pm_look l 25) cq_16).trans rfl⟩
theorem lk_16_26 : Lk 16 26 (.getfield 25) 1 1 (2) := ⟨3, 496, (congrArg (fun l => pm_look l 26) cq_16).trans rfl⟩
theorem lk_16_29 : Lk 16 29 (.invokevirtual 57) 86 0 (0) := ⟨3, 977, (congrArg (fun l => pm_look l 29) cq_16).trans rfl⟩
theorem lk_16_32 : Lk 16 32 (.aload_n 0) 0 0 (0) := ⟨1, 0, (congrArg (fun l => pm_look l 32) cq_16).trans rfl⟩
theorem lk_16_33 : Lk 16 33 (.getfield 25) 1 1 (2) := ⟨3, 496, (congrArg (fun l => pm_look l 33) cq_16).trans rfl⟩
theorem lk_16_36 : Lk 16 36 (.invokevirtual 62) 87 0 (0) := ⟨3, 978, (congrArg (fun l => pm_look l 36) cq_16).trans rfl⟩
theorem lk_16_39 : Lk 16 39 (.iconst 0) 0 0 (0) := ⟨1, 0, (congrArg (fun l => pm_look l 39) cq_16).trans rfl⟩
theorem lk_16_40 : Lk 16 40 (.invokevirtual 106) 17 0 (0) := ⟨3, 1041, (congrArg (fun l => pm_look l 40) cq_16).trans rfl⟩
theorem lk_16_43 : Lk 16 43 (.aload_n 0) 0 0 (0) := ⟨1, 0, (congrArg (fun l => pm_look l 43) cq_16).trans rfl⟩
theorem lk_16_44 : Lk 16 44 (.getfield 35) 1 3 (2) := ⟨3, 498, (congrArg (fun l => pm_look l 44) cq_16).trans rfl⟩
theorem lk_16_47 : Lk 16 47 (.areturn) 0 0 (0) := ⟨1, 0, (congrArg (fun l => pm_look l 47) cq_16).trans rfl⟩
theorem cq_17 : pm_code 17 = cd_17 := rfl
theorem lk_17_0 : Lk 17 0 (.aload_n 0) 0 0 (0) := ⟨1, 0, (congrArg (fun l => pm_look l 0) cq_17).trans rfl⟩
theorem lk_17_1 : Lk 17 1 (.getfield 15) 1 0 (2) := ⟨3, 495, (congrArg (fun l => pm_look l 1) cq_17).trans rfl⟩
theorem lk_17_4 : Lk 17 4 (.iload_n 1) 0 0 (0) := ⟨1, 0, (congrArg (fun l => pm_look l 4) cq_17).trans rfl⟩
theorem lk_17_5 : Lk 17 5 (.iload_n 2) 0 0 (0) := ⟨1, 0, (congrArg (fun l => pm_look l 5) cq_17).trans rfl⟩
theorem lk_17_6 : Lk 17 6 (.invokevirtual 42) 2 0 (0) := ⟨3, 979, (congrArg (fun l => pm_look l 6) cq_17).trans rfl⟩
theorem lk_17_9 : Lk 17 9 (.istore 4) 0 0 (0) := ⟨2, 0, (congrArg (fun l => pm_look l 9) cq_17).trans rfl⟩
theorem lk_17_11 : Lk 17 11 (.iload_n 3) 0 0 (0) := ⟨1, 0, (congrArg (fun l => pm_look l 11) cq_17).trans rfl⟩
theorem lk_17_12 : Lk 17 12 (.bipush 12) 0 0 (0) := ⟨2, 0, (congrArg (fun l => pm_look l 12) cq_17).trans rfl⟩
theorem lk_17_14 : Lk 17 14 (.if_icmp .gt 13) 0 0 (0) := ⟨3, 0, (congrArg (fun l => pm_look l 14) cq_17).trans rfl⟩
theorem lk_17_17 : Lk 17 17 (.iload 4) 0 0 (0) := ⟨2, 0, (congrArg (fun l => pm_look l 17) cq_17).trans rfl⟩
theorem lk_17_19 : Lk 17 19 (.aload_n 0) 0 0 (0) := ⟨1, 0, (congrArg (fun l => pm_look l 19) cq_17).trans rfl⟩
theorem lk_17_20 : Lk 17 20 (.getfield 9) 1 4 (2) := ⟨3, 499, (congrArg (fun l => pm_look l 20) cq_17).trans rfl⟩
theorem lk_17_23 : Lk 17 23 (.arraylength) 0 0 (0) := ⟨1, 0, (congrArg (fun l => pm_look l 23) cq_17).trans rfl⟩
theorem lk_17_24 : Lk 17 24 (.if_icmp .lt 4) 0 0 (0) := ⟨3, 0, (congrArg (fun l => pm_look l 24) cq_17).trans rfl⟩
theorem lk_17_27 : Lk 17 27 (.return_) 0 0 (0) := ⟨1, 0, (congrArg (fun l => pm_look l 27) cq_17).trans rfl⟩
theorem lk_17_28 : Lk 17 28 (.aload_n 0) 0 0 (0) := ⟨1, 0, (congrArg (fun l => pm_look l 28) cq_17).trans rfl⟩
theorem lk_17_29 : Lk 17 29 (.getfield 15) 1 0 (2) := ⟨3, 495, (congrArg (fun l => pm_look l 29) cq_17).trans rfl⟩
theorem lk_17_32 : Lk 17 32 (.iload 4) 0 0 (0) := ⟨2, 0, (congrArg (fun l => pm_look l 32) cq_17).trans rfl⟩
theorem lk_17_34 : Lk 17 34 (.invokevirtual 65) 4 0 (0) := ⟨3, 980, (congrArg (fun l => pm_look l 34) cq_17).trans rfl⟩
theorem lk_17_37 : Lk 17 37 (.ifCond .eq 28) 0 0 (0) := ⟨3, 0, (congrArg (fun l => pm_look l 37) cq_17).trans rfl⟩
theorem lk_17_40 : Lk 17 40 (.aload_n 0) 0 0 (0) := ⟨1, 0, (congrArg (fun l => pm_look l 40) cq_17).trans rfl⟩
theorem lk_17_41 : Lk 17 41 (.getfield 35) 1 3 (2) := ⟨3, 498, (congrArg (fun l => pm_look l 41) cq_17).trans rfl⟩
theorem lk_17_44 : Lk 17 44 (.iconst 0) 0 0 (0) := ⟨1, 0, (congrArg (fun l => pm_look l 44) cq_17).trans rfl⟩
theorem lk_17_45 : Lk 17 45 (.aload_n 0) 0 0 (0) := ⟨1, 0, (congrArg (fun l => pm_look l 45) cq_17).trans rfl⟩
theorem lk_17_46 : Lk 17 46 (.getfield 15) 1 0 (2) := ⟨3, 495, (congrArg (fun l => pm_look l 46) cq_17).trans rfl⟩
theorem lk_17_49 : Lk 17 49 (.iload 4) 0 0 (0) := ⟨2, 0, (congrArg (fun l => pm_look l 49) cq_17).trans rfl⟩
theorem lk_17_51 : Lk 17 51 (.invokevirtual 110) 3 0 (0) := ⟨3, 1045, (congrArg (fun l => pm_look l 51) cq_17).trans rfl⟩
theorem lk_17_54 : Lk 17 54 (.invokestatic 113) 164 1 (0) := ⟨3, 1049, (congrArg (fun l => pm_look l 54) cq_17).trans rfl⟩
theorem lk_17_57 : Lk 17 57 (.bipush 10) 0 0 (0) := ⟨2, 0, (congrArg (fun l => pm_look l 57) cq_17).trans rfl⟩
theorem lk_17_59 : Lk 17 59 (.irem) 0 0 (0) := ⟨1, 0, (congrArg (fun l => pm_look l 59) cq_17).trans rfl⟩
theorem lk_17_60 : Lk 17 60 (.invokevirtual 116) 36 0 (0) := ⟨3, 1050, (congrArg (fun l => pm_look l 60) cq_17).trans rfl⟩
theorem lk_17_63 : Lk 17 63 (.pop) 0 0 (0) := ⟨1, 0, (congrArg (fun l => pm_look l 63) cq_17).trans rfl⟩
theorem lk_17_64 : Lk 17 64 (.return_) 0 0 (0) := ⟨1, 0, (congrArg (fun l => pm_look l 64) cq_17).trans rfl⟩
theorem lk_17_65 : Lk 17 65 (.aload_n 0) 0 0 (0) := ⟨1, 0, (congrArg (fun l => pm_look l 65) cq_17).trans rfl⟩
theorem lk_17_66 : Lk 17 66 (.iload_n 1) 0 0 (0) := ⟨1, 0, (congrArg (fun l => pm_look l 66) cq_17).trans rfl⟩
theorem lk_17_67 : Lk 17 67 (.iload_n 2) 0 0 (0) := ⟨1, 0, (congrArg (fun l => pm_look l 67) cq_17).trans rfl⟩
theorem lk_17_68 : Lk 17 68 (.invokevirtual 72) 14 0 (0) := ⟨3, 1003, (congrArg (fun l => pm_look l 68) cq_17).trans rfl⟩
theorem lk_17_71 : Lk 17 71 (.istore 5) 0 0 (0) := ⟨2, 0, (congrArg (fun l => pm_look l 71) cq_17).trans rfl⟩
theorem lk_17_73 : Lk 17 73 (.aload_n 0) 0 0 (0) := ⟨1, 0, (congrArg (fun l => pm_look l 73) cq_17).trans rfl⟩
theorem lk_17_74 : Lk 17 74 (.getfield 15) 1 0 (2) := ⟨3, 495, (congrArg (fun l => pm_look l 74) cq_17).trans rfl⟩
theorem lk_17_77 : Lk 17 77 (.getfield 119) 0 3 (0) := ⟨3, 386, (congrArg (fun l => pm_look l 77) cq_17).trans rfl⟩
theorem lk_17_80 : Lk 17 80 (.istore 6) 0 0 (0) := ⟨2, 0, (congrArg (fun l => pm_look l 80) cq_17).trans rfl⟩
theorem lk_17_82 : Lk 17 82 (.aload_n 0) 0 0 (0) := ⟨1, 0, (congrArg (fun l => pm_look l 82) cq_17).trans rfl⟩
theorem lk_17_83 : Lk 17 83 (.iload_n 1) 0 0 (0) := ⟨1, 0, (congrArg (fun l => pm_look l 83) cq_17).trans rfl⟩
theorem lk_17_84 : Lk 17 84 (.iload_n 2) 0 0 (0) := ⟨1, 0, (congrArg (fun l => pm_look l 84) cq_17).trans rfl⟩
theorem lk_17_85 : Lk 17 85 (.invokevirtual 69) 13 0 (0) := ⟨3, 985, (congrArg (fun l => pm_look l 85) cq_17).trans rfl⟩
theorem lk_17_88 : Lk 17 88 (.istore 7) 0 0 (0) := ⟨2, 0, (congrArg (fun l => pm_look l 88) cq_17).trans rfl⟩
theorem lk_17_90 : Lk 17 90 (.aload_n 0) 0 0 (0) := ⟨1, 0, (congrArg (fun l => pm_look l 90) cq_17).trans rfl⟩
theorem lk_17_91 : Lk 17 91 (.getfield 15) 1 0 (2) := ⟨3, 495, (congrArg (fun l => pm_look l 91) cq_17).trans rfl⟩
theorem lk_17_94 : Lk 17 94 (.getfield 119) 0 3 (0) := ⟨3, 386, (congrArg (fun l => pm_look l 94) cq_17).trans rfl⟩
theorem lk_17_97 : Lk 17 97 (.istore 8) 0 0 (0) := ⟨2, 0, (congrArg (fun l => pm_look l 97) cq_17).trans rfl⟩
theorem lk_17_99 : Lk 17 99 (.iload 7) 0 0 (0) := ⟨2, 0, (congrArg (fun l => pm_look l 99) cq_17).trans rfl⟩
theorem lk_17_101 : Lk 17 101 (.iload 5) 0 0 (0) := ⟨2, 0, (congrArg (fun l => pm_look l 101) cq_17).trans rfl⟩
theorem lk_17_103 : Lk 17 103 (.if_icmp .gt 7) 0 0 (0) := ⟨3, 0, (congrArg (fun l => pm_look l 103) cq_17).trans rfl⟩
theorem lk_17_106 : Lk 17 106 (.iconst 1) 0 0 (0) := ⟨1, 0, (congrArg (fun l => pm_look l 106) cq_17).trans rfl⟩
theorem lk_17_107 : Lk 17 107 (.goto 4) 0 0 (0) := ⟨3, 0, (congrArg (fun l => pm_look l 107) cq_17).trans rfl⟩
theorem lk_17_110 : Lk 17 110 (.iconst 0) 0 0 (0) := ⟨1, 0, (congrArg (fun l => pm_look l 110) cq_17).trans rfl⟩
theorem lk_17_111 : Lk 17 111 (.istore 9) 0 0 (0) := ⟨2, 0, (congrArg (fun l => pm_look l 111) cq_17).trans rfl⟩
theorem lk_17_113 : Lk 17 113 (.aload_n 0) 0 0 (0) := ⟨1, 0, (congrArg (fun l => pm_look l 113) cq_17).trans rfl⟩
theorem lk_17_114 : Lk 17 114 (.getfield 35) 1 3 (2) := ⟨3, 498, (congrArg (fun l => pm_look l 114) cq_17).trans rfl⟩
theorem lk_17_117 : Lk 17 117 (.iload 9) 0 0 (0) := ⟨2, 0, (congrArg (fun l => pm_look l 117) cq_17).trans rfl⟩
theorem lk_17_119 : Lk 17 119 (.ifCond .eq 7) 0 0 (0) := ⟨3, 0, (congrArg (fun l => pm_look l 119) cq_17).trans rfl⟩
theorem lk_17_122 : Lk 17 122 (.iconst 1) 0 0 (0) := ⟨1, 0, (congrArg (fun l => pm_look l 122) cq_17).trans rfl⟩
theorem lk_17_123 : Lk 17 123 (.goto 4) 0 0 (0) := ⟨3, 0, (congrArg (fun l => pm_look l 123) cq_17).trans rfl⟩
theorem lk_17_126 : Lk 17 126 (.iconst 2) 0 0 (0) := ⟨1, 0, (congrArg (fun l => pm_look l 126) cq_17).trans rfl⟩
theorem lk_17_127 : Lk 17 127 (.iload 9) 0 0 (0) := ⟨2, 0, (congrArg (fun l => pm_look l 127) cq_17).trans rfl⟩
theorem lk_17_129 : Lk 17 129 (.ifCond .eq 8) 0 0 (0) := ⟨3, 0, (congrArg (fun l => pm_look l 129) cq_17).trans rfl⟩
theorem lk_17_132 : Lk 17 132 (.iload 8) 0 0 (0) := ⟨2, 0, (congrArg (fun l => pm_look l 132) cq_17).trans rfl⟩
theorem lk_17_134 : Lk 17 134 (.goto 5) 0 0 (0) := ⟨3, 0, (congrArg (fun l => pm_look l 134) cq_17).trans rfl⟩
theorem lk_17_137 : Lk 17 137 (.iload 6) 0 0 (0) := ⟨2, 0, (congrArg (fun l => pm_look l 137) cq_17).trans rfl⟩
theorem lk_17_139 : Lk 17 139 (.invokevirtual 116) 36 0 (0) := ⟨3, 1050, (congrArg (fun l => pm_look l 139) cq_17).trans rfl⟩
theorem lk_17_142 : Lk 17 142 (.istore 10) 0 0 (0) := ⟨2, 0, (congrArg (fun l => pm_look l 142) cq_17).trans rfl⟩
theorem lk_17_144 : Lk 17 144 (.iload 10) 0 0 (0) := ⟨2, 0, (congrArg (fun l => pm_look l 144) cq_17).trans rfl⟩
theorem lk_17_146 : Lk 17 146 (.ifCond .ge 4) 0 0 (0) := ⟨3, 0, (congrArg (fun l => pm_look l 146) cq_17).trans rfl⟩
theorem lk_17_149 : Lk 17 149 (.return_) 0 0 (0) := ⟨1, 0, (congrArg (fun l => pm_look l 149) cq_17).trans rfl⟩
theorem lk_17_150 : Lk 17 150 (.aload_n 0) 0 0 (0) := ⟨1, 0, (congrArg (fun l => pm_look l 150) cq_17).trans rfl⟩
theorem lk_17_151 : Lk 17 151 (.iload 9) 0 0 (0) := ⟨2, 0, (congrArg (fun l => pm_look l 151) cq_17).trans rfl⟩
theorem lk_17_153 : Lk 17 153 (.ifCond .eq 8) 0 0 (0) := ⟨3, 0, (congrArg (fun l => pm_look l 153) cq_17).trans rfl⟩
theorem lk_17_156 : Lk 17 156 (.iload 8) 0 0 (0) := ⟨2, 0, (congrArg (fun l => pm_look l 156) cq_17).trans rfl⟩
theorem lk_17_158 : Lk 17 158 (.goto 4) 0 0 (0) := ⟨3, 0, (congrArg (fun l => pm_look l 158) cq_17).trans rfl⟩
theorem lk_17_161 : Lk 17 161 (.iload_n 1) 0 0 (0) := ⟨1, 0, (congrArg (fun l => pm_look l 161) cq_17).trans rfl⟩
theorem lk_17_162 : Lk 17 162 (.iload 9) 0 0 (0) := ⟨2, 0, (congrArg (fun l => pm_look l 162) cq_17).trans rfl⟩
theorem lk_17_164 : Lk 17 164 (.ifCond .eq 7) 0 0 (0) := ⟨3, 0, (congrArg (fun l => pm_look l 164) cq_17).trans rfl⟩
theorem lk_17_167 : Lk 17 167 (.iload_n 2) 0 0 (0) := ⟨1, 0, (congrArg (fun l => pm_look l 167) cq_17).trans rfl⟩
theorem lk_17_168 : Lk 17 168 (.goto 5) 0 0 (0) := ⟨3, 0, (congrArg (fun l => pm_look l 168) cq_17).trans rfl⟩
theorem lk_17_171 : Lk 17 171 (.iload 6) 0 0 (0) := ⟨2, 0, (congrArg (fun l => pm_look l 171) cq_17).trans rfl⟩
theorem lk_17_173 : Lk 17 173 (.iload_n 3) 0 0 (0) := ⟨1, 0, (congrArg (fun l => pm_look l 173) cq_17).trans rfl⟩
theorem lk_17_174 : Lk 17 174 (.iconst 1) 0 0 (0) := ⟨1, 0, (congrArg (fun l => pm_look l 174) cq_17).trans rfl⟩
theorem lk_17_175 : Lk 17 175 (.iadd) 0 0 (0) := ⟨1, 0, (congrArg (fun l => pm_look l 175) cq_17).trans rfl⟩
theorem lk_17_176 : Lk 17 176 (.invokevirtual 106) 17 0 (0) := ⟨3, 1041, (congrArg (fun l => pm_look l 176) cq_17).trans rfl⟩
theorem lk_17_179 : Lk 17 179 (.aload_n 0) 0 0 (0) := ⟨1, 0, (congrArg (fun l => pm_look l 179) cq_17).trans rfl⟩
theorem lk_17_180 : Lk 17 180 (.getfield 35) 1 3 (2) := ⟨3, 498, (congrArg (fun l => pm_look l 180) cq_17).trans rfl⟩
theorem lk_17_183 : Lk 17 183 (.getfield 122) 4 2 (2) := ⟨3, 208, (congrArg (fun l => pm_look l 183) cq_17).trans rfl⟩
theorem lk_17_186 : Lk 17 186 (.iload 10) 0 0 (0) := ⟨2, 0, (congrArg (fun l => pm_look l 186) cq_17).trans rfl⟩
theorem lk_17_188 : Lk 17 188 (.aload_n 0) 0 0 (0) := ⟨1, 0, (congrArg (fun l => pm_look l 188) cq_17).trans rfl⟩
theorem lk_17_189 : Lk 17 189 (.getfield 35) 1 3 (2) := ⟨3, 498, (congrArg (fun l => pm_look l 189) cq_17).trans rfl⟩
theorem lk_17_192 : Lk 17 192 (.getfield 103) 4 3 (0) := ⟨3, 212, (congrArg (fun l => pm_look l 192) cq_17).trans rfl⟩
theorem lk_17_195 : Lk 17 195 (.iastore) 0 0 (0) := ⟨1, 0, (congrArg (fun l => pm_look l 195) cq_17).trans rfl⟩
theorem lk_17_196 : Lk 17 196 (.aload_n 0) 0 0 (0) := ⟨1, 0, (congrArg (fun l => pm_look l 196) cq_17).trans rfl⟩
theorem lk_17_197 : Lk 17 197 (.iload 9) 0 0 (0) := ⟨2, 0, (congrArg (fun l => pm_look l 197) cq_17).trans rfl⟩
theorem lk_17_199 : Lk 17 199 (.ifCond .eq 10) 0 0 (0) := ⟨3, 0, (congrArg (fun l => pm_look l 199) cq_17).trans rfl⟩
theorem lk_17_202 : Lk 17 202 (.iload_n 1) 0 0 (0) := ⟨1, 0, (congrArg (fun l => pm_look l 202) cq_17).trans rfl⟩
theorem lk_17_203 : Lk 17 203 (.iload 8) 0 0 (0) := ⟨2, 0, (congrArg (fun l => pm_look l 203) cq_17).trans rfl⟩
theorem lk_17_205 : Lk 17 205 (.ixor) 0 0 (0) := ⟨1, 0, (congrArg (fun l => pm_look l 205) cq_17).trans rfl⟩
theorem lk_17_206 : Lk 17 206 (.goto 4) 0 0 (0) := ⟨3, 0, (congrArg (fun l => pm_look l 206) cq_17).trans rfl⟩
theorem lk_17_209 : Lk 17 209 (.iload_n 1) 0 0 (0) := ⟨1, 0, (congrArg (fun l => pm_look l 209) cq_17).trans rfl⟩
theorem lk_17_210 : Lk 17 210 (.iload 9) 0 0 (0) := ⟨2, 0, (congrArg (fun l => pm_look l 210) cq_17).trans rfl⟩
theorem lk_17_212 : Lk 17 212 (.ifCond .eq 7) 0 0 (0) := ⟨3, 0, (congrArg (fun l => pm_look l 212) cq_17).trans rfl⟩
theorem lk_17_215 : Lk 17 215 (.iload_n 2) 0 0 (0) := ⟨1, 0, (congrArg (fun l => pm_look l 215) cq_17).trans rfl⟩
theorem lk_17_216 : Lk 17 216 (.goto 7) 0 0 (0) := ⟨3, 0, (congrArg (fun l => pm_look l 216) cq_17).trans rfl⟩
theorem lk_17_219 : Lk 17 219 (.iload_n 2) 0 0 (0) := ⟨1, 0, (congrArg (fun l => pm_look l 219) cq_17).trans rfl⟩
theorem lk_17_220 : Lk 17 220 (.iload 6) 0 0 (0) := ⟨2, 0, (congrArg (fun l => pm_look l 220) cq_17).trans rfl⟩
theorem lk_17_222 : Lk 17 222 (.ixor) 0 0 (0) := ⟨1, 0, (congrArg (fun l => pm_look l 222) cq_17).trans rfl⟩
theorem lk_17_223 : Lk 17 223 (.iload_n 3) 0 0 (0) := ⟨1, 0, (congrArg (fun l => pm_look l 223) cq_17).trans rfl⟩
theorem lk_17_224 : Lk 17 224 (.iconst 1) 0 0 (0) := ⟨1, 0, (congrArg (fun l => pm_look l 224) cq_17).trans rfl⟩
theorem lk_17_225 : Lk 17 225 (.iadd) 0 0 (0) := ⟨1, 0, (congrArg (fun l => pm_look l 225) cq_17).trans rfl⟩
theorem lk_17_226 : Lk 17 226 (.invokevirtual 106) 17 0 (0) := ⟨3, 1041, (congrArg (fun l => pm_look l 226) cq_17).trans rfl⟩
theorem lk_17_229 : Lk 17 229 (.return_) 0 0 (0) := ⟨1, 0, (congrArg (fun l => pm_look l 229) cq_17).trans rfl⟩
theorem cq_18 : pm_code 18 = cd_18 := rfl
theorem lk_18_0 : Lk 18 0 (.aload_n 0) 0 0 (0) := ⟨1, 0, (congrArg (fun l => pm_look l 0) cq_18).trans rfl⟩
theorem lk_18_1 : Lk 18 1 (.invokespecial 3) 999 0 (0) := ⟨3, 326, (congrArg (fun l => pm_look l 1) cq_18).trans rfl⟩
theorem lk_18_4 : Lk 18 4 (.aload_n 0) 0 0 (0) := ⟨1, 0, (congrArg (fun l => pm_look l 4) cq_18).trans rfl⟩
theorem lk_18_5 : Lk 18 5 (.bipush 36) 0 0 (0) := ⟨2, 0, (congrArg (fun l => pm_look l 5) cq_18).trans rfl⟩
theorem lk_18_7 : Lk 18 7 (.newarray .int) 100 0 (0) := ⟨2, 0, (congrArg (fun l => pm_look l 7) cq_18).trans rfl⟩
theorem lk_18_9 : Lk 18 9 (.putfield 11) 2 1 (2) := ⟨3, 328, (congrArg (fun l => pm_look l 9) cq_18).trans rfl⟩
theorem lk_18_12 : Lk 18 12 (.aload_n 0) 0 0 (0) := ⟨1, 0, (congrArg (fun l => pm_look l 12) cq_18).trans rfl⟩
theorem lk_18_13 : Lk 18 13 (.bipush 36) 0 0 (0) := ⟨2, 0, (congrArg (fun l => pm_look l 13) cq_18).trans rfl⟩
theorem lk_18_15 : Lk 18 15 (.newarray .long) 101 0 (0) := ⟨2, 0, (congrArg (fun l => pm_look l 15) cq_18).trans rfl⟩
theorem lk_18_17 : Lk 18 17 (.putfield 15) 2 2 (2) := ⟨3, 329, (congrArg (fun l => pm_look l 17) cq_18).trans rfl⟩
theorem lk_18_20 : Lk 18 20 (.aload_n 0) 0 0 (0) := ⟨1, 0, (congrArg (fun l => pm_look l 20) cq_18).trans rfl⟩
theorem lk_18_21 : Lk 18 21 (.bipush 6) 0 0 (0) := ⟨2, 0, (congrArg (fun l => pm_look l 21) cq_18).trans rfl⟩
theorem lk_18_23 : Lk 18 23 (.newarray .int) 100 0 (0) := ⟨2, 0, (congrArg (fun l => pm_look l 23) cq_18).trans rfl⟩
theorem lk_18_25 : Lk 18 25 (.putfield 19) 2 3 (2) := ⟨3, 330, (congrArg (fun l => pm_look l 25) cq_18).trans rfl⟩
theorem lk_18_28 : Lk 18 28 (.aload_n 0) 0 0 (0) := ⟨1, 0, (congrArg (fun l => pm_look l 28) cq_18).trans rfl⟩
theorem lk_18_29 : Lk 18 29 (.bipush 6) 0 0 (0) := ⟨2, 0, (congrArg (fun l => pm_look l 29) cq_18).trans rfl⟩
theorem lk_18_31 : Lk 18 31 (.newarray .int) 100 0 (0) := ⟨2, 0, (congrArg (fun l => pm_look l 31) cq_18).trans rfl⟩
theorem lk_18_33 : Lk 18 33 (.putfield 22) 2 4 (2) := ⟨3, 331, (congrArg (fun l => pm_look l 33) cq_18).trans rfl⟩
theorem lk_18_36 : Lk 18 36 (.aload_n 0) 0 0 (0) := ⟨1, 0, (congrArg (fun l => pm_look l 36) cq_18).trans rfl⟩
theorem lk_18_37 : Lk 18 37 (.aload_n 1) 0 0 (0) := ⟨1, 0, (congrArg (fun l => pm_look l 37) cq_18).trans rfl⟩
theorem lk_18_38 : Lk 18 38 (.putfield 25) 2 0 (2) := ⟨3, 327, (congrArg (fun l => pm_look l 38) cq_18).trans rfl⟩
theorem lk_18_41 : Lk 18 41 (.return_) 0 0 (0) := ⟨1, 0, (congrArg (fun l => pm_look l 41) cq_18).trans rfl⟩
theorem cq_19 : pm_code 19 = cd_19 := rfl
theorem lk_19_0 : Lk 19 0 (.aload_n 0) 0 0 (0) := ⟨1, 0, (congrArg (fun l => pm_look l 0) cq_19).trans rfl⟩
theorem lk_19_1 : Lk 19 1 (.iconst 0) 0 0 (0) := ⟨1, 0, (congrArg (fun l => pm_look l 1) cq_19).trans rfl⟩
theorem lk_19_2 : Lk 19 2 (.putfield 29) 2 5 (0) := ⟨3, 333, (congrArg (fun l => pm_look l 2) cq_19).trans rfl⟩
theorem lk_19_5 : Lk 19 5 (.iconst 0) 0 0 (0) := ⟨1, 0, (congrArg (fun l => pm_look l 5) cq_19).trans rfl⟩
theorem lk_19_6 : Lk 19 6 (.istore_n 2) 0 0 (0) := ⟨1, 0, (congrArg (fun l => pm_look l 6) cq_19).trans rfl⟩
theorem lk_19_7 : Lk 19 7 (.iload_n 2) 0 0 (0) := ⟨1, 0, (congrArg (fun l => pm_look l 7) cq_19).trans rfl⟩
theorem lk_19_8 : Lk 19 8 (.aload_n 0) 0 0 (0) := ⟨1, 0, (congrArg (fun l => pm_look l 8) cq_19).trans rfl⟩
theorem lk_19_9 : Lk 19 9 (.getfield 25) 2 0 (2) := ⟨3, 327, (congrArg (fun l => pm_look l 9) cq_19).trans rfl⟩
theorem lk_19_12 : Lk 19 12 (.getfield 33) 8 1 (0) := ⟨3, 154, (congrArg (fun l => pm_look l 12) cq_19).trans rfl⟩
theorem lk_19_15 : Lk 19 15 (.if_icmp .ge 66) 0 0 (0) := ⟨3, 0, (congrArg (fun l => pm_look l 15) cq_19).trans rfl⟩
theorem lk_19_18 : Lk 19 18 (.iconst 0) 0 0 (0) := ⟨1, 0, (congrArg (fun l => pm_look l 18) cq_19).trans rfl⟩
theorem lk_19_19 : Lk 19 19 (.istore_n 3) 0 0 (0) := ⟨1, 0, (congrArg (fun l => pm_look l 19) cq_19).trans rfl⟩
theorem lk_19_20 : Lk 19 20 (.iload_n 3) 0 0 (0) := ⟨1, 0, (congrArg (fun l => pm_look l 20) cq_19).trans rfl⟩
theorem lk_19_21 : Lk 19 21 (.aload_n 0) 0 0 (0) := ⟨1, 0, (congrArg (fun l => pm_look l 21) cq_19).trans rfl⟩
theorem lk_19_22 : Lk 19 22 (.getfield 25) 2 0 (2) := ⟨3, 327, (congrArg (fun l => pm_look l 22) cq_19).trans rfl⟩
theorem lk_19_25 : Lk 19 25 (.getfield 38) 8 2 (0) := ⟨3, 161, (congrArg (fun l => pm_look l 25) cq_19).trans rfl⟩
theorem lk_19_28 : Lk 19 28 (.if_icmp .ge 47) 0 0 (0) := ⟨3, 0, (congrArg (fun l => pm_look l 28) cq_19).trans rfl⟩
theorem lk_19_31 : Lk 19 31 (.aload_n 0) 0 0 (0) := ⟨1, 0, (congrArg (fun l => pm_look l 31) cq_19).trans rfl⟩
theorem lk_19_32 : Lk 19 32 (.getfield 25) 2 0 (2) := ⟨3, 327, (congrArg (fun l => pm_look l 32) cq_19).trans rfl⟩
theorem lk_19_35 : Lk 19 35 (.iload_n 2) 0 0 (0) := ⟨1, 0, (congrArg (fun l => pm_look l 35) cq_19).trans rfl⟩
theorem lk_19_36 : Lk 19 36 (.iload_n 3) 0 0 (0) := ⟨1, 0, (congrArg (fun l => pm_look l 36) cq_19).trans rfl⟩
theorem lk_19_37 : Lk 19 37 (.invokevirtual 41) 85 0 (0) := ⟨3, 801, (congrArg (fun l => pm_look l 37) cq_19).trans rfl⟩
theorem lk_19_40 : Lk 19 40 (.iload_n 1) 0 0 (0) := ⟨1, 0, (congrArg (fun l => pm_look l 40) cq_19).trans rfl⟩
theorem lk_19_41 : Lk 19 41 (.if_icmp .ne 28) 0 0 (0) := ⟨3, 0, (congrArg (fun l => pm_look l 41) cq_19).trans rfl⟩
theorem lk_19_44 : Lk 19 44 (.aload_n 0) 0 0 (0) := ⟨1, 0, (congrArg (fun l => pm_look l 44) cq_19).trans rfl⟩
theorem lk_19_45 : Lk 19 45 (.getfield 11) 2 1 (2) := ⟨3, 328, (congrArg (fun l => pm_look l 45) cq_19).trans rfl⟩
theorem lk_19_48 : Lk 19 48 (.aload_n 0) 0 0 (0) := ⟨1, 0, (congrArg (fun l => pm_look l 48) cq_19).trans rfl⟩
theorem lk_19_49 : Lk 19 49 (.getfield 29) 2 5 (0) := ⟨3, 333, (congrArg (fun l => pm_look l 49) cq_19).trans rfl⟩
theorem lk_19_52 : Lk 19 52 (.iload_n 2) 0 0 (0) := ⟨1, 0, (congrArg (fun l => pm_look l 52) cq_19).trans rfl⟩
theorem lk_19_53 : Lk 19 53 (.bipush 6) 0 0 (0) := ⟨2, 0, (congrArg (fun l => pm_look l 53) cq_19).trans rfl⟩
theorem lk_19_55 : Lk 19 55 (.imul) 0 0 (0) := ⟨1, 0, (congrArg (fun l => pm_look l 55) cq_19).trans rfl⟩
theorem lk_19_56 : Lk 19 56 (.iload_n 3) 0 0 (0) := ⟨1, 0, (congrArg (fun l => pm_look l 56) cq_19).trans rfl⟩
theorem lk_19_57 : Lk 19 57 (.iadd) 0 0 (0) := ⟨1, 0, (congrArg (fun l => pm_look l 57) cq_19).trans rfl⟩
theorem lk_19_58 : Lk 19 58 (.iastore) 0 0 (0) := ⟨1, 0, (congrArg (fun l => pm_look l 58) cq_19).trans rfl⟩
theorem lk_19_59 : Lk 19 59 (.aload_n 0) 0 0 (0) := ⟨1, 0, (congrArg (fun l => pm_look l 59) cq_19).trans rfl⟩
theorem lk_19_60 : Lk 19 60 (.dup) 0 0 (0) := ⟨1, 0, (congrArg (fun l => pm_look l 60) cq_19).trans rfl⟩
theorem lk_19_61 : Lk 19 61 (.getfield 29) 2 5 (0) := ⟨3, 333, (congrArg (fun l => pm_look l 61) cq_19).trans rfl⟩
theorem lk_19_64 : Lk 19 64 (.iconst 1) 0 0 (0) := ⟨1, 0, (congrArg (fun l => pm_look l 64) cq_19).trans rfl⟩
theorem lk_19_65 : Lk 19 65 (.iadd) 0 0 (0) := ⟨1, 0, (congrArg (fun l => pm_look l 65) cq_19).trans rfl⟩
theorem lk_19_66 : Lk 19 66 (.putfield 29) 2 5 (0) := ⟨3, 333, (congrArg (fun l => pm_look l 66) cq_19).trans rfl⟩
theorem lk_19_69 : Lk 19 69 (.iinc 3 1) 0 0 (0) := ⟨3, 0, (congrArg (fun l => pm_look l 69) cq_19).trans rfl⟩
theorem lk_19_72 : Lk 19 72 (.goto (-52)) 0 0 (0) := ⟨3, 0, (congrArg (fun l => pm_look l 72) cq_19).trans rfl⟩
theorem lk_19_75 : Lk 19 75 (.iinc 2 1) 0 0 (0) := ⟨3, 0, (congrArg (fun l => pm_look l 75) cq_19).trans rfl⟩
theorem lk_19_78 : Lk 19 78 (.goto (-71)) 0 0 (0) := ⟨3, 0, (congrArg (fun l => pm_look l 78) cq_19).trans rfl⟩
theorem lk_19_81 : Lk 19 81 (.iconst 0) 0 0 (0) := ⟨1, 0, (congrArg (fun l => pm_look l 81) cq_19).trans rfl⟩
theorem lk_19_82 : Lk 19 82 (.istore_n 2) 0 0 (0) := ⟨1, 0, (congrArg (fun l => pm_look l 82) cq_19).trans rfl⟩
theorem lk_19_83 : Lk 19 83 (.iload_n 2) 0 0 (0) := ⟨1, 0, (congrArg (fun l => pm_look l 83) cq_19).trans rfl⟩
theorem lk_19_84 : Lk 19 84 (.aload_n 0) 0 0 (0) := ⟨1, 0, (congrArg (fun l => pm_look l 84) cq_19).trans rfl⟩
theorem lk_19_85 : Lk 19 85 (.getfield 29) 2 5 (0) := ⟨3, 333, (congrArg (fun l => pm_look l 85) cq_19).trans rfl⟩
theorem lk_19_88 : Lk 19 88 (.if_icmp .ge 70) 0 0 (0) := ⟨3, 0, (congrArg (fun l => pm_look l 88) cq_19).trans rfl⟩
theorem lk_19_91 : Lk 19 91 (.aload_n 0) 0 0 (0) := ⟨1, 0, (congrArg (fun l => pm_look l 91) cq_19).trans rfl⟩
theorem lk_19_92 : Lk 19 92 (.getfield 15) 2 2 (2) := ⟨3, 329, (congrArg (fun l => pm_look l 92) cq_19).trans rfl⟩
theorem lk_19_95 : Lk 19 95 (.iload_n 2) 0 0 (0) := ⟨1, 0, (congrArg (fun l => pm_look l 95) cq_19).trans rfl⟩
theorem lk_19_96 : Lk 19 96 (.lconst 0) 0 0 (0) := ⟨1, 0, (congrArg (fun l => pm_look l 96) cq_19).trans rfl⟩
theorem lk_19_97 : Lk 19 97 (.lastore) 0 0 (0) := ⟨1, 0, (congrArg (fun l => pm_look l 97) cq_19).trans rfl⟩
theorem lk_19_98 : Lk 19 98 (.iload_n 2) 0 0 (0) := ⟨1, 0, (congrArg (fun l => pm_look l 98) cq_19).trans rfl⟩
theorem lk_19_99 : Lk 19 99 (.iconst 1) 0 0 (0) := ⟨1, 0, (congrArg (fun l => pm_look l 99) cq_19).trans rfl⟩
theorem lk_19_100 : Lk 19 100 (.iadd) 0 0 (0) := ⟨1, 0, (congrArg (fun l => pm_look l 100) cq_19).trans rfl⟩
theorem lk_19_101 : Lk 19 101 (.istore_n 3) 0 0 (0) := ⟨1, 0, (congrArg (fun l => pm_look l 101) cq_19).trans rfl⟩
theorem lk_19_102 : Lk 19 102 (.iload_n 3) 0 0 (0) := ⟨1, 0, (congrArg (fun l => pm_look l 102) cq_19).trans rfl⟩
theorem lk_19_103 : Lk 19 103 (.aload_n 0) 0 0 (0) := ⟨1, 0, (congrArg (fun l => pm_look l 103) cq_19).trans rfl⟩
theorem lk_19_104 : Lk 19 104 (.getfield 29) 2 5 (0) := ⟨3, 333, (congrArg (fun l => pm_look l 104) cq_19).trans rfl⟩
theorem lk_19_107 : Lk 19 107 (.if_icmp .ge 45) 0 0 (0) := ⟨3, 0, (congrArg (fun l => pm_look l 107) cq_19).trans rfl⟩
theorem lk_19_110 : Lk 19 110 (.aload_n 0) 0 0 (0) := ⟨1, 0, (congrArg (fun l => pm_look l 110) cq_19).trans rfl⟩
theorem lk_19_111 : Lk 19 111 (.getfield 15) 2 2 (2) := ⟨3, 329, (congrArg (fun l => pm_look l 111) cq_19).trans rfl⟩
theorem lk_19_114 : Lk 19 114 (.iload_n 2) 0 0 (0) := ⟨1, 0, (congrArg (fun l => pm_look l 114) cq_19).trans rfl⟩
theorem lk_19_115 : Lk 19 115 (.dup2) 0 0 (0) := ⟨1, 0, (congrArg (fun l => pm_look l 115) cq_19).trans rfl⟩
theorem lk_19_116 : Lk 19 116 (.laload) 0 0 (0) := ⟨1, 0, (congrArg (fun l => pm_look l 116) cq_19).trans rfl⟩
theorem lk_19_117 : Lk 19 117 (.aload_n 0) 0 0 (0) := ⟨1, 0, (congrArg (fun l => pm_look l 117) cq_19).trans rfl⟩
theorem lk_19_118 : Lk 19 118 (.aload_n 0) 0 0 (0) := ⟨1, 0, (congrArg (fun l => pm_look l 118) cq_19).trans rfl⟩
theorem lk_19_119 : Lk 19 119 (.getfield 11) 2 1 (2) := ⟨3, 328, (congrArg (fun l => pm_look l 119) cq_19).trans rfl⟩
theorem lk_19_122 : Lk 19 122 (.iload_n 2) 0 0 (0) := ⟨1, 0, (congrArg (fun l => pm_look l 122) cq_19).trans rfl⟩
theorem lk_19_123 : Lk 19 123 (.iaload) 0 0 (0) := ⟨1, 0, (congrArg (fun l => pm_look l 123) cq_19).trans rfl⟩
theorem lk_19_124 : Lk 19 124 (.aload_n 0) 0 0 (0) := ⟨1, 0, (congrArg (fun l => pm_look l 124) cq_19).trans rfl⟩
theorem lk_19_125 : Lk 19 125 (.getfield 11) 2 1 (2) := ⟨3, 328, (congrArg (fun l => pm_look l 125) cq_19).trans rfl⟩
theorem lk_19_128 : Lk 19 128 (.iload_n 3) 0 0 (0) := ⟨1, 0, (congrArg (fun l => pm_look l 128) cq_19).trans rfl⟩
theorem lk_19_129 : Lk 19 129 (.iaload) 0 0 (0) := ⟨1, 0, (congrArg (fun l => pm_look l 129) cq_19).trans rfl⟩
theorem lk_19_130 : Lk 19 130 (.iload_n 1) 0 0 (0) := ⟨1, 0, (congrArg (fun l => pm_look l 130) cq_19).trans rfl⟩
theorem lk_19_131 : Lk 19 131 (.invokevirtual 45) 20 0 (0) := ⟨3, 802, (congrArg (fun l => pm_look l 131) cq_19).trans rfl⟩
theorem lk_19_134 : Lk 19 134 (.ifCond .eq 9) 0 0 (0) := ⟨3, 0, (congrArg (fun l => pm_look l 134) cq_19).trans rfl⟩
theorem lk_19_137 : Lk 19 137 (.lconst 1) 0 0 (0) := ⟨1, 0, (congrArg (fun l => pm_look l 137) cq_19).trans rfl⟩
theorem lk_19_138 : Lk 19 138 (.iload_n 3) 0 0 (0) := ⟨1, 0, (congrArg (fun l => pm_look l 138) cq_19).trans rfl⟩
theorem lk_19_139 : Lk 19 139 (.lshl) 0 0 (0) := ⟨1, 0, (congrArg (fun l => pm_look l 139) cq_19).trans rfl⟩
theorem lk_19_140 : Lk 19 140 (.goto 4) 0 0 (0) := ⟨3, 0, (congrArg (fun l => pm_look l 140) cq_19).trans rfl⟩
theorem lk_19_143 : Lk 19 143 (.lconst 0) 0 0 (0) := ⟨1, 0, (congrArg (fun l => pm_look l 143) cq_19).trans rfl⟩
theorem lk_19_144 : Lk 19 144 (.lor) 0 0 (0) := ⟨1, 0, (congrArg (fun l => pm_look l 144) cq_19).trans rfl⟩
theorem lk_19_145 : Lk 19 145 (.lastore) 0 0 (0) := ⟨1, 0, (congrArg (fun l => pm_look l 145) cq_19).trans rfl⟩
theorem lk_19_146 : Lk 19 146 (.iinc 3 1) 0 0 (0) := ⟨3, 0, (congrArg (fun l => pm_look l 146) cq_19).trans rfl⟩
theorem lk_19_149 : Lk 19 149 (.goto (-47)) 0 0 (0) := ⟨3, 0, (congrArg (fun l => pm_look l 149) cq_19).trans rfl⟩
theorem lk_19_152 : Lk 19 152 (.iinc 2 1) 0 0 (0) := ⟨3, 0, (congrArg (fun l => pm_look l 152) cq_19).trans rfl⟩
theorem lk_19_155 : Lk 19 155 (.goto (-72)) 0 0 (0) := ⟨3, 0, (congrArg (fun l => pm_look l 155) cq_19).trans rfl⟩
theorem lk_19_158 : Lk 19 158 (.return_) 0 0 (0) := ⟨1, 0, (congrArg (fun l => pm_look l 158) cq_19).trans rfl⟩
theorem cq_20 : pm_code 20 = cd_20 := rfl
theorem lk_20_0 : Lk 20 0 (.aload_n 0) 0 0 (0) := ⟨1, 0, (congrArg (fun l => pm_look l 0) cq_20).trans rfl⟩
theorem lk_20_1 : Lk 20 1 (.getfield 25) 2 0 (2) := ⟨3, 327, (congrArg (fun l => pm_look l 1) cq_20).trans rfl⟩
theorem lk_20_4 : Lk 20 4 (.iload_n 1) 0 0 (0) := ⟨1, 0, (congrArg (fun l => pm_look l 4) cq_20).trans rfl⟩
theorem lk_20_5 : Lk 20 5 (.bipush 6) 0 0 (0) := ⟨2, 0, (congrArg (fun l => pm_look l 5) cq_20).trans rfl⟩
theorem lk_20_7 : Lk 20 7 (.idiv) 0 0 (0) := ⟨1, 0, (congrArg (fun l => pm_look l 7) cq_20).trans rfl⟩
theorem lk_20_8 : Lk 20 8 (.iload_n 2) 0 0 (0) := ⟨1, 0, (congrArg (fun l => pm_look l 8) cq_20).trans rfl⟩
theorem lk_20_9 : Lk 20 9 (.bipush 6) 0 0 (0) := ⟨2, 0, (congrArg (fun l => pm_look l 9) cq_20).trans rfl⟩
theorem lk_20_11 : Lk 20 11 (.irem) 0 0 (0) := ⟨1, 0, (congrArg (fun l => pm_look l 11) cq_20).trans rfl⟩
theorem lk_20_12 : Lk 20 12 (.invokevirtual 41) 85 0 (0) := ⟨3, 801, (congrArg (fun l => pm_look l 12) cq_20).trans rfl⟩
theorem lk_20_15 : Lk 20 15 (.istore 4) 0 0 (0) := ⟨2, 0, (congrArg (fun l => pm_look l 15) cq_20).trans rfl⟩
theorem lk_20_17 : Lk 20 17 (.aload_n 0) 0 0 (0) := ⟨1, 0, (congrArg (fun l => pm_look l 17) cq_20).trans rfl⟩
theorem lk_20_18 : Lk 20 18 (.getfield 25) 2 0 (2) := ⟨3, 327, (congrArg (fun l => pm_look l 18) cq_20).trans rfl⟩
theorem lk_20_21 : Lk 20 21 (.iload_n 2) 0 0 (0) := ⟨1, 0, (congrArg (fun l => pm_look l 21) cq_20).trans rfl⟩
theorem lk_20_22 : Lk 20 22 (.bipush 6) 0 0 (0) := ⟨2, 0, (congrArg (fun l => pm_look l 22) cq_20).trans rfl⟩
theorem lk_20_24 : Lk 20 24 (.idiv) 0 0 (0) := ⟨1, 0, (congrArg (fun l => pm_look l 24) cq_20).trans rfl⟩
theorem lk_20_25 : Lk 20 25 (.iload_n 1) 0 0 (0) := ⟨1, 0, (congrArg (fun l => pm_look l 25) cq_20).trans rfl⟩
theorem lk_20_26 : Lk 20 26 (.bipush 6) 0 0 (0) := ⟨2, 0, (congrArg (fun l => pm_look l 26) cq_20).trans rfl⟩
theorem lk_20_28 : Lk 20 28 (.irem) 0 0 (0) := ⟨1, 0, (congrArg (fun l => pm_look l 28) cq_20).trans rfl⟩
theorem lk_20_29 : Lk 20 29 (.invokevirtual 41) 85 0 (0) := ⟨3, 801, (congrArg (fun l => pm_look l 29) cq_20).trans rfl⟩
theorem lk_20_32 : Lk 20 32 (.istore 5) 0 0 (0) := ⟨2, 0, (congrArg (fun l => pm_look l 32) cq_20).trans rfl⟩
theorem lk_20_34 : Lk 20 34 (.iload 4) 0 0 (0) := ⟨2, 0, (congrArg (fun l => pm_look l 34) cq_20).trans rfl⟩
theorem lk_20_36 : Lk 20 36 (.iload_n 3) 0 0 (0) := ⟨1, 0, (congrArg (fun l => pm_look l 36) cq_20).trans rfl⟩
theorem lk_20_37 : Lk 20 37 (.if_icmp .eq 10) 0 0 (0) := ⟨3, 0, (congrArg (fun l => pm_look l 37) cq_20).trans rfl⟩
theorem lk_20_40 : Lk 20 40 (.iload 4) 0 0 (0) := ⟨2, 0, (congrArg (fun l => pm_look l 40) cq_20).trans rfl⟩
theorem lk_20_42 : Lk 20 42 (.bipush 10) 0 0 (0) := ⟨2, 0, (congrArg (fun l => pm_look l 42) cq_20).trans rfl⟩
theorem lk_20_44 : Lk 20 44 (.if_icmp .ne 16) 0 0 (0) := ⟨3, 0, (congrArg (fun l => pm_look l 44) cq_20).trans rfl⟩
theorem lk_20_47 : Lk 20 47 (.iload 5) 0 0 (0) := ⟨2, 0, (congrArg (fun l => pm_look l 47) cq_20).trans rfl⟩
theorem lk_20_49 : Lk 20 49 (.iload_n 3) 0 0 (0) := ⟨1, 0, (congrArg (fun l => pm_look l 49) cq_20).trans rfl⟩
theorem lk_20_50 : Lk 20 50 (.if_icmp .eq 14) 0 0 (0) := ⟨3, 0, (congrArg (fun l => pm_look l 50) cq_20).trans rfl⟩
theorem lk_20_53 : Lk 20 53 (.iload 5) 0 0 (0) := ⟨2, 0, (congrArg (fun l => pm_look l 53) cq_20).trans rfl⟩
theorem lk_20_55 : Lk 20 55 (.bipush 10) 0 0 (0) := ⟨2, 0, (congrArg (fun l => pm_look l 55) cq_20).trans rfl⟩
theorem lk_20_57 : Lk 20 57 (.if_icmp .eq 7) 0 0 (0) := ⟨3, 0, (congrArg (fun l => pm_look l 57) cq_20).trans rfl⟩
theorem lk_20_60 : Lk 20 60 (.iconst 1) 0 0 (0) := ⟨1, 0, (congrArg (fun l => pm_look l 60) cq_20).trans rfl⟩
theorem lk_20_61 : Lk 20 61 (.goto 4) 0 0 (0) := ⟨3, 0, (congrArg (fun l => pm_look l 61) cq_20).trans rfl⟩
theorem lk_20_64 : Lk 20 64 (.iconst 0) 0 0 (0) := ⟨1, 0, (congrArg (fun l => pm_look l 64) cq_20).trans rfl⟩
theorem lk_20_65 : Lk 20 65 (.ireturn) 1 0 (0) := ⟨1, 0, (congrArg (fun l => pm_look l 65) cq_20).trans rfl⟩
theorem cq_21 : pm_code 21 = cd_21 := rfl
theorem lk_21_0 : Lk 21 0 (.iload_n 1) 0 0 (0) := ⟨1, 0, (congrArg (fun l => pm_look l 0) cq_21).trans rfl⟩
theorem lk_21_1 : Lk 21 1 (.ifCond .lt 36) 0 0 (0) := ⟨3, 0, (congrArg (fun l => pm_look l 1) cq_21).trans rfl⟩
theorem lk_21_4 : Lk 21 4 (.iload_n 1) 0 0 (0) := ⟨1, 0, (congrArg (fun l => pm_look l 4) cq_21).trans rfl⟩
theorem lk_21_5 : Lk 21 5 (.aload_n 0) 0 0 (0) := ⟨1, 0, (congrArg (fun l => pm_look l 5) cq_21).trans rfl⟩
theorem lk_21_6 : Lk 21 6 (.getfield 29) 2 5 (0) := ⟨3, 333, (congrArg (fun l => pm_look l 6) cq_21).trans rfl⟩
theorem lk_21_9 : Lk 21 9 (.if_icmp .ge 28) 0 0 (0) := ⟨3, 0, (congrArg (fun l => pm_look l 9) cq_21).trans rfl⟩
theorem lk_21_12 : Lk 21 12 (.aload_n 0) 0 0 (0) := ⟨1, 0, (congrArg (fun l => pm_look l 12) cq_21).trans rfl⟩
theorem lk_21_13 : Lk 21 13 (.getfield 11) 2 1 (2) := ⟨3, 328, (congrArg (fun l => pm_look l 13) cq_21).trans rfl⟩
theorem lk_21_16 : Lk 21 16 (.iload_n 1) 0 0 (0) := ⟨1, 0, (congrArg (fun l => pm_look l 16) cq_21).trans rfl⟩
theorem lk_21_17 : Lk 21 17 (.iaload) 0 0 (0) := ⟨1, 0, (congrArg (fun l => pm_look l 17) cq_21).trans rfl⟩
theorem lk_21_18 : Lk 21 18 (.bipush 6) 0 0 (0) := ⟨2, 0, (congrArg (fun l => pm_look l 18) cq_21).trans rfl⟩
theorem lk_21_20 : Lk 21 20 (.idiv) 0 0 (0) := ⟨1, 0, (congrArg (fun l => pm_look l 20) cq_21).trans rfl⟩
theorem lk_21_21 : Lk 21 21 (.bipush 10) 0 0 (0) := ⟨2, 0, (congrArg (fun l => pm_look l 21) cq_21).trans rfl⟩
theorem lk_21_23 : Lk 21 23 (.imul) 0 0 (0) := ⟨1, 0, (congrArg (fun l => pm_look l 23) cq_21).trans rfl⟩
theorem lk_21_24 : Lk 21 24 (.aload_n 0) 0 0 (0) := ⟨1, 0, (congrArg (fun l => pm_look l 24) cq_21).trans rfl⟩
theorem lk_21_25 : Lk 21 25 (.getfield 11) 2 1 (2) := ⟨3, 328, (congrArg (fun l => pm_look l 25) cq_21).trans rfl⟩
theorem lk_21_28 : Lk 21 28 (.iload_n 1) 0 0 (0) := ⟨1, 0, (congrArg (fun l => pm_look l 28) cq_21).trans rfl⟩
theorem lk_21_29 : Lk 21 29 (.iaload) 0 0 (0) := ⟨1, 0, (congrArg (fun l => pm_look l 29) cq_21).trans rfl⟩
theorem lk_21_30 : Lk 21 30 (.bipush 6) 0 0 (0) := ⟨2, 0, (congrArg (fun l => pm_look l 30) cq_21).trans rfl⟩
theorem lk_21_32 : Lk 21 32 (.irem) 0 0 (0) := ⟨1, 0, (congrArg (fun l => pm_look l 32) cq_21).trans rfl⟩
theorem lk_21_33 : Lk 21 33 (.iadd) 0 0 (0) := ⟨1, 0, (congrArg (fun l => pm_look l 33) cq_21).trans rfl⟩
theorem lk_21_34 : Lk 21 34 (.goto 4) 0 0 (0) := ⟨3, 0, (congrArg (fun l => pm_look l 34) cq_21).trans rfl⟩
theorem lk_21_37 : Lk 21 37 (.iconst (-1)) 0 0 (0) := ⟨1, 0, (congrArg (fun l => pm_look l 37) cq_21).trans rfl⟩
theorem lk_21_38 : Lk 21 38 (.ireturn) 0 0 (0) := ⟨1, 0, (congrArg (fun l => pm_look l 38) cq_21).trans rfl⟩
theorem cq_22 : pm_code 22 = cd_22 := rfl
theorem lk_22_0 : Lk 22 0 (.lconst 1) 0 0 (0) := ⟨1, 0, (congrArg (fun l => pm_look l 0) cq_22).trans rfl⟩
theorem lk_22_1 : Lk 22 1 (.aload_n 0) 0 0 (0) := ⟨1, 0, (congrArg (fun l => pm_look l 1) cq_22).trans rfl⟩
theorem lk_22_2 : Lk 22 2 (.getfield 29) 2 5 (0) := ⟨3, 333, (congrArg (fun l => pm_look l 2) cq_22).trans rfl⟩
theorem lk_22_5 : Lk 22 5 (.lshl) 0 0 (0) := ⟨1, 0, (congrArg (fun l => pm_look l 5) cq_22).trans rfl⟩
theorem lk_22_6 : Lk 22 6 (.lconst 1) 0 0 (0) := ⟨1, 0, (congrArg (fun l => pm_look l 6) cq_22).trans rfl⟩
theorem lk_22_7 : Lk 22 7 (.lsub) 0 0 (0) := ⟨1, 0, (congrArg (fun l => pm_look l 7) cq_22).trans rfl⟩
theorem lk_22_8 : Lk 22 8 (.lreturn) 0 0 (0) := ⟨1, 0, (congrArg (fun l => pm_look l 8) cq_22).trans rfl⟩
theorem cq_23 : pm_code 23 = cd_23 := rfl
theorem lk_23_0 : Lk 23 0 (.aload_n 0) 0 0 (0) := ⟨1, 0, (congrArg (fun l => pm_look l 0) cq_23).trans rfl⟩
theorem lk_23_1 : Lk 23 1 (.iconst 0) 0 0 (0) := ⟨1, 0, (congrArg (fun l => pm_look l 1) cq_23).trans rfl⟩
theorem lk_23_2 : Lk 23 2 (.putfield 49) 2 6 (0) := ⟨3, 334, (congrArg (fun l => pm_look l 2) cq_23).trans rfl⟩
theorem lk_23_5 : Lk 23 5 (.aload_n 0) 0 0 (0) := ⟨1, 0, (congrArg (fun l => pm_look l 5) cq_23).trans rfl⟩
theorem lk_23_6 : Lk 23 6 (.aload_n 0) 0 0 (0) := ⟨1, 0, (congrArg (fun l => pm_look l 6) cq_23).trans rfl⟩
theorem lk_23_7 : Lk 23 7 (.invokevirtual 52) 22 0 (0) := ⟨3, 810, (congrArg (fun l => pm_look l 7) cq_23).trans rfl⟩
theorem lk_23_10 : Lk 23 10 (.iconst 0) 0 0 (0) := ⟨1, 0, (congrArg (fun l => pm_look l 10) cq_23).trans rfl⟩
theorem lk_23_11 : Lk 23 11 (.invokevirtual 56) 24 0 (0) := ⟨3, 814, (congrArg (fun l => pm_look l 11) cq_23).trans rfl⟩
theorem lk_23_14 : Lk 23 14 (.return_) 0 0 (0) := ⟨1, 0, (congrArg (fun l => pm_look l 14) cq_23).trans rfl⟩
theorem cq_24 : pm_code 24 = cd_24 := rfl
theorem lk_24_0 : Lk 24 0 (.iload_n 3) 0 0 (0) := ⟨1, 0, (congrArg (fun l => pm_look l 0) cq_24).trans rfl⟩
theorem lk_24_1 : Lk 24 1 (.aload_n 0) 0 0 (0) := ⟨1, 0, (congrArg (fun l => pm_look l 1) cq_24).trans rfl⟩
theorem lk_24_2 : Lk 24 2 (.getfield 49) 2 6 (0) := ⟨3, 334, (congrArg (fun l => pm_look l 2) cq_24).trans rfl⟩
theorem lk_24_5 : Lk 24 5 (.if_icmp .le 37) 0 0 (0) := ⟨3, 0, (congrArg (fun l => pm_look l 5) cq_24).trans rfl⟩
theorem lk_24_8 : Lk 24 8 (.aload_n 0) 0 0 (0) := ⟨1, 0, (congrArg (fun l => pm_look l 8) cq_24).trans rfl⟩
theorem lk_24_9 : Lk 24 9 (.iload_n 3) 0 0 (0) := ⟨1, 0, (congrArg (fun l => pm_look l 9) cq_24).trans rfl⟩
theorem lk_24_10 : Lk 24 10 (.putfield 49) 2 6 (0) := ⟨3, 334, (congrArg (fun l => pm_look l 10) cq_24).trans rfl⟩
theorem lk_24_13 : Lk 24 13 (.iconst 0) 0 0 (0) := ⟨1, 0, (congrArg (fun l => pm_look l 13) cq_24).trans rfl⟩
theorem lk_24_14 : Lk 24 14 (.istore 4) 0 0 (0) := ⟨2, 0, (congrArg (fun l => pm_look l 14) cq_24).trans rfl⟩
theorem lk_24_16 : Lk 24 16 (.iload 4) 0 0 (0) := ⟨2, 0, (congrArg (fun l => pm_look l 16) cq_24).trans rfl⟩
theorem lk_24_18 : Lk 24 18 (.iload_n 3) 0 0 (0) := ⟨1, 0, (congrArg (fun l => pm_look l 18) cq_24).trans rfl⟩
theorem lk_24_19 : Lk 24 19 (.if_icmp .ge 23) 0 0 (0) := ⟨3, 0, (congrArg (fun l => pm_look l 19) cq_24).trans rfl⟩
theorem lk_24_22 : Lk 24 22 (.aload_n 0) 0 0 (0) := ⟨1, 0, (congrArg (fun l => pm_look l 22) cq_24).trans rfl⟩
theorem lk_24_23 : Lk 24 23 (.getfield 22) 2 4 (2) := ⟨3, 331, (congrArg (fun l => pm_look l 23) cq_24).trans rfl⟩
theorem lk_24_26 : Lk 24 26 (.iload 4) 0 0 (0) := ⟨2, 0, (congrArg (fun l => pm_look l 26) cq_24).trans rfl⟩
theorem lk_24_28 : Lk 24 28 (.aload_n 0) 0 0 (0) := ⟨1, 0, (congrArg (fun l => pm_look l 28) cq_24).trans rfl⟩
theorem lk_24_29 : Lk 24 29 (.getfield 19) 2 3 (2) := ⟨3, 330, (congrArg (fun l => pm_look l 29) cq_24).trans rfl⟩
theorem lk_24_32 : Lk 24 32 (.iload 4) 0 0 (0) := ⟨2, 0, (congrArg (fun l => pm_look l 32) cq_24).trans rfl⟩
theorem lk_24_34 : Lk 24 34 (.iaload) 0 0 (0) := ⟨1, 0, (congrArg (fun l => pm_look l 34) cq_24).trans rfl⟩
theorem lk_24_35 : Lk 24 35 (.iastore) 0 0 (0) := ⟨1, 0, (congrArg (fun l => pm_look l 35) cq_24).trans rfl⟩
theorem lk_24_36 : Lk 24 36 (.iinc 4 1) 0 0 (0) := ⟨3, 0, (congrArg (fun l => pm_look l 36) cq_24).trans rfl⟩
theorem lk_24_39 : Lk 24 39 (.goto (-23)) 0 0 (0) := ⟨3, 0, (congrArg (fun l => pm_look l 39) cq_24).trans rfl⟩
theorem lk_24_42 : Lk 24 42 (.iload_n 3) 0 0 (0) := ⟨1, 0, (congrArg (fun l => pm_look l 42) cq_24).trans rfl⟩
theorem lk_24_43 : Lk 24 43 (.bipush 6) 0 0 (0) := ⟨2, 0, (congrArg (fun l => pm_look l 43) cq_24).trans rfl⟩
theorem lk_24_45 : Lk 24 45 (.if_icmp .lt 4) 0 0 (0) := ⟨3, 0, (congrArg (fun l => pm_look l 45) cq_24).trans rfl⟩
theorem lk_24_48 : Lk 24 48 (.return_) 0 0 (0) := ⟨1, 0, (congrArg (fun l => pm_look l 48) cq_24).trans rfl⟩
theorem lk_24_49 : Lk 24 49 (.iconst 0) 0 0 (0) := ⟨1, 0, (congrArg (fun l => pm_look l 49) cq_24).trans rfl⟩
theorem lk_24_50 : Lk 24 50 (.istore 4) 0 0 (0) := ⟨2, 0, (congrArg (fun l => pm_look l 50) cq_24).trans rfl⟩
theorem lk_24_52 : Lk 24 52 (.iload 4) 0 0 (0) := ⟨2, 0, (congrArg (fun l => pm_look l 52) cq_24).trans rfl⟩
theorem lk_24_54 : Lk 24 54 (.aload_n 0) 0 0 (0) := ⟨1, 0, (congrArg (fun l => pm_look l 54) cq_24).trans rfl⟩
theorem lk_24_55 : Lk 24 55 (.getfield 29) 2 5 (0) := ⟨3, 333, (congrArg (fun l => pm_look l 55) cq_24).trans rfl⟩
theorem lk_24_58 : Lk 24 58 (.if_icmp .ge 60) 0 0 (0) := ⟨3, 0, (congrArg (fun l => pm_look l 58) cq_24).trans rfl⟩
theorem lk_24_61 : Lk 24 61 (.iload_n 3) 0 0 (0) := ⟨1, 0, (congrArg (fun l => pm_look l 61) cq_24).trans rfl⟩
theorem lk_24_62 : Lk 24 62 (.lload_n 1) 0 0 (0) := ⟨1, 0, (congrArg (fun l => pm_look l 62) cq_24).trans rfl⟩
theorem lk_24_63 : Lk 24 63 (.iload 4) 0 0 (0) := ⟨2, 0, (congrArg (fun l => pm_look l 63) cq_24).trans rfl⟩
theorem lk_24_65 : Lk 24 65 (.lshr) 0 0 (0) := ⟨1, 0, (congrArg (fun l => pm_look l 65) cq_24).trans rfl⟩
theorem lk_24_66 : Lk 24 66 (.invokestatic 60) 266 0 (0) := ⟨3, 818, (congrArg (fun l => pm_look l 66) cq_24).trans rfl⟩
theorem lk_24_69 : Lk 24 69 (.iadd) 0 0 (0) := ⟨1, 0, (congrArg (fun l => pm_look l 69) cq_24).trans rfl⟩
theorem lk_24_70 : Lk 24 70 (.aload_n 0) 0 0 (0) := ⟨1, 0, (congrArg (fun l => pm_look l 70) cq_24).trans rfl⟩
theorem lk_24_71 : Lk 24 71 (.getfield 49) 2 6 (0) := ⟨3, 334, (congrArg (fun l => pm_look l 71) cq_24).trans rfl⟩
theorem lk_24_74 : Lk 24 74 (.if_icmp .le 44) 0 0 (0) := ⟨3, 0, (congrArg (fun l => pm_look l 74) cq_24).trans rfl⟩
theorem lk_24_77 : Lk 24 77 (.lload_n 1) 0 0 (0) := ⟨1, 0, (congrArg (fun l => pm_look l 77) cq_24).trans rfl⟩
theorem lk_24_78 : Lk 24 78 (.iload 4) 0 0 (0) := ⟨2, 0, (congrArg (fun l => pm_look l 78) cq_24).trans rfl⟩
theorem lk_24_80 : Lk 24 80 (.lshr) 0 0 (0) := ⟨1, 0, (congrArg (fun l => pm_look l 80) cq_24).trans rfl⟩
theorem lk_24_81 : Lk 24 81 (.lconst 1) 0 0 (0) := ⟨1, 0, (congrArg (fun l => pm_look l 81) cq_24).trans rfl⟩
theorem lk_24_82 : Lk 24 82 (.land) 0 0 (0) := ⟨1, 0, (congrArg (fun l => pm_look l 82) cq_24).trans rfl⟩
theorem lk_24_83 : Lk 24 83 (.lconst 0) 0 0 (0) := ⟨1, 0, (congrArg (fun l => pm_look l 83) cq_24).trans rfl⟩
theorem lk_24_84 : Lk 24 84 (.lcmp) 0 0 (0) := ⟨1, 0, (congrArg (fun l => pm_look l 84) cq_24).trans rfl⟩
theorem lk_24_85 : Lk 24 85 (.ifCond .eq 27) 0 0 (0) := ⟨3, 0, (congrArg (fun l => pm_look l 85) cq_24).trans rfl⟩
theorem lk_24_88 : Lk 24 88 (.aload_n 0) 0 0 (0) := ⟨1, 0, (congrArg (fun l => pm_look l 88) cq_24).trans rfl⟩
theorem lk_24_89 : Lk 24 89 (.getfield 19) 2 3 (2) := ⟨3, 330, (congrArg (fun l => pm_look l 89) cq_24).trans rfl⟩
theorem lk_24_92 : Lk 24 92 (.iload_n 3) 0 0 (0) := ⟨1, 0, (congrArg (fun l => pm_look l 92) cq_24).trans rfl⟩
theorem lk_24_93 : Lk 24 93 (.iload 4) 0 0 (0) := ⟨2, 0, (congrArg (fun l => pm_look l 93) cq_24).trans rfl⟩
theorem lk_24_95 : Lk 24 95 (.iastore) 0 0 (0) := ⟨1, 0, (congrArg (fun l => pm_look l 95) cq_24).trans rfl⟩
theorem lk_24_96 : Lk 24 96 (.aload_n 0) 0 0 (0) := ⟨1, 0, (congrArg (fun l => pm_look l 96) cq_24).trans rfl⟩
theorem lk_24_97 : Lk 24 97 (.lload_n 1) 0 0 (0) := ⟨1, 0, (congrArg (fun l => pm_look l 97) cq_24).trans rfl⟩
theorem lk_24_98 : Lk 24 98 (.aload_n 0) 0 0 (0) := ⟨1, 0, (congrArg (fun l => pm_look l 98) cq_24).trans rfl⟩
theorem lk_24_99 : Lk 24 99 (.getfield 15) 2 2 (2) := ⟨3, 329, (congrArg (fun l => pm_look l 99) cq_24).trans rfl⟩
theorem lk_24_102 : Lk 24 102 (.iload 4) 0 0 (0) := ⟨2, 0, (congrArg (fun l => pm_look l 102) cq_24).trans rfl⟩
theorem lk_24_104 : Lk 24 104 (.laload) 0 0 (0) := ⟨1, 0, (congrArg (fun l => pm_look l 104) cq_24).trans rfl⟩
theorem lk_24_105 : Lk 24 105 (.land) 0 0 (0) := ⟨1, 0, (congrArg (fun l => pm_look l 105) cq_24).trans rfl⟩
theorem lk_24_106 : Lk 24 106 (.iload_n 3) 0 0 (0) := ⟨1, 0, (congrArg (fun l => pm_look l 106) cq_24).trans rfl⟩
theorem lk_24_107 : Lk 24 107 (.iconst 1) 0 0 (0) := ⟨1, 0, (congrArg (fun l => pm_look l 107) cq_24).trans rfl⟩
theorem lk_24_108 : Lk 24 108 (.iadd) 0 0 (0) := ⟨1, 0, (congrArg (fun l => pm_look l 108) cq_24).trans rfl⟩
theorem lk_24_109 : Lk 24 109 (.invokevirtual 56) 24 0 (0) := ⟨3, 814, (congrArg (fun l => pm_look l 109) cq_24).trans rfl⟩
theorem lk_24_112 : Lk 24 112 (.iinc 4 1) 0 0 (0) := ⟨3, 0, (congrArg (fun l => pm_look l 112) cq_24).trans rfl⟩
theorem lk_24_115 : Lk 24 115 (.goto (-63)) 0 0 (0) := ⟨3, 0, (congrArg (fun l => pm_look l 115) cq_24).trans rfl⟩
theorem lk_24_118 : Lk 24 118 (.return_) 0 0 (0) := ⟨1, 0, (congrArg (fun l => pm_look l 118) cq_24).trans rfl⟩
theorem cq_25 : pm_code 25 = cd_25 := rfl
theorem lk_25_0 : Lk 25 0 (.iload_n 1) 0 0 (0) := ⟨1, 0, (congrArg (fun l => pm_look l 0) cq_25).trans rfl⟩
theorem lk_25_1 : Lk 25 1 (.ifCond .ne 7) 0 0 (0) := ⟨3, 0, (congrArg (fun l => pm_look l 1) cq_25).trans rfl⟩
theorem lk_25_4 : Lk 25 4 (.iconst 1) 0 0 (0) := ⟨1, 0, (congrArg (fun l => pm_look l 4) cq_25).trans rfl⟩
theorem lk_25_5 : Lk 25 5 (.goto 12) 0 0 (0) := ⟨3, 0, (congrArg (fun l => pm_look l 5) cq_25).trans rfl⟩
theorem lk_25_8 : Lk 25 8 (.aload_n 0) 0 0 (0) := ⟨1, 0, (congrArg (fun l => pm_look l 8) cq_25).trans rfl⟩
theorem lk_25_9 : Lk 25 9 (.aload_n 0) 0 0 (0) := ⟨1, 0, (congrArg (fun l => pm_look l 9) cq_25).trans rfl⟩
theorem lk_25_10 : Lk 25 10 (.invokevirtual 52) 22 0 (0) := ⟨3, 810, (congrArg (fun l => pm_look l 10) cq_25).trans rfl⟩
theorem lk_25_13 : Lk 25 13 (.iload_n 1) 0 0 (0) := ⟨1, 0, (congrArg (fun l => pm_look l 13) cq_25).trans rfl⟩
theorem lk_25_14 : Lk 25 14 (.invokevirtual 66) 26 0 (0) := ⟨3, 878, (congrArg (fun l => pm_look l 14) cq_25).trans rfl⟩
theorem lk_25_17 : Lk 25 17 (.ireturn) 0 0 (0) := ⟨1, 0, (congrArg (fun l => pm_look l 17) cq_25).trans rfl⟩
theorem cq_26 : pm_code 26 = cd_26 := rfl
theorem lk_26_0 : Lk 26 0 (.iload_n 3) 0 0 (0) := ⟨1, 0, (congrArg (fun l => pm_look l 0) cq_26).trans rfl⟩
theorem lk_26_1 : Lk 26 1 (.iconst 1) 0 0 (0) := ⟨1, 0, (congrArg (fun l => pm_look l 1) cq_26).trans rfl⟩
theorem lk_26_2 : Lk 26 2 (.if_icmp .le 9) 0 0 (0) := ⟨3, 0, (congrArg (fun l => pm_look l 2) cq_26).trans rfl⟩
theorem lk_26_5 : Lk 26 5 (.iload_n 3) 0 0 (0) := ⟨1, 0, (congrArg (fun l => pm_look l 5) cq_26).trans rfl⟩
theorem lk_26_6 : Lk 26 6 (.bipush 6) 0 0 (0) := ⟨2, 0, (congrArg (fun l => pm_look l 6) cq_26).trans rfl⟩
theorem lk_26_8 : Lk 26 8 (.if_icmp .le 8) 0 0 (0) := ⟨3, 0, (congrArg (fun l => pm_look l 8) cq_26).trans rfl⟩
theorem lk_26_11 : Lk 26 11 (.lload_n 1) 0 0 (0) := ⟨1, 0, (congrArg (fun l => pm_look l 11) cq_26).trans rfl⟩
theorem lk_26_12 : Lk 26 12 (.invokestatic 60) 266 0 (0) := ⟨3, 818, (congrArg (fun l => pm_look l 12) cq_26).trans rfl⟩
theorem lk_26_15 : Lk 26 15 (.ireturn) 0 0 (0) := ⟨1, 0, (congrArg (fun l => pm_look l 15) cq_26).trans rfl⟩
theorem lk_26_16 : Lk 26 16 (.iconst 0) 0 0 (0) := ⟨1, 0, (congrArg (fun l => pm_look l 16) cq_26).trans rfl⟩
theorem lk_26_17 : Lk 26 17 (.istore 4) 0 0 (0) := ⟨2, 0, (congrArg (fun l => pm_look l 17) cq_26).trans rfl⟩
theorem lk_26_19 : Lk 26 19 (.iconst 0) 0 0 (0) := ⟨1, 0, (congrArg (fun l => pm_look l 19) cq_26).trans rfl⟩
theorem lk_26_20 : Lk 26 20 (.istore 5) 0 0 (0) := ⟨2, 0, (congrArg (fun l => pm_look l 20) cq_26).trans rfl⟩
theorem lk_26_22 : Lk 26 22 (.iload 5) 0 0 (0) := ⟨2, 0, (congrArg (fun l => pm_look l 22) cq_26).trans rfl⟩
theorem lk_26_24 : Lk 26 24 (.aload_n 0) 0 0 (0) := ⟨1, 0, (congrArg (fun l => pm_look l 24) cq_26).trans rfl⟩
theorem lk_26_25 : Lk 26 25 (.getfield 29) 2 5 (0) := ⟨3, 333, (congrArg (fun l => pm_look l 25) cq_26).trans rfl⟩
theorem lk_26_28 : Lk 26 28 (.if_icmp .ge 52) 0 0 (0) := ⟨3, 0, (congrArg (fun l => pm_look l 28) cq_26).trans rfl⟩
theorem lk_26_31 : Lk 26 31 (.lload_n 1) 0 0 (0) := ⟨1, 0, (congrArg (fun l => pm_look l 31) cq_26).trans rfl⟩
theorem lk_26_32 : Lk 26 32 (.iload 5) 0 0 (0) := ⟨2, 0, (congrArg (fun l => pm_look l 32) cq_26).trans rfl⟩
theorem lk_26_34 : Lk 26 34 (.lshr) 0 0 (0) := ⟨1, 0, (congrArg (fun l => pm_look l 34) cq_26).trans rfl⟩
theorem lk_26_35 : Lk 26 35 (.invokestatic 60) 266 0 (0) := ⟨3, 818, (congrArg (fun l => pm_look l 35) cq_26).trans rfl⟩
theorem lk_26_38 : Lk 26 38 (.iload_n 3) 0 0 (0) := ⟨1, 0, (congrArg (fun l => pm_look l 38) cq_26).trans rfl⟩
theorem lk_26_39 : Lk 26 39 (.if_icmp .lt 41) 0 0 (0) := ⟨3, 0, (congrArg (fun l => pm_look l 39) cq_26).trans rfl⟩
theorem lk_26_42 : Lk 26 42 (.lload_n 1) 0 0 (0) := ⟨1, 0, (congrArg (fun l => pm_look l 42) cq_26).trans rfl⟩
theorem lk_26_43 : Lk 26 43 (.iload 5) 0 0 (0) := ⟨2, 0, (congrArg (fun l => pm_look l 43) cq_26).trans rfl⟩
theorem lk_26_45 : Lk 26 45 (.lshr) 0 0 (0) := ⟨1, 0, (congrArg (fun l => pm_look l 45) cq_26).trans rfl⟩
theorem lk_26_46 : Lk 26 46 (.lconst 1) 0 0 (0) := ⟨1, 0, (congrArg (fun l => pm_look l 46) cq_26).trans rfl⟩
theorem lk_26_47 : Lk 26 47 (.land) 0 0 (0) := ⟨1, 0, (congrArg (fun l => pm_look l 47) cq_26).trans rfl⟩
theorem lk_26_48 : Lk 26 48 (.lconst 0) 0 0 (0) := ⟨1, 0, (congrArg (fun l => pm_look l 48) cq_26).trans rfl⟩
theorem lk_26_49 : Lk 26 49 (.lcmp) 0 0 (0) := ⟨1, 0, (congrArg (fun l => pm_look l 49) cq_26).trans rfl⟩
theorem lk_26_50 : Lk 26 50 (.ifCond .eq 24) 0 0 (0) := ⟨3, 0, (congrArg (fun l => pm_look l 50) cq_26).trans rfl⟩
theorem lk_26_53 : Lk 26 53 (.iload 4) 0 0 (0) := ⟨2, 0, (congrArg (fun l => pm_look l 53) cq_26).trans rfl⟩
theorem lk_26_55 : Lk 26 55 (.aload_n 0) 0 0 (0) := ⟨1, 0, (congrArg (fun l => pm_look l 55) cq_26).trans rfl⟩
theorem lk_26_56 : Lk 26 56 (.lload_n 1) 0 0 (0) := ⟨1, 0, (congrArg (fun l => pm_look l 56) cq_26).trans rfl⟩
theorem lk_26_57 : Lk 26 57 (.aload_n 0) 0 0 (0) := ⟨1, 0, (congrArg (fun l => pm_look l 57) cq_26).trans rfl⟩
theorem lk_26_58 : Lk 26 58 (.getfield 15) 2 2 (2) := ⟨3, 329, (congrArg (fun l => pm_look l 58) cq_26).trans rfl⟩
theorem lk_26_61 : Lk 26 61 (.iload 5) 0 0 (0) := ⟨2, 0, (congrArg (fun l => pm_look l 61) cq_26).trans rfl⟩
theorem lk_26_63 : Lk 26 63 (.laload) 0 0 (0) := ⟨1, 0, (congrArg (fun l => pm_look l 63) cq_26).trans rfl⟩
theorem lk_26_64 : Lk 26 64 (.land) 0 0 (0) := ⟨1, 0, (congrArg (fun l => pm_look l 64) cq_26).trans rfl⟩
theorem lk_26_65 : Lk 26 65 (.iload_n 3) 0 0 (0) := ⟨1, 0, (congrArg (fun l => pm_look l 65) cq_26).trans rfl⟩
theorem lk_26_66 : Lk 26 66 (.iconst 1) 0 0 (0) := ⟨1, 0, (congrArg (fun l => pm_look l 66) cq_26).trans rfl⟩
theorem lk_26_67 : Lk 26 67 (.isub) 0 0 (0) := ⟨1, 0, (congrArg (fun l => pm_look l 67) cq_26).trans rfl⟩
theorem lk_26_68 : Lk 26 68 (.invokevirtual 66) 26 0 (0) := ⟨3, 878, (congrArg (fun l => pm_look l 68) cq_26).trans rfl⟩
theorem lk_26_71 : Lk 26 71 (.iadd) 0 0 (0) := ⟨1, 0, (congrArg (fun l => pm_look l 71) cq_26).trans rfl⟩
theorem lk_26_72 : Lk 26 72 (.istore 4) 0 0 (0) := ⟨2, 0, (congrArg (fun l => pm_look l 72) cq_26).trans rfl⟩
theorem lk_26_74 : Lk 26 74 (.iinc 5 1) 0 0 (0) := ⟨3, 0, (congrArg (fun l => pm_look l 74) cq_26).trans rfl⟩
theorem lk_26_77 : Lk 26 77 (.goto (-55)) 0 0 (0) := ⟨3, 0, (congrArg (fun l => pm_look l 77) cq_26).trans rfl⟩
theorem lk_26_80 : Lk 26 80 (.iload 4) 0 0 (0) := ⟨2, 0, (congrArg (fun l => pm_look l 80) cq_26).trans rfl⟩
theorem lk_26_82 : Lk 26 82 (.ireturn) 0 0 (0) := ⟨1, 0, (congrArg (fun l => pm_look l 82) cq_26).trans rfl⟩
theorem cq_27 : pm_code 27 = cd_27 := rfl
theorem lk_27_0 : Lk 27 0 (.aload_n 0) 0 0 (0) := ⟨1, 0, (congrArg (fun l => pm_look l 0) cq_27).trans rfl⟩
theorem lk_27_1 : Lk 27 1 (.invokespecial 3) 999 0 (0) := ⟨3, 356, (congrArg (fun l => pm_look l 1) cq_27).trans rfl⟩
theorem lk_27_4 : Lk 27 4 (.aload_n 0) 0 0 (0) := ⟨1, 0, (congrArg (fun l => pm_look l 4) cq_27).trans rfl⟩
theorem lk_27_5 : Lk 27 5 (.bipush 36) 0 0 (0) := ⟨2, 0, (congrArg (fun l => pm_look l 5) cq_27).trans rfl⟩
theorem lk_27_7 : Lk 27 7 (.newarray .long) 101 0 (0) := ⟨2, 0, (congrArg (fun l => pm_look l 7) cq_27).trans rfl⟩
theorem lk_27_9 : Lk 27 9 (.putfield 9) 3 1 (2) := ⟨3, 358, (congrArg (fun l => pm_look l 9) cq_27).trans rfl⟩
theorem lk_27_12 : Lk 27 12 (.aload_n 0) 0 0 (0) := ⟨1, 0, (congrArg (fun l => pm_look l 12) cq_27).trans rfl⟩
theorem lk_27_13 : Lk 27 13 (.bipush 6) 0 0 (0) := ⟨2, 0, (congrArg (fun l => pm_look l 13) cq_27).trans rfl⟩
theorem lk_27_15 : Lk 27 15 (.newarray .int) 100 0 (0) := ⟨2, 0, (congrArg (fun l => pm_look l 15) cq_27).trans rfl⟩
theorem lk_27_17 : Lk 27 17 (.putfield 15) 3 2 (2) := ⟨3, 359, (congrArg (fun l => pm_look l 17) cq_27).trans rfl⟩
theorem lk_27_20 : Lk 27 20 (.aload_n 0) 0 0 (0) := ⟨1, 0, (congrArg (fun l => pm_look l 20) cq_27).trans rfl⟩
theorem lk_27_21 : Lk 27 21 (.bipush 64) 0 0 (0) := ⟨2, 0, (congrArg (fun l => pm_look l 21) cq_27).trans rfl⟩
theorem lk_27_23 : Lk 27 23 (.newarray .int) 100 0 (0) := ⟨2, 0, (congrArg (fun l => pm_look l 23) cq_27).trans rfl⟩
theorem lk_27_25 : Lk 27 25 (.putfield 19) 3 3 (2) := ⟨3, 360, (congrArg (fun l => pm_look l 25) cq_27).trans rfl⟩
theorem lk_27_28 : Lk 27 28 (.aload_n 0) 0 0 (0) := ⟨1, 0, (congrArg (fun l => pm_look l 28) cq_27).trans rfl⟩
theorem lk_27_29 : Lk 27 29 (.bipush 64) 0 0 (0) := ⟨2, 0, (congrArg (fun l => pm_look l 29) cq_27).trans rfl⟩
theorem lk_27_31 : Lk 27 31 (.newarray .int) 100 0 (0) := ⟨2, 0, (congrArg (fun l => pm_look l 31) cq_27).trans rfl⟩
theorem lk_27_33 : Lk 27 33 (.putfield 22) 3 4 (2) := ⟨3, 361, (congrArg (fun l => pm_look l 33) cq_27).trans rfl⟩
theorem lk_27_36 : Lk 27 36 (.aload_n 0) 0 0 (0) := ⟨1, 0, (congrArg (fun l => pm_look l 36) cq_27).trans rfl⟩
theorem lk_27_37 : Lk 27 37 (.aload_n 1) 0 0 (0) := ⟨1, 0, (congrArg (fun l => pm_look l 37) cq_27).trans rfl⟩
theorem lk_27_38 : Lk 27 38 (.putfield 25) 3 0 (2) := ⟨3, 357, (congrArg (fun l => pm_look l 38) cq_27).trans rfl⟩
theorem lk_27_41 : Lk 27 41 (.return_) 0 0 (0) := ⟨1, 0, (congrArg (fun l => pm_look l 41) cq_27).trans rfl⟩
theorem cq_28 : pm_code 28 = cd_28 := rfl
theorem lk_28_0 : Lk 28 0 (.aload_n 0) 0 0 (0) := ⟨1, 0, (congrArg (fun l => pm_look l 0) cq_28).trans rfl⟩
theorem lk_28_1 : Lk 28 1 (.iload_n 1) 0 0 (0) := ⟨1, 0, (congrArg (fun l => pm_look l 1) cq_28).trans rfl⟩
theorem lk_28_2 : Lk 28 2 (.invokevirtual 29) 29 0 (0) := ⟨3, 893, (congrArg (fun l => pm_look l 2) cq_28).trans rfl⟩
theorem lk_28_5 : Lk 28 5 (.iconst 0) 0 0 (0) := ⟨1, 0, (congrArg (fun l => pm_look l 5) cq_28).trans rfl⟩
theorem lk_28_6 : Lk 28 6 (.istore_n 2) 0 0 (0) := ⟨1, 0, (congrArg (fun l => pm_look l 6) cq_28).trans rfl⟩
theorem lk_28_7 : Lk 28 7 (.lconst 1) 0 0 (0) := ⟨1, 0, (congrArg (fun l => pm_look l 7) cq_28).trans rfl⟩
theorem lk_28_8 : Lk 28 8 (.lstore_n 3) 0 0 (0) := ⟨1, 0, (congrArg (fun l => pm_look l 8) cq_28).trans rfl⟩
theorem lk_28_9 : Lk 28 9 (.iconst 0) 0 0 (0) := ⟨1, 0, (congrArg (fun l => pm_look l 9) cq_28).trans rfl⟩
theorem lk_28_10 : Lk 28 10 (.istore 5) 0 0 (0) := ⟨2, 0, (congrArg (fun l => pm_look l 10) cq_28).trans rfl⟩
theorem lk_28_12 : Lk 28 12 (.iload 5) 0 0 (0) := ⟨2, 0, (congrArg (fun l => pm_look l 12) cq_28).trans rfl⟩
theorem lk_28_14 : Lk 28 14 (.aload_n 0) 0 0 (0) := ⟨1, 0, (congrArg (fun l => pm_look l 14) cq_28).trans rfl⟩
theorem lk_28_15 : Lk 28 15 (.getfield 25) 3 0 (2) := ⟨3, 357, (congrArg (fun l => pm_look l 15) cq_28).trans rfl⟩
theorem lk_28_18 : Lk 28 18 (.getfield 33) 8 2 (0) := ⟨3, 160, (congrArg (fun l => pm_look l 18) cq_28).trans rfl⟩
theorem lk_28_21 : Lk 28 21 (.if_icmp .ge 80) 0 0 (0) := ⟨3, 0, (congrArg (fun l => pm_look l 21) cq_28).trans rfl⟩
theorem lk_28_24 : Lk 28 24 (.iload_n 2) 0 0 (0) := ⟨1, 0, (congrArg (fun l => pm_look l 24) cq_28).trans rfl⟩
theorem lk_28_25 : Lk 28 25 (.aload_n 0) 0 0 (0) := ⟨1, 0, (congrArg (fun l => pm_look l 25) cq_28).trans rfl⟩
theorem lk_28_26 : Lk 28 26 (.getfield 25) 3 0 (2) := ⟨3, 357, (congrArg (fun l => pm_look l 26) cq_28).trans rfl⟩
theorem lk_28_29 : Lk 28 29 (.getfield 39) 8 1 (0) := ⟨3, 155, (congrArg (fun l => pm_look l 29) cq_28).trans rfl⟩
theorem lk_28_32 : Lk 28 32 (.if_icmp .ge 69) 0 0 (0) := ⟨3, 0, (congrArg (fun l => pm_look l 32) cq_28).trans rfl⟩
theorem lk_28_35 : Lk 28 35 (.aload_n 0) 0 0 (0) := ⟨1, 0, (congrArg (fun l => pm_look l 35) cq_28).trans rfl⟩
theorem lk_28_36 : Lk 28 36 (.iload_n 2) 0 0 (0) := ⟨1, 0, (congrArg (fun l => pm_look l 36) cq_28).trans rfl⟩
theorem lk_28_37 : Lk 28 37 (.iload 5) 0 0 (0) := ⟨2, 0, (congrArg (fun l => pm_look l 37) cq_28).trans rfl⟩
theorem lk_28_39 : Lk 28 39 (.invokevirtual 42) 30 0 (0) := ⟨3, 898, (congrArg (fun l => pm_look l 39) cq_28).trans rfl⟩
theorem lk_28_42 : Lk 28 42 (.ifCond .eq 53) 0 0 (0) := ⟨3, 0, (congrArg (fun l => pm_look l 42) cq_28).trans rfl⟩
theorem lk_28_45 : Lk 28 45 (.iload_n 2) 0 0 (0) := ⟨1, 0, (congrArg (fun l => pm_look l 45) cq_28).trans rfl⟩
theorem lk_28_46 : Lk 28 46 (.iconst 1) 0 0 (0) := ⟨1, 0, (congrArg (fun l => pm_look l 46) cq_28).trans rfl⟩
theorem lk_28_47 : Lk 28 47 (.iadd) 0 0 (0) := ⟨1, 0, (congrArg (fun l => pm_look l 47) cq_28).trans rfl⟩
theorem lk_28_48 : Lk 28 48 (.istore 6) 0 0 (0) := ⟨2, 0, (congrArg (fun l => pm_look l 48) cq_28).trans rfl⟩
theorem lk_28_50 : Lk 28 50 (.iload 6) 0 0 (0) := ⟨2, 0, (congrArg (fun l => pm_look l 50) cq_28).trans rfl⟩
theorem lk_28_52 : Lk 28 52 (.aload_n 0) 0 0 (0) := ⟨1, 0, (congrArg (fun l => pm_look l 52) cq_28).trans rfl⟩
theorem lk_28_53 : Lk 28 53 (.getfield 25) 3 0 (2) := ⟨3, 357, (congrArg (fun l => pm_look l 53) cq_28).trans rfl⟩
theorem lk_28_56 : Lk 28 56 (.getfield 39) 8 1 (0) := ⟨3, 155, (congrArg (fun l => pm_look l 56) cq_28).trans rfl⟩
theorem lk_28_59 : Lk 28 59 (.if_icmp .ge 20) 0 0 (0) := ⟨3, 0, (congrArg (fun l => pm_look l 59) cq_28).trans rfl⟩
theorem lk_28_62 : Lk 28 62 (.aload_n 0) 0 0 (0) := ⟨1, 0, (congrArg (fun l => pm_look l 62) cq_28).trans rfl⟩
theorem lk_28_63 : Lk 28 63 (.iload 6) 0 0 (0) := ⟨2, 0, (congrArg (fun l => pm_look l 63) cq_28).trans rfl⟩
theorem lk_28_65 : Lk 28 65 (.iload_n 2) 0 0 (0) := ⟨1, 0, (congrArg (fun l => pm_look l 65) cq_28).trans rfl⟩
theorem lk_28_66 : Lk 28 66 (.iload 5) 0 0 (0) := ⟨2, 0, (congrArg (fun l => pm_look l 66) cq_28).trans rfl⟩
theorem lk_28_68 : Lk 28 68 (.iload_n 1) 0 0 (0) := ⟨1, 0, (congrArg (fun l => pm_look l 68) cq_28).trans rfl⟩
theorem lk_28_69 : Lk 28 69 (.lload_n 3) 0 0 (0) := ⟨1, 0, (congrArg (fun l => pm_look l 69) cq_28).trans rfl⟩
theorem lk_28_70 : Lk 28 70 (.invokevirtual 46) 31 0 (0) := ⟨3, 902, (congrArg (fun l => pm_look l 70) cq_28).trans rfl⟩
theorem lk_28_73 : Lk 28 73 (.iinc 6 1) 0 0 (0) := ⟨3, 0, (congrArg (fun l => pm_look l 73) cq_28).trans rfl⟩
theorem lk_28_76 : Lk 28 76 (.goto (-26)) 0 0 (0) := ⟨3, 0, (congrArg (fun l => pm_look l 76) cq_28).trans rfl⟩
theorem lk_28_79 : Lk 28 79 (.aload_n 0) 0 0 (0) := ⟨1, 0, (congrArg (fun l => pm_look l 79) cq_28).trans rfl⟩
theorem lk_28_80 : Lk 28 80 (.getfield 9) 3 1 (2) := ⟨3, 358, (congrArg (fun l => pm_look l 80) cq_28).trans rfl⟩
theorem lk_28_83 : Lk 28 83 (.iload_n 2) 0 0 (0) := ⟨1, 0, (congrArg (fun l => pm_look l 83) cq_28).trans rfl⟩
theorem lk_28_84 : Lk 28 84 (.bipush 6) 0 0 (0) := ⟨2, 0, (congrArg (fun l => pm_look l 84) cq_28).trans rfl⟩
theorem lk_28_86 : Lk 28 86 (.imul) 0 0 (0) := ⟨1, 0, (congrArg (fun l => pm_look l 86) cq_28).trans rfl⟩
theorem lk_28_87 : Lk 28 87 (.iload 5) 0 0 (0) := ⟨2, 0, (congrArg (fun l => pm_look l 87) cq_28).trans rfl⟩
theorem lk_28_89 : Lk 28 89 (.iadd) 0 0 (0) := ⟨1, 0, (congrArg (fun l => pm_look l 89) cq_28).trans rfl⟩
theorem lk_28_90 : Lk 28 90 (.laload) 0 0 (0) := ⟨1, 0, (congrArg (fun l => pm_look l 90) cq_28).trans rfl⟩
theorem lk_28_91 : Lk 28 91 (.lstore_n 3) 0 0 (0) := ⟨1, 0, (congrArg (fun l => pm_look l 91) cq_28).trans rfl⟩
theorem lk_28_92 : Lk 28 92 (.iinc 2 1) 0 0 (0) := ⟨3, 0, (congrArg (fun l => pm_look l 92) cq_28).trans rfl⟩
theorem lk_28_95 : Lk 28 95 (.iinc 5 1) 0 0 (0) := ⟨3, 0, (congrArg (fun l => pm_look l 95) cq_28).trans rfl⟩
theorem lk_28_98 : Lk 28 98 (.goto (-86)) 0 0 (0) := ⟨3, 0, (congrArg (fun l => pm_look l 98) cq_28).trans rfl⟩
theorem lk_28_101 : Lk 28 101 (.iload_n 2) 0 0 (0) := ⟨1, 0, (congrArg (fun l => pm_look l 101) cq_28).trans rfl⟩
theorem lk_28_102 : Lk 28 102 (.ireturn) 0 0 (0) := ⟨1, 0, (congrArg (fun l => pm_look l 102) cq_28).trans rfl⟩
theorem cq_29 : pm_code 29 = cd_29 := rfl
theorem lk_29_0 : Lk 29 0 (.iconst 0) 0 0 (0) := ⟨1, 0, (congrArg (fun l => pm_look l 0) cq_29).trans rfl⟩
theorem lk_29_1 : Lk 29 1 (.istore_n 2) 0 0 (0) := ⟨1, 0, (congrArg (fun l => pm_look l 1) cq_29).trans rfl⟩
theorem lk_29_2 : Lk 29 2 (.iload_n 2) 0 0 (0) := ⟨1, 0, (congrArg (fun l => pm_look l 2) cq_29).trans rfl⟩
theorem lk_29_3 : Lk 29 3 (.aload_n 0) 0 0 (0) := ⟨1, 0, (congrArg (fun l => pm_look l 3) cq_29).trans rfl⟩
theorem lk_29_4 : Lk 29 4 (.getfield 25) 3 0 (2) := ⟨3, 357, (congrArg (fun l => pm_look l 4) cq_29).trans rfl⟩
theorem lk_29_7 : Lk 29 7 (.getfield 39) 8 1 (0) := ⟨3, 155, (congrArg (fun l => pm_look l 7) cq_29).trans rfl⟩
theorem lk_29_10 : Lk 29 10 (.if_icmp .ge 68) 0 0 (0) := ⟨3, 0, (congrArg (fun l => pm_look l 10) cq_29).trans rfl⟩
theorem lk_29_13 : Lk 29 13 (.iconst 0) 0 0 (0) := ⟨1, 0, (congrArg (fun l => pm_look l 13) cq_29).trans rfl⟩
theorem lk_29_14 : Lk 29 14 (.istore_n 3) 0 0 (0) := ⟨1, 0, (congrArg (fun l => pm_look l 14) cq_29).trans rfl⟩
theorem lk_29_15 : Lk 29 15 (.iload_n 3) 0 0 (0) := ⟨1, 0, (congrArg (fun l => pm_look l 15) cq_29).trans rfl⟩
theorem lk_29_16 : Lk 29 16 (.aload_n 0) 0 0 (0) := ⟨1, 0, (congrArg (fun l => pm_look l 16) cq_29).trans rfl⟩
theorem lk_29_17 : Lk 29 17 (.getfield 25) 3 0 (2) := ⟨3, 357, (congrArg (fun l => pm_look l 17) cq_29).trans rfl⟩
theorem lk_29_20 : Lk 29 20 (.getfield 33) 8 2 (0) := ⟨3, 160, (congrArg (fun l => pm_look l 20) cq_29).trans rfl⟩
theorem lk_29_23 : Lk 29 23 (.if_icmp .ge 49) 0 0 (0) := ⟨3, 0, (congrArg (fun l => pm_look l 23) cq_29).trans rfl⟩
theorem lk_29_26 : Lk 29 26 (.aload_n 0) 0 0 (0) := ⟨1, 0, (congrArg (fun l => pm_look l 26) cq_29).trans rfl⟩
theorem lk_29_27 : Lk 29 27 (.getfield 25) 3 0 (2) := ⟨3, 357, (congrArg (fun l => pm_look l 27) cq_29).trans rfl⟩
theorem lk_29_30 : Lk 29 30 (.iload_n 2) 0 0 (0) := ⟨1, 0, (congrArg (fun l => pm_look l 30) cq_29).trans rfl⟩
theorem lk_29_31 : Lk 29 31 (.iload_n 3) 0 0 (0) := ⟨1, 0, (congrArg (fun l => pm_look l 31) cq_29).trans rfl⟩
theorem lk_29_32 : Lk 29 32 (.invokevirtual 50) 85 0 (0) := ⟨3, 897, (congrArg (fun l => pm_look l 32) cq_29).trans rfl⟩
theorem lk_29_35 : Lk 29 35 (.bipush 10) 0 0 (0) := ⟨2, 0, (congrArg (fun l => pm_look l 35) cq_29).trans rfl⟩
theorem lk_29_37 : Lk 29 37 (.irem) 0 0 (0) := ⟨1, 0, (congrArg (fun l => pm_look l 37) cq_29).trans rfl⟩
theorem lk_29_38 : Lk 29 38 (.istore 4) 0 0 (0) := ⟨2, 0, (congrArg (fun l => pm_look l 38) cq_29).trans rfl⟩
theorem lk_29_40 : Lk 29 40 (.aload_n 0) 0 0 (0) := ⟨1, 0, (congrArg (fun l => pm_look l 40) cq_29).trans rfl⟩
theorem lk_29_41 : Lk 29 41 (.getfield 9) 3 1 (2) := ⟨3, 358, (congrArg (fun l => pm_look l 41) cq_29).trans rfl⟩
theorem lk_29_44 : Lk 29 44 (.iload_n 2) 0 0 (0) := ⟨1, 0, (congrArg (fun l => pm_look l 44) cq_29).trans rfl⟩
theorem lk_29_45 : Lk 29 45 (.bipush 6) 0 0 (0) := ⟨2, 0, (congrArg (fun l => pm_look l 45) cq_29).trans rfl⟩
theorem lk_29_47 : Lk 29 47 (.imul) 0 0 (0) := ⟨1, 0, (congrArg (fun l => pm_look l 47) cq_29).trans rfl⟩
theorem lk_29_48 : Lk 29 48 (.iload_n 3) 0 0 (0) := ⟨1, 0, (congrArg (fun l => pm_look l 48) cq_29).trans rfl⟩
theorem lk_29_49 : Lk 29 49 (.iadd) 0 0 (0) := ⟨1, 0, (congrArg (fun l => pm_look l 49) cq_29).trans rfl⟩
theorem lk_29_50 : Lk 29 50 (.iload_n 1) 0 0 (0) := ⟨1, 0, (congrArg (fun l => pm_look l 50) cq_29).trans rfl⟩
theorem lk_29_51 : Lk 29 51 (.ifCond .le 11) 0 0 (0) := ⟨3, 0, (congrArg (fun l => pm_look l 51) cq_29).trans rfl⟩
theorem lk_29_54 : Lk 29 54 (.iload 4) 0 0 (0) := ⟨2, 0, (congrArg (fun l => pm_look l 54) cq_29).trans rfl⟩
theorem lk_29_56 : Lk 29 56 (.iload_n 1) 0 0 (0) := ⟨1, 0, (congrArg (fun l => pm_look l 56) cq_29).trans rfl⟩
theorem lk_29_57 : Lk 29 57 (.irem) 0 0 (0) := ⟨1, 0, (congrArg (fun l => pm_look l 57) cq_29).trans rfl⟩
theorem lk_29_58 : Lk 29 58 (.i2l) 0 0 (0) := ⟨1, 0, (congrArg (fun l => pm_look l 58) cq_29).trans rfl⟩
theorem lk_29_59 : Lk 29 59 (.goto 6) 0 0 (0) := ⟨3, 0, (congrArg (fun l => pm_look l 59) cq_29).trans rfl⟩
theorem lk_29_62 : Lk 29 62 (.iload 4) 0 0 (0) := ⟨2, 0, (congrArg (fun l => pm_look l 62) cq_29).trans rfl⟩
theorem lk_29_64 : Lk 29 64 (.i2l) 0 0 (0) := ⟨1, 0, (congrArg (fun l => pm_look l 64) cq_29).trans rfl⟩
theorem lk_29_65 : Lk 29 65 (.lastore) 0 0 (0) := ⟨1, 0, (congrArg (fun l => pm_look l 65) cq_29).trans rfl⟩
theorem lk_29_66 : Lk 29 66 (.iinc 3 1) 0 0 (0) := ⟨3, 0, (congrArg (fun l => pm_look l 66) cq_29).trans rfl⟩
theorem lk_29_69 : Lk 29 69 (.goto (-54)) 0 0 (0) := ⟨3, 0, (congrArg (fun l => pm_look l 69) cq_29).trans rfl⟩
theorem lk_29_72 : Lk 29 72 (.iinc 2 1) 0 0 (0) := ⟨3, 0, (congrArg (fun l => pm_look l 72) cq_29).trans rfl⟩
theorem lk_29_75 : Lk 29 75 (.goto (-73)) 0 0 (0) := ⟨3, 0, (congrArg (fun l => pm_look l 75) cq_29).trans rfl⟩
theorem lk_29_78 : Lk 29 78 (.return_) 0 0 (0) := ⟨1, 0, (congrArg (fun l => pm_look l 78) cq_29).trans rfl⟩
theorem cq_30 : pm_code 30 = cd_30 := rfl
theorem lk_30_0 : Lk 30 0 (.iload_n 1) 0 0 (0) := ⟨1, 0, (congrArg (fun l => pm_look l 0) cq_30).trans rfl⟩
theorem lk_30_1 : Lk 30 1 (.istore_n 3) 0 0 (0) := ⟨1, 0, (congrArg (fun l => pm_look l 1) cq_30).trans rfl⟩
theorem lk_30_2 : Lk 30 2 (.iload_n 3) 0 0 (0) := ⟨1, 0, (congrArg (fun l => pm_look l 2) cq_30).trans rfl⟩
theorem lk_30_3 : Lk 30 3 (.aload_n 0) 0 0 (0) := ⟨1, 0, (congrArg (fun l => pm_look l 3) cq_30).trans rfl⟩
theorem lk_30_4 : Lk 30 4 (.getfield 25) 3 0 (2) := ⟨3, 357, (congrArg (fun l => pm_look l 4) cq_30).trans rfl⟩
theorem lk_30_7 : Lk 30 7 (.getfield 39) 8 1 (0) := ⟨3, 155, (congrArg (fun l => pm_look l 7) cq_30).trans rfl⟩
theorem lk_30_10 : Lk 30 10 (.if_icmp .ge 100) 0 0 (0) := ⟨3, 0, (congrArg (fun l => pm_look l 10) cq_30).trans rfl⟩
theorem lk_30_13 : Lk 30 13 (.aload_n 0) 0 0 (0) := ⟨1, 0, (congrArg (fun l => pm_look l 13) cq_30).trans rfl⟩
theorem lk_30_14 : Lk 30 14 (.getfield 9) 3 1 (2) := ⟨3, 358, (congrArg (fun l => pm_look l 14) cq_30).trans rfl⟩
theorem lk_30_17 : Lk 30 17 (.iload_n 3) 0 0 (0) := ⟨1, 0, (congrArg (fun l => pm_look l 17) cq_30).trans rfl⟩
theorem lk_30_18 : Lk 30 18 (.bipush 6) 0 0 (0) := ⟨2, 0, (congrArg (fun l => pm_look l 18) cq_30).trans rfl⟩
theorem lk_30_20 : Lk 30 20 (.imul) 0 0 (0) := ⟨1, 0, (congrArg (fun l => pm_look l 20) cq_30).trans rfl⟩
theorem lk_30_21 : Lk 30 21 (.iload_n 2) 0 0 (0) := ⟨1, 0, (congrArg (fun l => pm_look l 21) cq_30).trans rfl⟩
theorem lk_30_22 : Lk 30 22 (.iadd) 0 0 (0) := ⟨1, 0, (congrArg (fun l => pm_look l 22) cq_30).trans rfl⟩
theorem lk_30_23 : Lk 30 23 (.laload) 0 0 (0) := ⟨1, 0, (congrArg (fun l => pm_look l 23) cq_30).trans rfl⟩
theorem lk_30_24 : Lk 30 24 (.lconst 0) 0 0 (0) := ⟨1, 0, (congrArg (fun l => pm_look l 24) cq_30).trans rfl⟩
theorem lk_30_25 : Lk 30 25 (.lcmp) 0 0 (0) := ⟨1, 0, (congrArg (fun l => pm_look l 25) cq_30).trans rfl⟩
theorem lk_30_26 : Lk 30 26 (.ifCond .eq 78) 0 0 (0) := ⟨3, 0, (congrArg (fun l => pm_look l 26) cq_30).trans rfl⟩
theorem lk_30_29 : Lk 30 29 (.iconst 0) 0 0 (0) := ⟨1, 0, (congrArg (fun l => pm_look l 29) cq_30).trans rfl⟩
theorem lk_30_30 : Lk 30 30 (.istore 4) 0 0 (0) := ⟨2, 0, (congrArg (fun l => pm_look l 30) cq_30).trans rfl⟩
theorem lk_30_32 : Lk 30 32 (.iload 4) 0 0 (0) := ⟨2, 0, (congrArg (fun l => pm_look l 32) cq_30).trans rfl⟩
theorem lk_30_34 : Lk 30 34 (.aload_n 0) 0 0 (0) := ⟨1, 0, (congrArg (fun l => pm_look l 34) cq_30).trans rfl⟩
theorem lk_30_35 : Lk 30 35 (.getfield 25) 3 0 (2) := ⟨3, 357, (congrArg (fun l => pm_look l 35) cq_30).trans rfl⟩
theorem lk_30_38 : Lk 30 38 (.getfield 33) 8 2 (0) := ⟨3, 160, (congrArg (fun l => pm_look l 38) cq_30).trans rfl⟩
theorem lk_30_41 : Lk 30 41 (.if_icmp .ge 61) 0 0 (0) := ⟨3, 0, (congrArg (fun l => pm_look l 41) cq_30).trans rfl⟩
theorem lk_30_44 : Lk 30 44 (.aload_n 0) 0 0 (0) := ⟨1, 0, (congrArg (fun l => pm_look l 44) cq_30).trans rfl⟩
theorem lk_30_45 : Lk 30 45 (.getfield 9) 3 1 (2) := ⟨3, 358, (congrArg (fun l => pm_look l 45) cq_30).trans rfl⟩
theorem lk_30_48 : Lk 30 48 (.iload_n 3) 0 0 (0) := ⟨1, 0, (congrArg (fun l => pm_look l 48) cq_30).trans rfl⟩
theorem lk_30_49 : Lk 30 49 (.bipush 6) 0 0 (0) := ⟨2, 0, (congrArg (fun l => pm_look l 49) cq_30).trans rfl⟩
theorem lk_30_51 : Lk 30 51 (.imul) 0 0 (0) := ⟨1, 0, (congrArg (fun l => pm_look l 51) cq_30).trans rfl⟩
theorem lk_30_52 : Lk 30 52 (.iload 4) 0 0 (0) := ⟨2, 0, (congrArg (fun l => pm_look l 52) cq_30).trans rfl⟩
theorem lk_30_54 : Lk 30 54 (.iadd) 0 0 (0) := ⟨1, 0, (congrArg (fun l => pm_look l 54) cq_30).trans rfl⟩
theorem lk_30_55 : Lk 30 55 (.laload) 0 0 (0) := ⟨1, 0, (congrArg (fun l => pm_look l 55) cq_30).trans rfl⟩
theorem lk_30_56 : Lk 30 56 (.lstore 5) 0 0 (0) := ⟨2, 0, (congrArg (fun l => pm_look l 56) cq_30).trans rfl⟩
theorem lk_30_58 : Lk 30 58 (.aload_n 0) 0 0 (0) := ⟨1, 0, (congrArg (fun l => pm_look l 58) cq_30).trans rfl⟩
theorem lk_30_59 : Lk 30 59 (.getfield 9) 3 1 (2) := ⟨3, 358, (congrArg (fun l => pm_look l 59) cq_30).trans rfl⟩
theorem lk_30_62 : Lk 30 62 (.iload_n 3) 0 0 (0) := ⟨1, 0, (congrArg (fun l => pm_look l 62) cq_30).trans rfl⟩
theorem lk_30_63 : Lk 30 63 (.bipush 6) 0 0 (0) := ⟨2, 0, (congrArg (fun l => pm_look l 63) cq_30).trans rfl⟩
theorem lk_30_65 : Lk 30 65 (.imul) 0 0 (0) := ⟨1, 0, (congrArg (fun l => pm_look l 65) cq_30).trans rfl⟩
theorem lk_30_66 : Lk 30 66 (.iload 4) 0 0 (0) := ⟨2, 0, (congrArg (fun l => pm_look l 66) cq_30).trans rfl⟩
theorem lk_30_68 : Lk 30 68 (.iadd) 0 0 (0) := ⟨1, 0, (congrArg (fun l => pm_look l 68) cq_30).trans rfl⟩
theorem lk_30_69 : Lk 30 69 (.aload_n 0) 0 0 (0) := ⟨1, 0, (congrArg (fun l => pm_look l 69) cq_30).trans rfl⟩
theorem lk_30_70 : Lk 30 70 (.getfield 9) 3 1 (2) := ⟨3, 358, (congrArg (fun l => pm_look l 70) cq_30).trans rfl⟩
theorem lk_30_73 : Lk 30 73 (.iload_n 1) 0 0 (0) := ⟨1, 0, (congrArg (fun l => pm_look l 73) cq_30).trans rfl⟩
theorem lk_30_74 : Lk 30 74 (.bipush 6) 0 0 (0) := ⟨2, 0, (congrArg (fun l => pm_look l 74) cq_30).trans rfl⟩
theorem lk_30_76 : Lk 30 76 (.imul) 0 0 (0) := ⟨1, 0, (congrArg (fun l => pm_look l 76) cq_30).trans rfl⟩
theorem lk_30_77 : Lk 30 77 (.iload 4) 0 0 (0) := ⟨2, 0, (congrArg (fun l => pm_look l 77) cq_30).trans rfl⟩
theorem lk_30_79 : Lk 30 79 (.iadd) 0 0 (0) := ⟨1, 0, (congrArg (fun l => pm_look l 79) cq_30).trans rfl⟩
theorem lk_30_80 : Lk 30 80 (.laload) 0 0 (0) := ⟨1, 0, (congrArg (fun l => pm_look l 80) cq_30).trans rfl⟩
theorem lk_30_81 : Lk 30 81 (.lastore) 0 0 (0) := ⟨1, 0, (congrArg (fun l => pm_look l 81) cq_30).trans rfl⟩
theorem lk_30_82 : Lk 30 82 (.aload_n 0) 0 0 (0) := ⟨1, 0, (congrArg (fun l => pm_look l 82) cq_30).trans rfl⟩
theorem lk_30_83 : Lk 30 83 (.getfield 9) 3 1 (2) := ⟨3, 358, (congrArg (fun l => pm_look l 83) cq_30).trans rfl⟩
theorem lk_30_86 : Lk 30 86 (.iload_n 1) 0 0 (0) := ⟨1, 0, (congrArg (fun l => pm_look l 86) cq_30).trans rfl⟩
theorem lk_30_87 : Lk 30 87 (.bipush 6) 0 0 (0) := ⟨2, 0, (congrArg (fun l => pm_look l 87) cq_30).trans rfl⟩
theorem lk_30_89 : Lk 30 89 (.imul) 0 0 (0) := ⟨1, 0, (congrArg (fun l => pm_look l 89) cq_30).trans rfl⟩
theorem lk_30_90 : Lk 30 90 (.iload 4) 0 0 (0) := ⟨2, 0, (congrArg (fun l => pm_look l 90) cq_30).trans rfl⟩
theorem lk_30_92 : Lk 30 92 (.iadd) 0 0 (0) := ⟨1, 0, (congrArg (fun l => pm_look l 92) cq_30).trans rfl⟩
theorem lk_30_93 : Lk 30 93 (.lload 5) 0 0 (0) := ⟨2, 0, (congrArg (fun l => pm_look l 93) cq_30).trans rfl⟩
theorem lk_30_95 : Lk 30 95 (.lastore) 0 0 (0) := ⟨1, 0, (congrArg (fun l => pm_look l 95) cq_30).trans rfl⟩
theorem lk_30_96 : Lk 30 96 (.iinc 4 1) 0 0 (0) := ⟨3, 0, (congrArg (fun l => pm_look l 96) cq_30).trans rfl⟩
theorem lk_30_99 : Lk 30 99 (.goto (-67)) 0 0 (0) := ⟨3, 0, (congrArg (fun l => pm_look l 99) cq_30).trans rfl⟩
theorem lk_30_102 : Lk 30 102 (.iconst 1) 0 0 (0) := ⟨1, 0, (congrArg (fun l => pm_look l 102) cq_30).trans rfl⟩
theorem lk_30_103 : Lk 30 103 (.ireturn) 1 0 (0) := ⟨1, 0, (congrArg (fun l => pm_look l 103) cq_30).trans rfl⟩
theorem lk_30_104 : Lk 30 104 (.iinc 3 1) 0 0 (0) := ⟨3, 0, (congrArg (fun l => pm_look l 104) cq_30).trans rfl⟩
theorem lk_30_107 : Lk 30 107 (.goto (-105)) 0 0 (0) := ⟨3, 0, (congrArg (fun l => pm_look l 107) cq_30).trans rfl⟩
theorem lk_30_110 : Lk 30 110 (.iconst 0) 0 0 (0) := ⟨1, 0, (congrArg (fun l => pm_look l 110) cq_30).trans rfl⟩
theorem lk_30_111 : Lk 30 111 (.ireturn) 1 0 (0) := ⟨1, 0, (congrArg (fun l => pm_look l 111) cq_30).trans rfl⟩
theorem cq_31 : pm_code 31 = cd_31 := rfl
theorem lk_31_0 : Lk 31 0 (.aload_n 0) 0 0 (0) := ⟨1, 0, (congrArg (fun l => pm_look l 0) cq_31).trans rfl⟩
theorem lk_31_1 : Lk 31 1 (.getfield 9) 3 1 (2) := ⟨3, 358, (congrArg (fun l => pm_look l 1) cq_31).trans rfl⟩
theorem lk_31_4 : Lk 31 4 (.iload_n 2) 0 0 (0) := ⟨1, 0, (congrArg (fun l => pm_look l 4) cq_31).trans rfl⟩
theorem lk_31_5 : Lk 31 5 (.bipush 6) 0 0 (0) := ⟨2, 0, (congrArg (fun l => pm_look l 5) cq_31).trans rfl⟩
theorem lk_31_7 : Lk 31 7 (.imul) 0 0 (0) := ⟨1, 0, (congrArg (fun l => pm_look l 7) cq_31).trans rfl⟩
theorem lk_31_8 : Lk 31 8 (.iload_n 3) 0 0 (0) := ⟨1, 0, (congrArg (fun l => pm_look l 8) cq_31).trans rfl⟩
theorem lk_31_9 : Lk 31 9 (.iadd) 0 0 (0) := ⟨1, 0, (congrArg (fun l => pm_look l 9) cq_31).trans rfl⟩
theorem lk_31_10 : Lk 31 10 (.laload) 0 0 (0) := ⟨1, 0, (congrArg (fun l => pm_look l 10) cq_31).trans rfl⟩
theorem lk_31_11 : Lk 31 11 (.lstore 7) 0 0 (0) := ⟨2, 0, (congrArg (fun l => pm_look l 11) cq_31).trans rfl⟩
theorem lk_31_13 : Lk 31 13 (.aload_n 0) 0 0 (0) := ⟨1, 0, (congrArg (fun l => pm_look l 13) cq_31).trans rfl⟩
theorem lk_31_14 : Lk 31 14 (.getfield 9) 3 1 (2) := ⟨3, 358, (congrArg (fun l => pm_look l 14) cq_31).trans rfl⟩
theorem lk_31_17 : Lk 31 17 (.iload_n 1) 0 0 (0) := ⟨1, 0, (congrArg (fun l => pm_look l 17) cq_31).trans rfl⟩
theorem lk_31_18 : Lk 31 18 (.bipush 6) 0 0 (0) := ⟨2, 0, (congrArg (fun l => pm_look l 18) cq_31).trans rfl⟩
theorem lk_31_20 : Lk 31 20 (.imul) 0 0 (0) := ⟨1, 0, (congrArg (fun l => pm_look l 20) cq_31).trans rfl⟩
theorem lk_31_21 : Lk 31 21 (.iload_n 3) 0 0 (0) := ⟨1, 0, (congrArg (fun l => pm_look l 21) cq_31).trans rfl⟩
theorem lk_31_22 : Lk 31 22 (.iadd) 0 0 (0) := ⟨1, 0, (congrArg (fun l => pm_look l 22) cq_31).trans rfl⟩
theorem lk_31_23 : Lk 31 23 (.laload) 0 0 (0) := ⟨1, 0, (congrArg (fun l => pm_look l 23) cq_31).trans rfl⟩
theorem lk_31_24 : Lk 31 24 (.lstore 9) 0 0 (0) := ⟨2, 0, (congrArg (fun l => pm_look l 24) cq_31).trans rfl⟩
theorem lk_31_26 : Lk 31 26 (.iload_n 3) 0 0 (0) := ⟨1, 0, (congrArg (fun l => pm_look l 26) cq_31).trans rfl⟩
theorem lk_31_27 : Lk 31 27 (.istore 11) 0 0 (0) := ⟨2, 0, (congrArg (fun l => pm_look l 27) cq_31).trans rfl⟩
theorem lk_31_29 : Lk 31 29 (.iload 11) 0 0 (0) := ⟨2, 0, (congrArg (fun l => pm_look l 29) cq_31).trans rfl⟩
theorem lk_31_31 : Lk 31 31 (.aload_n 0) 0 0 (0) := ⟨1, 0, (congrArg (fun l => pm_look l 31) cq_31).trans rfl⟩
theorem lk_31_32 : Lk 31 32 (.getfield 25) 3 0 (2) := ⟨3, 357, (congrArg (fun l => pm_look l 32) cq_31).trans rfl⟩
theorem lk_31_35 : Lk 31 35 (.getfield 33) 8 2 (0) := ⟨3, 160, (congrArg (fun l => pm_look l 35) cq_31).trans rfl⟩
theorem lk_31_38 : Lk 31 38 (.if_icmp .ge 86) 0 0 (0) := ⟨3, 0, (congrArg (fun l => pm_look l 38) cq_31).trans rfl⟩
theorem lk_31_41 : Lk 31 41 (.aload_n 0) 0 0 (0) := ⟨1, 0, (congrArg (fun l => pm_look l 41) cq_31).trans rfl⟩
theorem lk_31_42 : Lk 31 42 (.getfield 9) 3 1 (2) := ⟨3, 358, (congrArg (fun l => pm_look l 42) cq_31).trans rfl⟩
theorem lk_31_45 : Lk 31 45 (.iload_n 1) 0 0 (0) := ⟨1, 0, (congrArg (fun l => pm_look l 45) cq_31).trans rfl⟩
theorem lk_31_46 : Lk 31 46 (.bipush 6) 0 0 (0) := ⟨2, 0, (congrArg (fun l => pm_look l 46) cq_31).trans rfl⟩
theorem lk_31_48 : Lk 31 48 (.imul) 0 0 (0) := ⟨1, 0, (congrArg (fun l => pm_look l 48) cq_31).trans rfl⟩
theorem lk_31_49 : Lk 31 49 (.iload 11) 0 0 (0) := ⟨2, 0, (congrArg (fun l => pm_look l 49) cq_31).trans rfl⟩
theorem lk_31_51 : Lk 31 51 (.iadd) 0 0 (0) := ⟨1, 0, (congrArg (fun l => pm_look l 51) cq_31).trans rfl⟩
theorem lk_31_52 : Lk 31 52 (.laload) 0 0 (0) := ⟨1, 0, (congrArg (fun l => pm_look l 52) cq_31).trans rfl⟩
theorem lk_31_53 : Lk 31 53 (.lload 7) 0 0 (0) := ⟨2, 0, (congrArg (fun l => pm_look l 53) cq_31).trans rfl⟩
theorem lk_31_55 : Lk 31 55 (.lmul) 0 0 (0) := ⟨1, 0, (congrArg (fun l => pm_look l 55) cq_31).trans rfl⟩
theorem lk_31_56 : Lk 31 56 (.aload_n 0) 0 0 (0) := ⟨1, 0, (congrArg (fun l => pm_look l 56) cq_31).trans rfl⟩
theorem lk_31_57 : Lk 31 57 (.getfield 9) 3 1 (2) := ⟨3, 358, (congrArg (fun l => pm_look l 57) cq_31).trans rfl⟩
theorem lk_31_60 : Lk 31 60 (.iload_n 2) 0 0 (0) := ⟨1, 0, (congrArg (fun l => pm_look l 60) cq_31).trans rfl⟩
theorem lk_31_61 : Lk 31 61 (.bipush 6) 0 0 (0) := ⟨2, 0, (congrArg (fun l => pm_look l 61) cq_31).trans rfl⟩
theorem lk_31_63 : Lk 31 63 (.imul) 0 0 (0) := ⟨1, 0, (congrArg (fun l => pm_look l 63) cq_31).trans rfl⟩
theorem lk_31_64 : Lk 31 64 (.iload 11) 0 0 (0) := ⟨2, 0, (congrArg (fun l => pm_look l 64) cq_31).trans rfl⟩
theorem lk_31_66 : Lk 31 66 (.iadd) 0 0 (0) := ⟨1, 0, (congrArg (fun l => pm_look l 66) cq_31).trans rfl⟩
theorem lk_31_67 : Lk 31 67 (.laload) 0 0 (0) := ⟨1, 0, (congrArg (fun l => pm_look l 67) cq_31).trans rfl⟩
theorem lk_31_68 : Lk 31 68 (.lload 9) 0 0 (0) := ⟨2, 0, (congrArg (fun l => pm_look l 68) cq_31).trans rfl⟩
theorem lk_31_70 : Lk 31 70 (.lmul) 0 0 (0) := ⟨1, 0, (congrArg (fun l => pm_look l 70) cq_31).trans rfl⟩
theorem lk_31_71 : Lk 31 71 (.lsub) 0 0 (0) := ⟨1, 0, (congrArg (fun l => pm_look l 71) cq_31).trans rfl⟩
theorem lk_31_72 : Lk 31 72 (.lstore 12) 0 0 (0) := ⟨2, 0, (congrArg (fun l => pm_look l 72) cq_31).trans rfl⟩
theorem lk_31_74 : Lk 31 74 (.iload 4) 0 0 (0) := ⟨2, 0, (congrArg (fun l => pm_look l 74) cq_31).trans rfl⟩
theorem lk_31_76 : Lk 31 76 (.ifCond .le 14) 0 0 (0) := ⟨3, 0, (congrArg (fun l => pm_look l 76) cq_31).trans rfl⟩
theorem lk_31_79 : Lk 31 79 (.lload 12) 0 0 (0) := ⟨2, 0, (congrArg (fun l => pm_look l 79) cq_31).trans rfl⟩
theorem lk_31_81 : Lk 31 81 (.iload 4) 0 0 (0) := ⟨2, 0, (congrArg (fun l => pm_look l 81) cq_31).trans rfl⟩
theorem lk_31_83 : Lk 31 83 (.i2l) 0 0 (0) := ⟨1, 0, (congrArg (fun l => pm_look l 83) cq_31).trans rfl⟩
theorem lk_31_84 : Lk 31 84 (.lrem) 0 0 (0) := ⟨1, 0, (congrArg (fun l => pm_look l 84) cq_31).trans rfl⟩
theorem lk_31_85 : Lk 31 85 (.lstore 12) 0 0 (0) := ⟨2, 0, (congrArg (fun l => pm_look l 85) cq_31).trans rfl⟩
theorem lk_31_87 : Lk 31 87 (.goto 17) 0 0 (0) := ⟨3, 0, (congrArg (fun l => pm_look l 87) cq_31).trans rfl⟩
theorem lk_31_90 : Lk 31 90 (.lload 5) 0 0 (0) := ⟨2, 0, (congrArg (fun l => pm_look l 90) cq_31).trans rfl⟩
theorem lk_31_92 : Lk 31 92 (.lconst 0) 0 0 (0) := ⟨1, 0, (congrArg (fun l => pm_look l 92) cq_31).trans rfl⟩
theorem lk_31_93 : Lk 31 93 (.lcmp) 0 0 (0) := ⟨1, 0, (congrArg (fun l => pm_look l 93) cq_31).trans rfl⟩
theorem lk_31_94 : Lk 31 94 (.ifCond .eq 10) 0 0 (0) := ⟨3, 0, (congrArg (fun l => pm_look l 94) cq_31).trans rfl⟩
theorem lk_31_97 : Lk 31 97 (.lload 12) 0 0 (0) := ⟨2, 0, (congrArg (fun l => pm_look l 97) cq_31).trans rfl⟩
theorem lk_31_99 : Lk 31 99 (.lload 5) 0 0 (0) := ⟨2, 0, (congrArg (fun l => pm_look l 99) cq_31).trans rfl⟩
theorem lk_31_101 : Lk 31 101 (.ldiv) 0 0 (0) := ⟨1, 0, (congrArg (fun l => pm_look l 101) cq_31).trans rfl⟩
theorem lk_31_102 : Lk 31 102 (.lstore 12) 0 0 (0) := ⟨2, 0, (congrArg (fun l => pm_look l 102) cq_31).trans rfl⟩
theorem lk_31_104 : Lk 31 104 (.aload_n 0) 0 0 (0) := ⟨1, 0, (congrArg (fun l => pm_look l 104) cq_31).trans rfl⟩
theorem lk_31_105 : Lk 31 105 (.getfield 9) 3 1 (2) := ⟨3, 358, (congrArg (fun l => pm_look l 105) cq_31).trans rfl⟩
theorem lk_31_108 : Lk 31 108 (.iload_n 1) 0 0 (0) := ⟨1, 0, (congrArg (fun l => pm_look l 108) cq_31).trans rfl⟩
theorem lk_31_109 : Lk 31 109 (.bipush 6) 0 0 (0) := ⟨2, 0, (congrArg (fun l => pm_look l 109) cq_31).trans rfl⟩
theorem lk_31_111 : Lk 31 111 (.imul) 0 0 (0) := ⟨1, 0, (congrArg (fun l => pm_look l 111) cq_31).trans rfl⟩
theorem lk_31_112 : Lk 31 112 (.iload 11) 0 0 (0) := ⟨2, 0, (congrArg (fun l => pm_look l 112) cq_31).trans rfl⟩
theorem lk_31_114 : Lk 31 114 (.iadd) 0 0 (0) := ⟨1, 0, (congrArg (fun l => pm_look l 114) cq_31).trans rfl⟩
theorem lk_31_115 : Lk 31 115 (.lload 12) 0 0 (0) := ⟨2, 0, (congrArg (fun l => pm_look l 115) cq_31).trans rfl⟩
theorem lk_31_117 : Lk 31 117 (.lastore) 0 0 (0) := ⟨1, 0, (congrArg (fun l => pm_look l 117) cq_31).trans rfl⟩
theorem lk_31_118 : Lk 31 118 (.iinc 11 1) 0 0 (0) := ⟨3, 0, (congrArg (fun l => pm_look l 118) cq_31).trans rfl⟩
theorem lk_31_121 : Lk 31 121 (.goto (-92)) 0 0 (0) := ⟨3, 0, (congrArg (fun l => pm_look l 121) cq_31).trans rfl⟩
theorem lk_31_124 : Lk 31 124 (.return_) 0 0 (0) := ⟨1, 0, (congrArg (fun l => pm_look l 124) cq_31).trans rfl⟩
theorem cq_32 : pm_code 32 = cd_32 := rfl
theorem lk_32_0 : Lk 32 0 (.iload_n 1) 0 0 (0) := ⟨1, 0, (congrArg (fun l => pm_look l 0) cq_32).trans rfl⟩
theorem lk_32_1 : Lk 32 1 (.ifCond .eq 13) 0 0 (0) := ⟨3, 0, (congrArg (fun l => pm_look l 1) cq_32).trans rfl⟩
theorem lk_32_4 : Lk 32 4 (.aload_n 0) 0 0 (0) := ⟨1, 0, (congrArg (fun l => pm_look l 4) cq_32).trans rfl⟩
theorem lk_32_5 : Lk 32 5 (.getfield 25) 3 0 (2) := ⟨3, 357, (congrArg (fun l => pm_look l 5) cq_32).trans rfl⟩
theorem lk_32_8 : Lk 32 8 (.getfield 33) 8 2 (0) := ⟨3, 160, (congrArg (fun l => pm_look l 8) cq_32).trans rfl⟩
theorem lk_32_11 : Lk 32 11 (.goto 10) 0 0 (0) := ⟨3, 0, (congrArg (fun l => pm_look l 11) cq_32).trans rfl⟩
theorem lk_32_14 : Lk 32 14 (.aload_n 0) 0 0 (0) := ⟨1, 0, (congrArg (fun l => pm_look l 14) cq_32).trans rfl⟩
theorem lk_32_15 : Lk 32 15 (.getfield 25) 3 0 (2) := ⟨3, 357, (congrArg (fun l => pm_look l 15) cq_32).trans rfl⟩
theorem lk_32_18 : Lk 32 18 (.getfield 39) 8 1 (0) := ⟨3, 155, (congrArg (fun l => pm_look l 18) cq_32).trans rfl⟩
theorem lk_32_21 : Lk 32 21 (.istore_n 2) 0 0 (0) := ⟨1, 0, (congrArg (fun l => pm_look l 21) cq_32).trans rfl⟩
theorem lk_32_22 : Lk 32 22 (.aload_n 0) 0 0 (0) := ⟨1, 0, (congrArg (fun l => pm_look l 22) cq_32).trans rfl⟩
theorem lk_32_23 : Lk 32 23 (.iload_n 1) 0 0 (0) := ⟨1, 0, (congrArg (fun l => pm_look l 23) cq_32).trans rfl⟩
theorem lk_32_24 : Lk 32 24 (.iload_n 2) 0 0 (0) := ⟨1, 0, (congrArg (fun l => pm_look l 24) cq_32).trans rfl⟩
theorem lk_32_25 : Lk 32 25 (.invokevirtual 54) 33 0 (0) := ⟨3, 914, (congrArg (fun l => pm_look l 25) cq_32).trans rfl⟩
theorem lk_32_28 : Lk 32 28 (.aload_n 0) 0 0 (0) := ⟨1, 0, (congrArg (fun l => pm_look l 28) cq_32).trans rfl⟩
theorem lk_32_29 : Lk 32 29 (.getfield 19) 3 3 (2) := ⟨3, 360, (congrArg (fun l => pm_look l 29) cq_32).trans rfl⟩
theorem lk_32_32 : Lk 32 32 (.iconst 0) 0 0 (0) := ⟨1, 0, (congrArg (fun l => pm_look l 32) cq_32).trans rfl⟩
theorem lk_32_33 : Lk 32 33 (.iconst 1) 0 0 (0) := ⟨1, 0, (congrArg (fun l => pm_look l 33) cq_32).trans rfl⟩
theorem lk_32_34 : Lk 32 34 (.iastore) 0 0 (0) := ⟨1, 0, (congrArg (fun l => pm_look l 34) cq_32).trans rfl⟩
theorem lk_32_35 : Lk 32 35 (.aload_n 0) 0 0 (0) := ⟨1, 0, (congrArg (fun l => pm_look l 35) cq_32).trans rfl⟩
theorem lk_32_36 : Lk 32 36 (.getfield 22) 3 4 (2) := ⟨3, 361, (congrArg (fun l => pm_look l 36) cq_32).trans rfl⟩
theorem lk_32_39 : Lk 32 39 (.iconst 0) 0 0 (0) := ⟨1, 0, (congrArg (fun l => pm_look l 39) cq_32).trans rfl⟩
theorem lk_32_40 : Lk 32 40 (.iconst 0) 0 0 (0) := ⟨1, 0, (congrArg (fun l => pm_look l 40) cq_32).trans rfl⟩
theorem lk_32_41 : Lk 32 41 (.iastore) 0 0 (0) := ⟨1, 0, (congrArg (fun l => pm_look l 41) cq_32).trans rfl⟩
theorem lk_32_42 : Lk 32 42 (.iconst 1) 0 0 (0) := ⟨1, 0, (congrArg (fun l => pm_look l 42) cq_32).trans rfl⟩
theorem lk_32_43 : Lk 32 43 (.istore_n 3) 0 0 (0) := ⟨1, 0, (congrArg (fun l => pm_look l 43) cq_32).trans rfl⟩
theorem lk_32_44 : Lk 32 44 (.iload_n 3) 0 0 (0) := ⟨1, 0, (congrArg (fun l => pm_look l 44) cq_32).trans rfl⟩
theorem lk_32_45 : Lk 32 45 (.iconst 1) 0 0 (0) := ⟨1, 0, (congrArg (fun l => pm_look l 45) cq_32).trans rfl⟩
theorem lk_32_46 : Lk 32 46 (.iload_n 2) 0 0 (0) := ⟨1, 0, (congrArg (fun l => pm_look l 46) cq_32).trans rfl⟩
theorem lk_32_47 : Lk 32 47 (.ishl) 0 0 (0) := ⟨1, 0, (congrArg (fun l => pm_look l 47) cq_32).trans rfl⟩
theorem lk_32_48 : Lk 32 48 (.if_icmp .ge 86) 0 0 (0) := ⟨3, 0, (congrArg (fun l => pm_look l 48) cq_32).trans rfl⟩
theorem lk_32_51 : Lk 32 51 (.iload_n 3) 0 0 (0) := ⟨1, 0, (congrArg (fun l => pm_look l 51) cq_32).trans rfl⟩
theorem lk_32_52 : Lk 32 52 (.iload_n 3) 0 0 (0) := ⟨1, 0, (congrArg (fun l => pm_look l 52) cq_32).trans rfl⟩
theorem lk_32_53 : Lk 32 53 (.ineg) 0 0 (0) := ⟨1, 0, (congrArg (fun l => pm_look l 53) cq_32).trans rfl⟩
theorem lk_32_54 : Lk 32 54 (.iand) 0 0 (0) := ⟨1, 0, (congrArg (fun l => pm_look l 54) cq_32).trans rfl⟩
theorem lk_32_55 : Lk 32 55 (.istore 4) 0 0 (0) := ⟨2, 0, (congrArg (fun l => pm_look l 55) cq_32).trans rfl⟩
theorem lk_32_57 : Lk 32 57 (.iload_n 3) 0 0 (0) := ⟨1, 0, (congrArg (fun l => pm_look l 57) cq_32).trans rfl⟩
theorem lk_32_58 : Lk 32 58 (.iload 4) 0 0 (0) := ⟨2, 0, (congrArg (fun l => pm_look l 58) cq_32).trans rfl⟩
theorem lk_32_60 : Lk 32 60 (.ixor) 0 0 (0) := ⟨1, 0, (congrArg (fun l => pm_look l 60) cq_32).trans rfl⟩
theorem lk_32_61 : Lk 32 61 (.istore 5) 0 0 (0) := ⟨2, 0, (congrArg (fun l => pm_look l 61) cq_32).trans rfl⟩
theorem lk_32_63 : Lk 32 63 (.aload_n 0) 0 0 (0) := ⟨1, 0, (congrArg (fun l => pm_look l 63) cq_32).trans rfl⟩
theorem lk_32_64 : Lk 32 64 (.getfield 15) 3 2 (2) := ⟨3, 359, (congrArg (fun l => pm_look l 64) cq_32).trans rfl⟩
theorem lk_32_67 : Lk 32 67 (.iload 4) 0 0 (0) := ⟨2, 0, (congrArg (fun l => pm_look l 67) cq_32).trans rfl⟩
theorem lk_32_69 : Lk 32 69 (.invokestatic 58) 165 1 (0) := ⟨3, 919, (congrArg (fun l => pm_look l 69) cq_32).trans rfl⟩
theorem lk_32_72 : Lk 32 72 (.iaload) 0 0 (0) := ⟨1, 0, (congrArg (fun l => pm_look l 72) cq_32).trans rfl⟩
theorem lk_32_73 : Lk 32 73 (.iload 5) 0 0 (0) := ⟨2, 0, (congrArg (fun l => pm_look l 73) cq_32).trans rfl⟩
theorem lk_32_75 : Lk 32 75 (.iand) 0 0 (0) := ⟨1, 0, (congrArg (fun l => pm_look l 75) cq_32).trans rfl⟩
theorem lk_32_76 : Lk 32 76 (.ifCond .ne 7) 0 0 (0) := ⟨3, 0, (congrArg (fun l => pm_look l 76) cq_32).trans rfl⟩
theorem lk_32_79 : Lk 32 79 (.iconst 1) 0 0 (0) := ⟨1, 0, (congrArg (fun l => pm_look l 79) cq_32).trans rfl⟩
theorem lk_32_80 : Lk 32 80 (.goto 4) 0 0 (0) := ⟨3, 0, (congrArg (fun l => pm_look l 80) cq_32).trans rfl⟩
theorem lk_32_83 : Lk 32 83 (.iconst 0) 0 0 (0) := ⟨1, 0, (congrArg (fun l => pm_look l 83) cq_32).trans rfl⟩
theorem lk_32_84 : Lk 32 84 (.istore 6) 0 0 (0) := ⟨2, 0, (congrArg (fun l => pm_look l 84) cq_32).trans rfl⟩
theorem lk_32_86 : Lk 32 86 (.aload_n 0) 0 0 (0) := ⟨1, 0, (congrArg (fun l => pm_look l 86) cq_32).trans rfl⟩
theorem lk_32_87 : Lk 32 87 (.getfield 19) 3 3 (2) := ⟨3, 360, (congrArg (fun l => pm_look l 87) cq_32).trans rfl⟩
theorem lk_32_90 : Lk 32 90 (.iload_n 3) 0 0 (0) := ⟨1, 0, (congrArg (fun l => pm_look l 90) cq_32).trans rfl⟩
theorem lk_32_91 : Lk 32 91 (.iload 6) 0 0 (0) := ⟨2, 0, (congrArg (fun l => pm_look l 91) cq_32).trans rfl⟩
theorem lk_32_93 : Lk 32 93 (.ifCond .eq 13) 0 0 (0) := ⟨3, 0, (congrArg (fun l => pm_look l 93) cq_32).trans rfl⟩
theorem lk_32_96 : Lk 32 96 (.aload_n 0) 0 0 (0) := ⟨1, 0, (congrArg (fun l => pm_look l 96) cq_32).trans rfl⟩
theorem lk_32_97 : Lk 32 97 (.getfield 19) 3 3 (2) := ⟨3, 360, (congrArg (fun l => pm_look l 97) cq_32).trans rfl⟩
theorem lk_32_100 : Lk 32 100 (.iload 5) 0 0 (0) := ⟨2, 0, (congrArg (fun l => pm_look l 100) cq_32).trans rfl⟩
theorem lk_32_102 : Lk 32 102 (.iaload) 0 0 (0) := ⟨1, 0, (congrArg (fun l => pm_look l 102) cq_32).trans rfl⟩
theorem lk_32_103 : Lk 32 103 (.goto 4) 0 0 (0) := ⟨3, 0, (congrArg (fun l => pm_look l 103) cq_32).trans rfl⟩
theorem lk_32_106 : Lk 32 106 (.iconst 0) 0 0 (0) := ⟨1, 0, (congrArg (fun l => pm_look l 106) cq_32).trans rfl⟩
theorem lk_32_107 : Lk 32 107 (.iastore) 0 0 (0) := ⟨1, 0, (congrArg (fun l => pm_look l 107) cq_32).trans rfl⟩
theorem lk_32_108 : Lk 32 108 (.aload_n 0) 0 0 (0) := ⟨1, 0, (congrArg (fun l => pm_look l 108) cq_32).trans rfl⟩
theorem lk_32_109 : Lk 32 109 (.getfield 22) 3 4 (2) := ⟨3, 361, (congrArg (fun l => pm_look l 109) cq_32).trans rfl⟩
theorem lk_32_112 : Lk 32 112 (.iload_n 3) 0 0 (0) := ⟨1, 0, (congrArg (fun l => pm_look l 112) cq_32).trans rfl⟩
theorem lk_32_113 : Lk 32 113 (.aload_n 0) 0 0 (0) := ⟨1, 0, (congrArg (fun l => pm_look l 113) cq_32).trans rfl⟩
theorem lk_32_114 : Lk 32 114 (.iload 4) 0 0 (0) := ⟨2, 0, (congrArg (fun l => pm_look l 114) cq_32).trans rfl⟩
theorem lk_32_116 : Lk 32 116 (.iload 5) 0 0 (0) := ⟨2, 0, (congrArg (fun l => pm_look l 116) cq_32).trans rfl⟩
theorem lk_32_118 : Lk 32 118 (.aload_n 0) 0 0 (0) := ⟨1, 0, (congrArg (fun l => pm_look l 118) cq_32).trans rfl⟩
theorem lk_32_119 : Lk 32 119 (.getfield 19) 3 3 (2) := ⟨3, 360, (congrArg (fun l => pm_look l 119) cq_32).trans rfl⟩
theorem lk_32_122 : Lk 32 122 (.iload_n 3) 0 0 (0) := ⟨1, 0, (congrArg (fun l => pm_look l 122) cq_32).trans rfl⟩
theorem lk_32_123 : Lk 32 123 (.iaload) 0 0 (0) := ⟨1, 0, (congrArg (fun l => pm_look l 123) cq_32).trans rfl⟩
theorem lk_32_124 : Lk 32 124 (.invokevirtual 62) 34 0 (0) := ⟨3, 920, (congrArg (fun l => pm_look l 124) cq_32).trans rfl⟩
theorem lk_32_127 : Lk 32 127 (.iastore) 0 0 (0) := ⟨1, 0, (congrArg (fun l => pm_look l 127) cq_32).trans rfl⟩
theorem lk_32_128 : Lk 32 128 (.iinc 3 1) 0 0 (0) := ⟨3, 0, (congrArg (fun l => pm_look l 128) cq_32).trans rfl⟩
theorem lk_32_131 : Lk 32 131 (.goto (-87)) 0 0 (0) := ⟨3, 0, (congrArg (fun l => pm_look l 131) cq_32).trans rfl⟩
theorem lk_32_134 : Lk 32 134 (.aload_n 0) 0 0 (0) := ⟨1, 0, (congrArg (fun l => pm_look l 134) cq_32).trans rfl⟩
theorem lk_32_135 : Lk 32 135 (.getfield 22) 3 4 (2) := ⟨3, 361, (congrArg (fun l => pm_look l 135) cq_32).trans rfl⟩
theorem lk_32_138 : Lk 32 138 (.iconst 1) 0 0 (0) := ⟨1, 0, (congrArg (fun l => pm_look l 138) cq_32).trans rfl⟩
theorem lk_32_139 : Lk 32 139 (.iload_n 2) 0 0 (0) := ⟨1, 0, (congrArg (fun l => pm_look l 139) cq_32).trans rfl⟩
theorem lk_32_140 : Lk 32 140 (.ishl) 0 0 (0) := ⟨1, 0, (congrArg (fun l => pm_look l 140) cq_32).trans rfl⟩
theorem lk_32_141 : Lk 32 141 (.iconst 1) 0 0 (0) := ⟨1, 0, (congrArg (fun l => pm_look l 141) cq_32).trans rfl⟩
theorem lk_32_142 : Lk 32 142 (.isub) 0 0 (0) := ⟨1, 0, (congrArg (fun l => pm_look l 142) cq_32).trans rfl⟩
theorem lk_32_143 : Lk 32 143 (.iaload) 0 0 (0) := ⟨1, 0, (congrArg (fun l => pm_look l 143) cq_32).trans rfl⟩
theorem lk_32_144 : Lk 32 144 (.ireturn) 0 0 (0) := ⟨1, 0, (congrArg (fun l => pm_look l 144) cq_32).trans rfl⟩
theorem cq_33 : pm_code 33 = cd_33 := rfl
theorem lk_33_0 : Lk 33 0 (.iconst 0) 0 0 (0) := ⟨1, 0, (congrArg (fun l => pm_look l 0) cq_33).trans rfl⟩
theorem lk_33_1 : Lk 33 1 (.istore_n 3) 0 0 (0) := ⟨1, 0, (congrArg (fun l => pm_look l 1) cq_33).trans rfl⟩
theorem lk_33_2 : Lk 33 2 (.iload_n 3) 0 0 (0) := ⟨1, 0, (congrArg (fun l => pm_look l 2) cq_33).trans rfl⟩
theorem lk_33_3 : Lk 33 3 (.iload_n 2) 0 0 (0) := ⟨1, 0, (congrArg (fun l => pm_look l 3) cq_33).trans rfl⟩
theorem lk_33_4 : Lk 33 4 (.if_icmp .ge 63) 0 0 (0) := ⟨3, 0, (congrArg (fun l => pm_look l 4) cq_33).trans rfl⟩
theorem lk_33_7 : Lk 33 7 (.aload_n 0) 0 0 (0) := ⟨1, 0, (congrArg (fun l => pm_look l 7) cq_33).trans rfl⟩
theorem lk_33_8 : Lk 33 8 (.getfield 15) 3 2 (2) := ⟨3, 359, (congrArg (fun l => pm_look l 8) cq_33).trans rfl⟩
theorem lk_33_11 : Lk 33 11 (.iload_n 3) 0 0 (0) := ⟨1, 0, (congrArg (fun l => pm_look l 11) cq_33).trans rfl⟩
theorem lk_33_12 : Lk 33 12 (.iconst 0) 0 0 (0) := ⟨1, 0, (congrArg (fun l => pm_look l 12) cq_33).trans rfl⟩
theorem lk_33_13 : Lk 33 13 (.iastore) 0 0 (0) := ⟨1, 0, (congrArg (fun l => pm_look l 13) cq_33).trans rfl⟩
theorem lk_33_14 : Lk 33 14 (.iconst 0) 0 0 (0) := ⟨1, 0, (congrArg (fun l => pm_look l 14) cq_33).trans rfl⟩
theorem lk_33_15 : Lk 33 15 (.istore 4) 0 0 (0) := ⟨2, 0, (congrArg (fun l => pm_look l 15) cq_33).trans rfl⟩
theorem lk_33_17 : Lk 33 17 (.iload 4) 0 0 (0) := ⟨2, 0, (congrArg (fun l => pm_look l 17) cq_33).trans rfl⟩
theorem lk_33_19 : Lk 33 19 (.iload_n 2) 0 0 (0) := ⟨1, 0, (congrArg (fun l => pm_look l 19) cq_33).trans rfl⟩
theorem lk_33_20 : Lk 33 20 (.if_icmp .ge 41) 0 0 (0) := ⟨3, 0, (congrArg (fun l => pm_look l 20) cq_33).trans rfl⟩
theorem lk_33_23 : Lk 33 23 (.aload_n 0) 0 0 (0) := ⟨1, 0, (congrArg (fun l => pm_look l 23) cq_33).trans rfl⟩
theorem lk_33_24 : Lk 33 24 (.getfield 15) 3 2 (2) := ⟨3, 359, (congrArg (fun l => pm_look l 24) cq_33).trans rfl⟩
theorem lk_33_27 : Lk 33 27 (.iload_n 3) 0 0 (0) := ⟨1, 0, (congrArg (fun l => pm_look l 27) cq_33).trans rfl⟩
theorem lk_33_28 : Lk 33 28 (.dup2) 0 0 (0) := ⟨1, 0, (congrArg (fun l => pm_look l 28) cq_33).trans rfl⟩
theorem lk_33_29 : Lk 33 29 (.iaload) 0 0 (0) := ⟨1, 0, (congrArg (fun l => pm_look l 29) cq_33).trans rfl⟩
theorem lk_33_30 : Lk 33 30 (.aload_n 0) 0 0 (0) := ⟨1, 0, (congrArg (fun l => pm_look l 30) cq_33).trans rfl⟩
theorem lk_33_31 : Lk 33 31 (.getfield 25) 3 0 (2) := ⟨3, 357, (congrArg (fun l => pm_look l 31) cq_33).trans rfl⟩
theorem lk_33_34 : Lk 33 34 (.iload_n 1) 0 0 (0) := ⟨1, 0, (congrArg (fun l => pm_look l 34) cq_33).trans rfl⟩
theorem lk_33_35 : Lk 33 35 (.iload_n 3) 0 0 (0) := ⟨1, 0, (congrArg (fun l => pm_look l 35) cq_33).trans rfl⟩
theorem lk_33_36 : Lk 33 36 (.iload 4) 0 0 (0) := ⟨2, 0, (congrArg (fun l => pm_look l 36) cq_33).trans rfl⟩
theorem lk_33_38 : Lk 33 38 (.invokevirtual 66) 93 0 (0) := ⟨3, 918, (congrArg (fun l => pm_look l 38) cq_33).trans rfl⟩
theorem lk_33_41 : Lk 33 41 (.iconst (-1)) 0 0 (0) := ⟨1, 0, (congrArg (fun l => pm_look l 41) cq_33).trans rfl⟩
theorem lk_33_42 : Lk 33 42 (.if_icmp .eq 10) 0 0 (0) := ⟨3, 0, (congrArg (fun l => pm_look l 42) cq_33).trans rfl⟩
theorem lk_33_45 : Lk 33 45 (.iconst 1) 0 0 (0) := ⟨1, 0, (congrArg (fun l => pm_look l 45) cq_33).trans rfl⟩
theorem lk_33_46 : Lk 33 46 (.iload 4) 0 0 (0) := ⟨2, 0, (congrArg (fun l => pm_look l 46) cq_33).trans rfl⟩
theorem lk_33_48 : Lk 33 48 (.ishl) 0 0 (0) := ⟨1, 0, (congrArg (fun l => pm_look l 48) cq_33).trans rfl⟩
theorem lk_33_49 : Lk 33 49 (.goto 4) 0 0 (0) := ⟨3, 0, (congrArg (fun l => pm_look l 49) cq_33).trans rfl⟩
theorem lk_33_52 : Lk 33 52 (.iconst 0) 0 0 (0) := ⟨1, 0, (congrArg (fun l => pm_look l 52) cq_33).trans rfl⟩
theorem lk_33_53 : Lk 33 53 (.ior) 0 0 (0) := ⟨1, 0, (congrArg (fun l => pm_look l 53) cq_33).trans rfl⟩
theorem lk_33_54 : Lk 33 54 (.iastore) 0 0 (0) := ⟨1, 0, (congrArg (fun l => pm_look l 54) cq_33).trans rfl⟩
theorem lk_33_55 : Lk 33 55 (.iinc 4 1) 0 0 (0) := ⟨3, 0, (congrArg (fun l => pm_look l 55) cq_33).trans rfl⟩
theorem lk_33_58 : Lk 33 58 (.goto (-41)) 0 0 (0) := ⟨3, 0, (congrArg (fun l => pm_look l 58) cq_33).trans rfl⟩
theorem lk_33_61 : Lk 33 61 (.iinc 3 1) 0 0 (0) := ⟨3, 0, (congrArg (fun l => pm_look l 61) cq_33).trans rfl⟩
theorem lk_33_64 : Lk 33 64 (.goto (-62)) 0 0 (0) := ⟨3, 0, (congrArg (fun l => pm_look l 64) cq_33).trans rfl⟩
theorem lk_33_67 : Lk 33 67 (.return_) 0 0 (0) := ⟨1, 0, (congrArg (fun l => pm_look l 67) cq_33).trans rfl⟩
theorem cq_34 : pm_code 34 = cd_34 := rfl
theorem lk_34_0 : Lk 34 0 (.iload_n 3) 0 0 (0) := ⟨1, 0, (congrArg (fun l => pm_look l 0) cq_34).trans rfl⟩
theorem lk_34_1 : Lk 34 1 (.ifCond .eq 5) 0 0 (0) := ⟨3, 0, (congrArg (fun l => pm_look l 1) cq_34).trans rfl⟩
theorem lk_34_4 : Lk 34 4 (.iconst 1) 0 0 (0) := ⟨1, 0, (congrArg (fun l => pm_look l 4) cq_34).trans rfl⟩
theorem lk_34_5 : Lk 34 5 (.ireturn) 0 0 (0) := ⟨1, 0, (congrArg (fun l => pm_look l 5) cq_34).trans rfl⟩
theorem lk_34_6 : Lk 34 6 (.ldc 70) 0 0 (1000000) := ⟨2, 924, (congrArg (fun l => pm_look l 6) cq_34).trans rfl⟩
theorem lk_34_8 : Lk 34 8 (.istore 4) 0 0 (0) := ⟨2, 0, (congrArg (fun l => pm_look l 8) cq_34).trans rfl⟩
theorem lk_34_10 : Lk 34 10 (.iload_n 2) 0 0 (0) := ⟨1, 0, (congrArg (fun l => pm_look l 10) cq_34).trans rfl⟩
theorem lk_34_11 : Lk 34 11 (.istore 5) 0 0 (0) := ⟨2, 0, (congrArg (fun l => pm_look l 11) cq_34).trans rfl⟩
theorem lk_34_13 : Lk 34 13 (.iload 5) 0 0 (0) := ⟨2, 0, (congrArg (fun l => pm_look l 13) cq_34).trans rfl⟩
theorem lk_34_15 : Lk 34 15 (.ifCond .le 44) 0 0 (0) := ⟨3, 0, (congrArg (fun l => pm_look l 15) cq_34).trans rfl⟩
theorem lk_34_18 : Lk 34 18 (.iload 5) 0 0 (0) := ⟨2, 0, (congrArg (fun l => pm_look l 18) cq_34).trans rfl⟩
theorem lk_34_20 : Lk 34 20 (.iconst 1) 0 0 (0) := ⟨1, 0, (congrArg (fun l => pm_look l 20) cq_34).trans rfl⟩
theorem lk_34_21 : Lk 34 21 (.isub) 0 0 (0) := ⟨1, 0, (congrArg (fun l => pm_look l 21) cq_34).trans rfl⟩
theorem lk_34_22 : Lk 34 22 (.iload_n 2) 0 0 (0) := ⟨1, 0, (congrArg (fun l => pm_look l 22) cq_34).trans rfl⟩
theorem lk_34_23 : Lk 34 23 (.iand) 0 0 (0) := ⟨1, 0, (congrArg (fun l => pm_look l 23) cq_34).trans rfl⟩
theorem lk_34_24 : Lk 34 24 (.istore 5) 0 0 (0) := ⟨2, 0, (congrArg (fun l => pm_look l 24) cq_34).trans rfl⟩
theorem lk_34_26 : Lk 34 26 (.aload_n 0) 0 0 (0) := ⟨1, 0, (congrArg (fun l => pm_look l 26) cq_34).trans rfl⟩
theorem lk_34_27 : Lk 34 27 (.getfield 19) 3 3 (2) := ⟨3, 360, (congrArg (fun l => pm_look l 27) cq_34).trans rfl⟩
theorem lk_34_30 : Lk 34 30 (.iload_n 1) 0 0 (0) := ⟨1, 0, (congrArg (fun l => pm_look l 30) cq_34).trans rfl⟩
theorem lk_34_31 : Lk 34 31 (.iload 5) 0 0 (0) := ⟨2, 0, (congrArg (fun l => pm_look l 31) cq_34).trans rfl⟩
theorem lk_34_33 : Lk 34 33 (.ior) 0 0 (0) := ⟨1, 0, (congrArg (fun l => pm_look l 33) cq_34).trans rfl⟩
theorem lk_34_34 : Lk 34 34 (.iaload) 0 0 (0) := ⟨1, 0, (congrArg (fun l => pm_look l 34) cq_34).trans rfl⟩
theorem lk_34_35 : Lk 34 35 (.ifCond .eq (-22)) 0 0 (0) := ⟨3, 0, (congrArg (fun l => pm_look l 35) cq_34).trans rfl⟩
theorem lk_34_38 : Lk 34 38 (.iload 4) 0 0 (0) := ⟨2, 0, (congrArg (fun l => pm_look l 38) cq_34).trans rfl⟩
theorem lk_34_40 : Lk 34 40 (.iconst 1) 0 0 (0) := ⟨1, 0, (congrArg (fun l => pm_look l 40) cq_34).trans rfl⟩
theorem lk_34_41 : Lk 34 41 (.aload_n 0) 0 0 (0) := ⟨1, 0, (congrArg (fun l => pm_look l 41) cq_34).trans rfl⟩
theorem lk_34_42 : Lk 34 42 (.getfield 22) 3 4 (2) := ⟨3, 361, (congrArg (fun l => pm_look l 42) cq_34).trans rfl⟩
theorem lk_34_45 : Lk 34 45 (.iload_n 2) 0 0 (0) := ⟨1, 0, (congrArg (fun l => pm_look l 45) cq_34).trans rfl⟩
theorem lk_34_46 : Lk 34 46 (.iload 5) 0 0 (0) := ⟨2, 0, (congrArg (fun l => pm_look l 46) cq_34).trans rfl⟩
theorem lk_34_48 : Lk 34 48 (.ixor) 0 0 (0) := ⟨1, 0, (congrArg (fun l => pm_look l 48) cq_34).trans rfl⟩
theorem lk_34_49 : Lk 34 49 (.iaload) 0 0 (0) := ⟨1, 0, (congrArg (fun l => pm_look l 49) cq_34).trans rfl⟩
theorem lk_34_50 : Lk 34 50 (.iadd) 0 0 (0) := ⟨1, 0, (congrArg (fun l => pm_look l 50) cq_34).trans rfl⟩
theorem lk_34_51 : Lk 34 51 (.invokestatic 71) 1001 0 (0) := ⟨3, 925, (congrArg (fun l => pm_look l 51) cq_34).trans rfl⟩
theorem lk_34_54 : Lk 34 54 (.istore 4) 0 0 (0) := ⟨2, 0, (congrArg (fun l => pm_look l 54) cq_34).trans rfl⟩
theorem lk_34_56 : Lk 34 56 (.goto (-43)) 0 0 (0) := ⟨3, 0, (congrArg (fun l => pm_look l 56) cq_34).trans rfl⟩
theorem lk_34_59 : Lk 34 59 (.iload 4) 0 0 (0) := ⟨2, 0, (congrArg (fun l => pm_look l 59) cq_34).trans rfl⟩
theorem lk_34_61 : Lk 34 61 (.ireturn) 0 0 (0) := ⟨1, 0, (congrArg (fun l => pm_look l 61) cq_34).trans rfl⟩
theorem cq_35 : pm_code 35 = cd_35 := rfl
theorem lk_35_0 : Lk 35 0 (.aload_n 0) 0 0 (0) := ⟨1, 0, (congrArg (fun l => pm_look l 0) cq_35).trans rfl⟩
theorem lk_35_1 : Lk 35 1 (.invokespecial 3) 999 0 (0) := ⟨3, 201, (congrArg (fun l => pm_look l 1) cq_35).trans rfl⟩
theorem lk_35_4 : Lk 35 4 (.aload_n 0) 0 0 (0) := ⟨1, 0, (congrArg (fun l => pm_look l 4) cq_35).trans rfl⟩
theorem lk_35_5 : Lk 35 5 (.iload_n 1) 0 0 (0) := ⟨1, 0, (congrArg (fun l => pm_look l 5) cq_35).trans rfl⟩
theorem lk_35_6 : Lk 35 6 (.newarray .int) 100 0 (0) := ⟨2, 0, (congrArg (fun l => pm_look l 6) cq_35).trans rfl⟩
theorem lk_35_8 : Lk 35 8 (.putfield 9) 4 0 (2) := ⟨3, 202, (congrArg (fun l => pm_look l 8) cq_35).trans rfl⟩
theorem lk_35_11 : Lk 35 11 (.aload_n 0) 0 0 (0) := ⟨1, 0, (congrArg (fun l => pm_look l 11) cq_35).trans rfl⟩
theorem lk_35_12 : Lk 35 12 (.iload_n 1) 0 0 (0) := ⟨1, 0, (congrArg (fun l => pm_look l 12) cq_35).trans rfl⟩
theorem lk_35_13 : Lk 35 13 (.newarray .int) 100 0 (0) := ⟨2, 0, (congrArg (fun l => pm_look l 13) cq_35).trans rfl⟩
theorem lk_35_15 : Lk 35 15 (.putfield 15) 4 1 (2) := ⟨3, 204, (congrArg (fun l => pm_look l 15) cq_35).trans rfl⟩
theorem lk_35_18 : Lk 35 18 (.aload_n 0) 0 0 (0) := ⟨1, 0, (congrArg (fun l => pm_look l 18) cq_35).trans rfl⟩
theorem lk_35_19 : Lk 35 19 (.iload_n 1) 0 0 (0) := ⟨1, 0, (congrArg (fun l => pm_look l 19) cq_35).trans rfl⟩
theorem lk_35_20 : Lk 35 20 (.newarray .int) 100 0 (0) := ⟨2, 0, (congrArg (fun l => pm_look l 20) cq_35).trans rfl⟩
theorem lk_35_22 : Lk 35 22 (.putfield 18) 4 2 (2) := ⟨3, 206, (congrArg (fun l => pm_look l 22) cq_35).trans rfl⟩
theorem lk_35_25 : Lk 35 25 (.return_) 0 0 (0) := ⟨1, 0, (congrArg (fun l => pm_look l 25) cq_35).trans rfl⟩
theorem cq_36 : pm_code 36 = cd_36 := rfl
theorem lk_36_0 : Lk 36 0 (.aload_n 0) 0 0 (0) := ⟨1, 0, (congrArg (fun l => pm_look l 0) cq_36).trans rfl⟩
theorem lk_36_1 : Lk 36 1 (.getfield 21) 4 3 (0) := ⟨3, 210, (congrArg (fun l => pm_look l 1) cq_36).trans rfl⟩
theorem lk_36_4 : Lk 36 4 (.aload_n 0) 0 0 (0) := ⟨1, 0, (congrArg (fun l => pm_look l 4) cq_36).trans rfl⟩
theorem lk_36_5 : Lk 36 5 (.getfield 9) 4 0 (2) := ⟨3, 202, (congrArg (fun l => pm_look l 5) cq_36).trans rfl⟩
theorem lk_36_8 : Lk 36 8 (.arraylength) 0 0 (0) := ⟨1, 0, (congrArg (fun l => pm_look l 8) cq_36).trans rfl⟩
theorem lk_36_9 : Lk 36 9 (.if_icmp .lt 5) 0 0 (0) := ⟨3, 0, (congrArg (fun l => pm_look l 9) cq_36).trans rfl⟩
theorem lk_36_12 : Lk 36 12 (.iconst (-1)) 0 0 (0) := ⟨1, 0, (congrArg (fun l => pm_look l 12) cq_36).trans rfl⟩
theorem lk_36_13 : Lk 36 13 (.ireturn) 0 0 (0) := ⟨1, 0, (congrArg (fun l => pm_look l 13) cq_36).trans rfl⟩
theorem lk_36_14 : Lk 36 14 (.aload_n 0) 0 0 (0) := ⟨1, 0, (congrArg (fun l => pm_look l 14) cq_36).trans rfl⟩
theorem lk_36_15 : Lk 36 15 (.getfield 9) 4 0 (2) := ⟨3, 202, (congrArg (fun l => pm_look l 15) cq_36).trans rfl⟩
theorem lk_36_18 : Lk 36 18 (.aload_n 0) 0 0 (0) := ⟨1, 0, (congrArg (fun l => pm_look l 18) cq_36).trans rfl⟩
theorem lk_36_19 : Lk 36 19 (.getfield 21) 4 3 (0) := ⟨3, 210, (congrArg (fun l => pm_look l 19) cq_36).trans rfl⟩
theorem lk_36_22 : Lk 36 22 (.iload_n 1) 0 0 (0) := ⟨1, 0, (congrArg (fun l => pm_look l 22) cq_36).trans rfl⟩
theorem lk_36_23 : Lk 36 23 (.iastore) 0 0 (0) := ⟨1, 0, (congrArg (fun l => pm_look l 23) cq_36).trans rfl⟩
theorem lk_36_24 : Lk 36 24 (.aload_n 0) 0 0 (0) := ⟨1, 0, (congrArg (fun l => pm_look l 24) cq_36).trans rfl⟩
theorem lk_36_25 : Lk 36 25 (.getfield 15) 4 1 (2) := ⟨3, 204, (congrArg (fun l => pm_look l 25) cq_36).trans rfl⟩
theorem lk_36_28 : Lk 36 28 (.aload_n 0) 0 0 (0) := ⟨1, 0, (congrArg (fun l => pm_look l 28) cq_36).trans rfl⟩
theorem lk_36_29 : Lk 36 29 (.getfield 21) 4 3 (0) := ⟨3, 210, (congrArg (fun l => pm_look l 29) cq_36).trans rfl⟩
theorem lk_36_32 : Lk 36 32 (.iload_n 2) 0 0 (0) := ⟨1, 0, (congrArg (fun l => pm_look l 32) cq_36).trans rfl⟩
theorem lk_36_33 : Lk 36 33 (.iastore) 0 0 (0) := ⟨1, 0, (congrArg (fun l => pm_look l 33) cq_36).trans rfl⟩
theorem lk_36_34 : Lk 36 34 (.aload_n 0) 0 0 (0) := ⟨1, 0, (congrArg (fun l => pm_look l 34) cq_36).trans rfl⟩
theorem lk_36_35 : Lk 36 35 (.getfield 18) 4 2 (2) := ⟨3, 206, (congrArg (fun l => pm_look l 35) cq_36).trans rfl⟩
theorem lk_36_38 : Lk 36 38 (.aload_n 0) 0 0 (0) := ⟨1, 0, (congrArg (fun l => pm_look l 38) cq_36).trans rfl⟩
theorem lk_36_39 : Lk 36 39 (.getfield 21) 4 3 (0) := ⟨3, 210, (congrArg (fun l => pm_look l 39) cq_36).trans rfl⟩
theorem lk_36_42 : Lk 36 42 (.iconst (-1)) 0 0 (0) := ⟨1, 0, (congrArg (fun l => pm_look l 42) cq_36).trans rfl⟩
theorem lk_36_43 : Lk 36 43 (.iastore) 0 0 (0) := ⟨1, 0, (congrArg (fun l => pm_look l 43) cq_36).trans rfl⟩
theorem lk_36_44 : Lk 36 44 (.aload_n 0) 0 0 (0) := ⟨1, 0, (congrArg (fun l => pm_look l 44) cq_36).trans rfl⟩
theorem lk_36_45 : Lk 36 45 (.dup) 0 0 (0) := ⟨1, 0, (congrArg (fun l => pm_look l 45) cq_36).trans rfl⟩
theorem lk_36_46 : Lk 36 46 (.getfield 21) 4 3 (0) := ⟨3, 210, (congrArg (fun l => pm_look l 46) cq_36).trans rfl⟩
theorem lk_36_49 : Lk 36 49 (.iconst 1) 0 0 (0) := ⟨1, 0, (congrArg (fun l => pm_look l 49) cq_36).trans rfl⟩
theorem lk_36_50 : Lk 36 50 (.iadd) 0 0 (0) := ⟨1, 0, (congrArg (fun l => pm_look l 50) cq_36).trans rfl⟩
theorem lk_36_51 : Lk 36 51 (.putfield 21) 4 3 (0) := ⟨3, 210, (congrArg (fun l => pm_look l 51) cq_36).trans rfl⟩
theorem lk_36_54 : Lk 36 54 (.aload_n 0) 0 0 (0) := ⟨1, 0, (congrArg (fun l => pm_look l 54) cq_36).trans rfl⟩
theorem lk_36_55 : Lk 36 55 (.getfield 21) 4 3 (0) := ⟨3, 210, (congrArg (fun l => pm_look l 55) cq_36).trans rfl⟩
theorem lk_36_58 : Lk 36 58 (.iconst 1) 0 0 (0) := ⟨1, 0, (congrArg (fun l => pm_look l 58) cq_36).trans rfl⟩
theorem lk_36_59 : Lk 36 59 (.isub) 0 0 (0) := ⟨1, 0, (congrArg (fun l => pm_look l 59) cq_36).trans rfl⟩
theorem lk_36_60 : Lk 36 60 (.ireturn) 0 0 (0) := ⟨1, 0, (congrArg (fun l => pm_look l 60) cq_36).trans rfl⟩
theorem cq_37 : pm_code 37 = cd_37 := rfl
theorem lk_37_0 : Lk 37 0 (.aload_n 0) 0 0 (0) := ⟨1, 0, (congrArg (fun l => pm_look l 0) cq_37).trans rfl⟩
theorem lk_37_1 : Lk 37 1 (.aload_n 1) 0 0 (0) := ⟨1, 0, (congrArg (fun l => pm_look l 1) cq_37).trans rfl⟩
theorem lk_37_2 : Lk 37 2 (.getfield 21) 4 3 (0) := ⟨3, 210, (congrArg (fun l => pm_look l 2) cq_37).trans rfl⟩
theorem lk_37_5 : Lk 37 5 (.aload_n 0) 0 0 (0) := ⟨1, 0, (congrArg (fun l => pm_look l 5) cq_37).trans rfl⟩
theorem lk_37_6 : Lk 37 6 (.getfield 9) 4 0 (2) := ⟨3, 202, (congrArg (fun l => pm_look l 6) cq_37).trans rfl⟩
theorem lk_37_9 : Lk 37 9 (.arraylength) 0 0 (0) := ⟨1, 0, (congrArg (fun l => pm_look l 9) cq_37).trans rfl⟩
theorem lk_37_10 : Lk 37 10 (.invokestatic 25) 1001 0 (0) := ⟨3, 653, (congrArg (fun l => pm_look l 10) cq_37).trans rfl⟩
theorem lk_37_13 : Lk 37 13 (.putfield 21) 4 3 (0) := ⟨3, 210, (congrArg (fun l => pm_look l 13) cq_37).trans rfl⟩
theorem lk_37_16 : Lk 37 16 (.iconst 0) 0 0 (0) := ⟨1, 0, (congrArg (fun l => pm_look l 16) cq_37).trans rfl⟩
theorem lk_37_17 : Lk 37 17 (.istore_n 2) 0 0 (0) := ⟨1, 0, (congrArg (fun l => pm_look l 17) cq_37).trans rfl⟩
theorem lk_37_18 : Lk 37 18 (.iload_n 2) 0 0 (0) := ⟨1, 0, (congrArg (fun l => pm_look l 18) cq_37).trans rfl⟩
theorem lk_37_19 : Lk 37 19 (.aload_n 0) 0 0 (0) := ⟨1, 0, (congrArg (fun l => pm_look l 19) cq_37).trans rfl⟩
theorem lk_37_20 : Lk 37 20 (.getfield 21) 4 3 (0) := ⟨3, 210, (congrArg (fun l => pm_look l 20) cq_37).trans rfl⟩
theorem lk_37_23 : Lk 37 23 (.if_icmp .ge 45) 0 0 (0) := ⟨3, 0, (congrArg (fun l => pm_look l 23) cq_37).trans rfl⟩
theorem lk_37_26 : Lk 37 26 (.aload_n 0) 0 0 (0) := ⟨1, 0, (congrArg (fun l => pm_look l 26) cq_37).trans rfl⟩
theorem lk_37_27 : Lk 37 27 (.getfield 9) 4 0 (2) := ⟨3, 202, (congrArg (fun l => pm_look l 27) cq_37).trans rfl⟩
theorem lk_37_30 : Lk 37 30 (.iload_n 2) 0 0 (0) := ⟨1, 0, (congrArg (fun l => pm_look l 30) cq_37).trans rfl⟩
theorem lk_37_31 : Lk 37 31 (.aload_n 1) 0 0 (0) := ⟨1, 0, (congrArg (fun l => pm_look l 31) cq_37).trans rfl⟩
theorem lk_37_32 : Lk 37 32 (.getfield 9) 4 0 (2) := ⟨3, 202, (congrArg (fun l => pm_look l 32) cq_37).trans rfl⟩
theorem lk_37_35 : Lk 37 35 (.iload_n 2) 0 0 (0) := ⟨1, 0, (congrArg (fun l => pm_look l 35) cq_37).trans rfl⟩
theorem lk_37_36 : Lk 37 36 (.iaload) 0 0 (0) := ⟨1, 0, (congrArg (fun l => pm_look l 36) cq_37).trans rfl⟩
theorem lk_37_37 : Lk 37 37 (.iastore) 0 0 (0) := ⟨1, 0, (congrArg (fun l => pm_look l 37) cq_37).trans rfl⟩
theorem lk_37_38 : Lk 37 38 (.aload_n 0) 0 0 (0) := ⟨1, 0, (congrArg (fun l => pm_look l 38) cq_37).trans rfl⟩
theorem lk_37_39 : Lk 37 39 (.getfield 15) 4 1 (2) := ⟨3, 204, (congrArg (fun l => pm_look l 39) cq_37).trans rfl⟩
theorem lk_37_42 : Lk 37 42 (.iload_n 2) 0 0 (0) := ⟨1, 0, (congrArg (fun l => pm_look l 42) cq_37).trans rfl⟩
theorem lk_37_43 : Lk 37 43 (.aload_n 1) 0 0 (0) := ⟨1, 0, (congrArg (fun l => pm_look l 43) cq_37).trans rfl⟩
theorem lk_37_44 : Lk 37 44 (.getfield 15) 4 1 (2) := ⟨3, 204, (congrArg (fun l => pm_look l 44) cq_37).trans rfl⟩
theorem lk_37_47 : Lk 37 47 (.iload_n 2) 0 0 (0) := ⟨1, 0, (congrArg (fun l => pm_look l 47) cq_37).trans rfl⟩
theorem lk_37_48 : Lk 37 48 (.iaload) 0 0 (0) := ⟨1, 0, (congrArg (fun l => pm_look l 48) cq_37).trans rfl⟩
theorem lk_37_49 : Lk 37 49 (.iastore) 0 0 (0) := ⟨1, 0, (congrArg (fun l => pm_look l 49) cq_37).trans rfl⟩
theorem lk_37_50 : Lk 37 50 (.aload_n 0) 0 0 (0) := ⟨1, 0, (congrArg (fun l => pm_look l 50) cq_37).trans rfl⟩
theorem lk_37_51 : Lk 37 51 (.getfield 18) 4 2 (2) := ⟨3, 206, (congrArg (fun l => pm_look l 51) cq_37).trans rfl⟩
theorem lk_37_54 : Lk 37 54 (.iload_n 2) 0 0 (0) := ⟨1, 0, (congrArg (fun l => pm_look l 54) cq_37).trans rfl⟩
theorem lk_37_55 : Lk 37 55 (.aload_n 1) 0 0 (0) := ⟨1, 0, (congrArg (fun l => pm_look l 55) cq_37).trans rfl⟩
theorem lk_37_56 : Lk 37 56 (.getfield 18) 4 2 (2) := ⟨3, 206, (congrArg (fun l => pm_look l 56) cq_37).trans rfl⟩
theorem lk_37_59 : Lk 37 59 (.iload_n 2) 0 0 (0) := ⟨1, 0, (congrArg (fun l => pm_look l 59) cq_37).trans rfl⟩
theorem lk_37_60 : Lk 37 60 (.iaload) 0 0 (0) := ⟨1, 0, (congrArg (fun l => pm_look l 60) cq_37).trans rfl⟩
theorem lk_37_61 : Lk 37 61 (.iastore) 0 0 (0) := ⟨1, 0, (congrArg (fun l => pm_look l 61) cq_37).trans rfl⟩
theorem lk_37_62 : Lk 37 62 (.iinc 2 1) 0 0 (0) := ⟨3, 0, (congrArg (fun l => pm_look l 62) cq_37).trans rfl⟩
theorem lk_37_65 : Lk 37 65 (.goto (-47)) 0 0 (0) := ⟨3, 0, (congrArg (fun l => pm_look l 65) cq_37).trans rfl⟩
theorem lk_37_68 : Lk 37 68 (.return_) 0 0 (0) := ⟨1, 0, (congrArg (fun l => pm_look l 68) cq_37).trans rfl⟩
theorem cq_38 : pm_code 38 = cd_38 := rfl
theorem lk_38_0 : Lk 38 0 (.iload_n 1) 0 0 (0) := ⟨1, 0, (congrArg (fun l => pm_look l 0) cq_38).trans rfl⟩
theorem lk_38_1 : Lk 38 1 (.ifCond .lt 11) 0 0 (0) := ⟨3, 0, (congrArg (fun l => pm_look l 1) cq_38).trans rfl⟩
theorem lk_38_4 : Lk 38 4 (.iload_n 1) 0 0 (0) := ⟨1, 0, (congrArg (fun l => pm_look l 4) cq_38).trans rfl⟩
theorem lk_38_5 : Lk 38 5 (.aload_n 0) 0 0 (0) := ⟨1, 0, (congrArg (fun l => pm_look l 5) cq_38).trans rfl⟩
theorem lk_38_6 : Lk 38 6 (.getfield 21) 4 3 (0) := ⟨3, 210, (congrArg (fun l => pm_look l 6) cq_38).trans rfl⟩
theorem lk_38_9 : Lk 38 9 (.if_icmp .lt 5) 0 0 (0) := ⟨3, 0, (congrArg (fun l => pm_look l 9) cq_38).trans rfl⟩
theorem lk_38_12 : Lk 38 12 (.iconst (-1)) 0 0 (0) := ⟨1, 0, (congrArg (fun l => pm_look l 12) cq_38).trans rfl⟩
theorem lk_38_13 : Lk 38 13 (.ireturn) 0 0 (0) := ⟨1, 0, (congrArg (fun l => pm_look l 13) cq_38).trans rfl⟩
theorem lk_38_14 : Lk 38 14 (.iload_n 2) 0 0 (0) := ⟨1, 0, (congrArg (fun l => pm_look l 14) cq_38).trans rfl⟩
theorem lk_38_15 : Lk 38 15 (.tableswitch 46 0 2 #[25, 32, 39]) 0 0 (0) := ⟨25, 0, (congrArg (fun l => pm_look l 15) cq_38).trans rfl⟩
theorem lk_38_40 : Lk 38 40 (.aload_n 0) 0 0 (0) := ⟨1, 0, (congrArg (fun l => pm_look l 40) cq_38).trans rfl⟩
theorem lk_38_41 : Lk 38 41 (.getfield 9) 4 0 (2) := ⟨3, 202, (congrArg (fun l => pm_look l 41) cq_38).trans rfl⟩
theorem lk_38_44 : Lk 38 44 (.iload_n 1) 0 0 (0) := ⟨1, 0, (congrArg (fun l => pm_look l 44) cq_38).trans rfl⟩
theorem lk_38_45 : Lk 38 45 (.iaload) 0 0 (0) := ⟨1, 0, (congrArg (fun l => pm_look l 45) cq_38).trans rfl⟩
theorem lk_38_46 : Lk 38 46 (.ireturn) 0 0 (0) := ⟨1, 0, (congrArg (fun l => pm_look l 46) cq_38).trans rfl⟩
theorem lk_38_47 : Lk 38 47 (.aload_n 0) 0 0 (0) := ⟨1, 0, (congrArg (fun l => pm_look l 47) cq_38).trans rfl⟩
theorem lk_38_48 : Lk 38 48 (.getfield 15) 4 1 (2) := ⟨3, 204, (congrArg (fun l => pm_look l 48) cq_38).trans rfl⟩
theorem lk_38_51 : Lk 38 51 (.iload_n 1) 0 0 (0) := ⟨1, 0, (congrArg (fun l => pm_look l 51) cq_38).trans rfl⟩
theorem lk_38_52 : Lk 38 52 (.iaload) 0 0 (0) := ⟨1, 0, (congrArg (fun l => pm_look l 52) cq_38).trans rfl⟩
theorem lk_38_53 : Lk 38 53 (.ireturn) 0 0 (0) := ⟨1, 0, (congrArg (fun l => pm_look l 53) cq_38).trans rfl⟩
theorem lk_38_54 : Lk 38 54 (.aload_n 0) 0 0 (0) := ⟨1, 0, (congrArg (fun l => pm_look l 54) cq_38).trans rfl⟩
theorem lk_38_55 : Lk 38 55 (.getfield 18) 4 2 (2) := ⟨3, 206, (congrArg (fun l => pm_look l 55) cq_38).trans rfl⟩
theorem lk_38_58 : Lk 38 58 (.iload_n 1) 0 0 (0) := ⟨1, 0, (congrArg (fun l => pm_look l 58) cq_38).trans rfl⟩
theorem lk_38_59 : Lk 38 59 (.iaload) 0 0 (0) := ⟨1, 0, (congrArg (fun l => pm_look l 59) cq_38).trans rfl⟩
theorem lk_38_60 : Lk 38 60 (.ireturn) 0 0 (0) := ⟨1, 0, (congrArg (fun l => pm_look l 60) cq_38).trans rfl⟩
theorem lk_38_61 : Lk 38 61 (.iconst (-1)) 0 0 (0) := ⟨1, 0, (congrArg (fun l => pm_look l 61) cq_38).trans rfl⟩
theorem lk_38_62 : Lk 38 62 (.ireturn) 0 0 (0) := ⟨1, 0, (congrArg (fun l => pm_look l 62) cq_38).trans rfl⟩
theorem cq_39 : pm_code 39 = cd_39 := rfl
theorem lk_39_0 : Lk 39 0 (.aload_n 0) 0 0 (0) := ⟨1, 0, (congrArg (fun l => pm_look l 0) cq_39).trans rfl⟩
theorem lk_39_1 : Lk 39 1 (.getfield 9) 4 0 (2) := ⟨3, 202, (congrArg (fun l => pm_look l 1) cq_39).trans rfl⟩
theorem lk_39_4 : Lk 39 4 (.iload_n 1) 0 0 (0) := ⟨1, 0, (congrArg (fun l => pm_look l 4) cq_39).trans rfl⟩
theorem lk_39_5 : Lk 39 5 (.iaload) 0 0 (0) := ⟨1, 0, (congrArg (fun l => pm_look l 5) cq_39).trans rfl⟩
theorem lk_39_6 : Lk 39 6 (.iconst 1) 0 0 (0) := ⟨1, 0, (congrArg (fun l => pm_look l 6) cq_39).trans rfl⟩
theorem lk_39_7 : Lk 39 7 (.if_icmp .ne 7) 0 0 (0) := ⟨3, 0, (congrArg (fun l => pm_look l 7) cq_39).trans rfl⟩
theorem lk_39_10 : Lk 39 10 (.iload_n 2) 0 0 (0) := ⟨1, 0, (congrArg (fun l => pm_look l 10) cq_39).trans rfl⟩
theorem lk_39_11 : Lk 39 11 (.goto 4) 0 0 (0) := ⟨3, 0, (congrArg (fun l => pm_look l 11) cq_39).trans rfl⟩
theorem lk_39_14 : Lk 39 14 (.iload_n 3) 0 0 (0) := ⟨1, 0, (congrArg (fun l => pm_look l 14) cq_39).trans rfl⟩
theorem lk_39_15 : Lk 39 15 (.aload_n 0) 0 0 (0) := ⟨1, 0, (congrArg (fun l => pm_look l 15) cq_39).trans rfl⟩
theorem lk_39_16 : Lk 39 16 (.getfield 15) 4 1 (2) := ⟨3, 204, (congrArg (fun l => pm_look l 16) cq_39).trans rfl⟩
theorem lk_39_19 : Lk 39 19 (.iload_n 1) 0 0 (0) := ⟨1, 0, (congrArg (fun l => pm_look l 19) cq_39).trans rfl⟩
theorem lk_39_20 : Lk 39 20 (.iaload) 0 0 (0) := ⟨1, 0, (congrArg (fun l => pm_look l 20) cq_39).trans rfl⟩
theorem lk_39_21 : Lk 39 21 (.invokestatic 31) 95 0 (0) := ⟨3, 1146, (congrArg (fun l => pm_look l 21) cq_39).trans rfl⟩
theorem lk_39_24 : Lk 39 24 (.ireturn) 1 0 (0) := ⟨1, 0, (congrArg (fun l => pm_look l 24) cq_39).trans rfl⟩
theorem cq_40 : pm_code 40 = cd_40 := rfl
theorem lk_40_0 : Lk 40 0 (.aload_n 0) 0 0 (0) := ⟨1, 0, (congrArg (fun l => pm_look l 0) cq_40).trans rfl⟩
theorem lk_40_1 : Lk 40 1 (.invokespecial 3) 999 0 (0) := ⟨3, 282, (congrArg (fun l => pm_look l 1) cq_40).trans rfl⟩
theorem lk_40_4 : Lk 40 4 (.aload_n 0) 0 0 (0) := ⟨1, 0, (congrArg (fun l => pm_look l 4) cq_40).trans rfl⟩
theorem lk_40_5 : Lk 40 5 (.bipush 6) 0 0 (0) := ⟨2, 0, (congrArg (fun l => pm_look l 5) cq_40).trans rfl⟩
theorem lk_40_7 : Lk 40 7 (.newarray .int) 100 0 (0) := ⟨2, 0, (congrArg (fun l => pm_look l 7) cq_40).trans rfl⟩
theorem lk_40_9 : Lk 40 9 (.putfield 9) 5 1 (2) := ⟨3, 284, (congrArg (fun l => pm_look l 9) cq_40).trans rfl⟩
theorem lk_40_12 : Lk 40 12 (.aload_n 0) 0 0 (0) := ⟨1, 0, (congrArg (fun l => pm_look l 12) cq_40).trans rfl⟩
theorem lk_40_13 : Lk 40 13 (.bipush 6) 0 0 (0) := ⟨2, 0, (congrArg (fun l => pm_look l 13) cq_40).trans rfl⟩
theorem lk_40_15 : Lk 40 15 (.newarray .int) 100 0 (0) := ⟨2, 0, (congrArg (fun l => pm_look l 15) cq_40).trans rfl⟩
theorem lk_40_17 : Lk 40 17 (.putfield 15) 5 2 (2) := ⟨3, 285, (congrArg (fun l => pm_look l 17) cq_40).trans rfl⟩
theorem lk_40_20 : Lk 40 20 (.aload_n 0) 0 0 (0) := ⟨1, 0, (congrArg (fun l => pm_look l 20) cq_40).trans rfl⟩
theorem lk_40_21 : Lk 40 21 (.bipush 64) 0 0 (0) := ⟨2, 0, (congrArg (fun l => pm_look l 21) cq_40).trans rfl⟩
theorem lk_40_23 : Lk 40 23 (.newarray .int) 100 0 (0) := ⟨2, 0, (congrArg (fun l => pm_look l 23) cq_40).trans rfl⟩
theorem lk_40_25 : Lk 40 25 (.putfield 18) 5 3 (2) := ⟨3, 286, (congrArg (fun l => pm_look l 25) cq_40).trans rfl⟩
theorem lk_40_28 : Lk 40 28 (.aload_n 0) 0 0 (0) := ⟨1, 0, (congrArg (fun l => pm_look l 28) cq_40).trans rfl⟩
theorem lk_40_29 : Lk 40 29 (.bipush 64) 0 0 (0) := ⟨2, 0, (congrArg (fun l => pm_look l 29) cq_40).trans rfl⟩
theorem lk_40_31 : Lk 40 31 (.newarray .int) 100 0 (0) := ⟨2, 0, (congrArg (fun l => pm_look l 31) cq_40).trans rfl⟩
theorem lk_40_33 : Lk 40 33 (.putfield 21) 5 4 (2) := ⟨3, 288, (congrArg (fun l => pm_look l 33) cq_40).trans rfl⟩
theorem lk_40_36 : Lk 40 36 (.aload_n 0) 0 0 (0) := ⟨1, 0, (congrArg (fun l => pm_look l 36) cq_40).trans rfl⟩
theorem lk_40_37 : Lk 40 37 (.bipush 64) 0 0 (0) := ⟨2, 0, (congrArg (fun l => pm_look l 37) cq_40).trans rfl⟩
theorem lk_40_39 : Lk 40 39 (.newarray .long) 101 0 (0) := ⟨2, 0, (congrArg (fun l => pm_look l 39) cq_40).trans rfl⟩
theorem lk_40_41 : Lk 40 41 (.putfield 24) 5 5 (2) := ⟨3, 290, (congrArg (fun l => pm_look l 41) cq_40).trans rfl⟩
theorem lk_40_44 : Lk 40 44 (.aload_n 0) 0 0 (0) := ⟨1, 0, (congrArg (fun l => pm_look l 44) cq_40).trans rfl⟩
theorem lk_40_45 : Lk 40 45 (.aload_n 1) 0 0 (0) := ⟨1, 0, (congrArg (fun l => pm_look l 45) cq_40).trans rfl⟩
theorem lk_40_46 : Lk 40 46 (.putfield 28) 5 0 (2) := ⟨3, 283, (congrArg (fun l => pm_look l 46) cq_40).trans rfl⟩
theorem lk_40_49 : Lk 40 49 (.return_) 0 0 (0) := ⟨1, 0, (congrArg (fun l => pm_look l 49) cq_40).trans rfl⟩
theorem cq_41 : pm_code 41 = cd_41 := rfl
theorem lk_41_0 : Lk 41 0 (.iconst 0) 0 0 (0) := ⟨1, 0, (congrArg (fun l => pm_look l 0) cq_41).trans rfl⟩
theorem lk_41_1 : Lk 41 1 (.istore_n 2) 0 0 (0) := ⟨1, 0, (congrArg (fun l => pm_look l 1) cq_41).trans rfl⟩
theorem lk_41_2 : Lk 41 2 (.iload_n 2) 0 0 (0) := ⟨1, 0, (congrArg (fun l => pm_look l 2) cq_41).trans rfl⟩
theorem lk_41_3 : Lk 41 3 (.aload_n 0) 0 0 (0) := ⟨1, 0, (congrArg (fun l => pm_look l 3) cq_41).trans rfl⟩
theorem lk_41_4 : Lk 41 4 (.getfield 28) 5 0 (2) := ⟨3, 283, (congrArg (fun l => pm_look l 4) cq_41).trans rfl⟩
theorem lk_41_7 : Lk 41 7 (.getfield 32) 8 1 (0) := ⟨3, 153, (congrArg (fun l => pm_look l 7) cq_41).trans rfl⟩
theorem lk_41_10 : Lk 41 10 (.if_icmp .ge 39) 0 0 (0) := ⟨3, 0, (congrArg (fun l => pm_look l 10) cq_41).trans rfl⟩
theorem lk_41_13 : Lk 41 13 (.aload_n 0) 0 0 (0) := ⟨1, 0, (congrArg (fun l => pm_look l 13) cq_41).trans rfl⟩
theorem lk_41_14 : Lk 41 14 (.getfield 9) 5 1 (2) := ⟨3, 284, (congrArg (fun l => pm_look l 14) cq_41).trans rfl⟩
theorem lk_41_17 : Lk 41 17 (.iload_n 2) 0 0 (0) := ⟨1, 0, (congrArg (fun l => pm_look l 17) cq_41).trans rfl⟩
theorem lk_41_18 : Lk 41 18 (.aload_n 0) 0 0 (0) := ⟨1, 0, (congrArg (fun l => pm_look l 18) cq_41).trans rfl⟩
theorem lk_41_19 : Lk 41 19 (.getfield 28) 5 0 (2) := ⟨3, 283, (congrArg (fun l => pm_look l 19) cq_41).trans rfl⟩
theorem lk_41_22 : Lk 41 22 (.iload_n 2) 0 0 (0) := ⟨1, 0, (congrArg (fun l => pm_look l 22) cq_41).trans rfl⟩
theorem lk_41_23 : Lk 41 23 (.iload_n 1) 0 0 (0) := ⟨1, 0, (congrArg (fun l => pm_look l 23) cq_41).trans rfl⟩
theorem lk_41_24 : Lk 41 24 (.invokevirtual 38) 91 0 (0) := ⟨3, 754, (congrArg (fun l => pm_look l 24) cq_41).trans rfl⟩
theorem lk_41_27 : Lk 41 27 (.iastore) 0 0 (0) := ⟨1, 0, (congrArg (fun l => pm_look l 27) cq_41).trans rfl⟩
theorem lk_41_28 : Lk 41 28 (.aload_n 0) 0 0 (0) := ⟨1, 0, (congrArg (fun l => pm_look l 28) cq_41).trans rfl⟩
theorem lk_41_29 : Lk 41 29 (.getfield 15) 5 2 (2) := ⟨3, 285, (congrArg (fun l => pm_look l 29) cq_41).trans rfl⟩
theorem lk_41_32 : Lk 41 32 (.iload_n 2) 0 0 (0) := ⟨1, 0, (congrArg (fun l => pm_look l 32) cq_41).trans rfl⟩
theorem lk_41_33 : Lk 41 33 (.aload_n 0) 0 0 (0) := ⟨1, 0, (congrArg (fun l => pm_look l 33) cq_41).trans rfl⟩
theorem lk_41_34 : Lk 41 34 (.getfield 28) 5 0 (2) := ⟨3, 283, (congrArg (fun l => pm_look l 34) cq_41).trans rfl⟩
theorem lk_41_37 : Lk 41 37 (.iload_n 2) 0 0 (0) := ⟨1, 0, (congrArg (fun l => pm_look l 37) cq_41).trans rfl⟩
theorem lk_41_38 : Lk 41 38 (.iload_n 1) 0 0 (0) := ⟨1, 0, (congrArg (fun l => pm_look l 38) cq_41).trans rfl⟩
theorem lk_41_39 : Lk 41 39 (.invokevirtual 42) 92 0 (0) := ⟨3, 755, (congrArg (fun l => pm_look l 39) cq_41).trans rfl⟩
theorem lk_41_42 : Lk 41 42 (.iastore) 0 0 (0) := ⟨1, 0, (congrArg (fun l => pm_look l 42) cq_41).trans rfl⟩
theorem lk_41_43 : Lk 41 43 (.iinc 2 1) 0 0 (0) := ⟨3, 0, (congrArg (fun l => pm_look l 43) cq_41).trans rfl⟩
theorem lk_41_46 : Lk 41 46 (.goto (-44)) 0 0 (0) := ⟨3, 0, (congrArg (fun l => pm_look l 46) cq_41).trans rfl⟩
theorem lk_41_49 : Lk 41 49 (.return_) 0 0 (0) := ⟨1, 0, (congrArg (fun l => pm_look l 49) cq_41).trans rfl⟩
theorem cq_42 : pm_code 42 = cd_42 := rfl
theorem lk_42_0 : Lk 42 0 (.iconst 0) 0 0 (0) := ⟨1, 0, (congrArg (fun l => pm_look l 0) cq_42).trans rfl⟩
theorem lk_42_1 : Lk 42 1 (.istore_n 2) 0 0 (0) := ⟨1, 0, (congrArg (fun l => pm_look l 1) cq_42).trans rfl⟩
theorem lk_42_2 : Lk 42 2 (.iconst 0) 0 0 (0) := ⟨1, 0, (congrArg (fun l => pm_look l 2) cq_42).trans rfl⟩
theorem lk_42_3 : Lk 42 3 (.istore_n 3) 0 0 (0) := ⟨1, 0, (congrArg (fun l => pm_look l 3) cq_42).trans rfl⟩
theorem lk_42_4 : Lk 42 4 (.iload_n 3) 0 0 (0) := ⟨1, 0, (congrArg (fun l => pm_look l 4) cq_42).trans rfl⟩
theorem lk_42_5 : Lk 42 5 (.aload_n 0) 0 0 (0) := ⟨1, 0, (congrArg (fun l => pm_look l 5) cq_42).trans rfl⟩
theorem lk_42_6 : Lk 42 6 (.getfield 28) 5 0 (2) := ⟨3, 283, (congrArg (fun l => pm_look l 6) cq_42).trans rfl⟩
theorem lk_42_9 : Lk 42 9 (.getfield 32) 8 1 (0) := ⟨3, 153, (congrArg (fun l => pm_look l 9) cq_42).trans rfl⟩
theorem lk_42_12 : Lk 42 12 (.if_icmp .ge 30) 0 0 (0) := ⟨3, 0, (congrArg (fun l => pm_look l 12) cq_42).trans rfl⟩
theorem lk_42_15 : Lk 42 15 (.iload_n 2) 0 0 (0) := ⟨1, 0, (congrArg (fun l => pm_look l 15) cq_42).trans rfl⟩
theorem lk_42_16 : Lk 42 16 (.iload_n 3) 0 0 (0) := ⟨1, 0, (congrArg (fun l => pm_look l 16) cq_42).trans rfl⟩
theorem lk_42_17 : Lk 42 17 (.iload_n 1) 0 0 (0) := ⟨1, 0, (congrArg (fun l => pm_look l 17) cq_42).trans rfl⟩
theorem lk_42_18 : Lk 42 18 (.invokestatic 45) 95 0 (0) := ⟨3, 765, (congrArg (fun l => pm_look l 18) cq_42).trans rfl⟩
theorem lk_42_21 : Lk 42 21 (.ifCond .eq 12) 0 0 (0) := ⟨3, 0, (congrArg (fun l => pm_look l 21) cq_42).trans rfl⟩
theorem lk_42_24 : Lk 42 24 (.aload_n 0) 0 0 (0) := ⟨1, 0, (congrArg (fun l => pm_look l 24) cq_42).trans rfl⟩
theorem lk_42_25 : Lk 42 25 (.getfield 15) 5 2 (2) := ⟨3, 285, (congrArg (fun l => pm_look l 25) cq_42).trans rfl⟩
theorem lk_42_28 : Lk 42 28 (.iload_n 3) 0 0 (0) := ⟨1, 0, (congrArg (fun l => pm_look l 28) cq_42).trans rfl⟩
theorem lk_42_29 : Lk 42 29 (.iaload) 0 0 (0) := ⟨1, 0, (congrArg (fun l => pm_look l 29) cq_42).trans rfl⟩
theorem lk_42_30 : Lk 42 30 (.goto 4) 0 0 (0) := ⟨3, 0, (congrArg (fun l => pm_look l 30) cq_42).trans rfl⟩
theorem lk_42_33 : Lk 42 33 (.iconst 0) 0 0 (0) := ⟨1, 0, (congrArg (fun l => pm_look l 33) cq_42).trans rfl⟩
theorem lk_42_34 : Lk 42 34 (.ior) 0 0 (0) := ⟨1, 0, (congrArg (fun l => pm_look l 34) cq_42).trans rfl⟩
theorem lk_42_35 : Lk 42 35 (.istore_n 2) 0 0 (0) := ⟨1, 0, (congrArg (fun l => pm_look l 35) cq_42).trans rfl⟩
theorem lk_42_36 : Lk 42 36 (.iinc 3 1) 0 0 (0) := ⟨3, 0, (congrArg (fun l => pm_look l 36) cq_42).trans rfl⟩
theorem lk_42_39 : Lk 42 39 (.goto (-35)) 0 0 (0) := ⟨3, 0, (congrArg (fun l => pm_look l 39) cq_42).trans rfl⟩
theorem lk_42_42 : Lk 42 42 (.aload_n 0) 0 0 (0) := ⟨1, 0, (congrArg (fun l => pm_look l 42) cq_42).trans rfl⟩
theorem lk_42_43 : Lk 42 43 (.getfield 28) 5 0 (2) := ⟨3, 283, (congrArg (fun l => pm_look l 43) cq_42).trans rfl⟩
theorem lk_42_46 : Lk 42 46 (.invokevirtual 49) 87 0 (0) := ⟨3, 766, (congrArg (fun l => pm_look l 46) cq_42).trans rfl⟩
theorem lk_42_49 : Lk 42 49 (.iload_n 2) 0 0 (0) := ⟨1, 0, (congrArg (fun l => pm_look l 49) cq_42).trans rfl⟩
theorem lk_42_50 : Lk 42 50 (.iconst (-1)) 0 0 (0) := ⟨1, 0, (congrArg (fun l => pm_look l 50) cq_42).trans rfl⟩
theorem lk_42_51 : Lk 42 51 (.ixor) 0 0 (0) := ⟨1, 0, (congrArg (fun l => pm_look l 51) cq_42).trans rfl⟩
theorem lk_42_52 : Lk 42 52 (.iand) 0 0 (0) := ⟨1, 0, (congrArg (fun l => pm_look l 52) cq_42).trans rfl⟩
theorem lk_42_53 : Lk 42 53 (.ireturn) 0 0 (0) := ⟨1, 0, (congrArg (fun l => pm_look l 53) cq_42).trans rfl⟩
theorem cq_43 : pm_code 43 = cd_43 := rfl
theorem lk_43_0 : Lk 43 0 (.iconst 0) 0 0 (0) := ⟨1, 0, (congrArg (fun l => pm_look l 0) cq_43).trans rfl⟩
theorem lk_43_1 : Lk 43 1 (.istore_n 2) 0 0 (0) := ⟨1, 0, (congrArg (fun l => pm_look l 1) cq_43).trans rfl⟩
theorem lk_43_2 : Lk 43 2 (.iconst 0) 0 0 (0) := ⟨1, 0, (congrArg (fun l => pm_look l 2) cq_43).trans rfl⟩
theorem lk_43_3 : Lk 43 3 (.istore_n 3) 0 0 (0) := ⟨1, 0, (congrArg (fun l => pm_look l 3) cq_43).trans rfl⟩
theorem lk_43_4 : Lk 43 4 (.iload_n 3) 0 0 (0) := ⟨1, 0, (congrArg (fun l => pm_look l 4) cq_43).trans rfl⟩
theorem lk_43_5 : Lk 43 5 (.aload_n 0) 0 0 (0) := ⟨1, 0, (congrArg (fun l => pm_look l 5) cq_43).trans rfl⟩
theorem lk_43_6 : Lk 43 6 (.getfield 28) 5 0 (2) := ⟨3, 283, (congrArg (fun l => pm_look l 6) cq_43).trans rfl⟩
theorem lk_43_9 : Lk 43 9 (.getfield 32) 8 1 (0) := ⟨3, 153, (congrArg (fun l => pm_look l 9) cq_43).trans rfl⟩
theorem lk_43_12 : Lk 43 12 (.if_icmp .ge 30) 0 0 (0) := ⟨3, 0, (congrArg (fun l => pm_look l 12) cq_43).trans rfl⟩
theorem lk_43_15 : Lk 43 15 (.iload_n 2) 0 0 (0) := ⟨1, 0, (congrArg (fun l => pm_look l 15) cq_43).trans rfl⟩
theorem lk_43_16 : Lk 43 16 (.aload_n 0) 0 0 (0) := ⟨1, 0, (congrArg (fun l => pm_look l 16) cq_43).trans rfl⟩
theorem lk_43_17 : Lk 43 17 (.getfield 15) 5 2 (2) := ⟨3, 285, (congrArg (fun l => pm_look l 17) cq_43).trans rfl⟩
theorem lk_43_20 : Lk 43 20 (.iload_n 3) 0 0 (0) := ⟨1, 0, (congrArg (fun l => pm_look l 20) cq_43).trans rfl⟩
theorem lk_43_21 : Lk 43 21 (.iaload) 0 0 (0) := ⟨1, 0, (congrArg (fun l => pm_look l 21) cq_43).trans rfl⟩
theorem lk_43_22 : Lk 43 22 (.iload_n 1) 0 0 (0) := ⟨1, 0, (congrArg (fun l => pm_look l 22) cq_43).trans rfl⟩
theorem lk_43_23 : Lk 43 23 (.iand) 0 0 (0) := ⟨1, 0, (congrArg (fun l => pm_look l 23) cq_43).trans rfl⟩
theorem lk_43_24 : Lk 43 24 (.ifCond .ne 9) 0 0 (0) := ⟨3, 0, (congrArg (fun l => pm_look l 24) cq_43).trans rfl⟩
theorem lk_43_27 : Lk 43 27 (.iconst 1) 0 0 (0) := ⟨1, 0, (congrArg (fun l => pm_look l 27) cq_43).trans rfl⟩
theorem lk_43_28 : Lk 43 28 (.iload_n 3) 0 0 (0) := ⟨1, 0, (congrArg (fun l => pm_look l 28) cq_43).trans rfl⟩
theorem lk_43_29 : Lk 43 29 (.ishl) 0 0 (0) := ⟨1, 0, (congrArg (fun l => pm_look l 29) cq_43).trans rfl⟩
theorem lk_43_30 : Lk 43 30 (.goto 4) 0 0 (0) := ⟨3, 0, (congrArg (fun l => pm_look l 30) cq_43).trans rfl⟩
theorem lk_43_33 : Lk 43 33 (.iconst 0) 0 0 (0) := ⟨1, 0, (congrArg (fun l => pm_look l 33) cq_43).trans rfl⟩
theorem lk_43_34 : Lk 43 34 (.ior) 0 0 (0) := ⟨1, 0, (congrArg (fun l => pm_look l 34) cq_43).trans rfl⟩
theorem lk_43_35 : Lk 43 35 (.istore_n 2) 0 0 (0) := ⟨1, 0, (congrArg (fun l => pm_look l 35) cq_43).trans rfl⟩
theorem lk_43_36 : Lk 43 36 (.iinc 3 1) 0 0 (0) := ⟨3, 0, (congrArg (fun l => pm_look l 36) cq_43).trans rfl⟩
theorem lk_43_39 : Lk 43 39 (.goto (-35)) 0 0 (0) := ⟨3, 0, (congrArg (fun l => pm_look l 39) cq_43).trans rfl⟩
theorem lk_43_42 : Lk 43 42 (.iload_n 2) 0 0 (0) := ⟨1, 0, (congrArg (fun l => pm_look l 42) cq_43).trans rfl⟩
theorem lk_43_43 : Lk 43 43 (.ireturn) 0 0 (0) := ⟨1, 0, (congrArg (fun l => pm_look l 43) cq_43).trans rfl⟩
theorem cq_44 : pm_code 44 = cd_44 := rfl
theorem lk_44_0 : Lk 44 0 (.iconst 0) 0 0 (0) := ⟨1, 0, (congrArg (fun l => pm_look l 0) cq_44).trans rfl⟩
theorem lk_44_1 : Lk 44 1 (.istore_n 2) 0 0 (0) := ⟨1, 0, (congrArg (fun l => pm_look l 1) cq_44).trans rfl⟩
theorem lk_44_2 : Lk 44 2 (.iconst 0) 0 0 (0) := ⟨1, 0, (congrArg (fun l => pm_look l 2) cq_44).trans rfl⟩
theorem lk_44_3 : Lk 44 3 (.istore_n 3) 0 0 (0) := ⟨1, 0, (congrArg (fun l => pm_look l 3) cq_44).trans rfl⟩
theorem lk_44_4 : Lk 44 4 (.iload_n 3) 0 0 (0) := ⟨1, 0, (congrArg (fun l => pm_look l 4) cq_44).trans rfl⟩
theorem lk_44_5 : Lk 44 5 (.aload_n 0) 0 0 (0) := ⟨1, 0, (congrArg (fun l => pm_look l 5) cq_44).trans rfl⟩
theorem lk_44_6 : Lk 44 6 (.getfield 28) 5 0 (2) := ⟨3, 283, (congrArg (fun l => pm_look l 6) cq_44).trans rfl⟩
theorem lk_44_9 : Lk 44 9 (.getfield 32) 8 1 (0) := ⟨3, 153, (congrArg (fun l => pm_look l 9) cq_44).trans rfl⟩
theorem lk_44_12 : Lk 44 12 (.if_icmp .ge 30) 0 0 (0) := ⟨3, 0, (congrArg (fun l => pm_look l 12) cq_44).trans rfl⟩
theorem lk_44_15 : Lk 44 15 (.iload_n 2) 0 0 (0) := ⟨1, 0, (congrArg (fun l => pm_look l 15) cq_44).trans rfl⟩
theorem lk_44_16 : Lk 44 16 (.iload_n 3) 0 0 (0) := ⟨1, 0, (congrArg (fun l => pm_look l 16) cq_44).trans rfl⟩
theorem lk_44_17 : Lk 44 17 (.iload_n 1) 0 0 (0) := ⟨1, 0, (congrArg (fun l => pm_look l 17) cq_44).trans rfl⟩
theorem lk_44_18 : Lk 44 18 (.invokestatic 45) 95 0 (0) := ⟨3, 765, (congrArg (fun l => pm_look l 18) cq_44).trans rfl⟩
theorem lk_44_21 : Lk 44 21 (.ifCond .eq 12) 0 0 (0) := ⟨3, 0, (congrArg (fun l => pm_look l 21) cq_44).trans rfl⟩
theorem lk_44_24 : Lk 44 24 (.aload_n 0) 0 0 (0) := ⟨1, 0, (congrArg (fun l => pm_look l 24) cq_44).trans rfl⟩
theorem lk_44_25 : Lk 44 25 (.getfield 9) 5 1 (2) := ⟨3, 284, (congrArg (fun l => pm_look l 25) cq_44).trans rfl⟩
theorem lk_44_28 : Lk 44 28 (.iload_n 3) 0 0 (0) := ⟨1, 0, (congrArg (fun l => pm_look l 28) cq_44).trans rfl⟩
theorem lk_44_29 : Lk 44 29 (.iaload) 0 0 (0) := ⟨1, 0, (congrArg (fun l => pm_look l 29) cq_44).trans rfl⟩
theorem lk_44_30 : Lk 44 30 (.goto 4) 0 0 (0) := ⟨3, 0, (congrArg (fun l => pm_look l 30) cq_44).trans rfl⟩
theorem lk_44_33 : Lk 44 33 (.iconst 0) 0 0 (0) := ⟨1, 0, (congrArg (fun l => pm_look l 33) cq_44).trans rfl⟩
theorem lk_44_34 : Lk 44 34 (.ior) 0 0 (0) := ⟨1, 0, (congrArg (fun l => pm_look l 34) cq_44).trans rfl⟩
theorem lk_44_35 : Lk 44 35 (.istore_n 2) 0 0 (0) := ⟨1, 0, (congrArg (fun l => pm_look l 35) cq_44).trans rfl⟩
theorem lk_44_36 : Lk 44 36 (.iinc 3 1) 0 0 (0) := ⟨3, 0, (congrArg (fun l => pm_look l 36) cq_44).trans rfl⟩
theorem lk_44_39 : Lk 44 39 (.goto (-35)) 0 0 (0) := ⟨3, 0, (congrArg (fun l => pm_look l 39) cq_44).trans rfl⟩
theorem lk_44_42 : Lk 44 42 (.iload_n 2) 0 0 (0) := ⟨1, 0, (congrArg (fun l => pm_look l 42) cq_44).trans rfl⟩
theorem lk_44_43 : Lk 44 43 (.ireturn) 0 0 (0) := ⟨1, 0, (congrArg (fun l => pm_look l 43) cq_44).trans rfl⟩
theorem cq_45 : pm_code 45 = cd_45 := rfl
theorem lk_45_0 : Lk 45 0 (.lconst 0) 0 0 (0) := ⟨1, 0, (congrArg (fun l => pm_look l 0) cq_45).trans rfl⟩
theorem lk_45_1 : Lk 45 1 (.lstore_n 3) 0 0 (0) := ⟨1, 0, (congrArg (fun l => pm_look l 1) cq_45).trans rfl⟩
theorem lk_45_2 : Lk 45 2 (.iconst 0) 0 0 (0) := ⟨1, 0, (congrArg (fun l => pm_look l 2) cq_45).trans rfl⟩
theorem lk_45_3 : Lk 45 3 (.istore 5) 0 0 (0) := ⟨2, 0, (congrArg (fun l => pm_look l 3) cq_45).trans rfl⟩
theorem lk_45_5 : Lk 45 5 (.iload 5) 0 0 (0) := ⟨2, 0, (congrArg (fun l => pm_look l 5) cq_45).trans rfl⟩
theorem lk_45_7 : Lk 45 7 (.aload_n 0) 0 0 (0) := ⟨1, 0, (congrArg (fun l => pm_look l 7) cq_45).trans rfl⟩
theorem lk_45_8 : Lk 45 8 (.getfield 28) 5 0 (2) := ⟨3, 283, (congrArg (fun l => pm_look l 8) cq_45).trans rfl⟩
theorem lk_45_11 : Lk 45 11 (.getfield 32) 8 1 (0) := ⟨3, 153, (congrArg (fun l => pm_look l 11) cq_45).trans rfl⟩
theorem lk_45_14 : Lk 45 14 (.if_icmp .ge 37) 0 0 (0) := ⟨3, 0, (congrArg (fun l => pm_look l 14) cq_45).trans rfl⟩
theorem lk_45_17 : Lk 45 17 (.iload 5) 0 0 (0) := ⟨2, 0, (congrArg (fun l => pm_look l 17) cq_45).trans rfl⟩
theorem lk_45_19 : Lk 45 19 (.iload_n 1) 0 0 (0) := ⟨1, 0, (congrArg (fun l => pm_look l 19) cq_45).trans rfl⟩
theorem lk_45_20 : Lk 45 20 (.invokestatic 45) 95 0 (0) := ⟨3, 765, (congrArg (fun l => pm_look l 20) cq_45).trans rfl⟩
theorem lk_45_23 : Lk 45 23 (.ifCond .eq 22) 0 0 (0) := ⟨3, 0, (congrArg (fun l => pm_look l 23) cq_45).trans rfl⟩
theorem lk_45_26 : Lk 45 26 (.lload_n 3) 0 0 (0) := ⟨1, 0, (congrArg (fun l => pm_look l 26) cq_45).trans rfl⟩
theorem lk_45_27 : Lk 45 27 (.aload_n 0) 0 0 (0) := ⟨1, 0, (congrArg (fun l => pm_look l 27) cq_45).trans rfl⟩
theorem lk_45_28 : Lk 45 28 (.getfield 9) 5 1 (2) := ⟨3, 284, (congrArg (fun l => pm_look l 28) cq_45).trans rfl⟩
theorem lk_45_31 : Lk 45 31 (.iload 5) 0 0 (0) := ⟨2, 0, (congrArg (fun l => pm_look l 31) cq_45).trans rfl⟩
theorem lk_45_33 : Lk 45 33 (.iaload) 0 0 (0) := ⟨1, 0, (congrArg (fun l => pm_look l 33) cq_45).trans rfl⟩
theorem lk_45_34 : Lk 45 34 (.iload_n 2) 0 0 (0) := ⟨1, 0, (congrArg (fun l => pm_look l 34) cq_45).trans rfl⟩
theorem lk_45_35 : Lk 45 35 (.iand) 0 0 (0) := ⟨1, 0, (congrArg (fun l => pm_look l 35) cq_45).trans rfl⟩
theorem lk_45_36 : Lk 45 36 (.i2l) 0 0 (0) := ⟨1, 0, (congrArg (fun l => pm_look l 36) cq_45).trans rfl⟩
theorem lk_45_37 : Lk 45 37 (.iload 5) 0 0 (0) := ⟨2, 0, (congrArg (fun l => pm_look l 37) cq_45).trans rfl⟩
theorem lk_45_39 : Lk 45 39 (.bipush 6) 0 0 (0) := ⟨2, 0, (congrArg (fun l => pm_look l 39) cq_45).trans rfl⟩
theorem lk_45_41 : Lk 45 41 (.imul) 0 0 (0) := ⟨1, 0, (congrArg (fun l => pm_look l 41) cq_45).trans rfl⟩
theorem lk_45_42 : Lk 45 42 (.lshl) 0 0 (0) := ⟨1, 0, (congrArg (fun l => pm_look l 42) cq_45).trans rfl⟩
theorem lk_45_43 : Lk 45 43 (.lor) 0 0 (0) := ⟨1, 0, (congrArg (fun l => pm_look l 43) cq_45).trans rfl⟩
theorem lk_45_44 : Lk 45 44 (.lstore_n 3) 0 0 (0) := ⟨1, 0, (congrArg (fun l => pm_look l 44) cq_45).trans rfl⟩
theorem lk_45_45 : Lk 45 45 (.iinc 5 1) 0 0 (0) := ⟨3, 0, (congrArg (fun l => pm_look l 45) cq_45).trans rfl⟩
theorem lk_45_48 : Lk 45 48 (.goto (-43)) 0 0 (0) := ⟨3, 0, (congrArg (fun l => pm_look l 48) cq_45).trans rfl⟩
theorem lk_45_51 : Lk 45 51 (.lload_n 3) 0 0 (0) := ⟨1, 0, (congrArg (fun l => pm_look l 51) cq_45).trans rfl⟩
theorem lk_45_52 : Lk 45 52 (.lreturn) 0 0 (0) := ⟨1, 0, (congrArg (fun l => pm_look l 52) cq_45).trans rfl⟩
theorem cq_46 : pm_code 46 = cd_46 := rfl
theorem lk_46_0 : Lk 46 0 (.aload_n 0) 0 0 (0) := ⟨1, 0, (congrArg (fun l => pm_look l 0) cq_46).trans rfl⟩
theorem lk_46_1 : Lk 46 1 (.iconst 0) 0 0 (0) := ⟨1, 0, (congrArg (fun l => pm_look l 1) cq_46).trans rfl⟩
theorem lk_46_2 : Lk 46 2 (.putfield 53) 5 7 (0) := ⟨3, 293, (congrArg (fun l => pm_look l 2) cq_46).trans rfl⟩
theorem lk_46_5 : Lk 46 5 (.iconst 1) 0 0 (0) := ⟨1, 0, (congrArg (fun l => pm_look l 5) cq_46).trans rfl⟩
theorem lk_46_6 : Lk 46 6 (.istore_n 1) 0 0 (0) := ⟨1, 0, (congrArg (fun l => pm_look l 6) cq_46).trans rfl⟩
theorem lk_46_7 : Lk 46 7 (.iload_n 1) 0 0 (0) := ⟨1, 0, (congrArg (fun l => pm_look l 7) cq_46).trans rfl⟩
theorem lk_46_8 : Lk 46 8 (.aload_n 0) 0 0 (0) := ⟨1, 0, (congrArg (fun l => pm_look l 8) cq_46).trans rfl⟩
theorem lk_46_9 : Lk 46 9 (.getfield 28) 5 0 (2) := ⟨3, 283, (congrArg (fun l => pm_look l 9) cq_46).trans rfl⟩
theorem lk_46_12 : Lk 46 12 (.invokevirtual 56) 86 0 (0) := ⟨3, 760, (congrArg (fun l => pm_look l 12) cq_46).trans rfl⟩
theorem lk_46_15 : Lk 46 15 (.if_icmp .gt 54) 0 0 (0) := ⟨3, 0, (congrArg (fun l => pm_look l 15) cq_46).trans rfl⟩
theorem lk_46_18 : Lk 46 18 (.aload_n 0) 0 0 (0) := ⟨1, 0, (congrArg (fun l => pm_look l 18) cq_46).trans rfl⟩
theorem lk_46_19 : Lk 46 19 (.iload_n 1) 0 0 (0) := ⟨1, 0, (congrArg (fun l => pm_look l 19) cq_46).trans rfl⟩
theorem lk_46_20 : Lk 46 20 (.invokevirtual 59) 42 0 (0) := ⟨3, 761, (congrArg (fun l => pm_look l 20) cq_46).trans rfl⟩
theorem lk_46_23 : Lk 46 23 (.aload_n 0) 0 0 (0) := ⟨1, 0, (congrArg (fun l => pm_look l 23) cq_46).trans rfl⟩
theorem lk_46_24 : Lk 46 24 (.iload_n 1) 0 0 (0) := ⟨1, 0, (congrArg (fun l => pm_look l 24) cq_46).trans rfl⟩
theorem lk_46_25 : Lk 46 25 (.invokevirtual 63) 44 0 (0) := ⟨3, 767, (congrArg (fun l => pm_look l 25) cq_46).trans rfl⟩
theorem lk_46_28 : Lk 46 28 (.iand) 0 0 (0) := ⟨1, 0, (congrArg (fun l => pm_look l 28) cq_46).trans rfl⟩
theorem lk_46_29 : Lk 46 29 (.istore_n 2) 0 0 (0) := ⟨1, 0, (congrArg (fun l => pm_look l 29) cq_46).trans rfl⟩
theorem lk_46_30 : Lk 46 30 (.aload_n 0) 0 0 (0) := ⟨1, 0, (congrArg (fun l => pm_look l 30) cq_46).trans rfl⟩
theorem lk_46_31 : Lk 46 31 (.iload_n 1) 0 0 (0) := ⟨1, 0, (congrArg (fun l => pm_look l 31) cq_46).trans rfl⟩
theorem lk_46_32 : Lk 46 32 (.iload_n 2) 0 0 (0) := ⟨1, 0, (congrArg (fun l => pm_look l 32) cq_46).trans rfl⟩
theorem lk_46_33 : Lk 46 33 (.invokevirtual 66) 45 0 (0) := ⟨3, 771, (congrArg (fun l => pm_look l 33) cq_46).trans rfl⟩
theorem lk_46_36 : Lk 46 36 (.invokestatic 70) 266 0 (0) := ⟨3, 775, (congrArg (fun l => pm_look l 36) cq_46).trans rfl⟩
theorem lk_46_39 : Lk 46 39 (.istore_n 3) 0 0 (0) := ⟨1, 0, (congrArg (fun l => pm_look l 39) cq_46).trans rfl⟩
theorem lk_46_40 : Lk 46 40 (.iload_n 3) 0 0 (0) := ⟨1, 0, (congrArg (fun l => pm_look l 40) cq_46).trans rfl⟩
theorem lk_46_41 : Lk 46 41 (.aload_n 0) 0 0 (0) := ⟨1, 0, (congrArg (fun l => pm_look l 41) cq_46).trans rfl⟩
theorem lk_46_42 : Lk 46 42 (.getfield 53) 5 7 (0) := ⟨3, 293, (congrArg (fun l => pm_look l 42) cq_46).trans rfl⟩
theorem lk_46_45 : Lk 46 45 (.if_icmp .le 18) 0 0 (0) := ⟨3, 0, (congrArg (fun l => pm_look l 45) cq_46).trans rfl⟩
theorem lk_46_48 : Lk 46 48 (.aload_n 0) 0 0 (0) := ⟨1, 0, (congrArg (fun l => pm_look l 48) cq_46).trans rfl⟩
theorem lk_46_49 : Lk 46 49 (.iload_n 3) 0 0 (0) := ⟨1, 0, (congrArg (fun l => pm_look l 49) cq_46).trans rfl⟩
theorem lk_46_50 : Lk 46 50 (.putfield 53) 5 7 (0) := ⟨3, 293, (congrArg (fun l => pm_look l 50) cq_46).trans rfl⟩
theorem lk_46_53 : Lk 46 53 (.aload_n 0) 0 0 (0) := ⟨1, 0, (congrArg (fun l => pm_look l 53) cq_46).trans rfl⟩
theorem lk_46_54 : Lk 46 54 (.iload_n 1) 0 0 (0) := ⟨1, 0, (congrArg (fun l => pm_look l 54) cq_46).trans rfl⟩
theorem lk_46_55 : Lk 46 55 (.putfield 76) 5 8 (0) := ⟨3, 295, (congrArg (fun l => pm_look l 55) cq_46).trans rfl⟩
theorem lk_46_58 : Lk 46 58 (.aload_n 0) 0 0 (0) := ⟨1, 0, (congrArg (fun l => pm_look l 58) cq_46).trans rfl⟩
theorem lk_46_59 : Lk 46 59 (.iload_n 2) 0 0 (0) := ⟨1, 0, (congrArg (fun l => pm_look l 59) cq_46).trans rfl⟩
theorem lk_46_60 : Lk 46 60 (.putfield 79) 5 9 (0) := ⟨3, 297, (congrArg (fun l => pm_look l 60) cq_46).trans rfl⟩
theorem lk_46_63 : Lk 46 63 (.iinc 1 1) 0 0 (0) := ⟨3, 0, (congrArg (fun l => pm_look l 63) cq_46).trans rfl⟩
theorem lk_46_66 : Lk 46 66 (.goto (-59)) 0 0 (0) := ⟨3, 0, (congrArg (fun l => pm_look l 66) cq_46).trans rfl⟩
theorem lk_46_69 : Lk 46 69 (.return_) 0 0 (0) := ⟨1, 0, (congrArg (fun l => pm_look l 69) cq_46).trans rfl⟩
theorem cq_47 : pm_code 47 = cd_47 := rfl
theorem lk_47_0 : Lk 47 0 (.iconst 0) 0 0 (0) := ⟨1, 0, (congrArg (fun l => pm_look l 0) cq_47).trans rfl⟩
theorem lk_47_1 : Lk 47 1 (.istore_n 3) 0 0 (0) := ⟨1, 0, (congrArg (fun l => pm_look l 1) cq_47).trans rfl⟩
theorem lk_47_2 : Lk 47 2 (.iconst 1) 0 0 (0) := ⟨1, 0, (congrArg (fun l => pm_look l 2) cq_47).trans rfl⟩
theorem lk_47_3 : Lk 47 3 (.istore 4) 0 0 (0) := ⟨2, 0, (congrArg (fun l => pm_look l 3) cq_47).trans rfl⟩
theorem lk_47_5 : Lk 47 5 (.iload 4) 0 0 (0) := ⟨2, 0, (congrArg (fun l => pm_look l 5) cq_47).trans rfl⟩
theorem lk_47_7 : Lk 47 7 (.aload_n 0) 0 0 (0) := ⟨1, 0, (congrArg (fun l => pm_look l 7) cq_47).trans rfl⟩
theorem lk_47_8 : Lk 47 8 (.getfield 28) 5 0 (2) := ⟨3, 283, (congrArg (fun l => pm_look l 8) cq_47).trans rfl⟩
theorem lk_47_11 : Lk 47 11 (.invokevirtual 56) 86 0 (0) := ⟨3, 760, (congrArg (fun l => pm_look l 11) cq_47).trans rfl⟩
theorem lk_47_14 : Lk 47 14 (.if_icmp .gt 51) 0 0 (0) := ⟨3, 0, (congrArg (fun l => pm_look l 14) cq_47).trans rfl⟩
theorem lk_47_17 : Lk 47 17 (.aload_n 0) 0 0 (0) := ⟨1, 0, (congrArg (fun l => pm_look l 17) cq_47).trans rfl⟩
theorem lk_47_18 : Lk 47 18 (.iload 4) 0 0 (0) := ⟨2, 0, (congrArg (fun l => pm_look l 18) cq_47).trans rfl⟩
theorem lk_47_20 : Lk 47 20 (.invokevirtual 59) 42 0 (0) := ⟨3, 761, (congrArg (fun l => pm_look l 20) cq_47).trans rfl⟩
theorem lk_47_23 : Lk 47 23 (.istore 5) 0 0 (0) := ⟨2, 0, (congrArg (fun l => pm_look l 23) cq_47).trans rfl⟩
theorem lk_47_25 : Lk 47 25 (.iload_n 1) 0 0 (0) := ⟨1, 0, (congrArg (fun l => pm_look l 25) cq_47).trans rfl⟩
theorem lk_47_26 : Lk 47 26 (.iload 4) 0 0 (0) := ⟨2, 0, (congrArg (fun l => pm_look l 26) cq_47).trans rfl⟩
theorem lk_47_28 : Lk 47 28 (.invokestatic 45) 95 0 (0) := ⟨3, 765, (congrArg (fun l => pm_look l 28) cq_47).trans rfl⟩
theorem lk_47_31 : Lk 47 31 (.ifCond .eq 28) 0 0 (0) := ⟨3, 0, (congrArg (fun l => pm_look l 31) cq_47).trans rfl⟩
theorem lk_47_34 : Lk 47 34 (.iload_n 2) 0 0 (0) := ⟨1, 0, (congrArg (fun l => pm_look l 34) cq_47).trans rfl⟩
theorem lk_47_35 : Lk 47 35 (.iload 5) 0 0 (0) := ⟨2, 0, (congrArg (fun l => pm_look l 35) cq_47).trans rfl⟩
theorem lk_47_37 : Lk 47 37 (.invokestatic 45) 95 0 (0) := ⟨3, 765, (congrArg (fun l => pm_look l 37) cq_47).trans rfl⟩
theorem lk_47_40 : Lk 47 40 (.ifCond .eq 19) 0 0 (0) := ⟨3, 0, (congrArg (fun l => pm_look l 40) cq_47).trans rfl⟩
theorem lk_47_43 : Lk 47 43 (.iload_n 3) 0 0 (0) := ⟨1, 0, (congrArg (fun l => pm_look l 43) cq_47).trans rfl⟩
theorem lk_47_44 : Lk 47 44 (.aload_n 0) 0 0 (0) := ⟨1, 0, (congrArg (fun l => pm_look l 44) cq_47).trans rfl⟩
theorem lk_47_45 : Lk 47 45 (.iload 4) 0 0 (0) := ⟨2, 0, (congrArg (fun l => pm_look l 45) cq_47).trans rfl⟩
theorem lk_47_47 : Lk 47 47 (.iload 5) 0 0 (0) := ⟨2, 0, (congrArg (fun l => pm_look l 47) cq_47).trans rfl⟩
theorem lk_47_49 : Lk 47 49 (.invokevirtual 66) 45 0 (0) := ⟨3, 771, (congrArg (fun l => pm_look l 49) cq_47).trans rfl⟩
theorem lk_47_52 : Lk 47 52 (.invokestatic 70) 266 0 (0) := ⟨3, 775, (congrArg (fun l => pm_look l 52) cq_47).trans rfl⟩
theorem lk_47_55 : Lk 47 55 (.invokestatic 82) 1000 0 (0) := ⟨3, 825, (congrArg (fun l => pm_look l 55) cq_47).trans rfl⟩
theorem lk_47_58 : Lk 47 58 (.istore_n 3) 0 0 (0) := ⟨1, 0, (congrArg (fun l => pm_look l 58) cq_47).trans rfl⟩
theorem lk_47_59 : Lk 47 59 (.iinc 4 1) 0 0 (0) := ⟨3, 0, (congrArg (fun l => pm_look l 59) cq_47).trans rfl⟩
theorem lk_47_62 : Lk 47 62 (.goto (-57)) 0 0 (0) := ⟨3, 0, (congrArg (fun l => pm_look l 62) cq_47).trans rfl⟩
theorem lk_47_65 : Lk 47 65 (.iload_n 3) 0 0 (0) := ⟨1, 0, (congrArg (fun l => pm_look l 65) cq_47).trans rfl⟩
theorem lk_47_66 : Lk 47 66 (.ireturn) 0 0 (0) := ⟨1, 0, (congrArg (fun l => pm_look l 66) cq_47).trans rfl⟩
theorem cq_48 : pm_code 48 = cd_48 := rfl
theorem lk_48_0 : Lk 48 0 (.aload_n 0) 0 0 (0) := ⟨1, 0, (congrArg (fun l => pm_look l 0) cq_48).trans rfl⟩
theorem lk_48_1 : Lk 48 1 (.iconst 0) 0 0 (0) := ⟨1, 0, (congrArg (fun l => pm_look l 1) cq_48).trans rfl⟩
theorem lk_48_2 : Lk 48 2 (.putfield 87) 5 6 (0) := ⟨3, 291, (congrArg (fun l => pm_look l 2) cq_48).trans rfl⟩
theorem lk_48_5 : Lk 48 5 (.iconst 1) 0 0 (0) := ⟨1, 0, (congrArg (fun l => pm_look l 5) cq_48).trans rfl⟩
theorem lk_48_6 : Lk 48 6 (.istore_n 1) 0 0 (0) := ⟨1, 0, (congrArg (fun l => pm_look l 6) cq_48).trans rfl⟩
theorem lk_48_7 : Lk 48 7 (.iload_n 1) 0 0 (0) := ⟨1, 0, (congrArg (fun l => pm_look l 7) cq_48).trans rfl⟩
theorem lk_48_8 : Lk 48 8 (.aload_n 0) 0 0 (0) := ⟨1, 0, (congrArg (fun l => pm_look l 8) cq_48).trans rfl⟩
theorem lk_48_9 : Lk 48 9 (.getfield 28) 5 0 (2) := ⟨3, 283, (congrArg (fun l => pm_look l 9) cq_48).trans rfl⟩
theorem lk_48_12 : Lk 48 12 (.invokevirtual 56) 86 0 (0) := ⟨3, 760, (congrArg (fun l => pm_look l 12) cq_48).trans rfl⟩
theorem lk_48_15 : Lk 48 15 (.if_icmp .gt 86) 0 0 (0) := ⟨3, 0, (congrArg (fun l => pm_look l 15) cq_48).trans rfl⟩
theorem lk_48_18 : Lk 48 18 (.aload_n 0) 0 0 (0) := ⟨1, 0, (congrArg (fun l => pm_look l 18) cq_48).trans rfl⟩
theorem lk_48_19 : Lk 48 19 (.getfield 87) 5 6 (0) := ⟨3, 291, (congrArg (fun l => pm_look l 19) cq_48).trans rfl⟩
theorem lk_48_22 : Lk 48 22 (.bipush 64) 0 0 (0) := ⟨2, 0, (congrArg (fun l => pm_look l 22) cq_48).trans rfl⟩
theorem lk_48_24 : Lk 48 24 (.if_icmp .ge 77) 0 0 (0) := ⟨3, 0, (congrArg (fun l => pm_look l 24) cq_48).trans rfl⟩
theorem lk_48_27 : Lk 48 27 (.aload_n 0) 0 0 (0) := ⟨1, 0, (congrArg (fun l => pm_look l 27) cq_48).trans rfl⟩
theorem lk_48_28 : Lk 48 28 (.iload_n 1) 0 0 (0) := ⟨1, 0, (congrArg (fun l => pm_look l 28) cq_48).trans rfl⟩
theorem lk_48_29 : Lk 48 29 (.invokevirtual 59) 42 0 (0) := ⟨3, 761, (congrArg (fun l => pm_look l 29) cq_48).trans rfl⟩
theorem lk_48_32 : Lk 48 32 (.istore_n 2) 0 0 (0) := ⟨1, 0, (congrArg (fun l => pm_look l 32) cq_48).trans rfl⟩
theorem lk_48_33 : Lk 48 33 (.aload_n 0) 0 0 (0) := ⟨1, 0, (congrArg (fun l => pm_look l 33) cq_48).trans rfl⟩
theorem lk_48_34 : Lk 48 34 (.iload_n 1) 0 0 (0) := ⟨1, 0, (congrArg (fun l => pm_look l 34) cq_48).trans rfl⟩
theorem lk_48_35 : Lk 48 35 (.iload_n 2) 0 0 (0) := ⟨1, 0, (congrArg (fun l => pm_look l 35) cq_48).trans rfl⟩
theorem lk_48_36 : Lk 48 36 (.invokevirtual 66) 45 0 (0) := ⟨3, 771, (congrArg (fun l => pm_look l 36) cq_48).trans rfl⟩
theorem lk_48_39 : Lk 48 39 (.lstore_n 3) 0 0 (0) := ⟨1, 0, (congrArg (fun l => pm_look l 39) cq_48).trans rfl⟩
theorem lk_48_40 : Lk 48 40 (.lload_n 3) 0 0 (0) := ⟨1, 0, (congrArg (fun l => pm_look l 40) cq_48).trans rfl⟩
theorem lk_48_41 : Lk 48 41 (.lconst 0) 0 0 (0) := ⟨1, 0, (congrArg (fun l => pm_look l 41) cq_48).trans rfl⟩
theorem lk_48_42 : Lk 48 42 (.lcmp) 0 0 (0) := ⟨1, 0, (congrArg (fun l => pm_look l 42) cq_48).trans rfl⟩
theorem lk_48_43 : Lk 48 43 (.ifCond .eq 52) 0 0 (0) := ⟨3, 0, (congrArg (fun l => pm_look l 43) cq_48).trans rfl⟩
theorem lk_48_46 : Lk 48 46 (.aload_n 0) 0 0 (0) := ⟨1, 0, (congrArg (fun l => pm_look l 46) cq_48).trans rfl⟩
theorem lk_48_47 : Lk 48 47 (.iload_n 2) 0 0 (0) := ⟨1, 0, (congrArg (fun l => pm_look l 47) cq_48).trans rfl⟩
theorem lk_48_48 : Lk 48 48 (.invokevirtual 90) 43 0 (0) := ⟨3, 793, (congrArg (fun l => pm_look l 48) cq_48).trans rfl⟩
theorem lk_48_51 : Lk 48 51 (.iload_n 1) 0 0 (0) := ⟨1, 0, (congrArg (fun l => pm_look l 51) cq_48).trans rfl⟩
theorem lk_48_52 : Lk 48 52 (.if_icmp .ne 43) 0 0 (0) := ⟨3, 0, (congrArg (fun l => pm_look l 52) cq_48).trans rfl⟩
theorem lk_48_55 : Lk 48 55 (.aload_n 0) 0 0 (0) := ⟨1, 0, (congrArg (fun l => pm_look l 55) cq_48).trans rfl⟩
theorem lk_48_56 : Lk 48 56 (.getfield 18) 5 3 (2) := ⟨3, 286, (congrArg (fun l => pm_look l 56) cq_48).trans rfl⟩
theorem lk_48_59 : Lk 48 59 (.aload_n 0) 0 0 (0) := ⟨1, 0, (congrArg (fun l => pm_look l 59) cq_48).trans rfl⟩
theorem lk_48_60 : Lk 48 60 (.getfield 87) 5 6 (0) := ⟨3, 291, (congrArg (fun l => pm_look l 60) cq_48).trans rfl⟩
theorem lk_48_63 : Lk 48 63 (.iload_n 1) 0 0 (0) := ⟨1, 0, (congrArg (fun l => pm_look l 63) cq_48).trans rfl⟩
theorem lk_48_64 : Lk 48 64 (.iastore) 0 0 (0) := ⟨1, 0, (congrArg (fun l => pm_look l 64) cq_48).trans rfl⟩
theorem lk_48_65 : Lk 48 65 (.aload_n 0) 0 0 (0) := ⟨1, 0, (congrArg (fun l => pm_look l 65) cq_48).trans rfl⟩
theorem lk_48_66 : Lk 48 66 (.getfield 21) 5 4 (2) := ⟨3, 288, (congrArg (fun l => pm_look l 66) cq_48).trans rfl⟩
theorem lk_48_69 : Lk 48 69 (.aload_n 0) 0 0 (0) := ⟨1, 0, (congrArg (fun l => pm_look l 69) cq_48).trans rfl⟩
theorem lk_48_70 : Lk 48 70 (.getfield 87) 5 6 (0) := ⟨3, 291, (congrArg (fun l => pm_look l 70) cq_48).trans rfl⟩
theorem lk_48_73 : Lk 48 73 (.iload_n 2) 0 0 (0) := ⟨1, 0, (congrArg (fun l => pm_look l 73) cq_48).trans rfl⟩
theorem lk_48_74 : Lk 48 74 (.iastore) 0 0 (0) := ⟨1, 0, (congrArg (fun l => pm_look l 74) cq_48).trans rfl⟩
theorem lk_48_75 : Lk 48 75 (.aload_n 0) 0 0 (0) := ⟨1, 0, (congrArg (fun l => pm_look l 75) cq_48).trans rfl⟩
theorem lk_48_76 : Lk 48 76 (.getfield 24) 5 5 (2) := ⟨3, 290, (congrArg (fun l => pm_look l 76) cq_48).trans rfl⟩
theorem lk_48_79 : Lk 48 79 (.aload_n 0) 0 0 (0) := ⟨1, 0, (congrArg (fun l => pm_look l 79) cq_48).trans rfl⟩
theorem lk_48_80 : Lk 48 80 (.getfield 87) 5 6 (0) := ⟨3, 291, (congrArg (fun l => pm_look l 80) cq_48).trans rfl⟩
theorem lk_48_83 : Lk 48 83 (.lload_n 3) 0 0 (0) := ⟨1, 0, (congrArg (fun l => pm_look l 83) cq_48).trans rfl⟩
theorem lk_48_84 : Lk 48 84 (.lastore) 0 0 (0) := ⟨1, 0, (congrArg (fun l => pm_look l 84) cq_48).trans rfl⟩
theorem lk_48_85 : Lk 48 85 (.aload_n 0) 0 0 (0) := ⟨1, 0, (congrArg (fun l => pm_look l 85) cq_48).trans rfl⟩
theorem lk_48_86 : Lk 48 86 (.dup) 0 0 (0) := ⟨1, 0, (congrArg (fun l => pm_look l 86) cq_48).trans rfl⟩
theorem lk_48_87 : Lk 48 87 (.getfield 87) 5 6 (0) := ⟨3, 291, (congrArg (fun l => pm_look l 87) cq_48).trans rfl⟩
theorem lk_48_90 : Lk 48 90 (.iconst 1) 0 0 (0) := ⟨1, 0, (congrArg (fun l => pm_look l 90) cq_48).trans rfl⟩
theorem lk_48_91 : Lk 48 91 (.iadd) 0 0 (0) := ⟨1, 0, (congrArg (fun l => pm_look l 91) cq_48).trans rfl⟩
theorem lk_48_92 : Lk 48 92 (.putfield 87) 5 6 (0) := ⟨3, 291, (congrArg (fun l => pm_look l 92) cq_48).trans rfl⟩
theorem lk_48_95 : Lk 48 95 (.iinc 1 1) 0 0 (0) := ⟨3, 0, (congrArg (fun l => pm_look l 95) cq_48).trans rfl⟩
theorem lk_48_98 : Lk 48 98 (.goto (-91)) 0 0 (0) := ⟨3, 0, (congrArg (fun l => pm_look l 98) cq_48).trans rfl⟩
theorem lk_48_101 : Lk 48 101 (.return_) 0 0 (0) := ⟨1, 0, (congrArg (fun l => pm_look l 101) cq_48).trans rfl⟩
theorem cq_49 : pm_code 49 = cd_49 := rfl
theorem lk_49_0 : Lk 49 0 (.aload_n 0) 0 0 (0) := ⟨1, 0, (congrArg (fun l => pm_look l 0) cq_49).trans rfl⟩
theorem lk_49_1 : Lk 49 1 (.aload_n 0) 0 0 (0) := ⟨1, 0, (congrArg (fun l => pm_look l 1) cq_49).trans rfl⟩
theorem lk_49_2 : Lk 49 2 (.getfield 28) 5 0 (2) := ⟨3, 283, (congrArg (fun l => pm_look l 2) cq_49).trans rfl⟩
theorem lk_49_5 : Lk 49 5 (.invokevirtual 56) 86 0 (0) := ⟨3, 760, (congrArg (fun l => pm_look l 5) cq_49).trans rfl⟩
theorem lk_49_8 : Lk 49 8 (.aload_n 0) 0 0 (0) := ⟨1, 0, (congrArg (fun l => pm_look l 8) cq_49).trans rfl⟩
theorem lk_49_9 : Lk 49 9 (.getfield 28) 5 0 (2) := ⟨3, 283, (congrArg (fun l => pm_look l 9) cq_49).trans rfl⟩
theorem lk_49_12 : Lk 49 12 (.invokevirtual 49) 87 0 (0) := ⟨3, 766, (congrArg (fun l => pm_look l 12) cq_49).trans rfl⟩
theorem lk_49_15 : Lk 49 15 (.invokevirtual 66) 45 0 (0) := ⟨3, 771, (congrArg (fun l => pm_look l 15) cq_49).trans rfl⟩
theorem lk_49_18 : Lk 49 18 (.lstore_n 2) 0 0 (0) := ⟨1, 0, (congrArg (fun l => pm_look l 18) cq_49).trans rfl⟩
theorem lk_49_19 : Lk 49 19 (.iconst 0) 0 0 (0) := ⟨1, 0, (congrArg (fun l => pm_look l 19) cq_49).trans rfl⟩
theorem lk_49_20 : Lk 49 20 (.istore 4) 0 0 (0) := ⟨2, 0, (congrArg (fun l => pm_look l 20) cq_49).trans rfl⟩
theorem lk_49_22 : Lk 49 22 (.iconst 0) 0 0 (0) := ⟨1, 0, (congrArg (fun l => pm_look l 22) cq_49).trans rfl⟩
theorem lk_49_23 : Lk 49 23 (.istore 5) 0 0 (0) := ⟨2, 0, (congrArg (fun l => pm_look l 23) cq_49).trans rfl⟩
theorem lk_49_25 : Lk 49 25 (.iload 5) 0 0 (0) := ⟨2, 0, (congrArg (fun l => pm_look l 25) cq_49).trans rfl⟩
theorem lk_49_27 : Lk 49 27 (.aload_n 0) 0 0 (0) := ⟨1, 0, (congrArg (fun l => pm_look l 27) cq_49).trans rfl⟩
theorem lk_49_28 : Lk 49 28 (.getfield 28) 5 0 (2) := ⟨3, 283, (congrArg (fun l => pm_look l 28) cq_49).trans rfl⟩
theorem lk_49_31 : Lk 49 31 (.getfield 32) 8 1 (0) := ⟨3, 153, (congrArg (fun l => pm_look l 31) cq_49).trans rfl⟩
theorem lk_49_34 : Lk 49 34 (.if_icmp .ge 29) 0 0 (0) := ⟨3, 0, (congrArg (fun l => pm_look l 34) cq_49).trans rfl⟩
theorem lk_49_37 : Lk 49 37 (.iload 4) 0 0 (0) := ⟨2, 0, (congrArg (fun l => pm_look l 37) cq_49).trans rfl⟩
theorem lk_49_39 : Lk 49 39 (.aload_n 0) 0 0 (0) := ⟨1, 0, (congrArg (fun l => pm_look l 39) cq_49).trans rfl⟩
theorem lk_49_40 : Lk 49 40 (.getfield 9) 5 1 (2) := ⟨3, 284, (congrArg (fun l => pm_look l 40) cq_49).trans rfl⟩
theorem lk_49_43 : Lk 49 43 (.iload 5) 0 0 (0) := ⟨2, 0, (congrArg (fun l => pm_look l 43) cq_49).trans rfl⟩
theorem lk_49_45 : Lk 49 45 (.iaload) 0 0 (0) := ⟨1, 0, (congrArg (fun l => pm_look l 45) cq_49).trans rfl⟩
theorem lk_49_46 : Lk 49 46 (.ifCond .eq 7) 0 0 (0) := ⟨3, 0, (congrArg (fun l => pm_look l 46) cq_49).trans rfl⟩
theorem lk_49_49 : Lk 49 49 (.iconst 1) 0 0 (0) := ⟨1, 0, (congrArg (fun l => pm_look l 49) cq_49).trans rfl⟩
theorem lk_49_50 : Lk 49 50 (.goto 4) 0 0 (0) := ⟨3, 0, (congrArg (fun l => pm_look l 50) cq_49).trans rfl⟩
theorem lk_49_53 : Lk 49 53 (.iconst 0) 0 0 (0) := ⟨1, 0, (congrArg (fun l => pm_look l 53) cq_49).trans rfl⟩
theorem lk_49_54 : Lk 49 54 (.iadd) 0 0 (0) := ⟨1, 0, (congrArg (fun l => pm_look l 54) cq_49).trans rfl⟩
theorem lk_49_55 : Lk 49 55 (.istore 4) 0 0 (0) := ⟨2, 0, (congrArg (fun l => pm_look l 55) cq_49).trans rfl⟩
theorem lk_49_57 : Lk 49 57 (.iinc 5 1) 0 0 (0) := ⟨3, 0, (congrArg (fun l => pm_look l 57) cq_49).trans rfl⟩
theorem lk_49_60 : Lk 49 60 (.goto (-35)) 0 0 (0) := ⟨3, 0, (congrArg (fun l => pm_look l 60) cq_49).trans rfl⟩
theorem lk_49_63 : Lk 49 63 (.iload 4) 0 0 (0) := ⟨2, 0, (congrArg (fun l => pm_look l 63) cq_49).trans rfl⟩
theorem lk_49_65 : Lk 49 65 (.aload_n 0) 0 0 (0) := ⟨1, 0, (congrArg (fun l => pm_look l 65) cq_49).trans rfl⟩
theorem lk_49_66 : Lk 49 66 (.aload_n 0) 0 0 (0) := ⟨1, 0, (congrArg (fun l => pm_look l 66) cq_49).trans rfl⟩
theorem lk_49_67 : Lk 49 67 (.getfield 28) 5 0 (2) := ⟨3, 283, (congrArg (fun l => pm_look l 67) cq_49).trans rfl⟩
theorem lk_49_70 : Lk 49 70 (.invokevirtual 56) 86 0 (0) := ⟨3, 760, (congrArg (fun l => pm_look l 70) cq_49).trans rfl⟩
theorem lk_49_73 : Lk 49 73 (.invokevirtual 63) 44 0 (0) := ⟨3, 767, (congrArg (fun l => pm_look l 73) cq_49).trans rfl⟩
theorem lk_49_76 : Lk 49 76 (.invokestatic 93) 265 0 (0) := ⟨3, 823, (congrArg (fun l => pm_look l 76) cq_49).trans rfl⟩
theorem lk_49_79 : Lk 49 79 (.invokestatic 97) 1001 0 (0) := ⟨3, 824, (congrArg (fun l => pm_look l 79) cq_49).trans rfl⟩
theorem lk_49_82 : Lk 49 82 (.istore 5) 0 0 (0) := ⟨2, 0, (congrArg (fun l => pm_look l 82) cq_49).trans rfl⟩
theorem lk_49_84 : Lk 49 84 (.iload_n 1) 0 0 (0) := ⟨1, 0, (congrArg (fun l => pm_look l 84) cq_49).trans rfl⟩
theorem lk_49_85 : Lk 49 85 (.iconst 0) 0 0 (0) := ⟨1, 0, (congrArg (fun l => pm_look l 85) cq_49).trans rfl⟩
theorem lk_49_86 : Lk 49 86 (.invokestatic 82) 1000 0 (0) := ⟨3, 825, (congrArg (fun l => pm_look l 86) cq_49).trans rfl⟩
theorem lk_49_89 : Lk 49 89 (.istore 6) 0 0 (0) := ⟨2, 0, (congrArg (fun l => pm_look l 89) cq_49).trans rfl⟩
theorem lk_49_91 : Lk 49 91 (.iload 6) 0 0 (0) := ⟨2, 0, (congrArg (fun l => pm_look l 91) cq_49).trans rfl⟩
theorem lk_49_93 : Lk 49 93 (.iload 5) 0 0 (0) := ⟨2, 0, (congrArg (fun l => pm_look l 93) cq_49).trans rfl⟩
theorem lk_49_95 : Lk 49 95 (.if_icmp .ge 22) 0 0 (0) := ⟨3, 0, (congrArg (fun l => pm_look l 95) cq_49).trans rfl⟩
theorem lk_49_98 : Lk 49 98 (.aload_n 0) 0 0 (0) := ⟨1, 0, (congrArg (fun l => pm_look l 98) cq_49).trans rfl⟩
theorem lk_49_99 : Lk 49 99 (.lload_n 2) 0 0 (0) := ⟨1, 0, (congrArg (fun l => pm_look l 99) cq_49).trans rfl⟩
theorem lk_49_100 : Lk 49 100 (.iload 6) 0 0 (0) := ⟨2, 0, (congrArg (fun l => pm_look l 100) cq_49).trans rfl⟩
theorem lk_49_102 : Lk 49 102 (.invokevirtual 100) 50 0 (0) := ⟨3, 828, (congrArg (fun l => pm_look l 102) cq_49).trans rfl⟩
theorem lk_49_105 : Lk 49 105 (.ifCond .eq 6) 0 0 (0) := ⟨3, 0, (congrArg (fun l => pm_look l 105) cq_49).trans rfl⟩
theorem lk_49_108 : Lk 49 108 (.iload 6) 0 0 (0) := ⟨2, 0, (congrArg (fun l => pm_look l 108) cq_49).trans rfl⟩
theorem lk_49_110 : Lk 49 110 (.ireturn) 0 0 (0) := ⟨1, 0, (congrArg (fun l => pm_look l 110) cq_49).trans rfl⟩
theorem lk_49_111 : Lk 49 111 (.iinc 6 1) 0 0 (0) := ⟨3, 0, (congrArg (fun l => pm_look l 111) cq_49).trans rfl⟩
theorem lk_49_114 : Lk 49 114 (.goto (-23)) 0 0 (0) := ⟨3, 0, (congrArg (fun l => pm_look l 114) cq_49).trans rfl⟩
theorem lk_49_117 : Lk 49 117 (.iload 5) 0 0 (0) := ⟨2, 0, (congrArg (fun l => pm_look l 117) cq_49).trans rfl⟩
theorem lk_49_119 : Lk 49 119 (.ireturn) 0 0 (0) := ⟨1, 0, (congrArg (fun l => pm_look l 119) cq_49).trans rfl⟩
theorem cq_50 : pm_code 50 = cd_50 := rfl
theorem lk_50_0 : Lk 50 0 (.lload_n 1) 0 0 (0) := ⟨1, 0, (congrArg (fun l => pm_look l 0) cq_50).trans rfl⟩
theorem lk_50_1 : Lk 50 1 (.lconst 0) 0 0 (0) := ⟨1, 0, (congrArg (fun l => pm_look l 1) cq_50).trans rfl⟩
theorem lk_50_2 : Lk 50 2 (.lcmp) 0 0 (0) := ⟨1, 0, (congrArg (fun l => pm_look l 2) cq_50).trans rfl⟩
theorem lk_50_3 : Lk 50 3 (.ifCond .ne 5) 0 0 (0) := ⟨3, 0, (congrArg (fun l => pm_look l 3) cq_50).trans rfl⟩
theorem lk_50_6 : Lk 50 6 (.iconst 1) 0 0 (0) := ⟨1, 0, (congrArg (fun l => pm_look l 6) cq_50).trans rfl⟩
theorem lk_50_7 : Lk 50 7 (.ireturn) 1 0 (0) := ⟨1, 0, (congrArg (fun l => pm_look l 7) cq_50).trans rfl⟩
theorem lk_50_8 : Lk 50 8 (.iload_n 3) 0 0 (0) := ⟨1, 0, (congrArg (fun l => pm_look l 8) cq_50).trans rfl⟩
theorem lk_50_9 : Lk 50 9 (.ifCond .le 23) 0 0 (0) := ⟨3, 0, (congrArg (fun l => pm_look l 9) cq_50).trans rfl⟩
theorem lk_50_12 : Lk 50 12 (.iload_n 3) 0 0 (0) := ⟨1, 0, (congrArg (fun l => pm_look l 12) cq_50).trans rfl⟩
theorem lk_50_13 : Lk 50 13 (.bipush 6) 0 0 (0) := ⟨2, 0, (congrArg (fun l => pm_look l 13) cq_50).trans rfl⟩
theorem lk_50_15 : Lk 50 15 (.if_icmp .gt 17) 0 0 (0) := ⟨3, 0, (congrArg (fun l => pm_look l 15) cq_50).trans rfl⟩
theorem lk_50_18 : Lk 50 18 (.aload_n 0) 0 0 (0) := ⟨1, 0, (congrArg (fun l => pm_look l 18) cq_50).trans rfl⟩
theorem lk_50_19 : Lk 50 19 (.lload_n 1) 0 0 (0) := ⟨1, 0, (congrArg (fun l => pm_look l 19) cq_50).trans rfl⟩
theorem lk_50_20 : Lk 50 20 (.invokevirtual 104) 51 0 (0) := ⟨3, 832, (congrArg (fun l => pm_look l 20) cq_50).trans rfl⟩
theorem lk_50_23 : Lk 50 23 (.iload_n 3) 0 0 (0) := ⟨1, 0, (congrArg (fun l => pm_look l 23) cq_50).trans rfl⟩
theorem lk_50_24 : Lk 50 24 (.imul) 0 0 (0) := ⟨1, 0, (congrArg (fun l => pm_look l 24) cq_50).trans rfl⟩
theorem lk_50_25 : Lk 50 25 (.lload_n 1) 0 0 (0) := ⟨1, 0, (congrArg (fun l => pm_look l 25) cq_50).trans rfl⟩
theorem lk_50_26 : Lk 50 26 (.invokestatic 70) 266 0 (0) := ⟨3, 775, (congrArg (fun l => pm_look l 26) cq_50).trans rfl⟩
theorem lk_50_29 : Lk 50 29 (.if_icmp .ge 5) 0 0 (0) := ⟨3, 0, (congrArg (fun l => pm_look l 29) cq_50).trans rfl⟩
theorem lk_50_32 : Lk 50 32 (.iconst 0) 0 0 (0) := ⟨1, 0, (congrArg (fun l => pm_look l 32) cq_50).trans rfl⟩
theorem lk_50_33 : Lk 50 33 (.ireturn) 1 0 (0) := ⟨1, 0, (congrArg (fun l => pm_look l 33) cq_50).trans rfl⟩
theorem lk_50_34 : Lk 50 34 (.aload_n 0) 0 0 (0) := ⟨1, 0, (congrArg (fun l => pm_look l 34) cq_50).trans rfl⟩
theorem lk_50_35 : Lk 50 35 (.lload_n 1) 0 0 (0) := ⟨1, 0, (congrArg (fun l => pm_look l 35) cq_50).trans rfl⟩
theorem lk_50_36 : Lk 50 36 (.invokevirtual 107) 52 0 (0) := ⟨3, 836, (congrArg (fun l => pm_look l 36) cq_50).trans rfl⟩
theorem lk_50_39 : Lk 50 39 (.lstore 4) 0 0 (0) := ⟨2, 0, (congrArg (fun l => pm_look l 39) cq_50).trans rfl⟩
theorem lk_50_41 : Lk 50 41 (.iconst 0) 0 0 (0) := ⟨1, 0, (congrArg (fun l => pm_look l 41) cq_50).trans rfl⟩
theorem lk_50_42 : Lk 50 42 (.istore 6) 0 0 (0) := ⟨2, 0, (congrArg (fun l => pm_look l 42) cq_50).trans rfl⟩
theorem lk_50_44 : Lk 50 44 (.iload 6) 0 0 (0) := ⟨2, 0, (congrArg (fun l => pm_look l 44) cq_50).trans rfl⟩
theorem lk_50_46 : Lk 50 46 (.aload_n 0) 0 0 (0) := ⟨1, 0, (congrArg (fun l => pm_look l 46) cq_50).trans rfl⟩
theorem lk_50_47 : Lk 50 47 (.getfield 87) 5 6 (0) := ⟨3, 291, (congrArg (fun l => pm_look l 47) cq_50).trans rfl⟩
theorem lk_50_50 : Lk 50 50 (.if_icmp .ge 49) 0 0 (0) := ⟨3, 0, (congrArg (fun l => pm_look l 50) cq_50).trans rfl⟩
theorem lk_50_53 : Lk 50 53 (.aload_n 0) 0 0 (0) := ⟨1, 0, (congrArg (fun l => pm_look l 53) cq_50).trans rfl⟩
theorem lk_50_54 : Lk 50 54 (.getfield 24) 5 5 (2) := ⟨3, 290, (congrArg (fun l => pm_look l 54) cq_50).trans rfl⟩
theorem lk_50_57 : Lk 50 57 (.iload 6) 0 0 (0) := ⟨2, 0, (congrArg (fun l => pm_look l 57) cq_50).trans rfl⟩
theorem lk_50_59 : Lk 50 59 (.laload) 0 0 (0) := ⟨1, 0, (congrArg (fun l => pm_look l 59) cq_50).trans rfl⟩
theorem lk_50_60 : Lk 50 60 (.lload 4) 0 0 (0) := ⟨2, 0, (congrArg (fun l => pm_look l 60) cq_50).trans rfl⟩
theorem lk_50_62 : Lk 50 62 (.land) 0 0 (0) := ⟨1, 0, (congrArg (fun l => pm_look l 62) cq_50).trans rfl⟩
theorem lk_50_63 : Lk 50 63 (.lconst 0) 0 0 (0) := ⟨1, 0, (congrArg (fun l => pm_look l 63) cq_50).trans rfl⟩
theorem lk_50_64 : Lk 50 64 (.lcmp) 0 0 (0) := ⟨1, 0, (congrArg (fun l => pm_look l 64) cq_50).trans rfl⟩
theorem lk_50_65 : Lk 50 65 (.ifCond .eq 28) 0 0 (0) := ⟨3, 0, (congrArg (fun l => pm_look l 65) cq_50).trans rfl⟩
theorem lk_50_68 : Lk 50 68 (.aload_n 0) 0 0 (0) := ⟨1, 0, (congrArg (fun l => pm_look l 68) cq_50).trans rfl⟩
theorem lk_50_69 : Lk 50 69 (.lload_n 1) 0 0 (0) := ⟨1, 0, (congrArg (fun l => pm_look l 69) cq_50).trans rfl⟩
theorem lk_50_70 : Lk 50 70 (.aload_n 0) 0 0 (0) := ⟨1, 0, (congrArg (fun l => pm_look l 70) cq_50).trans rfl⟩
theorem lk_50_71 : Lk 50 71 (.getfield 24) 5 5 (2) := ⟨3, 290, (congrArg (fun l => pm_look l 71) cq_50).trans rfl⟩
theorem lk_50_74 : Lk 50 74 (.iload 6) 0 0 (0) := ⟨2, 0, (congrArg (fun l => pm_look l 74) cq_50).trans rfl⟩
theorem lk_50_76 : Lk 50 76 (.laload) 0 0 (0) := ⟨1, 0, (congrArg (fun l => pm_look l 76) cq_50).trans rfl⟩
theorem lk_50_77 : Lk 50 77 (.ldc2_w 111) 0 0 (-1) := ⟨3, 841, (congrArg (fun l => pm_look l 77) cq_50).trans rfl⟩
theorem lk_50_80 : Lk 50 80 (.lxor) 0 0 (0) := ⟨1, 0, (congrArg (fun l => pm_look l 80) cq_50).trans rfl⟩
theorem lk_50_81 : Lk 50 81 (.land) 0 0 (0) := ⟨1, 0, (congrArg (fun l => pm_look l 81) cq_50).trans rfl⟩
theorem lk_50_82 : Lk 50 82 (.iload_n 3) 0 0 (0) := ⟨1, 0, (congrArg (fun l => pm_look l 82) cq_50).trans rfl⟩
theorem lk_50_83 : Lk 50 83 (.iconst 1) 0 0 (0) := ⟨1, 0, (congrArg (fun l => pm_look l 83) cq_50).trans rfl⟩
theorem lk_50_84 : Lk 50 84 (.isub) 0 0 (0) := ⟨1, 0, (congrArg (fun l => pm_look l 84) cq_50).trans rfl⟩
theorem lk_50_85 : Lk 50 85 (.invokevirtual 100) 50 0 (0) := ⟨3, 828, (congrArg (fun l => pm_look l 85) cq_50).trans rfl⟩
theorem lk_50_88 : Lk 50 88 (.ifCond .eq 5) 0 0 (0) := ⟨3, 0, (congrArg (fun l => pm_look l 88) cq_50).trans rfl⟩
theorem lk_50_91 : Lk 50 91 (.iconst 1) 0 0 (0) := ⟨1, 0, (congrArg (fun l => pm_look l 91) cq_50).trans rfl⟩
theorem lk_50_92 : Lk 50 92 (.ireturn) 1 0 (0) := ⟨1, 0, (congrArg (fun l => pm_look l 92) cq_50).trans rfl⟩
theorem lk_50_93 : Lk 50 93 (.iinc 6 1) 0 0 (0) := ⟨3, 0, (congrArg (fun l => pm_look l 93) cq_50).trans rfl⟩
theorem lk_50_96 : Lk 50 96 (.goto (-52)) 0 0 (0) := ⟨3, 0, (congrArg (fun l => pm_look l 96) cq_50).trans rfl⟩
theorem lk_50_99 : Lk 50 99 (.iconst 0) 0 0 (0) := ⟨1, 0, (congrArg (fun l => pm_look l 99) cq_50).trans rfl⟩
theorem lk_50_100 : Lk 50 100 (.ireturn) 1 0 (0) := ⟨1, 0, (congrArg (fun l => pm_look l 100) cq_50).trans rfl⟩
theorem cq_51 : pm_code 51 = cd_51 := rfl
theorem lk_51_0 : Lk 51 0 (.iconst 0) 0 0 (0) := ⟨1, 0, (congrArg (fun l => pm_look l 0) cq_51).trans rfl⟩
theorem lk_51_1 : Lk 51 1 (.istore_n 3) 0 0 (0) := ⟨1, 0, (congrArg (fun l => pm_look l 1) cq_51).trans rfl⟩
theorem lk_51_2 : Lk 51 2 (.iconst 0) 0 0 (0) := ⟨1, 0, (congrArg (fun l => pm_look l 2) cq_51).trans rfl⟩
theorem lk_51_3 : Lk 51 3 (.istore 4) 0 0 (0) := ⟨2, 0, (congrArg (fun l => pm_look l 3) cq_51).trans rfl⟩
theorem lk_51_5 : Lk 51 5 (.iload 4) 0 0 (0) := ⟨2, 0, (congrArg (fun l => pm_look l 5) cq_51).trans rfl⟩
theorem lk_51_7 : Lk 51 7 (.aload_n 0) 0 0 (0) := ⟨1, 0, (congrArg (fun l => pm_look l 7) cq_51).trans rfl⟩
theorem lk_51_8 : Lk 51 8 (.getfield 87) 5 6 (0) := ⟨3, 291, (congrArg (fun l => pm_look l 8) cq_51).trans rfl⟩
theorem lk_51_11 : Lk 51 11 (.if_icmp .ge 26) 0 0 (0) := ⟨3, 0, (congrArg (fun l => pm_look l 11) cq_51).trans rfl⟩
theorem lk_51_14 : Lk 51 14 (.iload_n 3) 0 0 (0) := ⟨1, 0, (congrArg (fun l => pm_look l 14) cq_51).trans rfl⟩
theorem lk_51_15 : Lk 51 15 (.aload_n 0) 0 0 (0) := ⟨1, 0, (congrArg (fun l => pm_look l 15) cq_51).trans rfl⟩
theorem lk_51_16 : Lk 51 16 (.getfield 24) 5 5 (2) := ⟨3, 290, (congrArg (fun l => pm_look l 16) cq_51).trans rfl⟩
theorem lk_51_19 : Lk 51 19 (.iload 4) 0 0 (0) := ⟨2, 0, (congrArg (fun l => pm_look l 19) cq_51).trans rfl⟩
theorem lk_51_21 : Lk 51 21 (.laload) 0 0 (0) := ⟨1, 0, (congrArg (fun l => pm_look l 21) cq_51).trans rfl⟩
theorem lk_51_22 : Lk 51 22 (.lload_n 1) 0 0 (0) := ⟨1, 0, (congrArg (fun l => pm_look l 22) cq_51).trans rfl⟩
theorem lk_51_23 : Lk 51 23 (.land) 0 0 (0) := ⟨1, 0, (congrArg (fun l => pm_look l 23) cq_51).trans rfl⟩
theorem lk_51_24 : Lk 51 24 (.invokestatic 70) 266 0 (0) := ⟨3, 775, (congrArg (fun l => pm_look l 24) cq_51).trans rfl⟩
theorem lk_51_27 : Lk 51 27 (.invokestatic 82) 1000 0 (0) := ⟨3, 825, (congrArg (fun l => pm_look l 27) cq_51).trans rfl⟩
theorem lk_51_30 : Lk 51 30 (.istore_n 3) 0 0 (0) := ⟨1, 0, (congrArg (fun l => pm_look l 30) cq_51).trans rfl⟩
theorem lk_51_31 : Lk 51 31 (.iinc 4 1) 0 0 (0) := ⟨3, 0, (congrArg (fun l => pm_look l 31) cq_51).trans rfl⟩
theorem lk_51_34 : Lk 51 34 (.goto (-29)) 0 0 (0) := ⟨3, 0, (congrArg (fun l => pm_look l 34) cq_51).trans rfl⟩
theorem lk_51_37 : Lk 51 37 (.iload_n 3) 0 0 (0) := ⟨1, 0, (congrArg (fun l => pm_look l 37) cq_51).trans rfl⟩
theorem lk_51_38 : Lk 51 38 (.ireturn) 0 0 (0) := ⟨1, 0, (congrArg (fun l => pm_look l 38) cq_51).trans rfl⟩
theorem cq_52 : pm_code 52 = cd_52 := rfl
theorem lk_52_0 : Lk 52 0 (.lload_n 1) 0 0 (0) := ⟨1, 0, (congrArg (fun l => pm_look l 0) cq_52).trans rfl⟩
theorem lk_52_1 : Lk 52 1 (.lload_n 1) 0 0 (0) := ⟨1, 0, (congrArg (fun l => pm_look l 1) cq_52).trans rfl⟩
theorem lk_52_2 : Lk 52 2 (.lneg) 0 0 (0) := ⟨1, 0, (congrArg (fun l => pm_look l 2) cq_52).trans rfl⟩
theorem lk_52_3 : Lk 52 3 (.land) 0 0 (0) := ⟨1, 0, (congrArg (fun l => pm_look l 3) cq_52).trans rfl⟩
theorem lk_52_4 : Lk 52 4 (.lstore_n 3) 0 0 (0) := ⟨1, 0, (congrArg (fun l => pm_look l 4) cq_52).trans rfl⟩
theorem lk_52_5 : Lk 52 5 (.ldc 113) 0 0 (1000000) := ⟨2, 840, (congrArg (fun l => pm_look l 5) cq_52).trans rfl⟩
theorem lk_52_7 : Lk 52 7 (.istore 5) 0 0 (0) := ⟨2, 0, (congrArg (fun l => pm_look l 7) cq_52).trans rfl⟩
theorem lk_52_9 : Lk 52 9 (.iconst 0) 0 0 (0) := ⟨1, 0, (congrArg (fun l => pm_look l 9) cq_52).trans rfl⟩
theorem lk_52_10 : Lk 52 10 (.istore 6) 0 0 (0) := ⟨2, 0, (congrArg (fun l => pm_look l 10) cq_52).trans rfl⟩
theorem lk_52_12 : Lk 52 12 (.iload 6) 0 0 (0) := ⟨2, 0, (congrArg (fun l => pm_look l 12) cq_52).trans rfl⟩
theorem lk_52_14 : Lk 52 14 (.bipush 36) 0 0 (0) := ⟨2, 0, (congrArg (fun l => pm_look l 14) cq_52).trans rfl⟩
theorem lk_52_16 : Lk 52 16 (.if_icmp .ge 84) 0 0 (0) := ⟨3, 0, (congrArg (fun l => pm_look l 16) cq_52).trans rfl⟩
theorem lk_52_19 : Lk 52 19 (.lconst 1) 0 0 (0) := ⟨1, 0, (congrArg (fun l => pm_look l 19) cq_52).trans rfl⟩
theorem lk_52_20 : Lk 52 20 (.iload 6) 0 0 (0) := ⟨2, 0, (congrArg (fun l => pm_look l 20) cq_52).trans rfl⟩
theorem lk_52_22 : Lk 52 22 (.lshl) 0 0 (0) := ⟨1, 0, (congrArg (fun l => pm_look l 22) cq_52).trans rfl⟩
theorem lk_52_23 : Lk 52 23 (.lload_n 1) 0 0 (0) := ⟨1, 0, (congrArg (fun l => pm_look l 23) cq_52).trans rfl⟩
theorem lk_52_24 : Lk 52 24 (.land) 0 0 (0) := ⟨1, 0, (congrArg (fun l => pm_look l 24) cq_52).trans rfl⟩
theorem lk_52_25 : Lk 52 25 (.lstore 7) 0 0 (0) := ⟨2, 0, (congrArg (fun l => pm_look l 25) cq_52).trans rfl⟩
theorem lk_52_27 : Lk 52 27 (.lload 7) 0 0 (0) := ⟨2, 0, (congrArg (fun l => pm_look l 27) cq_52).trans rfl⟩
theorem lk_52_29 : Lk 52 29 (.lconst 0) 0 0 (0) := ⟨1, 0, (congrArg (fun l => pm_look l 29) cq_52).trans rfl⟩
theorem lk_52_30 : Lk 52 30 (.lcmp) 0 0 (0) := ⟨1, 0, (congrArg (fun l => pm_look l 30) cq_52).trans rfl⟩
theorem lk_52_31 : Lk 52 31 (.ifCond .eq 63) 0 0 (0) := ⟨3, 0, (congrArg (fun l => pm_look l 31) cq_52).trans rfl⟩
theorem lk_52_34 : Lk 52 34 (.iconst 0) 0 0 (0) := ⟨1, 0, (congrArg (fun l => pm_look l 34) cq_52).trans rfl⟩
theorem lk_52_35 : Lk 52 35 (.istore 9) 0 0 (0) := ⟨2, 0, (congrArg (fun l => pm_look l 35) cq_52).trans rfl⟩
theorem lk_52_37 : Lk 52 37 (.iconst 0) 0 0 (0) := ⟨1, 0, (congrArg (fun l => pm_look l 37) cq_52).trans rfl⟩
theorem lk_52_38 : Lk 52 38 (.istore 10) 0 0 (0) := ⟨2, 0, (congrArg (fun l => pm_look l 38) cq_52).trans rfl⟩
theorem lk_52_40 : Lk 52 40 (.iload 10) 0 0 (0) := ⟨2, 0, (congrArg (fun l => pm_look l 40) cq_52).trans rfl⟩
theorem lk_52_42 : Lk 52 42 (.aload_n 0) 0 0 (0) := ⟨1, 0, (congrArg (fun l => pm_look l 42) cq_52).trans rfl⟩
theorem lk_52_43 : Lk 52 43 (.getfield 87) 5 6 (0) := ⟨3, 291, (congrArg (fun l => pm_look l 43) cq_52).trans rfl⟩
theorem lk_52_46 : Lk 52 46 (.if_icmp .ge 34) 0 0 (0) := ⟨3, 0, (congrArg (fun l => pm_look l 46) cq_52).trans rfl⟩
theorem lk_52_49 : Lk 52 49 (.iload 9) 0 0 (0) := ⟨2, 0, (congrArg (fun l => pm_look l 49) cq_52).trans rfl⟩
theorem lk_52_51 : Lk 52 51 (.aload_n 0) 0 0 (0) := ⟨1, 0, (congrArg (fun l => pm_look l 51) cq_52).trans rfl⟩
theorem lk_52_52 : Lk 52 52 (.getfield 24) 5 5 (2) := ⟨3, 290, (congrArg (fun l => pm_look l 52) cq_52).trans rfl⟩
theorem lk_52_55 : Lk 52 55 (.iload 10) 0 0 (0) := ⟨2, 0, (congrArg (fun l => pm_look l 55) cq_52).trans rfl⟩
theorem lk_52_57 : Lk 52 57 (.laload) 0 0 (0) := ⟨1, 0, (congrArg (fun l => pm_look l 57) cq_52).trans rfl⟩
theorem lk_52_58 : Lk 52 58 (.lload 7) 0 0 (0) := ⟨2, 0, (congrArg (fun l => pm_look l 58) cq_52).trans rfl⟩
theorem lk_52_60 : Lk 52 60 (.land) 0 0 (0) := ⟨1, 0, (congrArg (fun l => pm_look l 60) cq_52).trans rfl⟩
theorem lk_52_61 : Lk 52 61 (.lconst 0) 0 0 (0) := ⟨1, 0, (congrArg (fun l => pm_look l 61) cq_52).trans rfl⟩
theorem lk_52_62 : Lk 52 62 (.lcmp) 0 0 (0) := ⟨1, 0, (congrArg (fun l => pm_look l 62) cq_52).trans rfl⟩
theorem lk_52_63 : Lk 52 63 (.ifCond .eq 7) 0 0 (0) := ⟨3, 0, (congrArg (fun l => pm_look l 63) cq_52).trans rfl⟩
theorem lk_52_66 : Lk 52 66 (.iconst 1) 0 0 (0) := ⟨1, 0, (congrArg (fun l => pm_look l 66) cq_52).trans rfl⟩
theorem lk_52_67 : Lk 52 67 (.goto 4) 0 0 (0) := ⟨3, 0, (congrArg (fun l => pm_look l 67) cq_52).trans rfl⟩
theorem lk_52_70 : Lk 52 70 (.iconst 0) 0 0 (0) := ⟨1, 0, (congrArg (fun l => pm_look l 70) cq_52).trans rfl⟩
theorem lk_52_71 : Lk 52 71 (.iadd) 0 0 (0) := ⟨1, 0, (congrArg (fun l => pm_look l 71) cq_52).trans rfl⟩
theorem lk_52_72 : Lk 52 72 (.istore 9) 0 0 (0) := ⟨2, 0, (congrArg (fun l => pm_look l 72) cq_52).trans rfl⟩
theorem lk_52_74 : Lk 52 74 (.iinc 10 1) 0 0 (0) := ⟨3, 0, (congrArg (fun l => pm_look l 74) cq_52).trans rfl⟩
theorem lk_52_77 : Lk 52 77 (.goto (-37)) 0 0 (0) := ⟨3, 0, (congrArg (fun l => pm_look l 77) cq_52).trans rfl⟩
theorem lk_52_80 : Lk 52 80 (.iload 9) 0 0 (0) := ⟨2, 0, (congrArg (fun l => pm_look l 80) cq_52).trans rfl⟩
theorem lk_52_82 : Lk 52 82 (.iload 5) 0 0 (0) := ⟨2, 0, (congrArg (fun l => pm_look l 82) cq_52).trans rfl⟩
theorem lk_52_84 : Lk 52 84 (.if_icmp .ge 10) 0 0 (0) := ⟨3, 0, (congrArg (fun l => pm_look l 84) cq_52).trans rfl⟩
theorem lk_52_87 : Lk 52 87 (.iload 9) 0 0 (0) := ⟨2, 0, (congrArg (fun l => pm_look l 87) cq_52).trans rfl⟩
theorem lk_52_89 : Lk 52 89 (.istore 5) 0 0 (0) := ⟨2, 0, (congrArg (fun l => pm_look l 89) cq_52).trans rfl⟩
theorem lk_52_91 : Lk 52 91 (.lload 7) 0 0 (0) := ⟨2, 0, (congrArg (fun l => pm_look l 91) cq_52).trans rfl⟩
theorem lk_52_93 : Lk 52 93 (.lstore_n 3) 0 0 (0) := ⟨1, 0, (congrArg (fun l => pm_look l 93) cq_52).trans rfl⟩
theorem lk_52_94 : Lk 52 94 (.iinc 6 1) 0 0 (0) := ⟨3, 0, (congrArg (fun l => pm_look l 94) cq_52).trans rfl⟩
theorem lk_52_97 : Lk 52 97 (.goto (-85)) 0 0 (0) := ⟨3, 0, (congrArg (fun l => pm_look l 97) cq_52).trans rfl⟩
theorem lk_52_100 : Lk 52 100 (.lload_n 3) 0 0 (0) := ⟨1, 0, (congrArg (fun l => pm_look l 100) cq_52).trans rfl⟩
theorem lk_52_101 : Lk 52 101 (.lreturn) 0 0 (0) := ⟨1, 0, (congrArg (fun l => pm_look l 101) cq_52).trans rfl⟩
theorem cq_53 : pm_code 53 = cd_53 := rfl
theorem lk_53_0 : Lk 53 0 (.iconst 0) 0 0 (0) := ⟨1, 0, (congrArg (fun l => pm_look l 0) cq_53).trans rfl⟩
theorem lk_53_1 : Lk 53 1 (.istore_n 1) 0 0 (0) := ⟨1, 0, (congrArg (fun l => pm_look l 1) cq_53).trans rfl⟩
theorem lk_53_2 : Lk 53 2 (.iconst 1) 0 0 (0) := ⟨1, 0, (congrArg (fun l => pm_look l 2) cq_53).trans rfl⟩
theorem lk_53_3 : Lk 53 3 (.istore_n 2) 0 0 (0) := ⟨1, 0, (congrArg (fun l => pm_look l 3) cq_53).trans rfl⟩
theorem lk_53_4 : Lk 53 4 (.iload_n 2) 0 0 (0) := ⟨1, 0, (congrArg (fun l => pm_look l 4) cq_53).trans rfl⟩
theorem lk_53_5 : Lk 53 5 (.aload_n 0) 0 0 (0) := ⟨1, 0, (congrArg (fun l => pm_look l 5) cq_53).trans rfl⟩
theorem lk_53_6 : Lk 53 6 (.getfield 28) 5 0 (2) := ⟨3, 283, (congrArg (fun l => pm_look l 6) cq_53).trans rfl⟩
theorem lk_53_9 : Lk 53 9 (.invokevirtual 56) 86 0 (0) := ⟨3, 760, (congrArg (fun l => pm_look l 9) cq_53).trans rfl⟩
theorem lk_53_12 : Lk 53 12 (.if_icmp .gt 76) 0 0 (0) := ⟨3, 0, (congrArg (fun l => pm_look l 12) cq_53).trans rfl⟩
theorem lk_53_15 : Lk 53 15 (.iconst 0) 0 0 (0) := ⟨1, 0, (congrArg (fun l => pm_look l 15) cq_53).trans rfl⟩
theorem lk_53_16 : Lk 53 16 (.istore_n 3) 0 0 (0) := ⟨1, 0, (congrArg (fun l => pm_look l 16) cq_53).trans rfl⟩
theorem lk_53_17 : Lk 53 17 (.iconst 0) 0 0 (0) := ⟨1, 0, (congrArg (fun l => pm_look l 17) cq_53).trans rfl⟩
theorem lk_53_18 : Lk 53 18 (.istore 4) 0 0 (0) := ⟨2, 0, (congrArg (fun l => pm_look l 18) cq_53).trans rfl⟩
theorem lk_53_20 : Lk 53 20 (.iconst 0) 0 0 (0) := ⟨1, 0, (congrArg (fun l => pm_look l 20) cq_53).trans rfl⟩
theorem lk_53_21 : Lk 53 21 (.istore 5) 0 0 (0) := ⟨2, 0, (congrArg (fun l => pm_look l 21) cq_53).trans rfl⟩
theorem lk_53_23 : Lk 53 23 (.iload 5) 0 0 (0) := ⟨2, 0, (congrArg (fun l => pm_look l 23) cq_53).trans rfl⟩
theorem lk_53_25 : Lk 53 25 (.aload_n 0) 0 0 (0) := ⟨1, 0, (congrArg (fun l => pm_look l 25) cq_53).trans rfl⟩
theorem lk_53_26 : Lk 53 26 (.getfield 28) 5 0 (2) := ⟨3, 283, (congrArg (fun l => pm_look l 26) cq_53).trans rfl⟩
theorem lk_53_29 : Lk 53 29 (.getfield 114) 8 2 (0) := ⟨3, 167, (congrArg (fun l => pm_look l 29) cq_53).trans rfl⟩
theorem lk_53_32 : Lk 53 32 (.if_icmp .ge 39) 0 0 (0) := ⟨3, 0, (congrArg (fun l => pm_look l 32) cq_53).trans rfl⟩
theorem lk_53_35 : Lk 53 35 (.aload_n 0) 0 0 (0) := ⟨1, 0, (congrArg (fun l => pm_look l 35) cq_53).trans rfl⟩
theorem lk_53_36 : Lk 53 36 (.iload_n 2) 0 0 (0) := ⟨1, 0, (congrArg (fun l => pm_look l 36) cq_53).trans rfl⟩
theorem lk_53_37 : Lk 53 37 (.iload 5) 0 0 (0) := ⟨2, 0, (congrArg (fun l => pm_look l 37) cq_53).trans rfl⟩
theorem lk_53_39 : Lk 53 39 (.invokevirtual 117) 54 0 (0) := ⟨3, 934, (congrArg (fun l => pm_look l 39) cq_53).trans rfl⟩
theorem lk_53_42 : Lk 53 42 (.istore 6) 0 0 (0) := ⟨2, 0, (congrArg (fun l => pm_look l 42) cq_53).trans rfl⟩
theorem lk_53_44 : Lk 53 44 (.iload_n 3) 0 0 (0) := ⟨1, 0, (congrArg (fun l => pm_look l 44) cq_53).trans rfl⟩
theorem lk_53_45 : Lk 53 45 (.iload 6) 0 0 (0) := ⟨2, 0, (congrArg (fun l => pm_look l 45) cq_53).trans rfl⟩
theorem lk_53_47 : Lk 53 47 (.iconst 0) 0 0 (0) := ⟨1, 0, (congrArg (fun l => pm_look l 47) cq_53).trans rfl⟩
theorem lk_53_48 : Lk 53 48 (.invokestatic 82) 1000 0 (0) := ⟨3, 825, (congrArg (fun l => pm_look l 48) cq_53).trans rfl⟩
theorem lk_53_51 : Lk 53 51 (.iadd) 0 0 (0) := ⟨1, 0, (congrArg (fun l => pm_look l 51) cq_53).trans rfl⟩
theorem lk_53_52 : Lk 53 52 (.istore_n 3) 0 0 (0) := ⟨1, 0, (congrArg (fun l => pm_look l 52) cq_53).trans rfl⟩
theorem lk_53_53 : Lk 53 53 (.iload 4) 0 0 (0) := ⟨2, 0, (congrArg (fun l => pm_look l 53) cq_53).trans rfl⟩
theorem lk_53_55 : Lk 53 55 (.iload 6) 0 0 (0) := ⟨2, 0, (congrArg (fun l => pm_look l 55) cq_53).trans rfl⟩
theorem lk_53_57 : Lk 53 57 (.ineg) 0 0 (0) := ⟨1, 0, (congrArg (fun l => pm_look l 57) cq_53).trans rfl⟩
theorem lk_53_58 : Lk 53 58 (.iconst 0) 0 0 (0) := ⟨1, 0, (congrArg (fun l => pm_look l 58) cq_53).trans rfl⟩
theorem lk_53_59 : Lk 53 59 (.invokestatic 82) 1000 0 (0) := ⟨3, 825, (congrArg (fun l => pm_look l 59) cq_53).trans rfl⟩
theorem lk_53_62 : Lk 53 62 (.iadd) 0 0 (0) := ⟨1, 0, (congrArg (fun l => pm_look l 62) cq_53).trans rfl⟩
theorem lk_53_63 : Lk 53 63 (.istore 4) 0 0 (0) := ⟨2, 0, (congrArg (fun l => pm_look l 63) cq_53).trans rfl⟩
theorem lk_53_65 : Lk 53 65 (.iinc 5 1) 0 0 (0) := ⟨3, 0, (congrArg (fun l => pm_look l 65) cq_53).trans rfl⟩
theorem lk_53_68 : Lk 53 68 (.goto (-45)) 0 0 (0) := ⟨3, 0, (congrArg (fun l => pm_look l 68) cq_53).trans rfl⟩
theorem lk_53_71 : Lk 53 71 (.iload_n 1) 0 0 (0) := ⟨1, 0, (congrArg (fun l => pm_look l 71) cq_53).trans rfl⟩
theorem lk_53_72 : Lk 53 72 (.iload_n 3) 0 0 (0) := ⟨1, 0, (congrArg (fun l => pm_look l 72) cq_53).trans rfl⟩
theorem lk_53_73 : Lk 53 73 (.iload 4) 0 0 (0) := ⟨2, 0, (congrArg (fun l => pm_look l 73) cq_53).trans rfl⟩
theorem lk_53_75 : Lk 53 75 (.invokestatic 82) 1000 0 (0) := ⟨3, 825, (congrArg (fun l => pm_look l 75) cq_53).trans rfl⟩
theorem lk_53_78 : Lk 53 78 (.invokestatic 82) 1000 0 (0) := ⟨3, 825, (congrArg (fun l => pm_look l 78) cq_53).trans rfl⟩
theorem lk_53_81 : Lk 53 81 (.istore_n 1) 0 0 (0) := ⟨1, 0, (congrArg (fun l => pm_look l 81) cq_53).trans rfl⟩
theorem lk_53_82 : Lk 53 82 (.iinc 2 1) 0 0 (0) := ⟨3, 0, (congrArg (fun l => pm_look l 82) cq_53).trans rfl⟩
theorem lk_53_85 : Lk 53 85 (.goto (-81)) 0 0 (0) := ⟨3, 0, (congrArg (fun l => pm_look l 85) cq_53).trans rfl⟩
theorem lk_53_88 : Lk 53 88 (.iload_n 1) 0 0 (0) := ⟨1, 0, (congrArg (fun l => pm_look l 88) cq_53).trans rfl⟩
theorem lk_53_89 : Lk 53 89 (.ireturn) 0 0 (0) := ⟨1, 0, (congrArg (fun l => pm_look l 89) cq_53).trans rfl⟩
theorem cq_54 : pm_code 54 = cd_54 := rfl
theorem lk_54_0 : Lk 54 0 (.iconst 0) 0 0 (0) := ⟨1, 0, (congrArg (fun l => pm_look l 0) cq_54).trans rfl⟩
theorem lk_54_1 : Lk 54 1 (.istore_n 3) 0 0 (0) := ⟨1, 0, (congrArg (fun l => pm_look l 1) cq_54).trans rfl⟩
theorem lk_54_2 : Lk 54 2 (.iconst 0) 0 0 (0) := ⟨1, 0, (congrArg (fun l => pm_look l 2) cq_54).trans rfl⟩
theorem lk_54_3 : Lk 54 3 (.istore 4) 0 0 (0) := ⟨2, 0, (congrArg (fun l => pm_look l 3) cq_54).trans rfl⟩
theorem lk_54_5 : Lk 54 5 (.iload 4) 0 0 (0) := ⟨2, 0, (congrArg (fun l => pm_look l 5) cq_54).trans rfl⟩
theorem lk_54_7 : Lk 54 7 (.aload_n 0) 0 0 (0) := ⟨1, 0, (congrArg (fun l => pm_look l 7) cq_54).trans rfl⟩
theorem lk_54_8 : Lk 54 8 (.getfield 28) 5 0 (2) := ⟨3, 283, (congrArg (fun l => pm_look l 8) cq_54).trans rfl⟩
theorem lk_54_11 : Lk 54 11 (.getfield 32) 8 1 (0) := ⟨3, 153, (congrArg (fun l => pm_look l 11) cq_54).trans rfl⟩
theorem lk_54_14 : Lk 54 14 (.if_icmp .ge 44) 0 0 (0) := ⟨3, 0, (congrArg (fun l => pm_look l 14) cq_54).trans rfl⟩
theorem lk_54_17 : Lk 54 17 (.iload 4) 0 0 (0) := ⟨2, 0, (congrArg (fun l => pm_look l 17) cq_54).trans rfl⟩
theorem lk_54_19 : Lk 54 19 (.iload_n 1) 0 0 (0) := ⟨1, 0, (congrArg (fun l => pm_look l 19) cq_54).trans rfl⟩
theorem lk_54_20 : Lk 54 20 (.invokestatic 45) 95 0 (0) := ⟨3, 765, (congrArg (fun l => pm_look l 20) cq_54).trans rfl⟩
theorem lk_54_23 : Lk 54 23 (.ifCond .eq 29) 0 0 (0) := ⟨3, 0, (congrArg (fun l => pm_look l 23) cq_54).trans rfl⟩
theorem lk_54_26 : Lk 54 26 (.iload_n 3) 0 0 (0) := ⟨1, 0, (congrArg (fun l => pm_look l 26) cq_54).trans rfl⟩
theorem lk_54_27 : Lk 54 27 (.aload_n 0) 0 0 (0) := ⟨1, 0, (congrArg (fun l => pm_look l 27) cq_54).trans rfl⟩
theorem lk_54_28 : Lk 54 28 (.getfield 9) 5 1 (2) := ⟨3, 284, (congrArg (fun l => pm_look l 28) cq_54).trans rfl⟩
theorem lk_54_31 : Lk 54 31 (.iload 4) 0 0 (0) := ⟨2, 0, (congrArg (fun l => pm_look l 31) cq_54).trans rfl⟩
theorem lk_54_33 : Lk 54 33 (.iaload) 0 0 (0) := ⟨1, 0, (congrArg (fun l => pm_look l 33) cq_54).trans rfl⟩
theorem lk_54_34 : Lk 54 34 (.iload_n 2) 0 0 (0) := ⟨1, 0, (congrArg (fun l => pm_look l 34) cq_54).trans rfl⟩
theorem lk_54_35 : Lk 54 35 (.ishr) 0 0 (0) := ⟨1, 0, (congrArg (fun l => pm_look l 35) cq_54).trans rfl⟩
theorem lk_54_36 : Lk 54 36 (.iconst 1) 0 0 (0) := ⟨1, 0, (congrArg (fun l => pm_look l 36) cq_54).trans rfl⟩
theorem lk_54_37 : Lk 54 37 (.iand) 0 0 (0) := ⟨1, 0, (congrArg (fun l => pm_look l 37) cq_54).trans rfl⟩
theorem lk_54_38 : Lk 54 38 (.aload_n 0) 0 0 (0) := ⟨1, 0, (congrArg (fun l => pm_look l 38) cq_54).trans rfl⟩
theorem lk_54_39 : Lk 54 39 (.getfield 15) 5 2 (2) := ⟨3, 285, (congrArg (fun l => pm_look l 39) cq_54).trans rfl⟩
theorem lk_54_42 : Lk 54 42 (.iload 4) 0 0 (0) := ⟨2, 0, (congrArg (fun l => pm_look l 42) cq_54).trans rfl⟩
theorem lk_54_44 : Lk 54 44 (.iaload) 0 0 (0) := ⟨1, 0, (congrArg (fun l => pm_look l 44) cq_54).trans rfl⟩
theorem lk_54_45 : Lk 54 45 (.iload_n 2) 0 0 (0) := ⟨1, 0, (congrArg (fun l => pm_look l 45) cq_54).trans rfl⟩
theorem lk_54_46 : Lk 54 46 (.ishr) 0 0 (0) := ⟨1, 0, (congrArg (fun l => pm_look l 46) cq_54).trans rfl⟩
theorem lk_54_47 : Lk 54 47 (.iconst 1) 0 0 (0) := ⟨1, 0, (congrArg (fun l => pm_look l 47) cq_54).trans rfl⟩
theorem lk_54_48 : Lk 54 48 (.iand) 0 0 (0) := ⟨1, 0, (congrArg (fun l => pm_look l 48) cq_54).trans rfl⟩
theorem lk_54_49 : Lk 54 49 (.isub) 0 0 (0) := ⟨1, 0, (congrArg (fun l => pm_look l 49) cq_54).trans rfl⟩
theorem lk_54_50 : Lk 54 50 (.iadd) 0 0 (0) := ⟨1, 0, (congrArg (fun l => pm_look l 50) cq_54).trans rfl⟩
theorem lk_54_51 : Lk 54 51 (.istore_n 3) 0 0 (0) := ⟨1, 0, (congrArg (fun l => pm_look l 51) cq_54).trans rfl⟩
theorem lk_54_52 : Lk 54 52 (.iinc 4 1) 0 0 (0) := ⟨3, 0, (congrArg (fun l => pm_look l 52) cq_54).trans rfl⟩
theorem lk_54_55 : Lk 54 55 (.goto (-50)) 0 0 (0) := ⟨3, 0, (congrArg (fun l => pm_look l 55) cq_54).trans rfl⟩
theorem lk_54_58 : Lk 54 58 (.iload_n 3) 0 0 (0) := ⟨1, 0, (congrArg (fun l => pm_look l 58) cq_54).trans rfl⟩
theorem lk_54_59 : Lk 54 59 (.ireturn) 0 0 (0) := ⟨1, 0, (congrArg (fun l => pm_look l 59) cq_54).trans rfl⟩
theorem cq_55 : pm_code 55 = cd_55 := rfl
theorem lk_55_0 : Lk 55 0 (.aload_n 0) 0 0 (0) := ⟨1, 0, (congrArg (fun l => pm_look l 0) cq_55).trans rfl⟩
theorem lk_55_1 : Lk 55 1 (.invokespecial 5) 999 0 (0) := ⟨3, 137, (congrArg (fun l => pm_look l 1) cq_55).trans rfl⟩
theorem lk_55_4 : Lk 55 4 (.aload_n 0) 0 0 (0) := ⟨1, 0, (congrArg (fun l => pm_look l 4) cq_55).trans rfl⟩
theorem lk_55_5 : Lk 55 5 (.sipush 500) 0 0 (0) := ⟨3, 0, (congrArg (fun l => pm_look l 5) cq_55).trans rfl⟩
theorem lk_55_8 : Lk 55 8 (.newarray .byte) 102 0 (0) := ⟨2, 0, (congrArg (fun l => pm_look l 8) cq_55).trans rfl⟩
theorem lk_55_10 : Lk 55 10 (.putfield 11) 6 0 (2) := ⟨3, 224, (congrArg (fun l => pm_look l 10) cq_55).trans rfl⟩
theorem lk_55_13 : Lk 55 13 (.aload_n 0) 0 0 (0) := ⟨1, 0, (congrArg (fun l => pm_look l 13) cq_55).trans rfl⟩
theorem lk_55_14 : Lk 55 14 (.new 15) 8 0 (0) := ⟨3, 138, (congrArg (fun l => pm_look l 14) cq_55).trans rfl⟩
theorem lk_55_17 : Lk 55 17 (.dup) 0 0 (0) := ⟨1, 0, (congrArg (fun l => pm_look l 17) cq_55).trans rfl⟩
theorem lk_55_18 : Lk 55 18 (.invokespecial 17) 81 0 (0) := ⟨3, 140, (congrArg (fun l => pm_look l 18) cq_55).trans rfl⟩
theorem lk_55_21 : Lk 55 21 (.putfield 18) 6 1 (2) := ⟨3, 225, (congrArg (fun l => pm_look l 21) cq_55).trans rfl⟩
theorem lk_55_24 : Lk 55 24 (.aload_n 0) 0 0 (0) := ⟨1, 0, (congrArg (fun l => pm_look l 24) cq_55).trans rfl⟩
theorem lk_55_25 : Lk 55 25 (.iconst 4) 0 0 (0) := ⟨1, 0, (congrArg (fun l => pm_look l 25) cq_55).trans rfl⟩
theorem lk_55_26 : Lk 55 26 (.anewarray 22) 105 0 (0) := ⟨3, 195, (congrArg (fun l => pm_look l 26) cq_55).trans rfl⟩
theorem lk_55_29 : Lk 55 29 (.putfield 24) 6 2 (2) := ⟨3, 227, (congrArg (fun l => pm_look l 29) cq_55).trans rfl⟩
theorem lk_55_32 : Lk 55 32 (.aload_n 0) 0 0 (0) := ⟨1, 0, (congrArg (fun l => pm_look l 32) cq_55).trans rfl⟩
theorem lk_55_33 : Lk 55 33 (.iconst 4) 0 0 (0) := ⟨1, 0, (congrArg (fun l => pm_look l 33) cq_55).trans rfl⟩
theorem lk_55_34 : Lk 55 34 (.newarray .int) 100 0 (0) := ⟨2, 0, (congrArg (fun l => pm_look l 34) cq_55).trans rfl⟩
theorem lk_55_36 : Lk 55 36 (.putfield 28) 6 3 (2) := ⟨3, 229, (congrArg (fun l => pm_look l 36) cq_55).trans rfl⟩
theorem lk_55_39 : Lk 55 39 (.aload_n 0) 0 0 (0) := ⟨1, 0, (congrArg (fun l => pm_look l 39) cq_55).trans rfl⟩
theorem lk_55_40 : Lk 55 40 (.iconst (-1)) 0 0 (0) := ⟨1, 0, (congrArg (fun l => pm_look l 40) cq_55).trans rfl⟩
theorem lk_55_41 : Lk 55 41 (.putfield 32) 6 7 (0) := ⟨3, 236, (congrArg (fun l => pm_look l 41) cq_55).trans rfl⟩
theorem lk_55_44 : Lk 55 44 (.iconst 0) 0 0 (0) := ⟨1, 0, (congrArg (fun l => pm_look l 44) cq_55).trans rfl⟩
theorem lk_55_45 : Lk 55 45 (.istore_n 1) 0 0 (0) := ⟨1, 0, (congrArg (fun l => pm_look l 45) cq_55).trans rfl⟩
theorem lk_55_46 : Lk 55 46 (.iload_n 1) 0 0 (0) := ⟨1, 0, (congrArg (fun l => pm_look l 46) cq_55).trans rfl⟩
theorem lk_55_47 : Lk 55 47 (.iconst 4) 0 0 (0) := ⟨1, 0, (congrArg (fun l => pm_look l 47) cq_55).trans rfl⟩
theorem lk_55_48 : Lk 55 48 (.if_icmp .ge 24) 0 0 (0) := ⟨3, 0, (congrArg (fun l => pm_look l 48) cq_55).trans rfl⟩
theorem lk_55_51 : Lk 55 51 (.aload_n 0) 0 0 (0) := ⟨1, 0, (congrArg (fun l => pm_look l 51) cq_55).trans rfl⟩
theorem lk_55_52 : Lk 55 52 (.getfield 24) 6 2 (2) := ⟨3, 227, (congrArg (fun l => pm_look l 52) cq_55).trans rfl⟩
theorem lk_55_55 : Lk 55 55 (.iload_n 1) 0 0 (0) := ⟨1, 0, (congrArg (fun l => pm_look l 55) cq_55).trans rfl⟩
theorem lk_55_56 : Lk 55 56 (.new 22) 4 0 (0) := ⟨3, 195, (congrArg (fun l => pm_look l 56) cq_55).trans rfl⟩
theorem lk_55_59 : Lk 55 59 (.dup) 0 0 (0) := ⟨1, 0, (congrArg (fun l => pm_look l 59) cq_55).trans rfl⟩
theorem lk_55_60 : Lk 55 60 (.bipush 31) 0 0 (0) := ⟨2, 0, (congrArg (fun l => pm_look l 60) cq_55).trans rfl⟩
theorem lk_55_62 : Lk 55 62 (.invokespecial 36) 35 0 (0) := ⟨3, 198, (congrArg (fun l => pm_look l 62) cq_55).trans rfl⟩
theorem lk_55_65 : Lk 55 65 (.aastore) 0 0 (0) := ⟨1, 0, (congrArg (fun l => pm_look l 65) cq_55).trans rfl⟩
theorem lk_55_66 : Lk 55 66 (.iinc 1 1) 0 0 (0) := ⟨3, 0, (congrArg (fun l => pm_look l 66) cq_55).trans rfl⟩
theorem lk_55_69 : Lk 55 69 (.goto (-23)) 0 0 (0) := ⟨3, 0, (congrArg (fun l => pm_look l 69) cq_55).trans rfl⟩
theorem lk_55_72 : Lk 55 72 (.return_) 0 0 (0) := ⟨1, 0, (congrArg (fun l => pm_look l 72) cq_55).trans rfl⟩
theorem cq_56 : pm_code 56 = cd_56 := rfl
theorem lk_56_0 : Lk 56 0 (.bipush 24) 0 0 (0) := ⟨2, 0, (congrArg (fun l => pm_look l 0) cq_56).trans rfl⟩
theorem lk_56_2 : Lk 56 2 (.istore_n 2) 0 0 (0) := ⟨1, 0, (congrArg (fun l => pm_look l 2) cq_56).trans rfl⟩
theorem lk_56_3 : Lk 56 3 (.iload_n 2) 0 0 (0) := ⟨1, 0, (congrArg (fun l => pm_look l 3) cq_56).trans rfl⟩
theorem lk_56_4 : Lk 56 4 (.ifCond .lt 42) 0 0 (0) := ⟨3, 0, (congrArg (fun l => pm_look l 4) cq_56).trans rfl⟩
theorem lk_56_7 : Lk 56 7 (.aload_n 0) 0 0 (0) := ⟨1, 0, (congrArg (fun l => pm_look l 7) cq_56).trans rfl⟩
theorem lk_56_8 : Lk 56 8 (.getfield 39) 6 4 (0) := ⟨3, 231, (congrArg (fun l => pm_look l 8) cq_56).trans rfl⟩
theorem lk_56_11 : Lk 56 11 (.sipush 500) 0 0 (0) := ⟨3, 0, (congrArg (fun l => pm_look l 11) cq_56).trans rfl⟩
theorem lk_56_14 : Lk 56 14 (.if_icmp .ge 32) 0 0 (0) := ⟨3, 0, (congrArg (fun l => pm_look l 14) cq_56).trans rfl⟩
theorem lk_56_17 : Lk 56 17 (.aload_n 0) 0 0 (0) := ⟨1, 0, (congrArg (fun l => pm_look l 17) cq_56).trans rfl⟩
theorem lk_56_18 : Lk 56 18 (.getfield 11) 6 0 (2) := ⟨3, 224, (congrArg (fun l => pm_look l 18) cq_56).trans rfl⟩
theorem lk_56_21 : Lk 56 21 (.aload_n 0) 0 0 (0) := ⟨1, 0, (congrArg (fun l => pm_look l 21) cq_56).trans rfl⟩
theorem lk_56_22 : Lk 56 22 (.getfield 39) 6 4 (0) := ⟨3, 231, (congrArg (fun l => pm_look l 22) cq_56).trans rfl⟩
theorem lk_56_25 : Lk 56 25 (.iload_n 1) 0 0 (0) := ⟨1, 0, (congrArg (fun l => pm_look l 25) cq_56).trans rfl⟩
theorem lk_56_26 : Lk 56 26 (.iload_n 2) 0 0 (0) := ⟨1, 0, (congrArg (fun l => pm_look l 26) cq_56).trans rfl⟩
theorem lk_56_27 : Lk 56 27 (.ishr) 0 0 (0) := ⟨1, 0, (congrArg (fun l => pm_look l 27) cq_56).trans rfl⟩
theorem lk_56_28 : Lk 56 28 (.i2b) 0 0 (0) := ⟨1, 0, (congrArg (fun l => pm_look l 28) cq_56).trans rfl⟩
theorem lk_56_29 : Lk 56 29 (.bastore) 0 0 (0) := ⟨1, 0, (congrArg (fun l => pm_look l 29) cq_56).trans rfl⟩
theorem lk_56_30 : Lk 56 30 (.aload_n 0) 0 0 (0) := ⟨1, 0, (congrArg (fun l => pm_look l 30) cq_56).trans rfl⟩
theorem lk_56_31 : Lk 56 31 (.dup) 0 0 (0) := ⟨1, 0, (congrArg (fun l => pm_look l 31) cq_56).trans rfl⟩
theorem lk_56_32 : Lk 56 32 (.getfield 39) 6 4 (0) := ⟨3, 231, (congrArg (fun l => pm_look l 32) cq_56).trans rfl⟩
theorem lk_56_35 : Lk 56 35 (.iconst 1) 0 0 (0) := ⟨1, 0, (congrArg (fun l => pm_look l 35) cq_56).trans rfl⟩
theorem lk_56_36 : Lk 56 36 (.iadd) 0 0 (0) := ⟨1, 0, (congrArg (fun l => pm_look l 36) cq_56).trans rfl⟩
theorem lk_56_37 : Lk 56 37 (.putfield 39) 6 4 (0) := ⟨3, 231, (congrArg (fun l => pm_look l 37) cq_56).trans rfl⟩
theorem lk_56_40 : Lk 56 40 (.iinc 2 (-8)) 0 0 (0) := ⟨3, 0, (congrArg (fun l => pm_look l 40) cq_56).trans rfl⟩
theorem lk_56_43 : Lk 56 43 (.goto (-40)) 0 0 (0) := ⟨3, 0, (congrArg (fun l => pm_look l 43) cq_56).trans rfl⟩
theorem lk_56_46 : Lk 56 46 (.return_) 0 0 (0) := ⟨1, 0, (congrArg (fun l => pm_look l 46) cq_56).trans rfl⟩
theorem cq_57 : pm_code 57 = cd_57 := rfl
theorem lk_57_0 : Lk 57 0 (.aload_n 0) 0 0 (0) := ⟨1, 0, (congrArg (fun l => pm_look l 0) cq_57).trans rfl⟩
theorem lk_57_1 : Lk 57 1 (.iconst 0) 0 0 (0) := ⟨1, 0, (congrArg (fun l => pm_look l 1) cq_57).trans rfl⟩
theorem lk_57_2 : Lk 57 2 (.putfield 42) 6 6 (0) := ⟨3, 234, (congrArg (fun l => pm_look l 2) cq_57).trans rfl⟩
theorem lk_57_5 : Lk 57 5 (.aload_n 0) 0 0 (0) := ⟨1, 0, (congrArg (fun l => pm_look l 5) cq_57).trans rfl⟩
theorem lk_57_6 : Lk 57 6 (.iconst (-1)) 0 0 (0) := ⟨1, 0, (congrArg (fun l => pm_look l 6) cq_57).trans rfl⟩
theorem lk_57_7 : Lk 57 7 (.putfield 32) 6 7 (0) := ⟨3, 236, (congrArg (fun l => pm_look l 7) cq_57).trans rfl⟩
theorem lk_57_10 : Lk 57 10 (.aload_n 0) 0 0 (0) := ⟨1, 0, (congrArg (fun l => pm_look l 10) cq_57).trans rfl⟩
theorem lk_57_11 : Lk 57 11 (.iconst 0) 0 0 (0) := ⟨1, 0, (congrArg (fun l => pm_look l 11) cq_57).trans rfl⟩
theorem lk_57_12 : Lk 57 12 (.putfield 45) 6 9 (0) := ⟨3, 239, (congrArg (fun l => pm_look l 12) cq_57).trans rfl⟩
theorem lk_57_15 : Lk 57 15 (.aload_n 0) 0 0 (0) := ⟨1, 0, (congrArg (fun l => pm_look l 15) cq_57).trans rfl⟩
theorem lk_57_16 : Lk 57 16 (.iconst 0) 0 0 (0) := ⟨1, 0, (congrArg (fun l => pm_look l 16) cq_57).trans rfl⟩
theorem lk_57_17 : Lk 57 17 (.putfield 48) 6 5 (0) := ⟨3, 232, (congrArg (fun l => pm_look l 17) cq_57).trans rfl⟩
theorem lk_57_20 : Lk 57 20 (.aload_n 0) 0 0 (0) := ⟨1, 0, (congrArg (fun l => pm_look l 20) cq_57).trans rfl⟩
theorem lk_57_21 : Lk 57 21 (.iconst 0) 0 0 (0) := ⟨1, 0, (congrArg (fun l => pm_look l 21) cq_57).trans rfl⟩
theorem lk_57_22 : Lk 57 22 (.putfield 51) 6 8 (0) := ⟨3, 238, (congrArg (fun l => pm_look l 22) cq_57).trans rfl⟩
theorem lk_57_25 : Lk 57 25 (.aload_n 0) 0 0 (0) := ⟨1, 0, (congrArg (fun l => pm_look l 25) cq_57).trans rfl⟩
theorem lk_57_26 : Lk 57 26 (.getfield 18) 6 1 (2) := ⟨3, 225, (congrArg (fun l => pm_look l 26) cq_57).trans rfl⟩
theorem lk_57_29 : Lk 57 29 (.invokevirtual 55) 82 0 (0) := ⟨3, 579, (congrArg (fun l => pm_look l 29) cq_57).trans rfl⟩
theorem lk_57_32 : Lk 57 32 (.aload_n 0) 0 0 (0) := ⟨1, 0, (congrArg (fun l => pm_look l 32) cq_57).trans rfl⟩
theorem lk_57_33 : Lk 57 33 (.invokevirtual 58) 70 0 (0) := ⟨3, 580, (congrArg (fun l => pm_look l 33) cq_57).trans rfl⟩
theorem lk_57_36 : Lk 57 36 (.aload_n 0) 0 0 (0) := ⟨1, 0, (congrArg (fun l => pm_look l 36) cq_57).trans rfl⟩
theorem lk_57_37 : Lk 57 37 (.invokevirtual 61) 59 0 (0) := ⟨3, 591, (congrArg (fun l => pm_look l 37) cq_57).trans rfl⟩
theorem lk_57_40 : Lk 57 40 (.ifCond .ne 5) 0 0 (0) := ⟨3, 0, (congrArg (fun l => pm_look l 40) cq_57).trans rfl⟩
theorem lk_57_43 : Lk 57 43 (.iconst 0) 0 0 (0) := ⟨1, 0, (congrArg (fun l => pm_look l 43) cq_57).trans rfl⟩
theorem lk_57_44 : Lk 57 44 (.ireturn) 1 0 (0) := ⟨1, 0, (congrArg (fun l => pm_look l 44) cq_57).trans rfl⟩
theorem lk_57_45 : Lk 57 45 (.iconst 0) 0 0 (0) := ⟨1, 0, (congrArg (fun l => pm_look l 45) cq_57).trans rfl⟩
theorem lk_57_46 : Lk 57 46 (.istore_n 1) 0 0 (0) := ⟨1, 0, (congrArg (fun l => pm_look l 46) cq_57).trans rfl⟩
theorem lk_57_47 : Lk 57 47 (.iload_n 1) 0 0 (0) := ⟨1, 0, (congrArg (fun l => pm_look l 47) cq_57).trans rfl⟩
theorem lk_57_48 : Lk 57 48 (.sipush 500) 0 0 (0) := ⟨3, 0, (congrArg (fun l => pm_look l 48) cq_57).trans rfl⟩
theorem lk_57_51 : Lk 57 51 (.if_icmp .ge 62) 0 0 (0) := ⟨3, 0, (congrArg (fun l => pm_look l 51) cq_57).trans rfl⟩
theorem lk_57_54 : Lk 57 54 (.aload_n 0) 0 0 (0) := ⟨1, 0, (congrArg (fun l => pm_look l 54) cq_57).trans rfl⟩
theorem lk_57_55 : Lk 57 55 (.getfield 65) 6 10 (0) := ⟨3, 240, (congrArg (fun l => pm_look l 55) cq_57).trans rfl⟩
theorem lk_57_58 : Lk 57 58 (.ifCond .eq 55) 0 0 (0) := ⟨3, 0, (congrArg (fun l => pm_look l 58) cq_57).trans rfl⟩
theorem lk_57_61 : Lk 57 61 (.aload_n 0) 0 0 (0) := ⟨1, 0, (congrArg (fun l => pm_look l 61) cq_57).trans rfl⟩
theorem lk_57_62 : Lk 57 62 (.getfield 65) 6 10 (0) := ⟨3, 240, (congrArg (fun l => pm_look l 62) cq_57).trans rfl⟩
theorem lk_57_65 : Lk 57 65 (.iconst 1) 0 0 (0) := ⟨1, 0, (congrArg (fun l => pm_look l 65) cq_57).trans rfl⟩
theorem lk_57_66 : Lk 57 66 (.if_icmp .ne 16) 0 0 (0) := ⟨3, 0, (congrArg (fun l => pm_look l 66) cq_57).trans rfl⟩
theorem lk_57_69 : Lk 57 69 (.aload_n 0) 0 0 (0) := ⟨1, 0, (congrArg (fun l => pm_look l 69) cq_57).trans rfl⟩
theorem lk_57_70 : Lk 57 70 (.getfield 68) 6 13 (0) := ⟨3, 243, (congrArg (fun l => pm_look l 70) cq_57).trans rfl⟩
theorem lk_57_73 : Lk 57 73 (.ldc 71) 0 0 (406922) := ⟨2, 607, (congrArg (fun l => pm_look l 73) cq_57).trans rfl⟩
theorem lk_57_75 : Lk 57 75 (.if_icmp .ne 7) 0 0 (0) := ⟨3, 0, (congrArg (fun l => pm_look l 75) cq_57).trans rfl⟩
theorem lk_57_78 : Lk 57 78 (.iconst 1) 0 0 (0) := ⟨1, 0, (congrArg (fun l => pm_look l 78) cq_57).trans rfl⟩
theorem lk_57_79 : Lk 57 79 (.goto 4) 0 0 (0) := ⟨3, 0, (congrArg (fun l => pm_look l 79) cq_57).trans rfl⟩
theorem lk_57_82 : Lk 57 82 (.iconst 0) 0 0 (0) := ⟨1, 0, (congrArg (fun l => pm_look l 82) cq_57).trans rfl⟩
theorem lk_57_83 : Lk 57 83 (.istore_n 2) 0 0 (0) := ⟨1, 0, (congrArg (fun l => pm_look l 83) cq_57).trans rfl⟩
theorem lk_57_84 : Lk 57 84 (.iload_n 2) 0 0 (0) := ⟨1, 0, (congrArg (fun l => pm_look l 84) cq_57).trans rfl⟩
theorem lk_57_85 : Lk 57 85 (.ifCond .eq 13) 0 0 (0) := ⟨3, 0, (congrArg (fun l => pm_look l 85) cq_57).trans rfl⟩
theorem lk_57_88 : Lk 57 88 (.aload_n 0) 0 0 (0) := ⟨1, 0, (congrArg (fun l => pm_look l 88) cq_57).trans rfl⟩
theorem lk_57_89 : Lk 57 89 (.invokevirtual 72) 62 0 (0) := ⟨3, 608, (congrArg (fun l => pm_look l 89) cq_57).trans rfl⟩
theorem lk_57_92 : Lk 57 92 (.ifCond .eq 13) 0 0 (0) := ⟨3, 0, (congrArg (fun l => pm_look l 92) cq_57).trans rfl⟩
theorem lk_57_95 : Lk 57 95 (.goto 12) 0 0 (0) := ⟨3, 0, (congrArg (fun l => pm_look l 95) cq_57).trans rfl⟩
theorem lk_57_98 : Lk 57 98 (.aload_n 0) 0 0 (0) := ⟨1, 0, (congrArg (fun l => pm_look l 98) cq_57).trans rfl⟩
theorem lk_57_99 : Lk 57 99 (.invokevirtual 75) 61 0 (0) := ⟨3, 637, (congrArg (fun l => pm_look l 99) cq_57).trans rfl⟩
theorem lk_57_102 : Lk 57 102 (.ifCond .ne 5) 0 0 (0) := ⟨3, 0, (congrArg (fun l => pm_look l 102) cq_57).trans rfl⟩
theorem lk_57_105 : Lk 57 105 (.iconst 0) 0 0 (0) := ⟨1, 0, (congrArg (fun l => pm_look l 105) cq_57).trans rfl⟩
theorem lk_57_106 : Lk 57 106 (.ireturn) 1 0 (0) := ⟨1, 0, (congrArg (fun l => pm_look l 106) cq_57).trans rfl⟩
theorem lk_57_107 : Lk 57 107 (.iinc 1 1) 0 0 (0) := ⟨3, 0, (congrArg (fun l => pm_look l 107) cq_57).trans rfl⟩
theorem lk_57_110 : Lk 57 110 (.goto (-63)) 0 0 (0) := ⟨3, 0, (congrArg (fun l => pm_look l 110) cq_57).trans rfl⟩
theorem lk_57_113 : Lk 57 113 (.iconst 1) 0 0 (0) := ⟨1, 0, (congrArg (fun l => pm_look l 113) cq_57).trans rfl⟩
theorem lk_57_114 : Lk 57 114 (.ireturn) 1 0 (0) := ⟨1, 0, (congrArg (fun l => pm_look l 114) cq_57).trans rfl⟩
theorem cq_58 : pm_code 58 = cd_58 := rfl
theorem lk_58_0 : Lk 58 0 (.aload_n 0) 0 0 (0) := ⟨1, 0, (congrArg (fun l => pm_look l 0) cq_58).trans rfl⟩
theorem lk_58_1 : Lk 58 1 (.aload_n 0) 0 0 (0) := ⟨1, 0, (congrArg (fun l => pm_look l 1) cq_58).trans rfl⟩
theorem lk_58_2 : Lk 58 2 (.getfield 65) 6 10 (0) := ⟨3, 240, (congrArg (fun l => pm_look l 2) cq_58).trans rfl⟩
theorem lk_58_5 : Lk 58 5 (.iconst 4) 0 0 (0) := ⟨1, 0, (congrArg (fun l => pm_look l 5) cq_58).trans rfl⟩
theorem lk_58_6 : Lk 58 6 (.if_icmp .ne 7) 0 0 (0) := ⟨3, 0, (congrArg (fun l => pm_look l 6) cq_58).trans rfl⟩
theorem lk_58_9 : Lk 58 9 (.iconst 1) 0 0 (0) := ⟨1, 0, (congrArg (fun l => pm_look l 9) cq_58).trans rfl⟩
theorem lk_58_10 : Lk 58 10 (.goto 4) 0 0 (0) := ⟨3, 0, (congrArg (fun l => pm_look l 10) cq_58).trans rfl⟩
theorem lk_58_13 : Lk 58 13 (.iload_n 1) 0 0 (0) := ⟨1, 0, (congrArg (fun l => pm_look l 13) cq_58).trans rfl⟩
theorem lk_58_14 : Lk 58 14 (.putfield 42) 6 6 (0) := ⟨3, 234, (congrArg (fun l => pm_look l 14) cq_58).trans rfl⟩
theorem lk_58_17 : Lk 58 17 (.aload_n 0) 0 0 (0) := ⟨1, 0, (congrArg (fun l => pm_look l 17) cq_58).trans rfl⟩
theorem lk_58_18 : Lk 58 18 (.aload_n 0) 0 0 (0) := ⟨1, 0, (congrArg (fun l => pm_look l 18) cq_58).trans rfl⟩
theorem lk_58_19 : Lk 58 19 (.getfield 78) 6 11 (0) := ⟨3, 241, (congrArg (fun l => pm_look l 19) cq_58).trans rfl⟩
theorem lk_58_22 : Lk 58 22 (.putfield 32) 6 7 (0) := ⟨3, 236, (congrArg (fun l => pm_look l 22) cq_58).trans rfl⟩
theorem lk_58_25 : Lk 58 25 (.iconst 0) 0 0 (0) := ⟨1, 0, (congrArg (fun l => pm_look l 25) cq_58).trans rfl⟩
theorem lk_58_26 : Lk 58 26 (.ireturn) 1 0 (0) := ⟨1, 0, (congrArg (fun l => pm_look l 26) cq_58).trans rfl⟩
theorem cq_59 : pm_code 59 = cd_59 := rfl
theorem lk_59_0 : Lk 59 0 (.aload_n 0) 0 0 (0) := ⟨1, 0, (congrArg (fun l => pm_look l 0) cq_59).trans rfl⟩
theorem lk_59_1 : Lk 59 1 (.getfield 65) 6 10 (0) := ⟨3, 240, (congrArg (fun l => pm_look l 1) cq_59).trans rfl⟩
theorem lk_59_4 : Lk 59 4 (.iconst 2) 0 0 (0) := ⟨1, 0, (congrArg (fun l => pm_look l 4) cq_59).trans rfl⟩
theorem lk_59_5 : Lk 59 5 (.if_icmp .eq 9) 0 0 (0) := ⟨3, 0, (congrArg (fun l => pm_look l 5) cq_59).trans rfl⟩
theorem lk_59_8 : Lk 59 8 (.aload_n 0) 0 0 (0) := ⟨1, 0, (congrArg (fun l => pm_look l 8) cq_59).trans rfl⟩
theorem lk_59_9 : Lk 59 9 (.iconst 2) 0 0 (0) := ⟨1, 0, (congrArg (fun l => pm_look l 9) cq_59).trans rfl⟩
theorem lk_59_10 : Lk 59 10 (.invokevirtual 81) 58 0 (0) := ⟨3, 595, (congrArg (fun l => pm_look l 10) cq_59).trans rfl⟩
theorem lk_59_13 : Lk 59 13 (.ireturn) 1 0 (0) := ⟨1, 0, (congrArg (fun l => pm_look l 13) cq_59).trans rfl⟩
theorem lk_59_14 : Lk 59 14 (.iconst 0) 0 0 (0) := ⟨1, 0, (congrArg (fun l => pm_look l 14) cq_59).trans rfl⟩
theorem lk_59_15 : Lk 59 15 (.istore_n 1) 0 0 (0) := ⟨1, 0, (congrArg (fun l => pm_look l 15) cq_59).trans rfl⟩
theorem lk_59_16 : Lk 59 16 (.iload_n 1) 0 0 (0) := ⟨1, 0, (congrArg (fun l => pm_look l 16) cq_59).trans rfl⟩
theorem lk_59_17 : Lk 59 17 (.bipush 6) 0 0 (0) := ⟨2, 0, (congrArg (fun l => pm_look l 17) cq_59).trans rfl⟩
theorem lk_59_19 : Lk 59 19 (.if_icmp .gt 27) 0 0 (0) := ⟨3, 0, (congrArg (fun l => pm_look l 19) cq_59).trans rfl⟩
theorem lk_59_22 : Lk 59 22 (.aload_n 0) 0 0 (0) := ⟨1, 0, (congrArg (fun l => pm_look l 22) cq_59).trans rfl⟩
theorem lk_59_23 : Lk 59 23 (.getfield 65) 6 10 (0) := ⟨3, 240, (congrArg (fun l => pm_look l 23) cq_59).trans rfl⟩
theorem lk_59_26 : Lk 59 26 (.iconst 2) 0 0 (0) := ⟨1, 0, (congrArg (fun l => pm_look l 26) cq_59).trans rfl⟩
theorem lk_59_27 : Lk 59 27 (.if_icmp .ne 19) 0 0 (0) := ⟨3, 0, (congrArg (fun l => pm_look l 27) cq_59).trans rfl⟩
theorem lk_59_30 : Lk 59 30 (.aload_n 0) 0 0 (0) := ⟨1, 0, (congrArg (fun l => pm_look l 30) cq_59).trans rfl⟩
theorem lk_59_31 : Lk 59 31 (.iload_n 1) 0 0 (0) := ⟨1, 0, (congrArg (fun l => pm_look l 31) cq_59).trans rfl⟩
theorem lk_59_32 : Lk 59 32 (.invokevirtual 85) 60 0 (0) := ⟨3, 599, (congrArg (fun l => pm_look l 32) cq_59).trans rfl⟩
theorem lk_59_35 : Lk 59 35 (.ifCond .ne 5) 0 0 (0) := ⟨3, 0, (congrArg (fun l => pm_look l 35) cq_59).trans rfl⟩
theorem lk_59_38 : Lk 59 38 (.iconst 0) 0 0 (0) := ⟨1, 0, (congrArg (fun l => pm_look l 38) cq_59).trans rfl⟩
theorem lk_59_39 : Lk 59 39 (.ireturn) 1 0 (0) := ⟨1, 0, (congrArg (fun l => pm_look l 39) cq_59).trans rfl⟩
theorem lk_59_40 : Lk 59 40 (.iinc 1 1) 0 0 (0) := ⟨3, 0, (congrArg (fun l => pm_look l 40) cq_59).trans rfl⟩
theorem lk_59_43 : Lk 59 43 (.goto (-27)) 0 0 (0) := ⟨3, 0, (congrArg (fun l => pm_look l 43) cq_59).trans rfl⟩
theorem lk_59_46 : Lk 59 46 (.iconst 1) 0 0 (0) := ⟨1, 0, (congrArg (fun l => pm_look l 46) cq_59).trans rfl⟩
theorem lk_59_47 : Lk 59 47 (.ireturn) 1 0 (0) := ⟨1, 0, (congrArg (fun l => pm_look l 47) cq_59).trans rfl⟩
theorem cq_60 : pm_code 60 = cd_60 := rfl
theorem lk_60_0 : Lk 60 0 (.iload_n 1) 0 0 (0) := ⟨1, 0, (congrArg (fun l => pm_look l 0) cq_60).trans rfl⟩
theorem lk_60_1 : Lk 60 1 (.ifCond .le 23) 0 0 (0) := ⟨3, 0, (congrArg (fun l => pm_look l 1) cq_60).trans rfl⟩
theorem lk_60_4 : Lk 60 4 (.aload_n 0) 0 0 (0) := ⟨1, 0, (congrArg (fun l => pm_look l 4) cq_60).trans rfl⟩
theorem lk_60_5 : Lk 60 5 (.getfield 88) 6 12 (0) := ⟨3, 242, (congrArg (fun l => pm_look l 5) cq_60).trans rfl⟩
theorem lk_60_8 : Lk 60 8 (.aload_n 0) 0 0 (0) := ⟨1, 0, (congrArg (fun l => pm_look l 8) cq_60).trans rfl⟩
theorem lk_60_9 : Lk 60 9 (.getfield 18) 6 1 (2) := ⟨3, 225, (congrArg (fun l => pm_look l 9) cq_60).trans rfl⟩
theorem lk_60_12 : Lk 60 12 (.getfield 91) 8 2 (0) := ⟨3, 164, (congrArg (fun l => pm_look l 12) cq_60).trans rfl⟩
theorem lk_60_15 : Lk 60 15 (.if_icmp .eq 9) 0 0 (0) := ⟨3, 0, (congrArg (fun l => pm_look l 15) cq_60).trans rfl⟩
theorem lk_60_18 : Lk 60 18 (.aload_n 0) 0 0 (0) := ⟨1, 0, (congrArg (fun l => pm_look l 18) cq_60).trans rfl⟩
theorem lk_60_19 : Lk 60 19 (.iconst 4) 0 0 (0) := ⟨1, 0, (congrArg (fun l => pm_look l 19) cq_60).trans rfl⟩
theorem lk_60_20 : Lk 60 20 (.invokevirtual 81) 58 0 (0) := ⟨3, 595, (congrArg (fun l => pm_look l 20) cq_60).trans rfl⟩
theorem lk_60_23 : Lk 60 23 (.ireturn) 1 0 (0) := ⟨1, 0, (congrArg (fun l => pm_look l 23) cq_60).trans rfl⟩
theorem lk_60_24 : Lk 60 24 (.iload_n 1) 0 0 (0) := ⟨1, 0, (congrArg (fun l => pm_look l 24) cq_60).trans rfl⟩
theorem lk_60_25 : Lk 60 25 (.bipush 6) 0 0 (0) := ⟨2, 0, (congrArg (fun l => pm_look l 25) cq_60).trans rfl⟩
theorem lk_60_27 : Lk 60 27 (.if_icmp .lt 9) 0 0 (0) := ⟨3, 0, (congrArg (fun l => pm_look l 27) cq_60).trans rfl⟩
theorem lk_60_30 : Lk 60 30 (.aload_n 0) 0 0 (0) := ⟨1, 0, (congrArg (fun l => pm_look l 30) cq_60).trans rfl⟩
theorem lk_60_31 : Lk 60 31 (.iconst 5) 0 0 (0) := ⟨1, 0, (congrArg (fun l => pm_look l 31) cq_60).trans rfl⟩
theorem lk_60_32 : Lk 60 32 (.invokevirtual 81) 58 0 (0) := ⟨3, 595, (congrArg (fun l => pm_look l 32) cq_60).trans rfl⟩
theorem lk_60_35 : Lk 60 35 (.ireturn) 1 0 (0) := ⟨1, 0, (congrArg (fun l => pm_look l 35) cq_60).trans rfl⟩
theorem lk_60_36 : Lk 60 36 (.iconst 0) 0 0 (0) := ⟨1, 0, (congrArg (fun l => pm_look l 36) cq_60).trans rfl⟩
theorem lk_60_37 : Lk 60 37 (.istore_n 2) 0 0 (0) := ⟨1, 0, (congrArg (fun l => pm_look l 37) cq_60).trans rfl⟩
theorem lk_60_38 : Lk 60 38 (.iload_n 2) 0 0 (0) := ⟨1, 0, (congrArg (fun l => pm_look l 38) cq_60).trans rfl⟩
theorem lk_60_39 : Lk 60 39 (.aload_n 0) 0 0 (0) := ⟨1, 0, (congrArg (fun l => pm_look l 39) cq_60).trans rfl⟩
theorem lk_60_40 : Lk 60 40 (.getfield 88) 6 12 (0) := ⟨3, 242, (congrArg (fun l => pm_look l 40) cq_60).trans rfl⟩
theorem lk_60_43 : Lk 60 43 (.if_icmp .ge 50) 0 0 (0) := ⟨3, 0, (congrArg (fun l => pm_look l 43) cq_60).trans rfl⟩
theorem lk_60_46 : Lk 60 46 (.iload_n 2) 0 0 (0) := ⟨1, 0, (congrArg (fun l => pm_look l 46) cq_60).trans rfl⟩
theorem lk_60_47 : Lk 60 47 (.bipush 6) 0 0 (0) := ⟨2, 0, (congrArg (fun l => pm_look l 47) cq_60).trans rfl⟩
theorem lk_60_49 : Lk 60 49 (.if_icmp .ge 44) 0 0 (0) := ⟨3, 0, (congrArg (fun l => pm_look l 49) cq_60).trans rfl⟩
theorem lk_60_52 : Lk 60 52 (.aload_n 0) 0 0 (0) := ⟨1, 0, (congrArg (fun l => pm_look l 52) cq_60).trans rfl⟩
theorem lk_60_53 : Lk 60 53 (.iload_n 2) 0 0 (0) := ⟨1, 0, (congrArg (fun l => pm_look l 53) cq_60).trans rfl⟩
theorem lk_60_54 : Lk 60 54 (.invokevirtual 94) 69 0 (0) := ⟨3, 584, (congrArg (fun l => pm_look l 54) cq_60).trans rfl⟩
theorem lk_60_57 : Lk 60 57 (.istore_n 3) 0 0 (0) := ⟨1, 0, (congrArg (fun l => pm_look l 57) cq_60).trans rfl⟩
theorem lk_60_58 : Lk 60 58 (.aload_n 0) 0 0 (0) := ⟨1, 0, (congrArg (fun l => pm_look l 58) cq_60).trans rfl⟩
theorem lk_60_59 : Lk 60 59 (.getfield 18) 6 1 (2) := ⟨3, 225, (congrArg (fun l => pm_look l 59) cq_60).trans rfl⟩
theorem lk_60_62 : Lk 60 62 (.getfield 98) 8 0 (2) := ⟨3, 149, (congrArg (fun l => pm_look l 62) cq_60).trans rfl⟩
theorem lk_60_65 : Lk 60 65 (.iload_n 1) 0 0 (0) := ⟨1, 0, (congrArg (fun l => pm_look l 65) cq_60).trans rfl⟩
theorem lk_60_66 : Lk 60 66 (.bipush 6) 0 0 (0) := ⟨2, 0, (congrArg (fun l => pm_look l 66) cq_60).trans rfl⟩
theorem lk_60_68 : Lk 60 68 (.imul) 0 0 (0) := ⟨1, 0, (congrArg (fun l => pm_look l 68) cq_60).trans rfl⟩
theorem lk_60_69 : Lk 60 69 (.iload_n 2) 0 0 (0) := ⟨1, 0, (congrArg (fun l => pm_look l 69) cq_60).trans rfl⟩
theorem lk_60_70 : Lk 60 70 (.iadd) 0 0 (0) := ⟨1, 0, (congrArg (fun l => pm_look l 70) cq_60).trans rfl⟩
theorem lk_60_71 : Lk 60 71 (.iload_n 3) 0 0 (0) := ⟨1, 0, (congrArg (fun l => pm_look l 71) cq_60).trans rfl⟩
theorem lk_60_72 : Lk 60 72 (.bipush 46) 0 0 (0) := ⟨2, 0, (congrArg (fun l => pm_look l 72) cq_60).trans rfl⟩
theorem lk_60_74 : Lk 60 74 (.if_icmp .ne 8) 0 0 (0) := ⟨3, 0, (congrArg (fun l => pm_look l 74) cq_60).trans rfl⟩
theorem lk_60_77 : Lk 60 77 (.bipush 10) 0 0 (0) := ⟨2, 0, (congrArg (fun l => pm_look l 77) cq_60).trans rfl⟩
theorem lk_60_79 : Lk 60 79 (.goto 7) 0 0 (0) := ⟨3, 0, (congrArg (fun l => pm_look l 79) cq_60).trans rfl⟩
theorem lk_60_82 : Lk 60 82 (.iload_n 3) 0 0 (0) := ⟨1, 0, (congrArg (fun l => pm_look l 82) cq_60).trans rfl⟩
theorem lk_60_83 : Lk 60 83 (.bipush 48) 0 0 (0) := ⟨2, 0, (congrArg (fun l => pm_look l 83) cq_60).trans rfl⟩
theorem lk_60_85 : Lk 60 85 (.isub) 0 0 (0) := ⟨1, 0, (congrArg (fun l => pm_look l 85) cq_60).trans rfl⟩
theorem lk_60_86 : Lk 60 86 (.iastore) 0 0 (0) := ⟨1, 0, (congrArg (fun l => pm_look l 86) cq_60).trans rfl⟩
theorem lk_60_87 : Lk 60 87 (.iinc 2 1) 0 0 (0) := ⟨3, 0, (congrArg (fun l => pm_look l 87) cq_60).trans rfl⟩
theorem lk_60_90 : Lk 60 90 (.goto (-52)) 0 0 (0) := ⟨3, 0, (congrArg (fun l => pm_look l 90) cq_60).trans rfl⟩
theorem lk_60_93 : Lk 60 93 (.aload_n 0) 0 0 (0) := ⟨1, 0, (congrArg (fun l => pm_look l 93) cq_60).trans rfl⟩
theorem lk_60_94 : Lk 60 94 (.getfield 18) 6 1 (2) := ⟨3, 225, (congrArg (fun l => pm_look l 94) cq_60).trans rfl⟩
theorem lk_60_97 : Lk 60 97 (.aload_n 0) 0 0 (0) := ⟨1, 0, (congrArg (fun l => pm_look l 97) cq_60).trans rfl⟩
theorem lk_60_98 : Lk 60 98 (.getfield 88) 6 12 (0) := ⟨3, 242, (congrArg (fun l => pm_look l 98) cq_60).trans rfl⟩
theorem lk_60_101 : Lk 60 101 (.putfield 91) 8 2 (0) := ⟨3, 164, (congrArg (fun l => pm_look l 101) cq_60).trans rfl⟩
theorem lk_60_104 : Lk 60 104 (.aload_n 0) 0 0 (0) := ⟨1, 0, (congrArg (fun l => pm_look l 104) cq_60).trans rfl⟩
theorem lk_60_105 : Lk 60 105 (.getfield 18) 6 1 (2) := ⟨3, 225, (congrArg (fun l => pm_look l 105) cq_60).trans rfl⟩
theorem lk_60_108 : Lk 60 108 (.iload_n 1) 0 0 (0) := ⟨1, 0, (congrArg (fun l => pm_look l 108) cq_60).trans rfl⟩
theorem lk_60_109 : Lk 60 109 (.iconst 1) 0 0 (0) := ⟨1, 0, (congrArg (fun l => pm_look l 109) cq_60).trans rfl⟩
theorem lk_60_110 : Lk 60 110 (.iadd) 0 0 (0) := ⟨1, 0, (congrArg (fun l => pm_look l 110) cq_60).trans rfl⟩
theorem lk_60_111 : Lk 60 111 (.putfield 101) 8 1 (0) := ⟨3, 157, (congrArg (fun l => pm_look l 111) cq_60).trans rfl⟩
theorem lk_60_114 : Lk 60 114 (.aload_n 0) 0 0 (0) := ⟨1, 0, (congrArg (fun l => pm_look l 114) cq_60).trans rfl⟩
theorem lk_60_115 : Lk 60 115 (.invokevirtual 58) 70 0 (0) := ⟨3, 580, (congrArg (fun l => pm_look l 115) cq_60).trans rfl⟩
theorem lk_60_118 : Lk 60 118 (.aload_n 0) 0 0 (0) := ⟨1, 0, (congrArg (fun l => pm_look l 118) cq_60).trans rfl⟩
theorem lk_60_119 : Lk 60 119 (.invokevirtual 104) 67 0 (0) := ⟨3, 603, (congrArg (fun l => pm_look l 119) cq_60).trans rfl⟩
theorem lk_60_122 : Lk 60 122 (.ireturn) 1 0 (0) := ⟨1, 0, (congrArg (fun l => pm_look l 122) cq_60).trans rfl⟩
theorem cq_61 : pm_code 61 = cd_61 := rfl
theorem lk_61_0 : Lk 61 0 (.aload_n 0) 0 0 (0) := ⟨1, 0, (congrArg (fun l => pm_look l 0) cq_61).trans rfl⟩
theorem lk_61_1 : Lk 61 1 (.getfield 65) 6 10 (0) := ⟨3, 240, (congrArg (fun l => pm_look l 1) cq_61).trans rfl⟩
theorem lk_61_4 : Lk 61 4 (.iconst 1) 0 0 (0) := ⟨1, 0, (congrArg (fun l => pm_look l 4) cq_61).trans rfl⟩
theorem lk_61_5 : Lk 61 5 (.if_icmp .ne 19) 0 0 (0) := ⟨3, 0, (congrArg (fun l => pm_look l 5) cq_61).trans rfl⟩
theorem lk_61_8 : Lk 61 8 (.aload_n 0) 0 0 (0) := ⟨1, 0, (congrArg (fun l => pm_look l 8) cq_61).trans rfl⟩
theorem lk_61_9 : Lk 61 9 (.getfield 68) 6 13 (0) := ⟨3, 243, (congrArg (fun l => pm_look l 9) cq_61).trans rfl⟩
theorem lk_61_12 : Lk 61 12 (.ldc 107) 0 0 (70517) := ⟨2, 615, (congrArg (fun l => pm_look l 12) cq_61).trans rfl⟩
theorem lk_61_14 : Lk 61 14 (.if_icmp .ne 10) 0 0 (0) := ⟨3, 0, (congrArg (fun l => pm_look l 14) cq_61).trans rfl⟩
theorem lk_61_17 : Lk 61 17 (.aload_n 0) 0 0 (0) := ⟨1, 0, (congrArg (fun l => pm_look l 17) cq_61).trans rfl⟩
theorem lk_61_18 : Lk 61 18 (.getfield 51) 6 8 (0) := ⟨3, 238, (congrArg (fun l => pm_look l 18) cq_61).trans rfl⟩
theorem lk_61_21 : Lk 61 21 (.ifCond .eq 9) 0 0 (0) := ⟨3, 0, (congrArg (fun l => pm_look l 21) cq_61).trans rfl⟩
theorem lk_61_24 : Lk 61 24 (.aload_n 0) 0 0 (0) := ⟨1, 0, (congrArg (fun l => pm_look l 24) cq_61).trans rfl⟩
theorem lk_61_25 : Lk 61 25 (.iconst 2) 0 0 (0) := ⟨1, 0, (congrArg (fun l => pm_look l 25) cq_61).trans rfl⟩
theorem lk_61_26 : Lk 61 26 (.invokevirtual 81) 58 0 (0) := ⟨3, 595, (congrArg (fun l => pm_look l 26) cq_61).trans rfl⟩
theorem lk_61_29 : Lk 61 29 (.ireturn) 1 0 (0) := ⟨1, 0, (congrArg (fun l => pm_look l 29) cq_61).trans rfl⟩
theorem lk_61_30 : Lk 61 30 (.aload_n 0) 0 0 (0) := ⟨1, 0, (congrArg (fun l => pm_look l 30) cq_61).trans rfl⟩
theorem lk_61_31 : Lk 61 31 (.iconst 1) 0 0 (0) := ⟨1, 0, (congrArg (fun l => pm_look l 31) cq_61).trans rfl⟩
theorem lk_61_32 : Lk 61 32 (.putfield 51) 6 8 (0) := ⟨3, 238, (congrArg (fun l => pm_look l 32) cq_61).trans rfl⟩
theorem lk_61_35 : Lk 61 35 (.aload_n 0) 0 0 (0) := ⟨1, 0, (congrArg (fun l => pm_look l 35) cq_61).trans rfl⟩
theorem lk_61_36 : Lk 61 36 (.invokevirtual 58) 70 0 (0) := ⟨3, 580, (congrArg (fun l => pm_look l 36) cq_61).trans rfl⟩
theorem lk_61_39 : Lk 61 39 (.aload_n 0) 0 0 (0) := ⟨1, 0, (congrArg (fun l => pm_look l 39) cq_61).trans rfl⟩
theorem lk_61_40 : Lk 61 40 (.iconst 1) 0 0 (0) := ⟨1, 0, (congrArg (fun l => pm_look l 40) cq_61).trans rfl⟩
theorem lk_61_41 : Lk 61 41 (.invokevirtual 108) 66 0 (0) := ⟨3, 625, (congrArg (fun l => pm_look l 41) cq_61).trans rfl⟩
theorem lk_61_44 : Lk 61 44 (.ifCond .ne 5) 0 0 (0) := ⟨3, 0, (congrArg (fun l => pm_look l 44) cq_61).trans rfl⟩
theorem lk_61_47 : Lk 61 47 (.iconst 0) 0 0 (0) := ⟨1, 0, (congrArg (fun l => pm_look l 47) cq_61).trans rfl⟩
theorem lk_61_48 : Lk 61 48 (.ireturn) 1 0 (0) := ⟨1, 0, (congrArg (fun l => pm_look l 48) cq_61).trans rfl⟩
theorem lk_61_49 : Lk 61 49 (.aload_n 0) 0 0 (0) := ⟨1, 0, (congrArg (fun l => pm_look l 49) cq_61).trans rfl⟩
theorem lk_61_50 : Lk 61 50 (.getfield 18) 6 1 (2) := ⟨3, 225, (congrArg (fun l => pm_look l 50) cq_61).trans rfl⟩
theorem lk_61_53 : Lk 61 53 (.aload_n 0) 0 0 (0) := ⟨1, 0, (congrArg (fun l => pm_look l 53) cq_61).trans rfl⟩
theorem lk_61_54 : Lk 61 54 (.iconst 0) 0 0 (0) := ⟨1, 0, (congrArg (fun l => pm_look l 54) cq_61).trans rfl⟩
theorem lk_61_55 : Lk 61 55 (.invokevirtual 94) 69 0 (0) := ⟨3, 584, (congrArg (fun l => pm_look l 55) cq_61).trans rfl⟩
theorem lk_61_58 : Lk 61 58 (.bipush 48) 0 0 (0) := ⟨2, 0, (congrArg (fun l => pm_look l 58) cq_61).trans rfl⟩
theorem lk_61_60 : Lk 61 60 (.isub) 0 0 (0) := ⟨1, 0, (congrArg (fun l => pm_look l 60) cq_61).trans rfl⟩
theorem lk_61_61 : Lk 61 61 (.putfield 111) 8 3 (0) := ⟨3, 173, (congrArg (fun l => pm_look l 61) cq_61).trans rfl⟩
theorem lk_61_64 : Lk 61 64 (.aload_n 0) 0 0 (0) := ⟨1, 0, (congrArg (fun l => pm_look l 64) cq_61).trans rfl⟩
theorem lk_61_65 : Lk 61 65 (.invokevirtual 58) 70 0 (0) := ⟨3, 580, (congrArg (fun l => pm_look l 65) cq_61).trans rfl⟩
theorem lk_61_68 : Lk 61 68 (.aload_n 0) 0 0 (0) := ⟨1, 0, (congrArg (fun l => pm_look l 68) cq_61).trans rfl⟩
theorem lk_61_69 : Lk 61 69 (.iconst 1) 0 0 (0) := ⟨1, 0, (congrArg (fun l => pm_look l 69) cq_61).trans rfl⟩
theorem lk_61_70 : Lk 61 70 (.invokevirtual 108) 66 0 (0) := ⟨3, 625, (congrArg (fun l => pm_look l 70) cq_61).trans rfl⟩
theorem lk_61_73 : Lk 61 73 (.ifCond .ne 5) 0 0 (0) := ⟨3, 0, (congrArg (fun l => pm_look l 73) cq_61).trans rfl⟩
theorem lk_61_76 : Lk 61 76 (.iconst 0) 0 0 (0) := ⟨1, 0, (congrArg (fun l => pm_look l 76) cq_61).trans rfl⟩
theorem lk_61_77 : Lk 61 77 (.ireturn) 1 0 (0) := ⟨1, 0, (congrArg (fun l => pm_look l 77) cq_61).trans rfl⟩
theorem lk_61_78 : Lk 61 78 (.aload_n 0) 0 0 (0) := ⟨1, 0, (congrArg (fun l => pm_look l 78) cq_61).trans rfl⟩
theorem lk_61_79 : Lk 61 79 (.getfield 18) 6 1 (2) := ⟨3, 225, (congrArg (fun l => pm_look l 79) cq_61).trans rfl⟩
theorem lk_61_82 : Lk 61 82 (.aload_n 0) 0 0 (0) := ⟨1, 0, (congrArg (fun l => pm_look l 82) cq_61).trans rfl⟩
theorem lk_61_83 : Lk 61 83 (.iconst 0) 0 0 (0) := ⟨1, 0, (congrArg (fun l => pm_look l 83) cq_61).trans rfl⟩
theorem lk_61_84 : Lk 61 84 (.invokevirtual 94) 69 0 (0) := ⟨3, 584, (congrArg (fun l => pm_look l 84) cq_61).trans rfl⟩
theorem lk_61_87 : Lk 61 87 (.bipush 48) 0 0 (0) := ⟨2, 0, (congrArg (fun l => pm_look l 87) cq_61).trans rfl⟩
theorem lk_61_89 : Lk 61 89 (.isub) 0 0 (0) := ⟨1, 0, (congrArg (fun l => pm_look l 89) cq_61).trans rfl⟩
theorem lk_61_90 : Lk 61 90 (.putfield 114) 8 4 (0) := ⟨3, 180, (congrArg (fun l => pm_look l 90) cq_61).trans rfl⟩
theorem lk_61_93 : Lk 61 93 (.aload_n 0) 0 0 (0) := ⟨1, 0, (congrArg (fun l => pm_look l 93) cq_61).trans rfl⟩
theorem lk_61_94 : Lk 61 94 (.invokevirtual 58) 70 0 (0) := ⟨3, 580, (congrArg (fun l => pm_look l 94) cq_61).trans rfl⟩
theorem lk_61_97 : Lk 61 97 (.aload_n 0) 0 0 (0) := ⟨1, 0, (congrArg (fun l => pm_look l 97) cq_61).trans rfl⟩
theorem lk_61_98 : Lk 61 98 (.invokevirtual 104) 67 0 (0) := ⟨3, 603, (congrArg (fun l => pm_look l 98) cq_61).trans rfl⟩
theorem lk_61_101 : Lk 61 101 (.ireturn) 1 0 (0) := ⟨1, 0, (congrArg (fun l => pm_look l 101) cq_61).trans rfl⟩
theorem cq_62 : pm_code 62 = cd_62 := rfl
theorem lk_62_0 : Lk 62 0 (.aload_n 0) 0 0 (0) := ⟨1, 0, (congrArg (fun l => pm_look l 0) cq_62).trans rfl⟩
theorem lk_62_1 : Lk 62 1 (.getfield 48) 6 5 (0) := ⟨3, 232, (congrArg (fun l => pm_look l 1) cq_62).trans rfl⟩
theorem lk_62_4 : Lk 62 4 (.iconst 4) 0 0 (0) := ⟨1, 0, (congrArg (fun l => pm_look l 4) cq_62).trans rfl⟩
theorem lk_62_5 : Lk 62 5 (.if_icmp .lt 9) 0 0 (0) := ⟨3, 0, (congrArg (fun l => pm_look l 5) cq_62).trans rfl⟩
theorem lk_62_8 : Lk 62 8 (.aload_n 0) 0 0 (0) := ⟨1, 0, (congrArg (fun l => pm_look l 8) cq_62).trans rfl⟩
theorem lk_62_9 : Lk 62 9 (.iconst 5) 0 0 (0) := ⟨1, 0, (congrArg (fun l => pm_look l 9) cq_62).trans rfl⟩
theorem lk_62_10 : Lk 62 10 (.invokevirtual 81) 58 0 (0) := ⟨3, 595, (congrArg (fun l => pm_look l 10) cq_62).trans rfl⟩
theorem lk_62_13 : Lk 62 13 (.ireturn) 1 0 (0) := ⟨1, 0, (congrArg (fun l => pm_look l 13) cq_62).trans rfl⟩
theorem lk_62_14 : Lk 62 14 (.aload_n 0) 0 0 (0) := ⟨1, 0, (congrArg (fun l => pm_look l 14) cq_62).trans rfl⟩
theorem lk_62_15 : Lk 62 15 (.invokevirtual 58) 70 0 (0) := ⟨3, 580, (congrArg (fun l => pm_look l 15) cq_62).trans rfl⟩
theorem lk_62_18 : Lk 62 18 (.aload_n 0) 0 0 (0) := ⟨1, 0, (congrArg (fun l => pm_look l 18) cq_62).trans rfl⟩
theorem lk_62_19 : Lk 62 19 (.getfield 65) 6 10 (0) := ⟨3, 240, (congrArg (fun l => pm_look l 19) cq_62).trans rfl⟩
theorem lk_62_22 : Lk 62 22 (.iconst 1) 0 0 (0) := ⟨1, 0, (congrArg (fun l => pm_look l 22) cq_62).trans rfl⟩
theorem lk_62_23 : Lk 62 23 (.if_icmp .ne 13) 0 0 (0) := ⟨3, 0, (congrArg (fun l => pm_look l 23) cq_62).trans rfl⟩
theorem lk_62_26 : Lk 62 26 (.aload_n 0) 0 0 (0) := ⟨1, 0, (congrArg (fun l => pm_look l 26) cq_62).trans rfl⟩
theorem lk_62_27 : Lk 62 27 (.getfield 68) 6 13 (0) := ⟨3, 243, (congrArg (fun l => pm_look l 27) cq_62).trans rfl⟩
theorem lk_62_30 : Lk 62 30 (.invokestatic 117) 68 0 (0) := ⟨3, 612, (congrArg (fun l => pm_look l 30) cq_62).trans rfl⟩
theorem lk_62_33 : Lk 62 33 (.ifCond .eq 9) 0 0 (0) := ⟨3, 0, (congrArg (fun l => pm_look l 33) cq_62).trans rfl⟩
theorem lk_62_36 : Lk 62 36 (.aload_n 0) 0 0 (0) := ⟨1, 0, (congrArg (fun l => pm_look l 36) cq_62).trans rfl⟩
theorem lk_62_37 : Lk 62 37 (.iconst 2) 0 0 (0) := ⟨1, 0, (congrArg (fun l => pm_look l 37) cq_62).trans rfl⟩
theorem lk_62_38 : Lk 62 38 (.invokevirtual 81) 58 0 (0) := ⟨3, 595, (congrArg (fun l => pm_look l 38) cq_62).trans rfl⟩
theorem lk_62_41 : Lk 62 41 (.ireturn) 1 0 (0) := ⟨1, 0, (congrArg (fun l => pm_look l 41) cq_62).trans rfl⟩
theorem lk_62_42 : Lk 62 42 (.iconst 0) 0 0 (0) := ⟨1, 0, (congrArg (fun l => pm_look l 42) cq_62).trans rfl⟩
theorem lk_62_43 : Lk 62 43 (.istore_n 1) 0 0 (0) := ⟨1, 0, (congrArg (fun l => pm_look l 43) cq_62).trans rfl⟩
theorem lk_62_44 : Lk 62 44 (.iload_n 1) 0 0 (0) := ⟨1, 0, (congrArg (fun l => pm_look l 44) cq_62).trans rfl⟩
theorem lk_62_45 : Lk 62 45 (.aload_n 0) 0 0 (0) := ⟨1, 0, (congrArg (fun l => pm_look l 45) cq_62).trans rfl⟩
theorem lk_62_46 : Lk 62 46 (.getfield 48) 6 5 (0) := ⟨3, 232, (congrArg (fun l => pm_look l 46) cq_62).trans rfl⟩
theorem lk_62_49 : Lk 62 49 (.if_icmp .ge 28) 0 0 (0) := ⟨3, 0, (congrArg (fun l => pm_look l 49) cq_62).trans rfl⟩
theorem lk_62_52 : Lk 62 52 (.aload_n 0) 0 0 (0) := ⟨1, 0, (congrArg (fun l => pm_look l 52) cq_62).trans rfl⟩
theorem lk_62_53 : Lk 62 53 (.getfield 28) 6 3 (2) := ⟨3, 229, (congrArg (fun l => pm_look l 53) cq_62).trans rfl⟩
theorem lk_62_56 : Lk 62 56 (.iload_n 1) 0 0 (0) := ⟨1, 0, (congrArg (fun l => pm_look l 56) cq_62).trans rfl⟩
theorem lk_62_57 : Lk 62 57 (.iaload) 0 0 (0) := ⟨1, 0, (congrArg (fun l => pm_look l 57) cq_62).trans rfl⟩
theorem lk_62_58 : Lk 62 58 (.aload_n 0) 0 0 (0) := ⟨1, 0, (congrArg (fun l => pm_look l 58) cq_62).trans rfl⟩
theorem lk_62_59 : Lk 62 59 (.getfield 68) 6 13 (0) := ⟨3, 243, (congrArg (fun l => pm_look l 59) cq_62).trans rfl⟩
theorem lk_62_62 : Lk 62 62 (.if_icmp .ne 9) 0 0 (0) := ⟨3, 0, (congrArg (fun l => pm_look l 62) cq_62).trans rfl⟩
theorem lk_62_65 : Lk 62 65 (.aload_n 0) 0 0 (0) := ⟨1, 0, (congrArg (fun l => pm_look l 65) cq_62).trans rfl⟩
theorem lk_62_66 : Lk 62 66 (.iconst 3) 0 0 (0) := ⟨1, 0, (congrArg (fun l => pm_look l 66) cq_62).trans rfl⟩
theorem lk_62_67 : Lk 62 67 (.invokevirtual 81) 58 0 (0) := ⟨3, 595, (congrArg (fun l => pm_look l 67) cq_62).trans rfl⟩
theorem lk_62_70 : Lk 62 70 (.ireturn) 1 0 (0) := ⟨1, 0, (congrArg (fun l => pm_look l 70) cq_62).trans rfl⟩
theorem lk_62_71 : Lk 62 71 (.iinc 1 1) 0 0 (0) := ⟨3, 0, (congrArg (fun l => pm_look l 71) cq_62).trans rfl⟩
theorem lk_62_74 : Lk 62 74 (.goto (-30)) 0 0 (0) := ⟨3, 0, (congrArg (fun l => pm_look l 74) cq_62).trans rfl⟩
theorem lk_62_77 : Lk 62 77 (.aload_n 0) 0 0 (0) := ⟨1, 0, (congrArg (fun l => pm_look l 77) cq_62).trans rfl⟩
theorem lk_62_78 : Lk 62 78 (.getfield 28) 6 3 (2) := ⟨3, 229, (congrArg (fun l => pm_look l 78) cq_62).trans rfl⟩
theorem lk_62_81 : Lk 62 81 (.aload_n 0) 0 0 (0) := ⟨1, 0, (congrArg (fun l => pm_look l 81) cq_62).trans rfl⟩
theorem lk_62_82 : Lk 62 82 (.getfield 48) 6 5 (0) := ⟨3, 232, (congrArg (fun l => pm_look l 82) cq_62).trans rfl⟩
theorem lk_62_85 : Lk 62 85 (.aload_n 0) 0 0 (0) := ⟨1, 0, (congrArg (fun l => pm_look l 85) cq_62).trans rfl⟩
theorem lk_62_86 : Lk 62 86 (.getfield 68) 6 13 (0) := ⟨3, 243, (congrArg (fun l => pm_look l 86) cq_62).trans rfl⟩
theorem lk_62_89 : Lk 62 89 (.iastore) 0 0 (0) := ⟨1, 0, (congrArg (fun l => pm_look l 89) cq_62).trans rfl⟩
theorem lk_62_90 : Lk 62 90 (.aload_n 0) 0 0 (0) := ⟨1, 0, (congrArg (fun l => pm_look l 90) cq_62).trans rfl⟩
theorem lk_62_91 : Lk 62 91 (.invokevirtual 58) 70 0 (0) := ⟨3, 580, (congrArg (fun l => pm_look l 91) cq_62).trans rfl⟩
theorem lk_62_94 : Lk 62 94 (.aload_n 0) 0 0 (0) := ⟨1, 0, (congrArg (fun l => pm_look l 94) cq_62).trans rfl⟩
theorem lk_62_95 : Lk 62 95 (.getfield 24) 6 2 (2) := ⟨3, 227, (congrArg (fun l => pm_look l 95) cq_62).trans rfl⟩
theorem lk_62_98 : Lk 62 98 (.aload_n 0) 0 0 (0) := ⟨1, 0, (congrArg (fun l => pm_look l 98) cq_62).trans rfl⟩
theorem lk_62_99 : Lk 62 99 (.getfield 48) 6 5 (0) := ⟨3, 232, (congrArg (fun l => pm_look l 99) cq_62).trans rfl⟩
theorem lk_62_102 : Lk 62 102 (.aaload) 0 0 (0) := ⟨1, 0, (congrArg (fun l => pm_look l 102) cq_62).trans rfl⟩
theorem lk_62_103 : Lk 62 103 (.iconst 0) 0 0 (0) := ⟨1, 0, (congrArg (fun l => pm_look l 103) cq_62).trans rfl⟩
theorem lk_62_104 : Lk 62 104 (.putfield 120) 4 3 (0) := ⟨3, 213, (congrArg (fun l => pm_look l 104) cq_62).trans rfl⟩
theorem lk_62_107 : Lk 62 107 (.aload_n 0) 0 0 (0) := ⟨1, 0, (congrArg (fun l => pm_look l 107) cq_62).trans rfl⟩
theorem lk_62_108 : Lk 62 108 (.aload_n 0) 0 0 (0) := ⟨1, 0, (congrArg (fun l => pm_look l 108) cq_62).trans rfl⟩
theorem lk_62_109 : Lk 62 109 (.getfield 24) 6 2 (2) := ⟨3, 227, (congrArg (fun l => pm_look l 109) cq_62).trans rfl⟩
theorem lk_62_112 : Lk 62 112 (.aload_n 0) 0 0 (0) := ⟨1, 0, (congrArg (fun l => pm_look l 112) cq_62).trans rfl⟩
theorem lk_62_113 : Lk 62 113 (.getfield 48) 6 5 (0) := ⟨3, 232, (congrArg (fun l => pm_look l 113) cq_62).trans rfl⟩
theorem lk_62_116 : Lk 62 116 (.aaload) 0 0 (0) := ⟨1, 0, (congrArg (fun l => pm_look l 116) cq_62).trans rfl⟩
theorem lk_62_117 : Lk 62 117 (.iconst 0) 0 0 (0) := ⟨1, 0, (congrArg (fun l => pm_look l 117) cq_62).trans rfl⟩
theorem lk_62_118 : Lk 62 118 (.invokevirtual 123) 63 0 (0) := ⟨3, 617, (congrArg (fun l => pm_look l 118) cq_62).trans rfl⟩
theorem lk_62_121 : Lk 62 121 (.ifCond .eq 10) 0 0 (0) := ⟨3, 0, (congrArg (fun l => pm_look l 121) cq_62).trans rfl⟩
theorem lk_62_124 : Lk 62 124 (.aload_n 0) 0 0 (0) := ⟨1, 0, (congrArg (fun l => pm_look l 124) cq_62).trans rfl⟩
theorem lk_62_125 : Lk 62 125 (.invokevirtual 104) 67 0 (0) := ⟨3, 603, (congrArg (fun l => pm_look l 125) cq_62).trans rfl⟩
theorem lk_62_128 : Lk 62 128 (.ifCond .ne 5) 0 0 (0) := ⟨3, 0, (congrArg (fun l => pm_look l 128) cq_62).trans rfl⟩
theorem lk_62_131 : Lk 62 131 (.iconst 0) 0 0 (0) := ⟨1, 0, (congrArg (fun l => pm_look l 131) cq_62).trans rfl⟩
theorem lk_62_132 : Lk 62 132 (.ireturn) 1 0 (0) := ⟨1, 0, (congrArg (fun l => pm_look l 132) cq_62).trans rfl⟩
theorem lk_62_133 : Lk 62 133 (.aload_n 0) 0 0 (0) := ⟨1, 0, (congrArg (fun l => pm_look l 133) cq_62).trans rfl⟩
theorem lk_62_134 : Lk 62 134 (.dup) 0 0 (0) := ⟨1, 0, (congrArg (fun l => pm_look l 134) cq_62).trans rfl⟩
theorem lk_62_135 : Lk 62 135 (.getfield 48) 6 5 (0) := ⟨3, 232, (congrArg (fun l => pm_look l 135) cq_62).trans rfl⟩
theorem lk_62_138 : Lk 62 138 (.iconst 1) 0 0 (0) := ⟨1, 0, (congrArg (fun l => pm_look l 138) cq_62).trans rfl⟩
theorem lk_62_139 : Lk 62 139 (.iadd) 0 0 (0) := ⟨1, 0, (congrArg (fun l => pm_look l 139) cq_62).trans rfl⟩
theorem lk_62_140 : Lk 62 140 (.putfield 48) 6 5 (0) := ⟨3, 232, (congrArg (fun l => pm_look l 140) cq_62).trans rfl⟩
theorem lk_62_143 : Lk 62 143 (.iconst 1) 0 0 (0) := ⟨1, 0, (congrArg (fun l => pm_look l 143) cq_62).trans rfl⟩
theorem lk_62_144 : Lk 62 144 (.ireturn) 1 0 (0) := ⟨1, 0, (congrArg (fun l => pm_look l 144) cq_62).trans rfl⟩
theorem cq_63 : pm_code 63 = cd_63 := rfl
theorem lk_63_0 : Lk 63 0 (.aload_n 0) 0 0 (0) := ⟨1, 0, (congrArg (fun l => pm_look l 0) cq_63).trans rfl⟩
theorem lk_63_1 : Lk 63 1 (.getfield 65) 6 10 (0) := ⟨3, 240, (congrArg (fun l => pm_look l 1) cq_63).trans rfl⟩
theorem lk_63_4 : Lk 63 4 (.iconst 1) 0 0 (0) := ⟨1, 0, (congrArg (fun l => pm_look l 4) cq_63).trans rfl⟩
theorem lk_63_5 : Lk 63 5 (.if_icmp .ne 28) 0 0 (0) := ⟨3, 0, (congrArg (fun l => pm_look l 5) cq_63).trans rfl⟩
theorem lk_63_8 : Lk 63 8 (.aload_n 0) 0 0 (0) := ⟨1, 0, (congrArg (fun l => pm_look l 8) cq_63).trans rfl⟩
theorem lk_63_9 : Lk 63 9 (.getfield 68) 6 13 (0) := ⟨3, 243, (congrArg (fun l => pm_look l 9) cq_63).trans rfl⟩
theorem lk_63_12 : Lk 63 12 (.ldc 127) 0 0 (239874) := ⟨2, 616, (congrArg (fun l => pm_look l 12) cq_63).trans rfl⟩
theorem lk_63_14 : Lk 63 14 (.if_icmp .eq 25) 0 0 (0) := ⟨3, 0, (congrArg (fun l => pm_look l 14) cq_63).trans rfl⟩
theorem lk_63_17 : Lk 63 17 (.aload_n 0) 0 0 (0) := ⟨1, 0, (congrArg (fun l => pm_look l 17) cq_63).trans rfl⟩
theorem lk_63_18 : Lk 63 18 (.getfield 68) 6 13 (0) := ⟨3, 243, (congrArg (fun l => pm_look l 18) cq_63).trans rfl⟩
theorem lk_63_21 : Lk 63 21 (.iconst 1) 0 0 (0) := ⟨1, 0, (congrArg (fun l => pm_look l 21) cq_63).trans rfl⟩
theorem lk_63_22 : Lk 63 22 (.if_icmp .eq 17) 0 0 (0) := ⟨3, 0, (congrArg (fun l => pm_look l 22) cq_63).trans rfl⟩
theorem lk_63_25 : Lk 63 25 (.aload_n 0) 0 0 (0) := ⟨1, 0, (congrArg (fun l => pm_look l 25) cq_63).trans rfl⟩
theorem lk_63_26 : Lk 63 26 (.getfield 68) 6 13 (0) := ⟨3, 243, (congrArg (fun l => pm_look l 26) cq_63).trans rfl⟩
theorem lk_63_29 : Lk 63 29 (.iconst 2) 0 0 (0) := ⟨1, 0, (congrArg (fun l => pm_look l 29) cq_63).trans rfl⟩
theorem lk_63_30 : Lk 63 30 (.if_icmp .eq 9) 0 0 (0) := ⟨3, 0, (congrArg (fun l => pm_look l 30) cq_63).trans rfl⟩
theorem lk_63_33 : Lk 63 33 (.aload_n 0) 0 0 (0) := ⟨1, 0, (congrArg (fun l => pm_look l 33) cq_63).trans rfl⟩
theorem lk_63_34 : Lk 63 34 (.iconst 2) 0 0 (0) := ⟨1, 0, (congrArg (fun l => pm_look l 34) cq_63).trans rfl⟩
theorem lk_63_35 : Lk 63 35 (.invokevirtual 81) 58 0 (0) := ⟨3, 595, (congrArg (fun l => pm_look l 35) cq_63).trans rfl⟩
theorem lk_63_38 : Lk 63 38 (.ireturn) 1 0 (0) := ⟨1, 0, (congrArg (fun l => pm_look l 38) cq_63).trans rfl⟩
theorem lk_63_39 : Lk 63 39 (.iload_n 2) 0 0 (0) := ⟨1, 0, (congrArg (fun l => pm_look l 39) cq_63).trans rfl⟩
theorem lk_63_40 : Lk 63 40 (.bipush 9) 0 0 (0) := ⟨2, 0, (congrArg (fun l => pm_look l 40) cq_63).trans rfl⟩
theorem lk_63_42 : Lk 63 42 (.if_icmp .ge 12) 0 0 (0) := ⟨3, 0, (congrArg (fun l => pm_look l 42) cq_63).trans rfl⟩
theorem lk_63_45 : Lk 63 45 (.aload_n 1) 0 0 (0) := ⟨1, 0, (congrArg (fun l => pm_look l 45) cq_63).trans rfl⟩
theorem lk_63_46 : Lk 63 46 (.getfield 120) 4 3 (0) := ⟨3, 213, (congrArg (fun l => pm_look l 46) cq_63).trans rfl⟩
theorem lk_63_49 : Lk 63 49 (.bipush 31) 0 0 (0) := ⟨2, 0, (congrArg (fun l => pm_look l 49) cq_63).trans rfl⟩
theorem lk_63_51 : Lk 63 51 (.if_icmp .lt 9) 0 0 (0) := ⟨3, 0, (congrArg (fun l => pm_look l 51) cq_63).trans rfl⟩
theorem lk_63_54 : Lk 63 54 (.aload_n 0) 0 0 (0) := ⟨1, 0, (congrArg (fun l => pm_look l 54) cq_63).trans rfl⟩
theorem lk_63_55 : Lk 63 55 (.iconst 5) 0 0 (0) := ⟨1, 0, (congrArg (fun l => pm_look l 55) cq_63).trans rfl⟩
theorem lk_63_56 : Lk 63 56 (.invokevirtual 81) 58 0 (0) := ⟨3, 595, (congrArg (fun l => pm_look l 56) cq_63).trans rfl⟩
theorem lk_63_59 : Lk 63 59 (.ireturn) 1 0 (0) := ⟨1, 0, (congrArg (fun l => pm_look l 59) cq_63).trans rfl⟩
theorem lk_63_60 : Lk 63 60 (.aload_n 0) 0 0 (0) := ⟨1, 0, (congrArg (fun l => pm_look l 60) cq_63).trans rfl⟩
theorem lk_63_61 : Lk 63 61 (.getfield 68) 6 13 (0) := ⟨3, 243, (congrArg (fun l => pm_look l 61) cq_63).trans rfl⟩
theorem lk_63_64 : Lk 63 64 (.ldc 127) 0 0 (239874) := ⟨2, 616, (congrArg (fun l => pm_look l 64) cq_63).trans rfl⟩
theorem lk_63_66 : Lk 63 66 (.if_icmp .ne 9) 0 0 (0) := ⟨3, 0, (congrArg (fun l => pm_look l 66) cq_63).trans rfl⟩
theorem lk_63_69 : Lk 63 69 (.aload_n 0) 0 0 (0) := ⟨1, 0, (congrArg (fun l => pm_look l 69) cq_63).trans rfl⟩
theorem lk_63_70 : Lk 63 70 (.aload_n 1) 0 0 (0) := ⟨1, 0, (congrArg (fun l => pm_look l 70) cq_63).trans rfl⟩
theorem lk_63_71 : Lk 63 71 (.invokevirtual 128) 64 0 (0) := ⟨3, 621, (congrArg (fun l => pm_look l 71) cq_63).trans rfl⟩
theorem lk_63_74 : Lk 63 74 (.ireturn) 1 0 (0) := ⟨1, 0, (congrArg (fun l => pm_look l 74) cq_63).trans rfl⟩
theorem lk_63_75 : Lk 63 75 (.aload_n 0) 0 0 (0) := ⟨1, 0, (congrArg (fun l => pm_look l 75) cq_63).trans rfl⟩
theorem lk_63_76 : Lk 63 76 (.getfield 68) 6 13 (0) := ⟨3, 243, (congrArg (fun l => pm_look l 76) cq_63).trans rfl⟩
theorem lk_63_79 : Lk 63 79 (.iconst 1) 0 0 (0) := ⟨1, 0, (congrArg (fun l => pm_look l 79) cq_63).trans rfl⟩
theorem lk_63_80 : Lk 63 80 (.if_icmp .ne 7) 0 0 (0) := ⟨3, 0, (congrArg (fun l => pm_look l 80) cq_63).trans rfl⟩
theorem lk_63_83 : Lk 63 83 (.iconst 1) 0 0 (0) := ⟨1, 0, (congrArg (fun l => pm_look l 83) cq_63).trans rfl⟩
theorem lk_63_84 : Lk 63 84 (.goto 4) 0 0 (0) := ⟨3, 0, (congrArg (fun l => pm_look l 84) cq_63).trans rfl⟩
theorem lk_63_87 : Lk 63 87 (.iconst 0) 0 0 (0) := ⟨1, 0, (congrArg (fun l => pm_look l 87) cq_63).trans rfl⟩
theorem lk_63_88 : Lk 63 88 (.istore_n 3) 0 0 (0) := ⟨1, 0, (congrArg (fun l => pm_look l 88) cq_63).trans rfl⟩
theorem lk_63_89 : Lk 63 89 (.aload_n 0) 0 0 (0) := ⟨1, 0, (congrArg (fun l => pm_look l 89) cq_63).trans rfl⟩
theorem lk_63_90 : Lk 63 90 (.invokevirtual 58) 70 0 (0) := ⟨3, 580, (congrArg (fun l => pm_look l 90) cq_63).trans rfl⟩
theorem lk_63_93 : Lk 63 93 (.aload_n 0) 0 0 (0) := ⟨1, 0, (congrArg (fun l => pm_look l 93) cq_63).trans rfl⟩
theorem lk_63_94 : Lk 63 94 (.iload_n 3) 0 0 (0) := ⟨1, 0, (congrArg (fun l => pm_look l 94) cq_63).trans rfl⟩
theorem lk_63_95 : Lk 63 95 (.ifCond .eq 13) 0 0 (0) := ⟨3, 0, (congrArg (fun l => pm_look l 95) cq_63).trans rfl⟩
theorem lk_63_98 : Lk 63 98 (.aload_n 0) 0 0 (0) := ⟨1, 0, (congrArg (fun l => pm_look l 98) cq_63).trans rfl⟩
theorem lk_63_99 : Lk 63 99 (.getfield 18) 6 1 (2) := ⟨3, 225, (congrArg (fun l => pm_look l 99) cq_63).trans rfl⟩
theorem lk_63_102 : Lk 63 102 (.getfield 101) 8 1 (0) := ⟨3, 157, (congrArg (fun l => pm_look l 102) cq_63).trans rfl⟩
theorem lk_63_105 : Lk 63 105 (.goto 10) 0 0 (0) := ⟨3, 0, (congrArg (fun l => pm_look l 105) cq_63).trans rfl⟩
theorem lk_63_108 : Lk 63 108 (.aload_n 0) 0 0 (0) := ⟨1, 0, (congrArg (fun l => pm_look l 108) cq_63).trans rfl⟩
theorem lk_63_109 : Lk 63 109 (.getfield 18) 6 1 (2) := ⟨3, 225, (congrArg (fun l => pm_look l 109) cq_63).trans rfl⟩
theorem lk_63_112 : Lk 63 112 (.getfield 91) 8 2 (0) := ⟨3, 164, (congrArg (fun l => pm_look l 112) cq_63).trans rfl⟩
theorem lk_63_115 : Lk 63 115 (.invokevirtual 132) 65 0 (0) := ⟨3, 633, (congrArg (fun l => pm_look l 115) cq_63).trans rfl⟩
theorem lk_63_118 : Lk 63 118 (.istore 4) 0 0 (0) := ⟨2, 0, (congrArg (fun l => pm_look l 118) cq_63).trans rfl⟩
theorem lk_63_120 : Lk 63 120 (.iload 4) 0 0 (0) := ⟨2, 0, (congrArg (fun l => pm_look l 120) cq_63).trans rfl⟩
theorem lk_63_122 : Lk 63 122 (.ifCond .ne 5) 0 0 (0) := ⟨3, 0, (congrArg (fun l => pm_look l 122) cq_63).trans rfl⟩
theorem lk_63_125 : Lk 63 125 (.iconst 0) 0 0 (0) := ⟨1, 0, (congrArg (fun l => pm_look l 125) cq_63).trans rfl⟩
theorem lk_63_126 : Lk 63 126 (.ireturn) 1 0 (0) := ⟨1, 0, (congrArg (fun l => pm_look l 126) cq_63).trans rfl⟩
theorem lk_63_127 : Lk 63 127 (.aload_n 1) 0 0 (0) := ⟨1, 0, (congrArg (fun l => pm_look l 127) cq_63).trans rfl⟩
theorem lk_63_128 : Lk 63 128 (.iload_n 3) 0 0 (0) := ⟨1, 0, (congrArg (fun l => pm_look l 128) cq_63).trans rfl⟩
theorem lk_63_129 : Lk 63 129 (.ifCond .eq 7) 0 0 (0) := ⟨3, 0, (congrArg (fun l => pm_look l 129) cq_63).trans rfl⟩
theorem lk_63_132 : Lk 63 132 (.iconst 1) 0 0 (0) := ⟨1, 0, (congrArg (fun l => pm_look l 132) cq_63).trans rfl⟩
theorem lk_63_133 : Lk 63 133 (.goto 4) 0 0 (0) := ⟨3, 0, (congrArg (fun l => pm_look l 133) cq_63).trans rfl⟩
theorem lk_63_136 : Lk 63 136 (.iconst 2) 0 0 (0) := ⟨1, 0, (congrArg (fun l => pm_look l 136) cq_63).trans rfl⟩
theorem lk_63_137 : Lk 63 137 (.iload 4) 0 0 (0) := ⟨2, 0, (congrArg (fun l => pm_look l 137) cq_63).trans rfl⟩
theorem lk_63_139 : Lk 63 139 (.invokevirtual 135) 36 0 (0) := ⟨3, 629, (congrArg (fun l => pm_look l 139) cq_63).trans rfl⟩
theorem lk_63_142 : Lk 63 142 (.istore 5) 0 0 (0) := ⟨2, 0, (congrArg (fun l => pm_look l 142) cq_63).trans rfl⟩
theorem lk_63_144 : Lk 63 144 (.aload_n 0) 0 0 (0) := ⟨1, 0, (congrArg (fun l => pm_look l 144) cq_63).trans rfl⟩
theorem lk_63_145 : Lk 63 145 (.invokevirtual 58) 70 0 (0) := ⟨3, 580, (congrArg (fun l => pm_look l 145) cq_63).trans rfl⟩
theorem lk_63_148 : Lk 63 148 (.iload 5) 0 0 (0) := ⟨2, 0, (congrArg (fun l => pm_look l 148) cq_63).trans rfl⟩
theorem lk_63_150 : Lk 63 150 (.ifCond .lt 14) 0 0 (0) := ⟨3, 0, (congrArg (fun l => pm_look l 150) cq_63).trans rfl⟩
theorem lk_63_153 : Lk 63 153 (.aload_n 0) 0 0 (0) := ⟨1, 0, (congrArg (fun l => pm_look l 153) cq_63).trans rfl⟩
theorem lk_63_154 : Lk 63 154 (.aload_n 1) 0 0 (0) := ⟨1, 0, (congrArg (fun l => pm_look l 154) cq_63).trans rfl⟩
theorem lk_63_155 : Lk 63 155 (.iload_n 2) 0 0 (0) := ⟨1, 0, (congrArg (fun l => pm_look l 155) cq_63).trans rfl⟩
theorem lk_63_156 : Lk 63 156 (.iconst 1) 0 0 (0) := ⟨1, 0, (congrArg (fun l => pm_look l 156) cq_63).trans rfl⟩
theorem lk_63_157 : Lk 63 157 (.iadd) 0 0 (0) := ⟨1, 0, (congrArg (fun l => pm_look l 157) cq_63).trans rfl⟩
theorem lk_63_158 : Lk 63 158 (.invokevirtual 123) 63 0 (0) := ⟨3, 617, (congrArg (fun l => pm_look l 158) cq_63).trans rfl⟩
theorem lk_63_161 : Lk 63 161 (.ifCond .ne 5) 0 0 (0) := ⟨3, 0, (congrArg (fun l => pm_look l 161) cq_63).trans rfl⟩
theorem lk_63_164 : Lk 63 164 (.iconst 0) 0 0 (0) := ⟨1, 0, (congrArg (fun l => pm_look l 164) cq_63).trans rfl⟩
theorem lk_63_165 : Lk 63 165 (.ireturn) 1 0 (0) := ⟨1, 0, (congrArg (fun l => pm_look l 165) cq_63).trans rfl⟩
theorem lk_63_166 : Lk 63 166 (.aload_n 1) 0 0 (0) := ⟨1, 0, (congrArg (fun l => pm_look l 166) cq_63).trans rfl⟩
theorem lk_63_167 : Lk 63 167 (.getfield 139) 4 2 (2) := ⟨3, 209, (congrArg (fun l => pm_look l 167) cq_63).trans rfl⟩
theorem lk_63_170 : Lk 63 170 (.iload 5) 0 0 (0) := ⟨2, 0, (congrArg (fun l => pm_look l 170) cq_63).trans rfl⟩
theorem lk_63_172 : Lk 63 172 (.aload_n 1) 0 0 (0) := ⟨1, 0, (congrArg (fun l => pm_look l 172) cq_63).trans rfl⟩
theorem lk_63_173 : Lk 63 173 (.getfield 120) 4 3 (0) := ⟨3, 213, (congrArg (fun l => pm_look l 173) cq_63).trans rfl⟩
theorem lk_63_176 : Lk 63 176 (.iastore) 0 0 (0) := ⟨1, 0, (congrArg (fun l => pm_look l 176) cq_63).trans rfl⟩
theorem lk_63_177 : Lk 63 177 (.aload_n 0) 0 0 (0) := ⟨1, 0, (congrArg (fun l => pm_look l 177) cq_63).trans rfl⟩
theorem lk_63_178 : Lk 63 178 (.aload_n 1) 0 0 (0) := ⟨1, 0, (congrArg (fun l => pm_look l 178) cq_63).trans rfl⟩
theorem lk_63_179 : Lk 63 179 (.iload_n 2) 0 0 (0) := ⟨1, 0, (congrArg (fun l => pm_look l 179) cq_63).trans rfl⟩
theorem lk_63_180 : Lk 63 180 (.iconst 1) 0 0 (0) := ⟨1, 0, (congrArg (fun l => pm_look l 180) cq_63).trans rfl⟩
theorem lk_63_181 : Lk 63 181 (.iadd) 0 0 (0) := ⟨1, 0, (congrArg (fun l => pm_look l 181) cq_63).trans rfl⟩
theorem lk_63_182 : Lk 63 182 (.invokevirtual 123) 63 0 (0) := ⟨3, 617, (congrArg (fun l => pm_look l 182) cq_63).trans rfl⟩
theorem lk_63_185 : Lk 63 185 (.ireturn) 1 0 (0) := ⟨1, 0, (congrArg (fun l => pm_look l 185) cq_63).trans rfl⟩
theorem cq_64 : pm_code 64 = cd_64 := rfl
theorem lk_64_0 : Lk 64 0 (.aload_n 0) 0 0 (0) := ⟨1, 0, (congrArg (fun l => pm_look l 0) cq_64).trans rfl⟩
theorem lk_64_1 : Lk 64 1 (.invokevirtual 58) 70 0 (0) := ⟨3, 580, (congrArg (fun l => pm_look l 1) cq_64).trans rfl⟩
theorem lk_64_4 : Lk 64 4 (.aload_n 0) 0 0 (0) := ⟨1, 0, (congrArg (fun l => pm_look l 4) cq_64).trans rfl⟩
theorem lk_64_5 : Lk 64 5 (.iconst 0) 0 0 (0) := ⟨1, 0, (congrArg (fun l => pm_look l 5) cq_64).trans rfl⟩
theorem lk_64_6 : Lk 64 6 (.invokevirtual 108) 66 0 (0) := ⟨3, 625, (congrArg (fun l => pm_look l 6) cq_64).trans rfl⟩
theorem lk_64_9 : Lk 64 9 (.ifCond .ne 5) 0 0 (0) := ⟨3, 0, (congrArg (fun l => pm_look l 9) cq_64).trans rfl⟩
theorem lk_64_12 : Lk 64 12 (.iconst 0) 0 0 (0) := ⟨1, 0, (congrArg (fun l => pm_look l 12) cq_64).trans rfl⟩
theorem lk_64_13 : Lk 64 13 (.ireturn) 1 0 (0) := ⟨1, 0, (congrArg (fun l => pm_look l 13) cq_64).trans rfl⟩
theorem lk_64_14 : Lk 64 14 (.aload_n 1) 0 0 (0) := ⟨1, 0, (congrArg (fun l => pm_look l 14) cq_64).trans rfl⟩
theorem lk_64_15 : Lk 64 15 (.iconst 0) 0 0 (0) := ⟨1, 0, (congrArg (fun l => pm_look l 15) cq_64).trans rfl⟩
theorem lk_64_16 : Lk 64 16 (.aload_n 0) 0 0 (0) := ⟨1, 0, (congrArg (fun l => pm_look l 16) cq_64).trans rfl⟩
theorem lk_64_17 : Lk 64 17 (.iconst 0) 0 0 (0) := ⟨1, 0, (congrArg (fun l => pm_look l 17) cq_64).trans rfl⟩
theorem lk_64_18 : Lk 64 18 (.invokevirtual 94) 69 0 (0) := ⟨3, 584, (congrArg (fun l => pm_look l 18) cq_64).trans rfl⟩
theorem lk_64_21 : Lk 64 21 (.bipush 48) 0 0 (0) := ⟨2, 0, (congrArg (fun l => pm_look l 21) cq_64).trans rfl⟩
theorem lk_64_23 : Lk 64 23 (.isub) 0 0 (0) := ⟨1, 0, (congrArg (fun l => pm_look l 23) cq_64).trans rfl⟩
theorem lk_64_24 : Lk 64 24 (.invokevirtual 135) 36 0 (0) := ⟨3, 629, (congrArg (fun l => pm_look l 24) cq_64).trans rfl⟩
theorem lk_64_27 : Lk 64 27 (.pop) 0 0 (0) := ⟨1, 0, (congrArg (fun l => pm_look l 27) cq_64).trans rfl⟩
theorem lk_64_28 : Lk 64 28 (.aload_n 0) 0 0 (0) := ⟨1, 0, (congrArg (fun l => pm_look l 28) cq_64).trans rfl⟩
theorem lk_64_29 : Lk 64 29 (.invokevirtual 58) 70 0 (0) := ⟨3, 580, (congrArg (fun l => pm_look l 29) cq_64).trans rfl⟩
theorem lk_64_32 : Lk 64 32 (.iconst 1) 0 0 (0) := ⟨1, 0, (congrArg (fun l => pm_look l 32) cq_64).trans rfl⟩
theorem lk_64_33 : Lk 64 33 (.ireturn) 1 0 (0) := ⟨1, 0, (congrArg (fun l => pm_look l 33) cq_64).trans rfl⟩
theorem cq_65 : pm_code 65 = cd_65 := rfl
theorem lk_65_0 : Lk 65 0 (.aload_n 0) 0 0 (0) := ⟨1, 0, (congrArg (fun l => pm_look l 0) cq_65).trans rfl⟩
theorem lk_65_1 : Lk 65 1 (.getfield 65) 6 10 (0) := ⟨3, 240, (congrArg (fun l => pm_look l 1) cq_65).trans rfl⟩
theorem lk_65_4 : Lk 65 4 (.iconst 2) 0 0 (0) := ⟨1, 0, (congrArg (fun l => pm_look l 4) cq_65).trans rfl⟩
theorem lk_65_5 : Lk 65 5 (.if_icmp .eq 11) 0 0 (0) := ⟨3, 0, (congrArg (fun l => pm_look l 5) cq_65).trans rfl⟩
theorem lk_65_8 : Lk 65 8 (.aload_n 0) 0 0 (0) := ⟨1, 0, (congrArg (fun l => pm_look l 8) cq_65).trans rfl⟩
theorem lk_65_9 : Lk 65 9 (.iconst 2) 0 0 (0) := ⟨1, 0, (congrArg (fun l => pm_look l 9) cq_65).trans rfl⟩
theorem lk_65_10 : Lk 65 10 (.invokevirtual 81) 58 0 (0) := ⟨3, 595, (congrArg (fun l => pm_look l 10) cq_65).trans rfl⟩
theorem lk_65_13 : Lk 65 13 (.pop) 0 0 (0) := ⟨1, 0, (congrArg (fun l => pm_look l 13) cq_65).trans rfl⟩
theorem lk_65_14 : Lk 65 14 (.iconst 0) 0 0 (0) := ⟨1, 0, (congrArg (fun l => pm_look l 14) cq_65).trans rfl⟩
theorem lk_65_15 : Lk 65 15 (.ireturn) 0 0 (0) := ⟨1, 0, (congrArg (fun l => pm_look l 15) cq_65).trans rfl⟩
theorem lk_65_16 : Lk 65 16 (.iconst 0) 0 0 (0) := ⟨1, 0, (congrArg (fun l => pm_look l 16) cq_65).trans rfl⟩
theorem lk_65_17 : Lk 65 17 (.istore_n 2) 0 0 (0) := ⟨1, 0, (congrArg (fun l => pm_look l 17) cq_65).trans rfl⟩
theorem lk_65_18 : Lk 65 18 (.iconst 0) 0 0 (0) := ⟨1, 0, (congrArg (fun l => pm_look l 18) cq_65).trans rfl⟩
theorem lk_65_19 : Lk 65 19 (.istore_n 3) 0 0 (0) := ⟨1, 0, (congrArg (fun l => pm_look l 19) cq_65).trans rfl⟩
theorem lk_65_20 : Lk 65 20 (.iload_n 3) 0 0 (0) := ⟨1, 0, (congrArg (fun l => pm_look l 20) cq_65).trans rfl⟩
theorem lk_65_21 : Lk 65 21 (.aload_n 0) 0 0 (0) := ⟨1, 0, (congrArg (fun l => pm_look l 21) cq_65).trans rfl⟩
theorem lk_65_22 : Lk 65 22 (.getfield 88) 6 12 (0) := ⟨3, 242, (congrArg (fun l => pm_look l 22) cq_65).trans rfl⟩
theorem lk_65_25 : Lk 65 25 (.if_icmp .ge 52) 0 0 (0) := ⟨3, 0, (congrArg (fun l => pm_look l 25) cq_65).trans rfl⟩
theorem lk_65_28 : Lk 65 28 (.aload_n 0) 0 0 (0) := ⟨1, 0, (congrArg (fun l => pm_look l 28) cq_65).trans rfl⟩
theorem lk_65_29 : Lk 65 29 (.iload_n 3) 0 0 (0) := ⟨1, 0, (congrArg (fun l => pm_look l 29) cq_65).trans rfl⟩
theorem lk_65_30 : Lk 65 30 (.invokevirtual 94) 69 0 (0) := ⟨3, 584, (congrArg (fun l => pm_look l 30) cq_65).trans rfl⟩
theorem lk_65_33 : Lk 65 33 (.bipush 48) 0 0 (0) := ⟨2, 0, (congrArg (fun l => pm_look l 33) cq_65).trans rfl⟩
theorem lk_65_35 : Lk 65 35 (.isub) 0 0 (0) := ⟨1, 0, (congrArg (fun l => pm_look l 35) cq_65).trans rfl⟩
theorem lk_65_36 : Lk 65 36 (.istore 4) 0 0 (0) := ⟨2, 0, (congrArg (fun l => pm_look l 36) cq_65).trans rfl⟩
theorem lk_65_38 : Lk 65 38 (.iload 4) 0 0 (0) := ⟨2, 0, (congrArg (fun l => pm_look l 38) cq_65).trans rfl⟩
theorem lk_65_40 : Lk 65 40 (.ifCond .lt 16) 0 0 (0) := ⟨3, 0, (congrArg (fun l => pm_look l 40) cq_65).trans rfl⟩
theorem lk_65_43 : Lk 65 43 (.iload 4) 0 0 (0) := ⟨2, 0, (congrArg (fun l => pm_look l 43) cq_65).trans rfl⟩
theorem lk_65_45 : Lk 65 45 (.iload_n 1) 0 0 (0) := ⟨1, 0, (congrArg (fun l => pm_look l 45) cq_65).trans rfl⟩
theorem lk_65_46 : Lk 65 46 (.if_icmp .ge 10) 0 0 (0) := ⟨3, 0, (congrArg (fun l => pm_look l 46) cq_65).trans rfl⟩
theorem lk_65_49 : Lk 65 49 (.iload_n 2) 0 0 (0) := ⟨1, 0, (congrArg (fun l => pm_look l 49) cq_65).trans rfl⟩
theorem lk_65_50 : Lk 65 50 (.iload 4) 0 0 (0) := ⟨2, 0, (congrArg (fun l => pm_look l 50) cq_65).trans rfl⟩
theorem lk_65_52 : Lk 65 52 (.ishr) 0 0 (0) := ⟨1, 0, (congrArg (fun l => pm_look l 52) cq_65).trans rfl⟩
theorem lk_65_53 : Lk 65 53 (.ifCond .eq 11) 0 0 (0) := ⟨3, 0, (congrArg (fun l => pm_look l 53) cq_65).trans rfl⟩
theorem lk_65_56 : Lk 65 56 (.aload_n 0) 0 0 (0) := ⟨1, 0, (congrArg (fun l => pm_look l 56) cq_65).trans rfl⟩
theorem lk_65_57 : Lk 65 57 (.iconst 4) 0 0 (0) := ⟨1, 0, (congrArg (fun l => pm_look l 57) cq_65).trans rfl⟩
theorem lk_65_58 : Lk 65 58 (.invokevirtual 81) 58 0 (0) := ⟨3, 595, (congrArg (fun l => pm_look l 58) cq_65).trans rfl⟩
theorem lk_65_61 : Lk 65 61 (.pop) 0 0 (0) := ⟨1, 0, (congrArg (fun l => pm_look l 61) cq_65).trans rfl⟩
theorem lk_65_62 : Lk 65 62 (.iconst 0) 0 0 (0) := ⟨1, 0, (congrArg (fun l => pm_look l 62) cq_65).trans rfl⟩
theorem lk_65_63 : Lk 65 63 (.ireturn) 0 0 (0) := ⟨1, 0, (congrArg (fun l => pm_look l 63) cq_65).trans rfl⟩
theorem lk_65_64 : Lk 65 64 (.iload_n 2) 0 0 (0) := ⟨1, 0, (congrArg (fun l => pm_look l 64) cq_65).trans rfl⟩
theorem lk_65_65 : Lk 65 65 (.iconst 1) 0 0 (0) := ⟨1, 0, (congrArg (fun l => pm_look l 65) cq_65).trans rfl⟩
theorem lk_65_66 : Lk 65 66 (.iload 4) 0 0 (0) := ⟨2, 0, (congrArg (fun l => pm_look l 66) cq_65).trans rfl⟩
theorem lk_65_68 : Lk 65 68 (.ishl) 0 0 (0) := ⟨1, 0, (congrArg (fun l => pm_look l 68) cq_65).trans rfl⟩
theorem lk_65_69 : Lk 65 69 (.ior) 0 0 (0) := ⟨1, 0, (congrArg (fun l => pm_look l 69) cq_65).trans rfl⟩
theorem lk_65_70 : Lk 65 70 (.istore_n 2) 0 0 (0) := ⟨1, 0, (congrArg (fun l => pm_look l 70) cq_65).trans rfl⟩
theorem lk_65_71 : Lk 65 71 (.iinc 3 1) 0 0 (0) := ⟨3, 0, (congrArg (fun l => pm_look l 71) cq_65).trans rfl⟩
theorem lk_65_74 : Lk 65 74 (.goto (-54)) 0 0 (0) := ⟨3, 0, (congrArg (fun l => pm_look l 74) cq_65).trans rfl⟩
theorem lk_65_77 : Lk 65 77 (.iload_n 2) 0 0 (0) := ⟨1, 0, (congrArg (fun l => pm_look l 77) cq_65).trans rfl⟩
theorem lk_65_78 : Lk 65 78 (.ireturn) 0 0 (0) := ⟨1, 0, (congrArg (fun l => pm_look l 78) cq_65).trans rfl⟩
theorem cq_66 : pm_code 66 = cd_66 := rfl
theorem lk_66_0 : Lk 66 0 (.aload_n 0) 0 0 (0) := ⟨1, 0, (congrArg (fun l => pm_look l 0) cq_66).trans rfl⟩
theorem lk_66_1 : Lk 66 1 (.getfield 65) 6 10 (0) := ⟨3, 240, (congrArg (fun l => pm_look l 1) cq_66).trans rfl⟩
theorem lk_66_4 : Lk 66 4 (.iconst 2) 0 0 (0) := ⟨1, 0, (congrArg (fun l => pm_look l 4) cq_66).trans rfl⟩
theorem lk_66_5 : Lk 66 5 (.if_icmp .eq 9) 0 0 (0) := ⟨3, 0, (congrArg (fun l => pm_look l 5) cq_66).trans rfl⟩
theorem lk_66_8 : Lk 66 8 (.aload_n 0) 0 0 (0) := ⟨1, 0, (congrArg (fun l => pm_look l 8) cq_66).trans rfl⟩
theorem lk_66_9 : Lk 66 9 (.iconst 2) 0 0 (0) := ⟨1, 0, (congrArg (fun l => pm_look l 9) cq_66).trans rfl⟩
theorem lk_66_10 : Lk 66 10 (.invokevirtual 81) 58 0 (0) := ⟨3, 595, (congrArg (fun l => pm_look l 10) cq_66).trans rfl⟩
theorem lk_66_13 : Lk 66 13 (.ireturn) 1 0 (0) := ⟨1, 0, (congrArg (fun l => pm_look l 13) cq_66).trans rfl⟩
theorem lk_66_14 : Lk 66 14 (.aload_n 0) 0 0 (0) := ⟨1, 0, (congrArg (fun l => pm_look l 14) cq_66).trans rfl⟩
theorem lk_66_15 : Lk 66 15 (.getfield 88) 6 12 (0) := ⟨3, 242, (congrArg (fun l => pm_look l 15) cq_66).trans rfl⟩
theorem lk_66_18 : Lk 66 18 (.iconst 1) 0 0 (0) := ⟨1, 0, (congrArg (fun l => pm_look l 18) cq_66).trans rfl⟩
theorem lk_66_19 : Lk 66 19 (.if_icmp .ne 15) 0 0 (0) := ⟨3, 0, (congrArg (fun l => pm_look l 19) cq_66).trans rfl⟩
theorem lk_66_22 : Lk 66 22 (.aload_n 0) 0 0 (0) := ⟨1, 0, (congrArg (fun l => pm_look l 22) cq_66).trans rfl⟩
theorem lk_66_23 : Lk 66 23 (.iconst 0) 0 0 (0) := ⟨1, 0, (congrArg (fun l => pm_look l 23) cq_66).trans rfl⟩
theorem lk_66_24 : Lk 66 24 (.invokevirtual 94) 69 0 (0) := ⟨3, 584, (congrArg (fun l => pm_look l 24) cq_66).trans rfl⟩
theorem lk_66_27 : Lk 66 27 (.bipush 48) 0 0 (0) := ⟨2, 0, (congrArg (fun l => pm_look l 27) cq_66).trans rfl⟩
theorem lk_66_29 : Lk 66 29 (.isub) 0 0 (0) := ⟨1, 0, (congrArg (fun l => pm_look l 29) cq_66).trans rfl⟩
theorem lk_66_30 : Lk 66 30 (.iload_n 1) 0 0 (0) := ⟨1, 0, (congrArg (fun l => pm_look l 30) cq_66).trans rfl⟩
theorem lk_66_31 : Lk 66 31 (.if_icmp .ge 11) 0 0 (0) := ⟨3, 0, (congrArg (fun l => pm_look l 31) cq_66).trans rfl⟩
theorem lk_66_34 : Lk 66 34 (.aload_n 0) 0 0 (0) := ⟨1, 0, (congrArg (fun l => pm_look l 34) cq_66).trans rfl⟩
theorem lk_66_35 : Lk 66 35 (.iconst 4) 0 0 (0) := ⟨1, 0, (congrArg (fun l => pm_look l 35) cq_66).trans rfl⟩
theorem lk_66_36 : Lk 66 36 (.invokevirtual 81) 58 0 (0) := ⟨3, 595, (congrArg (fun l => pm_look l 36) cq_66).trans rfl⟩
theorem lk_66_39 : Lk 66 39 (.ifCond .eq 7) 0 0 (0) := ⟨3, 0, (congrArg (fun l => pm_look l 39) cq_66).trans rfl⟩
theorem lk_66_42 : Lk 66 42 (.iconst 1) 0 0 (0) := ⟨1, 0, (congrArg (fun l => pm_look l 42) cq_66).trans rfl⟩
theorem lk_66_43 : Lk 66 43 (.goto 4) 0 0 (0) := ⟨3, 0, (congrArg (fun l => pm_look l 43) cq_66).trans rfl⟩
theorem lk_66_46 : Lk 66 46 (.iconst 0) 0 0 (0) := ⟨1, 0, (congrArg (fun l => pm_look l 46) cq_66).trans rfl⟩
theorem lk_66_47 : Lk 66 47 (.ireturn) 1 0 (0) := ⟨1, 0, (congrArg (fun l => pm_look l 47) cq_66).trans rfl⟩
theorem cq_67 : pm_code 67 = cd_67 := rfl
theorem lk_67_0 : Lk 67 0 (.aload_n 0) 0 0 (0) := ⟨1, 0, (congrArg (fun l => pm_look l 0) cq_67).trans rfl⟩
theorem lk_67_1 : Lk 67 1 (.getfield 65) 6 10 (0) := ⟨3, 240, (congrArg (fun l => pm_look l 1) cq_67).trans rfl⟩
theorem lk_67_4 : Lk 67 4 (.iconst 3) 0 0 (0) := ⟨1, 0, (congrArg (fun l => pm_look l 4) cq_67).trans rfl⟩
theorem lk_67_5 : Lk 67 5 (.if_icmp .eq 9) 0 0 (0) := ⟨3, 0, (congrArg (fun l => pm_look l 5) cq_67).trans rfl⟩
theorem lk_67_8 : Lk 67 8 (.aload_n 0) 0 0 (0) := ⟨1, 0, (congrArg (fun l => pm_look l 8) cq_67).trans rfl⟩
theorem lk_67_9 : Lk 67 9 (.iconst 2) 0 0 (0) := ⟨1, 0, (congrArg (fun l => pm_look l 9) cq_67).trans rfl⟩
theorem lk_67_10 : Lk 67 10 (.invokevirtual 81) 58 0 (0) := ⟨3, 595, (congrArg (fun l => pm_look l 10) cq_67).trans rfl⟩
theorem lk_67_13 : Lk 67 13 (.ireturn) 1 0 (0) := ⟨1, 0, (congrArg (fun l => pm_look l 13) cq_67).trans rfl⟩
theorem lk_67_14 : Lk 67 14 (.aload_n 0) 0 0 (0) := ⟨1, 0, (congrArg (fun l => pm_look l 14) cq_67).trans rfl⟩
theorem lk_67_15 : Lk 67 15 (.invokevirtual 58) 70 0 (0) := ⟨3, 580, (congrArg (fun l => pm_look l 15) cq_67).trans rfl⟩
theorem lk_67_18 : Lk 67 18 (.iconst 1) 0 0 (0) := ⟨1, 0, (congrArg (fun l => pm_look l 18) cq_67).trans rfl⟩
theorem lk_67_19 : Lk 67 19 (.ireturn) 1 0 (0) := ⟨1, 0, (congrArg (fun l => pm_look l 19) cq_67).trans rfl⟩
theorem cq_68 : pm_code 68 = cd_68 := rfl
theorem lk_68_0 : Lk 68 0 (.iload_n 0) 0 0 (0) := ⟨1, 0, (congrArg (fun l => pm_look l 0) cq_68).trans rfl⟩
theorem lk_68_1 : Lk 68 1 (.iconst 1) 0 0 (0) := ⟨1, 0, (congrArg (fun l => pm_look l 1) cq_68).trans rfl⟩
theorem lk_68_2 : Lk 68 2 (.if_icmp .eq 26) 0 0 (0) := ⟨3, 0, (congrArg (fun l => pm_look l 2) cq_68).trans rfl⟩
theorem lk_68_5 : Lk 68 5 (.iload_n 0) 0 0 (0) := ⟨1, 0, (congrArg (fun l => pm_look l 5) cq_68).trans rfl⟩
theorem lk_68_6 : Lk 68 6 (.iconst 2) 0 0 (0) := ⟨1, 0, (congrArg (fun l => pm_look l 6) cq_68).trans rfl⟩
theorem lk_68_7 : Lk 68 7 (.if_icmp .eq 21) 0 0 (0) := ⟨3, 0, (congrArg (fun l => pm_look l 7) cq_68).trans rfl⟩
theorem lk_68_10 : Lk 68 10 (.iload_n 0) 0 0 (0) := ⟨1, 0, (congrArg (fun l => pm_look l 10) cq_68).trans rfl⟩
theorem lk_68_11 : Lk 68 11 (.ldc 107) 0 0 (70517) := ⟨2, 615, (congrArg (fun l => pm_look l 11) cq_68).trans rfl⟩
theorem lk_68_13 : Lk 68 13 (.if_icmp .eq 15) 0 0 (0) := ⟨3, 0, (congrArg (fun l => pm_look l 13) cq_68).trans rfl⟩
theorem lk_68_16 : Lk 68 16 (.iload_n 0) 0 0 (0) := ⟨1, 0, (congrArg (fun l => pm_look l 16) cq_68).trans rfl⟩
theorem lk_68_17 : Lk 68 17 (.ldc 71) 0 0 (406922) := ⟨2, 607, (congrArg (fun l => pm_look l 17) cq_68).trans rfl⟩
theorem lk_68_19 : Lk 68 19 (.if_icmp .eq 9) 0 0 (0) := ⟨3, 0, (congrArg (fun l => pm_look l 19) cq_68).trans rfl⟩
theorem lk_68_22 : Lk 68 22 (.iload_n 0) 0 0 (0) := ⟨1, 0, (congrArg (fun l => pm_look l 22) cq_68).trans rfl⟩
theorem lk_68_23 : Lk 68 23 (.ldc 127) 0 0 (239874) := ⟨2, 616, (congrArg (fun l => pm_look l 23) cq_68).trans rfl⟩
theorem lk_68_25 : Lk 68 25 (.if_icmp .ne 7) 0 0 (0) := ⟨3, 0, (congrArg (fun l => pm_look l 25) cq_68).trans rfl⟩
theorem lk_68_28 : Lk 68 28 (.iconst 1) 0 0 (0) := ⟨1, 0, (congrArg (fun l => pm_look l 28) cq_68).trans rfl⟩
theorem lk_68_29 : Lk 68 29 (.goto 4) 0 0 (0) := ⟨3, 0, (congrArg (fun l => pm_look l 29) cq_68).trans rfl⟩
theorem lk_68_32 : Lk 68 32 (.iconst 0) 0 0 (0) := ⟨1, 0, (congrArg (fun l => pm_look l 32) cq_68).trans rfl⟩
theorem lk_68_33 : Lk 68 33 (.ireturn) 1 0 (0) := ⟨1, 0, (congrArg (fun l => pm_look l 33) cq_68).trans rfl⟩
theorem cq_69 : pm_code 69 = cd_69 := rfl
theorem lk_69_0 : Lk 69 0 (.aload_n 0) 0 0 (0) := ⟨1, 0, (congrArg (fun l => pm_look l 0) cq_69).trans rfl⟩
theorem lk_69_1 : Lk 69 1 (.getfield 78) 6 11 (0) := ⟨3, 241, (congrArg (fun l => pm_look l 1) cq_69).trans rfl⟩
theorem lk_69_4 : Lk 69 4 (.iload_n 1) 0 0 (0) := ⟨1, 0, (congrArg (fun l => pm_look l 4) cq_69).trans rfl⟩
theorem lk_69_5 : Lk 69 5 (.iadd) 0 0 (0) := ⟨1, 0, (congrArg (fun l => pm_look l 5) cq_69).trans rfl⟩
theorem lk_69_6 : Lk 69 6 (.istore_n 2) 0 0 (0) := ⟨1, 0, (congrArg (fun l => pm_look l 6) cq_69).trans rfl⟩
theorem lk_69_7 : Lk 69 7 (.iload_n 2) 0 0 (0) := ⟨1, 0, (congrArg (fun l => pm_look l 7) cq_69).trans rfl⟩
theorem lk_69_8 : Lk 69 8 (.ifCond .lt 27) 0 0 (0) := ⟨3, 0, (congrArg (fun l => pm_look l 8) cq_69).trans rfl⟩
theorem lk_69_11 : Lk 69 11 (.iload_n 2) 0 0 (0) := ⟨1, 0, (congrArg (fun l => pm_look l 11) cq_69).trans rfl⟩
theorem lk_69_12 : Lk 69 12 (.aload_n 0) 0 0 (0) := ⟨1, 0, (congrArg (fun l => pm_look l 12) cq_69).trans rfl⟩
theorem lk_69_13 : Lk 69 13 (.getfield 39) 6 4 (0) := ⟨3, 231, (congrArg (fun l => pm_look l 13) cq_69).trans rfl⟩
theorem lk_69_16 : Lk 69 16 (.if_icmp .ge 19) 0 0 (0) := ⟨3, 0, (congrArg (fun l => pm_look l 16) cq_69).trans rfl⟩
theorem lk_69_19 : Lk 69 19 (.iload_n 2) 0 0 (0) := ⟨1, 0, (congrArg (fun l => pm_look l 19) cq_69).trans rfl⟩
theorem lk_69_20 : Lk 69 20 (.sipush 500) 0 0 (0) := ⟨3, 0, (congrArg (fun l => pm_look l 20) cq_69).trans rfl⟩
theorem lk_69_23 : Lk 69 23 (.if_icmp .ge 12) 0 0 (0) := ⟨3, 0, (congrArg (fun l => pm_look l 23) cq_69).trans rfl⟩
theorem lk_69_26 : Lk 69 26 (.aload_n 0) 0 0 (0) := ⟨1, 0, (congrArg (fun l => pm_look l 26) cq_69).trans rfl⟩
theorem lk_69_27 : Lk 69 27 (.getfield 11) 6 0 (2) := ⟨3, 224, (congrArg (fun l => pm_look l 27) cq_69).trans rfl⟩
theorem lk_69_30 : Lk 69 30 (.iload_n 2) 0 0 (0) := ⟨1, 0, (congrArg (fun l => pm_look l 30) cq_69).trans rfl⟩
theorem lk_69_31 : Lk 69 31 (.baload) 0 0 (0) := ⟨1, 0, (congrArg (fun l => pm_look l 31) cq_69).trans rfl⟩
theorem lk_69_32 : Lk 69 32 (.goto 4) 0 0 (0) := ⟨3, 0, (congrArg (fun l => pm_look l 32) cq_69).trans rfl⟩
theorem lk_69_35 : Lk 69 35 (.iconst 0) 0 0 (0) := ⟨1, 0, (congrArg (fun l => pm_look l 35) cq_69).trans rfl⟩
theorem lk_69_36 : Lk 69 36 (.ireturn) 0 0 (0) := ⟨1, 0, (congrArg (fun l => pm_look l 36) cq_69).trans rfl⟩
theorem cq_70 : pm_code 70 = cd_70 := rfl
theorem lk_70_0 : Lk 70 0 (.aload_n 0) 0 0 (0) := ⟨1, 0, (congrArg (fun l => pm_look l 0) cq_70).trans rfl⟩
theorem lk_70_1 : Lk 70 1 (.aload_n 0) 0 0 (0) := ⟨1, 0, (congrArg (fun l => pm_look l 1) cq_70).trans rfl⟩
theorem lk_70_2 : Lk 70 2 (.getfield 45) 6 9 (0) := ⟨3, 239, (congrArg (fun l => pm_look l 2) cq_70).trans rfl⟩
theorem lk_70_5 : Lk 70 5 (.putfield 78) 6 11 (0) := ⟨3, 241, (congrArg (fun l => pm_look l 5) cq_70).trans rfl⟩
theorem lk_70_8 : Lk 70 8 (.aload_n 0) 0 0 (0) := ⟨1, 0, (congrArg (fun l => pm_look l 8) cq_70).trans rfl⟩
theorem lk_70_9 : Lk 70 9 (.getfield 78) 6 11 (0) := ⟨3, 241, (congrArg (fun l => pm_look l 9) cq_70).trans rfl⟩
theorem lk_70_12 : Lk 70 12 (.aload_n 0) 0 0 (0) := ⟨1, 0, (congrArg (fun l => pm_look l 12) cq_70).trans rfl⟩
theorem lk_70_13 : Lk 70 13 (.getfield 39) 6 4 (0) := ⟨3, 231, (congrArg (fun l => pm_look l 13) cq_70).trans rfl⟩
theorem lk_70_16 : Lk 70 16 (.if_icmp .ge 36) 0 0 (0) := ⟨3, 0, (congrArg (fun l => pm_look l 16) cq_70).trans rfl⟩
theorem lk_70_19 : Lk 70 19 (.aload_n 0) 0 0 (0) := ⟨1, 0, (congrArg (fun l => pm_look l 19) cq_70).trans rfl⟩
theorem lk_70_20 : Lk 70 20 (.iconst 0) 0 0 (0) := ⟨1, 0, (congrArg (fun l => pm_look l 20) cq_70).trans rfl⟩
theorem lk_70_21 : Lk 70 21 (.invokevirtual 94) 69 0 (0) := ⟨3, 584, (congrArg (fun l => pm_look l 21) cq_70).trans rfl⟩
theorem lk_70_24 : Lk 70 24 (.bipush 32) 0 0 (0) := ⟨2, 0, (congrArg (fun l => pm_look l 24) cq_70).trans rfl⟩
theorem lk_70_26 : Lk 70 26 (.if_icmp .eq 13) 0 0 (0) := ⟨3, 0, (congrArg (fun l => pm_look l 26) cq_70).trans rfl⟩
theorem lk_70_29 : Lk 70 29 (.aload_n 0) 0 0 (0) := ⟨1, 0, (congrArg (fun l => pm_look l 29) cq_70).trans rfl⟩
theorem lk_70_30 : Lk 70 30 (.iconst 0) 0 0 (0) := ⟨1, 0, (congrArg (fun l => pm_look l 30) cq_70).trans rfl⟩
theorem lk_70_31 : Lk 70 31 (.invokevirtual 94) 69 0 (0) := ⟨3, 584, (congrArg (fun l => pm_look l 31) cq_70).trans rfl⟩
theorem lk_70_34 : Lk 70 34 (.bipush 10) 0 0 (0) := ⟨2, 0, (congrArg (fun l => pm_look l 34) cq_70).trans rfl⟩
theorem lk_70_36 : Lk 70 36 (.if_icmp .ne 16) 0 0 (0) := ⟨3, 0, (congrArg (fun l => pm_look l 36) cq_70).trans rfl⟩
theorem lk_70_39 : Lk 70 39 (.aload_n 0) 0 0 (0) := ⟨1, 0, (congrArg (fun l => pm_look l 39) cq_70).trans rfl⟩
theorem lk_70_40 : Lk 70 40 (.dup) 0 0 (0) := ⟨1, 0, (congrArg (fun l => pm_look l 40) cq_70).trans rfl⟩
theorem lk_70_41 : Lk 70 41 (.getfield 78) 6 11 (0) := ⟨3, 241, (congrArg (fun l => pm_look l 41) cq_70).trans rfl⟩
theorem lk_70_44 : Lk 70 44 (.iconst 1) 0 0 (0) := ⟨1, 0, (congrArg (fun l => pm_look l 44) cq_70).trans rfl⟩
theorem lk_70_45 : Lk 70 45 (.iadd) 0 0 (0) := ⟨1, 0, (congrArg (fun l => pm_look l 45) cq_70).trans rfl⟩
theorem lk_70_46 : Lk 70 46 (.putfield 78) 6 11 (0) := ⟨3, 241, (congrArg (fun l => pm_look l 46) cq_70).trans rfl⟩
theorem lk_70_49 : Lk 70 49 (.goto (-41)) 0 0 (0) := ⟨3, 0, (congrArg (fun l => pm_look l 49) cq_70).trans rfl⟩
theorem lk_70_52 : Lk 70 52 (.aload_n 0) 0 0 (0) := ⟨1, 0, (congrArg (fun l => pm_look l 52) cq_70).trans rfl⟩
theorem lk_70_53 : Lk 70 53 (.aload_n 0) 0 0 (0) := ⟨1, 0, (congrArg (fun l => pm_look l 53) cq_70).trans rfl⟩
theorem lk_70_54 : Lk 70 54 (.getfield 78) 6 11 (0) := ⟨3, 241, (congrArg (fun l => pm_look l 54) cq_70).trans rfl⟩
theorem lk_70_57 : Lk 70 57 (.aload_n 0) 0 0 (0) := ⟨1, 0, (congrArg (fun l => pm_look l 57) cq_70).trans rfl⟩
theorem lk_70_58 : Lk 70 58 (.getfield 39) 6 4 (0) := ⟨3, 231, (congrArg (fun l => pm_look l 58) cq_70).trans rfl⟩
theorem lk_70_61 : Lk 70 61 (.if_icmp .ge 14) 0 0 (0) := ⟨3, 0, (congrArg (fun l => pm_look l 61) cq_70).trans rfl⟩
theorem lk_70_64 : Lk 70 64 (.aload_n 0) 0 0 (0) := ⟨1, 0, (congrArg (fun l => pm_look l 64) cq_70).trans rfl⟩
theorem lk_70_65 : Lk 70 65 (.iconst 0) 0 0 (0) := ⟨1, 0, (congrArg (fun l => pm_look l 65) cq_70).trans rfl⟩
theorem lk_70_66 : Lk 70 66 (.invokevirtual 94) 69 0 (0) := ⟨3, 584, (congrArg (fun l => pm_look l 66) cq_70).trans rfl⟩
theorem lk_70_69 : Lk 70 69 (.invokestatic 142) 71 0 (0) := ⟨3, 588, (congrArg (fun l => pm_look l 69) cq_70).trans rfl⟩
theorem lk_70_72 : Lk 70 72 (.goto 4) 0 0 (0) := ⟨3, 0, (congrArg (fun l => pm_look l 72) cq_70).trans rfl⟩
theorem lk_70_75 : Lk 70 75 (.iconst 0) 0 0 (0) := ⟨1, 0, (congrArg (fun l => pm_look l 75) cq_70).trans rfl⟩
theorem lk_70_76 : Lk 70 76 (.putfield 65) 6 10 (0) := ⟨3, 240, (congrArg (fun l => pm_look l 76) cq_70).trans rfl⟩
theorem lk_70_79 : Lk 70 79 (.aload_n 0) 0 0 (0) := ⟨1, 0, (congrArg (fun l => pm_look l 79) cq_70).trans rfl⟩
theorem lk_70_80 : Lk 70 80 (.aload_n 0) 0 0 (0) := ⟨1, 0, (congrArg (fun l => pm_look l 80) cq_70).trans rfl⟩
theorem lk_70_81 : Lk 70 81 (.getfield 65) 6 10 (0) := ⟨3, 240, (congrArg (fun l => pm_look l 81) cq_70).trans rfl⟩
theorem lk_70_84 : Lk 70 84 (.iconst 3) 0 0 (0) := ⟨1, 0, (congrArg (fun l => pm_look l 84) cq_70).trans rfl⟩
theorem lk_70_85 : Lk 70 85 (.if_icmp .eq 11) 0 0 (0) := ⟨3, 0, (congrArg (fun l => pm_look l 85) cq_70).trans rfl⟩
theorem lk_70_88 : Lk 70 88 (.aload_n 0) 0 0 (0) := ⟨1, 0, (congrArg (fun l => pm_look l 88) cq_70).trans rfl⟩
theorem lk_70_89 : Lk 70 89 (.getfield 65) 6 10 (0) := ⟨3, 240, (congrArg (fun l => pm_look l 89) cq_70).trans rfl⟩
theorem lk_70_92 : Lk 70 92 (.iconst 4) 0 0 (0) := ⟨1, 0, (congrArg (fun l => pm_look l 92) cq_70).trans rfl⟩
theorem lk_70_93 : Lk 70 93 (.if_icmp .ne 7) 0 0 (0) := ⟨3, 0, (congrArg (fun l => pm_look l 93) cq_70).trans rfl⟩
theorem lk_70_96 : Lk 70 96 (.iconst 1) 0 0 (0) := ⟨1, 0, (congrArg (fun l => pm_look l 96) cq_70).trans rfl⟩
theorem lk_70_97 : Lk 70 97 (.goto 4) 0 0 (0) := ⟨3, 0, (congrArg (fun l => pm_look l 97) cq_70).trans rfl⟩
theorem lk_70_100 : Lk 70 100 (.iconst 0) 0 0 (0) := ⟨1, 0, (congrArg (fun l => pm_look l 100) cq_70).trans rfl⟩
theorem lk_70_101 : Lk 70 101 (.putfield 88) 6 12 (0) := ⟨3, 242, (congrArg (fun l => pm_look l 101) cq_70).trans rfl⟩
theorem lk_70_104 : Lk 70 104 (.aload_n 0) 0 0 (0) := ⟨1, 0, (congrArg (fun l => pm_look l 104) cq_70).trans rfl⟩
theorem lk_70_105 : Lk 70 105 (.iconst 0) 0 0 (0) := ⟨1, 0, (congrArg (fun l => pm_look l 105) cq_70).trans rfl⟩
theorem lk_70_106 : Lk 70 106 (.putfield 68) 6 13 (0) := ⟨3, 243, (congrArg (fun l => pm_look l 106) cq_70).trans rfl⟩
theorem lk_70_109 : Lk 70 109 (.aload_n 0) 0 0 (0) := ⟨1, 0, (congrArg (fun l => pm_look l 109) cq_70).trans rfl⟩
theorem lk_70_110 : Lk 70 110 (.getfield 65) 6 10 (0) := ⟨3, 240, (congrArg (fun l => pm_look l 110) cq_70).trans rfl⟩
theorem lk_70_113 : Lk 70 113 (.iconst 1) 0 0 (0) := ⟨1, 0, (congrArg (fun l => pm_look l 113) cq_70).trans rfl⟩
theorem lk_70_114 : Lk 70 114 (.if_icmp .eq 11) 0 0 (0) := ⟨3, 0, (congrArg (fun l => pm_look l 114) cq_70).trans rfl⟩
theorem lk_70_117 : Lk 70 117 (.aload_n 0) 0 0 (0) := ⟨1, 0, (congrArg (fun l => pm_look l 117) cq_70).trans rfl⟩
theorem lk_70_118 : Lk 70 118 (.getfield 65) 6 10 (0) := ⟨3, 240, (congrArg (fun l => pm_look l 118) cq_70).trans rfl⟩
theorem lk_70_121 : Lk 70 121 (.iconst 2) 0 0 (0) := ⟨1, 0, (congrArg (fun l => pm_look l 121) cq_70).trans rfl⟩
theorem lk_70_122 : Lk 70 122 (.if_icmp .ne 7) 0 0 (0) := ⟨3, 0, (congrArg (fun l => pm_look l 122) cq_70).trans rfl⟩
theorem lk_70_125 : Lk 70 125 (.iconst 1) 0 0 (0) := ⟨1, 0, (congrArg (fun l => pm_look l 125) cq_70).trans rfl⟩
theorem lk_70_126 : Lk 70 126 (.goto 4) 0 0 (0) := ⟨3, 0, (congrArg (fun l => pm_look l 126) cq_70).trans rfl⟩
theorem lk_70_129 : Lk 70 129 (.iconst 0) 0 0 (0) := ⟨1, 0, (congrArg (fun l => pm_look l 129) cq_70).trans rfl⟩
theorem lk_70_130 : Lk 70 130 (.istore_n 1) 0 0 (0) := ⟨1, 0, (congrArg (fun l => pm_look l 130) cq_70).trans rfl⟩
theorem lk_70_131 : Lk 70 131 (.iload_n 1) 0 0 (0) := ⟨1, 0, (congrArg (fun l => pm_look l 131) cq_70).trans rfl⟩
theorem lk_70_132 : Lk 70 132 (.ifCond .eq 75) 0 0 (0) := ⟨3, 0, (congrArg (fun l => pm_look l 132) cq_70).trans rfl⟩
theorem lk_70_135 : Lk 70 135 (.aload_n 0) 0 0 (0) := ⟨1, 0, (congrArg (fun l => pm_look l 135) cq_70).trans rfl⟩
theorem lk_70_136 : Lk 70 136 (.getfield 78) 6 11 (0) := ⟨3, 241, (congrArg (fun l => pm_look l 136) cq_70).trans rfl⟩
theorem lk_70_139 : Lk 70 139 (.aload_n 0) 0 0 (0) := ⟨1, 0, (congrArg (fun l => pm_look l 139) cq_70).trans rfl⟩
theorem lk_70_140 : Lk 70 140 (.getfield 88) 6 12 (0) := ⟨3, 242, (congrArg (fun l => pm_look l 140) cq_70).trans rfl⟩
theorem lk_70_143 : Lk 70 143 (.iadd) 0 0 (0) := ⟨1, 0, (congrArg (fun l => pm_look l 143) cq_70).trans rfl⟩
theorem lk_70_144 : Lk 70 144 (.aload_n 0) 0 0 (0) := ⟨1, 0, (congrArg (fun l => pm_look l 144) cq_70).trans rfl⟩
theorem lk_70_145 : Lk 70 145 (.getfield 39) 6 4 (0) := ⟨3, 231, (congrArg (fun l => pm_look l 145) cq_70).trans rfl⟩
theorem lk_70_148 : Lk 70 148 (.if_icmp .ge 59) 0 0 (0) := ⟨3, 0, (congrArg (fun l => pm_look l 148) cq_70).trans rfl⟩
theorem lk_70_151 : Lk 70 151 (.aload_n 0) 0 0 (0) := ⟨1, 0, (congrArg (fun l => pm_look l 151) cq_70).trans rfl⟩
theorem lk_70_152 : Lk 70 152 (.aload_n 0) 0 0 (0) := ⟨1, 0, (congrArg (fun l => pm_look l 152) cq_70).trans rfl⟩
theorem lk_70_153 : Lk 70 153 (.getfield 88) 6 12 (0) := ⟨3, 242, (congrArg (fun l => pm_look l 153) cq_70).trans rfl⟩
theorem lk_70_156 : Lk 70 156 (.invokevirtual 94) 69 0 (0) := ⟨3, 584, (congrArg (fun l => pm_look l 156) cq_70).trans rfl⟩
theorem lk_70_159 : Lk 70 159 (.invokestatic 142) 71 0 (0) := ⟨3, 588, (congrArg (fun l => pm_look l 159) cq_70).trans rfl⟩
theorem lk_70_162 : Lk 70 162 (.aload_n 0) 0 0 (0) := ⟨1, 0, (congrArg (fun l => pm_look l 162) cq_70).trans rfl⟩
theorem lk_70_163 : Lk 70 163 (.getfield 65) 6 10 (0) := ⟨3, 240, (congrArg (fun l => pm_look l 163) cq_70).trans rfl⟩
theorem lk_70_166 : Lk 70 166 (.if_icmp .ne 41) 0 0 (0) := ⟨3, 0, (congrArg (fun l => pm_look l 166) cq_70).trans rfl⟩
theorem lk_70_169 : Lk 70 169 (.aload_n 0) 0 0 (0) := ⟨1, 0, (congrArg (fun l => pm_look l 169) cq_70).trans rfl⟩
theorem lk_70_170 : Lk 70 170 (.aload_n 0) 0 0 (0) := ⟨1, 0, (congrArg (fun l => pm_look l 170) cq_70).trans rfl⟩
theorem lk_70_171 : Lk 70 171 (.getfield 68) 6 13 (0) := ⟨3, 243, (congrArg (fun l => pm_look l 171) cq_70).trans rfl⟩
theorem lk_70_174 : Lk 70 174 (.bipush 27) 0 0 (0) := ⟨2, 0, (congrArg (fun l => pm_look l 174) cq_70).trans rfl⟩
theorem lk_70_176 : Lk 70 176 (.imul) 0 0 (0) := ⟨1, 0, (congrArg (fun l => pm_look l 176) cq_70).trans rfl⟩
theorem lk_70_177 : Lk 70 177 (.aload_n 0) 0 0 (0) := ⟨1, 0, (congrArg (fun l => pm_look l 177) cq_70).trans rfl⟩
theorem lk_70_178 : Lk 70 178 (.aload_n 0) 0 0 (0) := ⟨1, 0, (congrArg (fun l => pm_look l 178) cq_70).trans rfl⟩
theorem lk_70_179 : Lk 70 179 (.getfield 88) 6 12 (0) := ⟨3, 242, (congrArg (fun l => pm_look l 179) cq_70).trans rfl⟩
theorem lk_70_182 : Lk 70 182 (.invokevirtual 94) 69 0 (0) := ⟨3, 584, (congrArg (fun l => pm_look l 182) cq_70).trans rfl⟩
theorem lk_70_185 : Lk 70 185 (.iadd) 0 0 (0) := ⟨1, 0, (congrArg (fun l => pm_look l 185) cq_70).trans rfl⟩
theorem lk_70_186 : Lk 70 186 (.bipush 97) 0 0 (0) := ⟨2, 0, (congrArg (fun l => pm_look l 186) cq_70).trans rfl⟩
theorem lk_70_188 : Lk 70 188 (.isub) 0 0 (0) := ⟨1, 0, (congrArg (fun l => pm_look l 188) cq_70).trans rfl⟩
theorem lk_70_189 : Lk 70 189 (.iconst 1) 0 0 (0) := ⟨1, 0, (congrArg (fun l => pm_look l 189) cq_70).trans rfl⟩
theorem lk_70_190 : Lk 70 190 (.iadd) 0 0 (0) := ⟨1, 0, (congrArg (fun l => pm_look l 190) cq_70).trans rfl⟩
theorem lk_70_191 : Lk 70 191 (.putfield 68) 6 13 (0) := ⟨3, 243, (congrArg (fun l => pm_look l 191) cq_70).trans rfl⟩
theorem lk_70_194 : Lk 70 194 (.aload_n 0) 0 0 (0) := ⟨1, 0, (congrArg (fun l => pm_look l 194) cq_70).trans rfl⟩
theorem lk_70_195 : Lk 70 195 (.dup) 0 0 (0) := ⟨1, 0, (congrArg (fun l => pm_look l 195) cq_70).trans rfl⟩
theorem lk_70_196 : Lk 70 196 (.getfield 88) 6 12 (0) := ⟨3, 242, (congrArg (fun l => pm_look l 196) cq_70).trans rfl⟩
theorem lk_70_199 : Lk 70 199 (.iconst 1) 0 0 (0) := ⟨1, 0, (congrArg (fun l => pm_look l 199) cq_70).trans rfl⟩
theorem lk_70_200 : Lk 70 200 (.iadd) 0 0 (0) := ⟨1, 0, (congrArg (fun l => pm_look l 200) cq_70).trans rfl⟩
theorem lk_70_201 : Lk 70 201 (.putfield 88) 6 12 (0) := ⟨3, 242, (congrArg (fun l => pm_look l 201) cq_70).trans rfl⟩
theorem lk_70_204 : Lk 70 204 (.goto (-73)) 0 0 (0) := ⟨3, 0, (congrArg (fun l => pm_look l 204) cq_70).trans rfl⟩
theorem lk_70_207 : Lk 70 207 (.aload_n 0) 0 0 (0) := ⟨1, 0, (congrArg (fun l => pm_look l 207) cq_70).trans rfl⟩
theorem lk_70_208 : Lk 70 208 (.aload_n 0) 0 0 (0) := ⟨1, 0, (congrArg (fun l => pm_look l 208) cq_70).trans rfl⟩
theorem lk_70_209 : Lk 70 209 (.getfield 78) 6 11 (0) := ⟨3, 241, (congrArg (fun l => pm_look l 209) cq_70).trans rfl⟩
theorem lk_70_212 : Lk 70 212 (.aload_n 0) 0 0 (0) := ⟨1, 0, (congrArg (fun l => pm_look l 212) cq_70).trans rfl⟩
theorem lk_70_213 : Lk 70 213 (.getfield 88) 6 12 (0) := ⟨3, 242, (congrArg (fun l => pm_look l 213) cq_70).trans rfl⟩
theorem lk_70_216 : Lk 70 216 (.iadd) 0 0 (0) := ⟨1, 0, (congrArg (fun l => pm_look l 216) cq_70).trans rfl⟩
theorem lk_70_217 : Lk 70 217 (.putfield 45) 6 9 (0) := ⟨3, 239, (congrArg (fun l => pm_look l 217) cq_70).trans rfl⟩
theorem lk_70_220 : Lk 70 220 (.aload_n 0) 0 0 (0) := ⟨1, 0, (congrArg (fun l => pm_look l 220) cq_70).trans rfl⟩
theorem lk_70_221 : Lk 70 221 (.getfield 88) 6 12 (0) := ⟨3, 242, (congrArg (fun l => pm_look l 221) cq_70).trans rfl⟩
theorem lk_70_224 : Lk 70 224 (.bipush 6) 0 0 (0) := ⟨2, 0, (congrArg (fun l => pm_look l 224) cq_70).trans rfl⟩
theorem lk_70_226 : Lk 70 226 (.if_icmp .le 8) 0 0 (0) := ⟨3, 0, (congrArg (fun l => pm_look l 226) cq_70).trans rfl⟩
theorem lk_70_229 : Lk 70 229 (.aload_n 0) 0 0 (0) := ⟨1, 0, (congrArg (fun l => pm_look l 229) cq_70).trans rfl⟩
theorem lk_70_230 : Lk 70 230 (.iconst 4) 0 0 (0) := ⟨1, 0, (congrArg (fun l => pm_look l 230) cq_70).trans rfl⟩
theorem lk_70_231 : Lk 70 231 (.putfield 65) 6 10 (0) := ⟨3, 240, (congrArg (fun l => pm_look l 231) cq_70).trans rfl⟩
set_option maxRecDepth 100000 in
theorem lk_70_234 : Lk 70 234 (.return_) 0 0 (0) := ⟨1, 0, (congrArg (fun l => pm_look l 234) cq_70).trans rfl⟩
theorem cq_71 : pm_code 71 = cd_71 := rfl
theorem lk_71_0 : Lk 71 0 (.iload_n 0) 0 0 (0) := ⟨1, 0, (congrArg (fun l => pm_look l 0) cq_71).trans rfl⟩
theorem lk_71_1 : Lk 71 1 (.bipush 97) 0 0 (0) := ⟨2, 0, (congrArg (fun l => pm_look l 1) cq_71).trans rfl⟩
theorem lk_71_3 : Lk 71 3 (.if_icmp .lt 11) 0 0 (0) := ⟨3, 0, (congrArg (fun l => pm_look l 3) cq_71).trans rfl⟩
theorem lk_71_6 : Lk 71 6 (.iload_n 0) 0 0 (0) := ⟨1, 0, (congrArg (fun l => pm_look l 6) cq_71).trans rfl⟩
theorem lk_71_7 : Lk 71 7 (.bipush 122) 0 0 (0) := ⟨2, 0, (congrArg (fun l => pm_look l 7) cq_71).trans rfl⟩
theorem lk_71_9 : Lk 71 9 (.if_icmp .gt 5) 0 0 (0) := ⟨3, 0, (congrArg (fun l => pm_look l 9) cq_71).trans rfl⟩
theorem lk_71_12 : Lk 71 12 (.iconst 1) 0 0 (0) := ⟨1, 0, (congrArg (fun l => pm_look l 12) cq_71).trans rfl⟩
theorem lk_71_13 : Lk 71 13 (.ireturn) 0 0 (0) := ⟨1, 0, (congrArg (fun l => pm_look l 13) cq_71).trans rfl⟩
theorem lk_71_14 : Lk 71 14 (.iload_n 0) 0 0 (0) := ⟨1, 0, (congrArg (fun l => pm_look l 14) cq_71).trans rfl⟩
theorem lk_71_15 : Lk 71 15 (.bipush 48) 0 0 (0) := ⟨2, 0, (congrArg (fun l => pm_look l 15) cq_71).trans rfl⟩
theorem lk_71_17 : Lk 71 17 (.if_icmp .lt 9) 0 0 (0) := ⟨3, 0, (congrArg (fun l => pm_look l 17) cq_71).trans rfl⟩
theorem lk_71_20 : Lk 71 20 (.iload_n 0) 0 0 (0) := ⟨1, 0, (congrArg (fun l => pm_look l 20) cq_71).trans rfl⟩
theorem lk_71_21 : Lk 71 21 (.bipush 57) 0 0 (0) := ⟨2, 0, (congrArg (fun l => pm_look l 21) cq_71).trans rfl⟩
theorem lk_71_23 : Lk 71 23 (.if_icmp .le 9) 0 0 (0) := ⟨3, 0, (congrArg (fun l => pm_look l 23) cq_71).trans rfl⟩
theorem lk_71_26 : Lk 71 26 (.iload_n 0) 0 0 (0) := ⟨1, 0, (congrArg (fun l => pm_look l 26) cq_71).trans rfl⟩
theorem lk_71_27 : Lk 71 27 (.bipush 46) 0 0 (0) := ⟨2, 0, (congrArg (fun l => pm_look l 27) cq_71).trans rfl⟩
theorem lk_71_29 : Lk 71 29 (.if_icmp .ne 5) 0 0 (0) := ⟨3, 0, (congrArg (fun l => pm_look l 29) cq_71).trans rfl⟩
theorem lk_71_32 : Lk 71 32 (.iconst 2) 0 0 (0) := ⟨1, 0, (congrArg (fun l => pm_look l 32) cq_71).trans rfl⟩
theorem lk_71_33 : Lk 71 33 (.ireturn) 0 0 (0) := ⟨1, 0, (congrArg (fun l => pm_look l 33) cq_71).trans rfl⟩
theorem lk_71_34 : Lk 71 34 (.iload_n 0) 0 0 (0) := ⟨1, 0, (congrArg (fun l => pm_look l 34) cq_71).trans rfl⟩
theorem lk_71_35 : Lk 71 35 (.bipush 59) 0 0 (0) := ⟨2, 0, (congrArg (fun l => pm_look l 35) cq_71).trans rfl⟩
theorem lk_71_37 : Lk 71 37 (.if_icmp .ne 7) 0 0 (0) := ⟨3, 0, (congrArg (fun l => pm_look l 37) cq_71).trans rfl⟩
theorem lk_71_40 : Lk 71 40 (.iconst 3) 0 0 (0) := ⟨1, 0, (congrArg (fun l => pm_look l 40) cq_71).trans rfl⟩
theorem lk_71_41 : Lk 71 41 (.goto 4) 0 0 (0) := ⟨3, 0, (congrArg (fun l => pm_look l 41) cq_71).trans rfl⟩
theorem lk_71_44 : Lk 71 44 (.iconst 4) 0 0 (0) := ⟨1, 0, (congrArg (fun l => pm_look l 44) cq_71).trans rfl⟩
theorem lk_71_45 : Lk 71 45 (.ireturn) 0 0 (0) := ⟨1, 0, (congrArg (fun l => pm_look l 45) cq_71).trans rfl⟩
theorem cq_72 : pm_code 72 = cd_72 := rfl
theorem lk_72_0 : Lk 72 0 (.aload_n 0) 0 0 (0) := ⟨1, 0, (congrArg (fun l => pm_look l 0) cq_72).trans rfl⟩
theorem lk_72_1 : Lk 72 1 (.invokespecial 5) 999 0 (0) := ⟨3, 433, (congrArg (fun l => pm_look l 1) cq_72).trans rfl⟩
theorem lk_72_4 : Lk 72 4 (.aload_n 0) 0 0 (0) := ⟨1, 0, (congrArg (fun l => pm_look l 4) cq_72).trans rfl⟩
theorem lk_72_5 : Lk 72 5 (.bipush 21) 0 0 (0) := ⟨2, 0, (congrArg (fun l => pm_look l 5) cq_72).trans rfl⟩
theorem lk_72_7 : Lk 72 7 (.newarray .int) 100 0 (0) := ⟨2, 0, (congrArg (fun l => pm_look l 7) cq_72).trans rfl⟩
theorem lk_72_9 : Lk 72 9 (.putfield 11) 7 2 (2) := ⟨3, 436, (congrArg (fun l => pm_look l 9) cq_72).trans rfl⟩
theorem lk_72_12 : Lk 72 12 (.aload_n 0) 0 0 (0) := ⟨1, 0, (congrArg (fun l => pm_look l 12) cq_72).trans rfl⟩
theorem lk_72_13 : Lk 72 13 (.iconst 0) 0 0 (0) := ⟨1, 0, (congrArg (fun l => pm_look l 13) cq_72).trans rfl⟩
theorem lk_72_14 : Lk 72 14 (.newarray .long) 101 0 (0) := ⟨2, 0, (congrArg (fun l => pm_look l 14) cq_72).trans rfl⟩
theorem lk_72_16 : Lk 72 16 (.putfield 15) 7 3 (2) := ⟨3, 437, (congrArg (fun l => pm_look l 16) cq_72).trans rfl⟩
theorem lk_72_19 : Lk 72 19 (.aload_n 0) 0 0 (0) := ⟨1, 0, (congrArg (fun l => pm_look l 19) cq_72).trans rfl⟩
theorem lk_72_20 : Lk 72 20 (.aload_n 1) 0 0 (0) := ⟨1, 0, (congrArg (fun l => pm_look l 20) cq_72).trans rfl⟩
theorem lk_72_21 : Lk 72 21 (.putfield 19) 7 0 (2) := ⟨3, 434, (congrArg (fun l => pm_look l 21) cq_72).trans rfl⟩
theorem lk_72_24 : Lk 72 24 (.aload_n 0) 0 0 (0) := ⟨1, 0, (congrArg (fun l => pm_look l 24) cq_72).trans rfl⟩
theorem lk_72_25 : Lk 72 25 (.aload_n 1) 0 0 (0) := ⟨1, 0, (congrArg (fun l => pm_look l 25) cq_72).trans rfl⟩
theorem lk_72_26 : Lk 72 26 (.getfield 23) 0 0 (2) := ⟨3, 381, (congrArg (fun l => pm_look l 26) cq_72).trans rfl⟩
theorem lk_72_29 : Lk 72 29 (.putfield 29) 7 1 (2) := ⟨3, 435, (congrArg (fun l => pm_look l 29) cq_72).trans rfl⟩
theorem lk_72_32 : Lk 72 32 (.return_) 0 0 (0) := ⟨1, 0, (congrArg (fun l => pm_look l 32) cq_72).trans rfl⟩
theorem cq_73 : pm_code 73 = cd_73 := rfl
theorem lk_73_0 : Lk 73 0 (.aload_n 0) 0 0 (0) := ⟨1, 0, (congrArg (fun l => pm_look l 0) cq_73).trans rfl⟩
theorem lk_73_1 : Lk 73 1 (.getfield 30) 7 4 (0) := ⟨3, 438, (congrArg (fun l => pm_look l 1) cq_73).trans rfl⟩
theorem lk_73_4 : Lk 73 4 (.ifCond .ne 7) 0 0 (0) := ⟨3, 0, (congrArg (fun l => pm_look l 4) cq_73).trans rfl⟩
theorem lk_73_7 : Lk 73 7 (.aload_n 0) 0 0 (0) := ⟨1, 0, (congrArg (fun l => pm_look l 7) cq_73).trans rfl⟩
theorem lk_73_8 : Lk 73 8 (.invokevirtual 34) 74 0 (0) := ⟨3, 1063, (congrArg (fun l => pm_look l 8) cq_73).trans rfl⟩
theorem lk_73_11 : Lk 73 11 (.aload_n 0) 0 0 (0) := ⟨1, 0, (congrArg (fun l => pm_look l 11) cq_73).trans rfl⟩
theorem lk_73_12 : Lk 73 12 (.getfield 19) 7 0 (2) := ⟨3, 434, (congrArg (fun l => pm_look l 12) cq_73).trans rfl⟩
theorem lk_73_15 : Lk 73 15 (.aload_n 0) 0 0 (0) := ⟨1, 0, (congrArg (fun l => pm_look l 15) cq_73).trans rfl⟩
theorem lk_73_16 : Lk 73 16 (.getfield 29) 7 1 (2) := ⟨3, 435, (congrArg (fun l => pm_look l 16) cq_73).trans rfl⟩
theorem lk_73_19 : Lk 73 19 (.invokevirtual 37) 86 0 (0) := ⟨3, 1073, (congrArg (fun l => pm_look l 19) cq_73).trans rfl⟩
theorem lk_73_22 : Lk 73 22 (.aload_n 0) 0 0 (0) := ⟨1, 0, (congrArg (fun l => pm_look l 22) cq_73).trans rfl⟩
theorem lk_73_23 : Lk 73 23 (.getfield 29) 7 1 (2) := ⟨3, 435, (congrArg (fun l => pm_look l 23) cq_73).trans rfl⟩
theorem lk_73_26 : Lk 73 26 (.invokevirtual 43) 87 0 (0) := ⟨3, 1075, (congrArg (fun l => pm_look l 26) cq_73).trans rfl⟩
theorem lk_73_29 : Lk 73 29 (.invokevirtual 46) 2 0 (0) := ⟨3, 1074, (congrArg (fun l => pm_look l 29) cq_73).trans rfl⟩
theorem lk_73_32 : Lk 73 32 (.istore_n 2) 0 0 (0) := ⟨1, 0, (congrArg (fun l => pm_look l 32) cq_73).trans rfl⟩
theorem lk_73_33 : Lk 73 33 (.aload_n 0) 0 0 (0) := ⟨1, 0, (congrArg (fun l => pm_look l 33) cq_73).trans rfl⟩
theorem lk_73_34 : Lk 73 34 (.getfield 30) 7 4 (0) := ⟨3, 438, (congrArg (fun l => pm_look l 34) cq_73).trans rfl⟩
theorem lk_73_37 : Lk 73 37 (.iload_n 1) 0 0 (0) := ⟨1, 0, (congrArg (fun l => pm_look l 37) cq_73).trans rfl⟩
theorem lk_73_38 : Lk 73 38 (.if_icmp .gt 74) 0 0 (0) := ⟨3, 0, (congrArg (fun l => pm_look l 38) cq_73).trans rfl⟩
theorem lk_73_41 : Lk 73 41 (.aload_n 0) 0 0 (0) := ⟨1, 0, (congrArg (fun l => pm_look l 41) cq_73).trans rfl⟩
theorem lk_73_42 : Lk 73 42 (.getfield 30) 7 4 (0) := ⟨3, 438, (congrArg (fun l => pm_look l 42) cq_73).trans rfl⟩
theorem lk_73_45 : Lk 73 45 (.bipush 21) 0 0 (0) := ⟨2, 0, (congrArg (fun l => pm_look l 45) cq_73).trans rfl⟩
theorem lk_73_47 : Lk 73 47 (.if_icmp .ge 65) 0 0 (0) := ⟨3, 0, (congrArg (fun l => pm_look l 47) cq_73).trans rfl⟩
theorem lk_73_50 : Lk 73 50 (.aload_n 0) 0 0 (0) := ⟨1, 0, (congrArg (fun l => pm_look l 50) cq_73).trans rfl⟩
theorem lk_73_51 : Lk 73 51 (.getfield 30) 7 4 (0) := ⟨3, 438, (congrArg (fun l => pm_look l 51) cq_73).trans rfl⟩
theorem lk_73_54 : Lk 73 54 (.ifCond .le 25) 0 0 (0) := ⟨3, 0, (congrArg (fun l => pm_look l 54) cq_73).trans rfl⟩
theorem lk_73_57 : Lk 73 57 (.aload_n 0) 0 0 (0) := ⟨1, 0, (congrArg (fun l => pm_look l 57) cq_73).trans rfl⟩
theorem lk_73_58 : Lk 73 58 (.getfield 11) 7 2 (2) := ⟨3, 436, (congrArg (fun l => pm_look l 58) cq_73).trans rfl⟩
theorem lk_73_61 : Lk 73 61 (.aload_n 0) 0 0 (0) := ⟨1, 0, (congrArg (fun l => pm_look l 61) cq_73).trans rfl⟩
theorem lk_73_62 : Lk 73 62 (.getfield 30) 7 4 (0) := ⟨3, 438, (congrArg (fun l => pm_look l 62) cq_73).trans rfl⟩
theorem lk_73_65 : Lk 73 65 (.iconst 1) 0 0 (0) := ⟨1, 0, (congrArg (fun l => pm_look l 65) cq_73).trans rfl⟩
theorem lk_73_66 : Lk 73 66 (.isub) 0 0 (0) := ⟨1, 0, (congrArg (fun l => pm_look l 66) cq_73).trans rfl⟩
theorem lk_73_67 : Lk 73 67 (.iaload) 0 0 (0) := ⟨1, 0, (congrArg (fun l => pm_look l 67) cq_73).trans rfl⟩
theorem lk_73_68 : Lk 73 68 (.ifCond .le 11) 0 0 (0) := ⟨3, 0, (congrArg (fun l => pm_look l 68) cq_73).trans rfl⟩
theorem lk_73_71 : Lk 73 71 (.aload_n 0) 0 0 (0) := ⟨1, 0, (congrArg (fun l => pm_look l 71) cq_73).trans rfl⟩
theorem lk_73_72 : Lk 73 72 (.aload_n 0) 0 0 (0) := ⟨1, 0, (congrArg (fun l => pm_look l 72) cq_73).trans rfl⟩
theorem lk_73_73 : Lk 73 73 (.getfield 30) 7 4 (0) := ⟨3, 438, (congrArg (fun l => pm_look l 73) cq_73).trans rfl⟩
theorem lk_73_76 : Lk 73 76 (.invokevirtual 50) 79 0 (0) := ⟨3, 1088, (congrArg (fun l => pm_look l 76) cq_73).trans rfl⟩
theorem lk_73_79 : Lk 73 79 (.aload_n 0) 0 0 (0) := ⟨1, 0, (congrArg (fun l => pm_look l 79) cq_73).trans rfl⟩
theorem lk_73_80 : Lk 73 80 (.getfield 11) 7 2 (2) := ⟨3, 436, (congrArg (fun l => pm_look l 80) cq_73).trans rfl⟩
theorem lk_73_83 : Lk 73 83 (.aload_n 0) 0 0 (0) := ⟨1, 0, (congrArg (fun l => pm_look l 83) cq_73).trans rfl⟩
theorem lk_73_84 : Lk 73 84 (.getfield 30) 7 4 (0) := ⟨3, 438, (congrArg (fun l => pm_look l 84) cq_73).trans rfl⟩
theorem lk_73_87 : Lk 73 87 (.aload_n 0) 0 0 (0) := ⟨1, 0, (congrArg (fun l => pm_look l 87) cq_73).trans rfl⟩
theorem lk_73_88 : Lk 73 88 (.getfield 15) 7 3 (2) := ⟨3, 437, (congrArg (fun l => pm_look l 88) cq_73).trans rfl⟩
theorem lk_73_91 : Lk 73 91 (.iload_n 2) 0 0 (0) := ⟨1, 0, (congrArg (fun l => pm_look l 91) cq_73).trans rfl⟩
theorem lk_73_92 : Lk 73 92 (.laload) 0 0 (0) := ⟨1, 0, (congrArg (fun l => pm_look l 92) cq_73).trans rfl⟩
theorem lk_73_93 : Lk 73 93 (.ldc2_w 54) 0 0 (63) := ⟨3, 1086, (congrArg (fun l => pm_look l 93) cq_73).trans rfl⟩
theorem lk_73_96 : Lk 73 96 (.land) 0 0 (0) := ⟨1, 0, (congrArg (fun l => pm_look l 96) cq_73).trans rfl⟩
theorem lk_73_97 : Lk 73 97 (.l2i) 0 0 (0) := ⟨1, 0, (congrArg (fun l => pm_look l 97) cq_73).trans rfl⟩
theorem lk_73_98 : Lk 73 98 (.iastore) 0 0 (0) := ⟨1, 0, (congrArg (fun l => pm_look l 98) cq_73).trans rfl⟩
theorem lk_73_99 : Lk 73 99 (.aload_n 0) 0 0 (0) := ⟨1, 0, (congrArg (fun l => pm_look l 99) cq_73).trans rfl⟩
theorem lk_73_100 : Lk 73 100 (.dup) 0 0 (0) := ⟨1, 0, (congrArg (fun l => pm_look l 100) cq_73).trans rfl⟩
theorem lk_73_101 : Lk 73 101 (.getfield 30) 7 4 (0) := ⟨3, 438, (congrArg (fun l => pm_look l 101) cq_73).trans rfl⟩
theorem lk_73_104 : Lk 73 104 (.iconst 1) 0 0 (0) := ⟨1, 0, (congrArg (fun l => pm_look l 104) cq_73).trans rfl⟩
theorem lk_73_105 : Lk 73 105 (.iadd) 0 0 (0) := ⟨1, 0, (congrArg (fun l => pm_look l 105) cq_73).trans rfl⟩
theorem lk_73_106 : Lk 73 106 (.putfield 30) 7 4 (0) := ⟨3, 438, (congrArg (fun l => pm_look l 106) cq_73).trans rfl⟩
theorem lk_73_109 : Lk 73 109 (.goto (-76)) 0 0 (0) := ⟨3, 0, (congrArg (fun l => pm_look l 109) cq_73).trans rfl⟩
theorem lk_73_112 : Lk 73 112 (.iload_n 1) 0 0 (0) := ⟨1, 0, (congrArg (fun l => pm_look l 112) cq_73).trans rfl⟩
theorem lk_73_113 : Lk 73 113 (.ifCond .lt 18) 0 0 (0) := ⟨3, 0, (congrArg (fun l => pm_look l 113) cq_73).trans rfl⟩
theorem lk_73_116 : Lk 73 116 (.iload_n 1) 0 0 (0) := ⟨1, 0, (congrArg (fun l => pm_look l 116) cq_73).trans rfl⟩
theorem lk_73_117 : Lk 73 117 (.bipush 21) 0 0 (0) := ⟨2, 0, (congrArg (fun l => pm_look l 117) cq_73).trans rfl⟩
theorem lk_73_119 : Lk 73 119 (.if_icmp .ge 12) 0 0 (0) := ⟨3, 0, (congrArg (fun l => pm_look l 119) cq_73).trans rfl⟩
theorem lk_73_122 : Lk 73 122 (.aload_n 0) 0 0 (0) := ⟨1, 0, (congrArg (fun l => pm_look l 122) cq_73).trans rfl⟩
theorem lk_73_123 : Lk 73 123 (.getfield 11) 7 2 (2) := ⟨3, 436, (congrArg (fun l => pm_look l 123) cq_73).trans rfl⟩
theorem lk_73_126 : Lk 73 126 (.iload_n 1) 0 0 (0) := ⟨1, 0, (congrArg (fun l => pm_look l 126) cq_73).trans rfl⟩
theorem lk_73_127 : Lk 73 127 (.iaload) 0 0 (0) := ⟨1, 0, (congrArg (fun l => pm_look l 127) cq_73).trans rfl⟩
theorem lk_73_128 : Lk 73 128 (.goto 4) 0 0 (0) := ⟨3, 0, (congrArg (fun l => pm_look l 128) cq_73).trans rfl⟩
theorem lk_73_131 : Lk 73 131 (.iconst (-1)) 0 0 (0) := ⟨1, 0, (congrArg (fun l => pm_look l 131) cq_73).trans rfl⟩
theorem lk_73_132 : Lk 73 132 (.ireturn) 0 0 (0) := ⟨1, 0, (congrArg (fun l => pm_look l 132) cq_73).trans rfl⟩
theorem cq_74 : pm_code 74 = cd_74 := rfl
theorem lk_74_0 : Lk 74 0 (.aload_n 0) 0 0 (0) := ⟨1, 0, (congrArg (fun l => pm_look l 0) cq_74).trans rfl⟩
theorem lk_74_1 : Lk 74 1 (.getfield 19) 7 0 (2) := ⟨3, 434, (congrArg (fun l => pm_look l 1) cq_74).trans rfl⟩
theorem lk_74_4 : Lk 74 4 (.invokevirtual 56) 6 0 (0) := ⟨3, 1067, (congrArg (fun l => pm_look l 4) cq_74).trans rfl⟩
theorem lk_74_7 : Lk 74 7 (.aload_n 0) 0 0 (0) := ⟨1, 0, (congrArg (fun l => pm_look l 7) cq_74).trans rfl⟩
theorem lk_74_8 : Lk 74 8 (.getfield 15) 7 3 (2) := ⟨3, 437, (congrArg (fun l => pm_look l 8) cq_74).trans rfl⟩
theorem lk_74_11 : Lk 74 11 (.arraylength) 0 0 (0) := ⟨1, 0, (congrArg (fun l => pm_look l 11) cq_74).trans rfl⟩
theorem lk_74_12 : Lk 74 12 (.aload_n 0) 0 0 (0) := ⟨1, 0, (congrArg (fun l => pm_look l 12) cq_74).trans rfl⟩
theorem lk_74_13 : Lk 74 13 (.getfield 19) 7 0 (2) := ⟨3, 434, (congrArg (fun l => pm_look l 13) cq_74).trans rfl⟩
theorem lk_74_16 : Lk 74 16 (.invokevirtual 59) 1 0 (0) := ⟨3, 1068, (congrArg (fun l => pm_look l 16) cq_74).trans rfl⟩
theorem lk_74_19 : Lk 74 19 (.if_icmp .ge 16) 0 0 (0) := ⟨3, 0, (congrArg (fun l => pm_look l 19) cq_74).trans rfl⟩
theorem lk_74_22 : Lk 74 22 (.aload_n 0) 0 0 (0) := ⟨1, 0, (congrArg (fun l => pm_look l 22) cq_74).trans rfl⟩
theorem lk_74_23 : Lk 74 23 (.aload_n 0) 0 0 (0) := ⟨1, 0, (congrArg (fun l => pm_look l 23) cq_74).trans rfl⟩
theorem lk_74_24 : Lk 74 24 (.getfield 19) 7 0 (2) := ⟨3, 434, (congrArg (fun l => pm_look l 24) cq_74).trans rfl⟩
theorem lk_74_27 : Lk 74 27 (.invokevirtual 59) 1 0 (0) := ⟨3, 1068, (congrArg (fun l => pm_look l 27) cq_74).trans rfl⟩
theorem lk_74_30 : Lk 74 30 (.newarray .long) 101 0 (0) := ⟨2, 0, (congrArg (fun l => pm_look l 30) cq_74).trans rfl⟩
theorem lk_74_32 : Lk 74 32 (.putfield 15) 7 3 (2) := ⟨3, 437, (congrArg (fun l => pm_look l 32) cq_74).trans rfl⟩
theorem lk_74_35 : Lk 74 35 (.aload_n 0) 0 0 (0) := ⟨1, 0, (congrArg (fun l => pm_look l 35) cq_74).trans rfl⟩
theorem lk_74_36 : Lk 74 36 (.invokevirtual 62) 75 0 (0) := ⟨3, 1069, (congrArg (fun l => pm_look l 36) cq_74).trans rfl⟩
theorem lk_74_39 : Lk 74 39 (.aload_n 0) 0 0 (0) := ⟨1, 0, (congrArg (fun l => pm_look l 39) cq_74).trans rfl⟩
theorem lk_74_40 : Lk 74 40 (.iconst 1) 0 0 (0) := ⟨1, 0, (congrArg (fun l => pm_look l 40) cq_74).trans rfl⟩
theorem lk_74_41 : Lk 74 41 (.putfield 65) 7 5 (0) := ⟨3, 440, (congrArg (fun l => pm_look l 41) cq_74).trans rfl⟩
theorem lk_74_44 : Lk 74 44 (.return_) 0 0 (0) := ⟨1, 0, (congrArg (fun l => pm_look l 44) cq_74).trans rfl⟩
theorem cq_75 : pm_code 75 = cd_75 := rfl
theorem lk_75_0 : Lk 75 0 (.iconst 1) 0 0 (0) := ⟨1, 0, (congrArg (fun l => pm_look l 0) cq_75).trans rfl⟩
theorem lk_75_1 : Lk 75 1 (.istore_n 1) 0 0 (0) := ⟨1, 0, (congrArg (fun l => pm_look l 1) cq_75).trans rfl⟩
theorem lk_75_2 : Lk 75 2 (.iload_n 1) 0 0 (0) := ⟨1, 0, (congrArg (fun l => pm_look l 2) cq_75).trans rfl⟩
theorem lk_75_3 : Lk 75 3 (.aload_n 0) 0 0 (0) := ⟨1, 0, (congrArg (fun l => pm_look l 3) cq_75).trans rfl⟩
theorem lk_75_4 : Lk 75 4 (.getfield 29) 7 1 (2) := ⟨3, 435, (congrArg (fun l => pm_look l 4) cq_75).trans rfl⟩
theorem lk_75_7 : Lk 75 7 (.invokevirtual 37) 86 0 (0) := ⟨3, 1073, (congrArg (fun l => pm_look l 7) cq_75).trans rfl⟩
theorem lk_75_10 : Lk 75 10 (.if_icmp .gt 107) 0 0 (0) := ⟨3, 0, (congrArg (fun l => pm_look l 10) cq_75).trans rfl⟩
theorem lk_75_13 : Lk 75 13 (.iload_n 1) 0 0 (0) := ⟨1, 0, (congrArg (fun l => pm_look l 13) cq_75).trans rfl⟩
theorem lk_75_14 : Lk 75 14 (.iload_n 1) 0 0 (0) := ⟨1, 0, (congrArg (fun l => pm_look l 14) cq_75).trans rfl⟩
theorem lk_75_15 : Lk 75 15 (.ineg) 0 0 (0) := ⟨1, 0, (congrArg (fun l => pm_look l 15) cq_75).trans rfl⟩
theorem lk_75_16 : Lk 75 16 (.iand) 0 0 (0) := ⟨1, 0, (congrArg (fun l => pm_look l 16) cq_75).trans rfl⟩
theorem lk_75_17 : Lk 75 17 (.istore_n 2) 0 0 (0) := ⟨1, 0, (congrArg (fun l => pm_look l 17) cq_75).trans rfl⟩
theorem lk_75_18 : Lk 75 18 (.aload_n 0) 0 0 (0) := ⟨1, 0, (congrArg (fun l => pm_look l 18) cq_75).trans rfl⟩
theorem lk_75_19 : Lk 75 19 (.getfield 15) 7 3 (2) := ⟨3, 437, (congrArg (fun l => pm_look l 19) cq_75).trans rfl⟩
theorem lk_75_22 : Lk 75 22 (.aload_n 0) 0 0 (0) := ⟨1, 0, (congrArg (fun l => pm_look l 22) cq_75).trans rfl⟩
theorem lk_75_23 : Lk 75 23 (.getfield 19) 7 0 (2) := ⟨3, 434, (congrArg (fun l => pm_look l 23) cq_75).trans rfl⟩
theorem lk_75_26 : Lk 75 26 (.iload_n 1) 0 0 (0) := ⟨1, 0, (congrArg (fun l => pm_look l 26) cq_75).trans rfl⟩
theorem lk_75_27 : Lk 75 27 (.iconst 0) 0 0 (0) := ⟨1, 0, (congrArg (fun l => pm_look l 27) cq_75).trans rfl⟩
theorem lk_75_28 : Lk 75 28 (.invokevirtual 46) 2 0 (0) := ⟨3, 1074, (congrArg (fun l => pm_look l 28) cq_75).trans rfl⟩
theorem lk_75_31 : Lk 75 31 (.lconst 0) 0 0 (0) := ⟨1, 0, (congrArg (fun l => pm_look l 31) cq_75).trans rfl⟩
theorem lk_75_32 : Lk 75 32 (.lastore) 0 0 (0) := ⟨1, 0, (congrArg (fun l => pm_look l 32) cq_75).trans rfl⟩
theorem lk_75_33 : Lk 75 33 (.iconst 1) 0 0 (0) := ⟨1, 0, (congrArg (fun l => pm_look l 33) cq_75).trans rfl⟩
theorem lk_75_34 : Lk 75 34 (.istore_n 3) 0 0 (0) := ⟨1, 0, (congrArg (fun l => pm_look l 34) cq_75).trans rfl⟩
theorem lk_75_35 : Lk 75 35 (.iload_n 3) 0 0 (0) := ⟨1, 0, (congrArg (fun l => pm_look l 35) cq_75).trans rfl⟩
theorem lk_75_36 : Lk 75 36 (.aload_n 0) 0 0 (0) := ⟨1, 0, (congrArg (fun l => pm_look l 36) cq_75).trans rfl⟩
theorem lk_75_37 : Lk 75 37 (.getfield 29) 7 1 (2) := ⟨3, 435, (congrArg (fun l => pm_look l 37) cq_75).trans rfl⟩
theorem lk_75_40 : Lk 75 40 (.invokevirtual 43) 87 0 (0) := ⟨3, 1075, (congrArg (fun l => pm_look l 40) cq_75).trans rfl⟩
theorem lk_75_43 : Lk 75 43 (.if_icmp .gt 68) 0 0 (0) := ⟨3, 0, (congrArg (fun l => pm_look l 43) cq_75).trans rfl⟩
theorem lk_75_46 : Lk 75 46 (.aload_n 0) 0 0 (0) := ⟨1, 0, (congrArg (fun l => pm_look l 46) cq_75).trans rfl⟩
theorem lk_75_47 : Lk 75 47 (.getfield 15) 7 3 (2) := ⟨3, 437, (congrArg (fun l => pm_look l 47) cq_75).trans rfl⟩
theorem lk_75_50 : Lk 75 50 (.aload_n 0) 0 0 (0) := ⟨1, 0, (congrArg (fun l => pm_look l 50) cq_75).trans rfl⟩
theorem lk_75_51 : Lk 75 51 (.getfield 19) 7 0 (2) := ⟨3, 434, (congrArg (fun l => pm_look l 51) cq_75).trans rfl⟩
theorem lk_75_54 : Lk 75 54 (.iload_n 1) 0 0 (0) := ⟨1, 0, (congrArg (fun l => pm_look l 54) cq_75).trans rfl⟩
theorem lk_75_55 : Lk 75 55 (.iload_n 3) 0 0 (0) := ⟨1, 0, (congrArg (fun l => pm_look l 55) cq_75).trans rfl⟩
theorem lk_75_56 : Lk 75 56 (.invokevirtual 46) 2 0 (0) := ⟨3, 1074, (congrArg (fun l => pm_look l 56) cq_75).trans rfl⟩
theorem lk_75_59 : Lk 75 59 (.iload_n 2) 0 0 (0) := ⟨1, 0, (congrArg (fun l => pm_look l 59) cq_75).trans rfl⟩
theorem lk_75_60 : Lk 75 60 (.iload_n 1) 0 0 (0) := ⟨1, 0, (congrArg (fun l => pm_look l 60) cq_75).trans rfl⟩
theorem lk_75_61 : Lk 75 61 (.if_icmp .ne 12) 0 0 (0) := ⟨3, 0, (congrArg (fun l => pm_look l 61) cq_75).trans rfl⟩
theorem lk_75_64 : Lk 75 64 (.aload_n 0) 0 0 (0) := ⟨1, 0, (congrArg (fun l => pm_look l 64) cq_75).trans rfl⟩
theorem lk_75_65 : Lk 75 65 (.iload_n 2) 0 0 (0) := ⟨1, 0, (congrArg (fun l => pm_look l 65) cq_75).trans rfl⟩
theorem lk_75_66 : Lk 75 66 (.iload_n 3) 0 0 (0) := ⟨1, 0, (congrArg (fun l => pm_look l 66) cq_75).trans rfl⟩
theorem lk_75_67 : Lk 75 67 (.invokevirtual 68) 76 0 (0) := ⟨3, 1076, (congrArg (fun l => pm_look l 67) cq_75).trans rfl⟩
theorem lk_75_70 : Lk 75 70 (.goto 34) 0 0 (0) := ⟨3, 0, (congrArg (fun l => pm_look l 70) cq_75).trans rfl⟩
theorem lk_75_73 : Lk 75 73 (.aload_n 0) 0 0 (0) := ⟨1, 0, (congrArg (fun l => pm_look l 73) cq_75).trans rfl⟩
theorem lk_75_74 : Lk 75 74 (.getfield 15) 7 3 (2) := ⟨3, 437, (congrArg (fun l => pm_look l 74) cq_75).trans rfl⟩
theorem lk_75_77 : Lk 75 77 (.aload_n 0) 0 0 (0) := ⟨1, 0, (congrArg (fun l => pm_look l 77) cq_75).trans rfl⟩
theorem lk_75_78 : Lk 75 78 (.getfield 19) 7 0 (2) := ⟨3, 434, (congrArg (fun l => pm_look l 78) cq_75).trans rfl⟩
theorem lk_75_81 : Lk 75 81 (.iload_n 2) 0 0 (0) := ⟨1, 0, (congrArg (fun l => pm_look l 81) cq_75).trans rfl⟩
theorem lk_75_82 : Lk 75 82 (.iload_n 3) 0 0 (0) := ⟨1, 0, (congrArg (fun l => pm_look l 82) cq_75).trans rfl⟩
theorem lk_75_83 : Lk 75 83 (.invokevirtual 46) 2 0 (0) := ⟨3, 1074, (congrArg (fun l => pm_look l 83) cq_75).trans rfl⟩
theorem lk_75_86 : Lk 75 86 (.laload) 0 0 (0) := ⟨1, 0, (congrArg (fun l => pm_look l 86) cq_75).trans rfl⟩
theorem lk_75_87 : Lk 75 87 (.aload_n 0) 0 0 (0) := ⟨1, 0, (congrArg (fun l => pm_look l 87) cq_75).trans rfl⟩
theorem lk_75_88 : Lk 75 88 (.getfield 15) 7 3 (2) := ⟨3, 437, (congrArg (fun l => pm_look l 88) cq_75).trans rfl⟩
theorem lk_75_91 : Lk 75 91 (.aload_n 0) 0 0 (0) := ⟨1, 0, (congrArg (fun l => pm_look l 91) cq_75).trans rfl⟩
theorem lk_75_92 : Lk 75 92 (.getfield 19) 7 0 (2) := ⟨3, 434, (congrArg (fun l => pm_look l 92) cq_75).trans rfl⟩
theorem lk_75_95 : Lk 75 95 (.iload_n 1) 0 0 (0) := ⟨1, 0, (congrArg (fun l => pm_look l 95) cq_75).trans rfl⟩
theorem lk_75_96 : Lk 75 96 (.iload_n 2) 0 0 (0) := ⟨1, 0, (congrArg (fun l => pm_look l 96) cq_75).trans rfl⟩
theorem lk_75_97 : Lk 75 97 (.ixor) 0 0 (0) := ⟨1, 0, (congrArg (fun l => pm_look l 97) cq_75).trans rfl⟩
theorem lk_75_98 : Lk 75 98 (.iload_n 3) 0 0 (0) := ⟨1, 0, (congrArg (fun l => pm_look l 98) cq_75).trans rfl⟩
theorem lk_75_99 : Lk 75 99 (.invokevirtual 46) 2 0 (0) := ⟨3, 1074, (congrArg (fun l => pm_look l 99) cq_75).trans rfl⟩
theorem lk_75_102 : Lk 75 102 (.laload) 0 0 (0) := ⟨1, 0, (congrArg (fun l => pm_look l 102) cq_75).trans rfl⟩
theorem lk_75_103 : Lk 75 103 (.ladd) 0 0 (0) := ⟨1, 0, (congrArg (fun l => pm_look l 103) cq_75).trans rfl⟩
theorem lk_75_104 : Lk 75 104 (.lastore) 0 0 (0) := ⟨1, 0, (congrArg (fun l => pm_look l 104) cq_75).trans rfl⟩
theorem lk_75_105 : Lk 75 105 (.iinc 3 1) 0 0 (0) := ⟨3, 0, (congrArg (fun l => pm_look l 105) cq_75).trans rfl⟩
theorem lk_75_108 : Lk 75 108 (.goto (-73)) 0 0 (0) := ⟨3, 0, (congrArg (fun l => pm_look l 108) cq_75).trans rfl⟩
theorem lk_75_111 : Lk 75 111 (.iinc 1 1) 0 0 (0) := ⟨3, 0, (congrArg (fun l => pm_look l 111) cq_75).trans rfl⟩
theorem lk_75_114 : Lk 75 114 (.goto (-112)) 0 0 (0) := ⟨3, 0, (congrArg (fun l => pm_look l 114) cq_75).trans rfl⟩
theorem lk_75_117 : Lk 75 117 (.iconst 1) 0 0 (0) := ⟨1, 0, (congrArg (fun l => pm_look l 117) cq_75).trans rfl⟩
theorem lk_75_118 : Lk 75 118 (.istore_n 1) 0 0 (0) := ⟨1, 0, (congrArg (fun l => pm_look l 118) cq_75).trans rfl⟩
theorem lk_75_119 : Lk 75 119 (.iload_n 1) 0 0 (0) := ⟨1, 0, (congrArg (fun l => pm_look l 119) cq_75).trans rfl⟩
theorem lk_75_120 : Lk 75 120 (.aload_n 0) 0 0 (0) := ⟨1, 0, (congrArg (fun l => pm_look l 120) cq_75).trans rfl⟩
theorem lk_75_121 : Lk 75 121 (.getfield 29) 7 1 (2) := ⟨3, 435, (congrArg (fun l => pm_look l 121) cq_75).trans rfl⟩
theorem lk_75_124 : Lk 75 124 (.invokevirtual 37) 86 0 (0) := ⟨3, 1073, (congrArg (fun l => pm_look l 124) cq_75).trans rfl⟩
theorem lk_75_127 : Lk 75 127 (.if_icmp .gt 63) 0 0 (0) := ⟨3, 0, (congrArg (fun l => pm_look l 127) cq_75).trans rfl⟩
theorem lk_75_130 : Lk 75 130 (.iconst 1) 0 0 (0) := ⟨1, 0, (congrArg (fun l => pm_look l 130) cq_75).trans rfl⟩
theorem lk_75_131 : Lk 75 131 (.istore_n 2) 0 0 (0) := ⟨1, 0, (congrArg (fun l => pm_look l 131) cq_75).trans rfl⟩
theorem lk_75_132 : Lk 75 132 (.iload_n 2) 0 0 (0) := ⟨1, 0, (congrArg (fun l => pm_look l 132) cq_75).trans rfl⟩
theorem lk_75_133 : Lk 75 133 (.aload_n 0) 0 0 (0) := ⟨1, 0, (congrArg (fun l => pm_look l 133) cq_75).trans rfl⟩
theorem lk_75_134 : Lk 75 134 (.getfield 29) 7 1 (2) := ⟨3, 435, (congrArg (fun l => pm_look l 134) cq_75).trans rfl⟩
theorem lk_75_137 : Lk 75 137 (.invokevirtual 43) 87 0 (0) := ⟨3, 1075, (congrArg (fun l => pm_look l 137) cq_75).trans rfl⟩
theorem lk_75_140 : Lk 75 140 (.if_icmp .gt 44) 0 0 (0) := ⟨3, 0, (congrArg (fun l => pm_look l 140) cq_75).trans rfl⟩
theorem lk_75_143 : Lk 75 143 (.aload_n 0) 0 0 (0) := ⟨1, 0, (congrArg (fun l => pm_look l 143) cq_75).trans rfl⟩
theorem lk_75_144 : Lk 75 144 (.getfield 19) 7 0 (2) := ⟨3, 434, (congrArg (fun l => pm_look l 144) cq_75).trans rfl⟩
theorem lk_75_147 : Lk 75 147 (.iload_n 1) 0 0 (0) := ⟨1, 0, (congrArg (fun l => pm_look l 147) cq_75).trans rfl⟩
theorem lk_75_148 : Lk 75 148 (.iload_n 2) 0 0 (0) := ⟨1, 0, (congrArg (fun l => pm_look l 148) cq_75).trans rfl⟩
theorem lk_75_149 : Lk 75 149 (.invokevirtual 46) 2 0 (0) := ⟨3, 1074, (congrArg (fun l => pm_look l 149) cq_75).trans rfl⟩
theorem lk_75_152 : Lk 75 152 (.istore_n 3) 0 0 (0) := ⟨1, 0, (congrArg (fun l => pm_look l 152) cq_75).trans rfl⟩
theorem lk_75_153 : Lk 75 153 (.aload_n 0) 0 0 (0) := ⟨1, 0, (congrArg (fun l => pm_look l 153) cq_75).trans rfl⟩
theorem lk_75_154 : Lk 75 154 (.getfield 15) 7 3 (2) := ⟨3, 437, (congrArg (fun l => pm_look l 154) cq_75).trans rfl⟩
theorem lk_75_157 : Lk 75 157 (.iload_n 3) 0 0 (0) := ⟨1, 0, (congrArg (fun l => pm_look l 157) cq_75).trans rfl⟩
theorem lk_75_158 : Lk 75 158 (.aload_n 0) 0 0 (0) := ⟨1, 0, (congrArg (fun l => pm_look l 158) cq_75).trans rfl⟩
theorem lk_75_159 : Lk 75 159 (.getfield 19) 7 0 (2) := ⟨3, 434, (congrArg (fun l => pm_look l 159) cq_75).trans rfl⟩
theorem lk_75_162 : Lk 75 162 (.iload_n 3) 0 0 (0) := ⟨1, 0, (congrArg (fun l => pm_look l 162) cq_75).trans rfl⟩
theorem lk_75_163 : Lk 75 163 (.invokevirtual 72) 5 0 (0) := ⟨3, 1082, (congrArg (fun l => pm_look l 163) cq_75).trans rfl⟩
theorem lk_75_166 : Lk 75 166 (.aload_n 0) 0 0 (0) := ⟨1, 0, (congrArg (fun l => pm_look l 166) cq_75).trans rfl⟩
theorem lk_75_167 : Lk 75 167 (.getfield 15) 7 3 (2) := ⟨3, 437, (congrArg (fun l => pm_look l 167) cq_75).trans rfl⟩
theorem lk_75_170 : Lk 75 170 (.iload_n 3) 0 0 (0) := ⟨1, 0, (congrArg (fun l => pm_look l 170) cq_75).trans rfl⟩
theorem lk_75_171 : Lk 75 171 (.laload) 0 0 (0) := ⟨1, 0, (congrArg (fun l => pm_look l 171) cq_75).trans rfl⟩
theorem lk_75_172 : Lk 75 172 (.invokestatic 76) 77 0 (0) := ⟨3, 1083, (congrArg (fun l => pm_look l 172) cq_75).trans rfl⟩
theorem lk_75_175 : Lk 75 175 (.isub) 0 0 (0) := ⟨1, 0, (congrArg (fun l => pm_look l 175) cq_75).trans rfl⟩
theorem lk_75_176 : Lk 75 176 (.i2l) 0 0 (0) := ⟨1, 0, (congrArg (fun l => pm_look l 176) cq_75).trans rfl⟩
theorem lk_75_177 : Lk 75 177 (.lastore) 0 0 (0) := ⟨1, 0, (congrArg (fun l => pm_look l 177) cq_75).trans rfl⟩
theorem lk_75_178 : Lk 75 178 (.iinc 2 1) 0 0 (0) := ⟨3, 0, (congrArg (fun l => pm_look l 178) cq_75).trans rfl⟩
theorem lk_75_181 : Lk 75 181 (.goto (-49)) 0 0 (0) := ⟨3, 0, (congrArg (fun l => pm_look l 181) cq_75).trans rfl⟩
theorem lk_75_184 : Lk 75 184 (.iinc 1 1) 0 0 (0) := ⟨3, 0, (congrArg (fun l => pm_look l 184) cq_75).trans rfl⟩
theorem lk_75_187 : Lk 75 187 (.goto (-68)) 0 0 (0) := ⟨3, 0, (congrArg (fun l => pm_look l 187) cq_75).trans rfl⟩
theorem lk_75_190 : Lk 75 190 (.return_) 0 0 (0) := ⟨1, 0, (congrArg (fun l => pm_look l 190) cq_75).trans rfl⟩
