theorem cq_76 : pm_code 76 = cd_76 := rfl
theorem lk_76_0 : Lk 76 0 (.iload_n 2) 0 0 (0) := ⟨1, 0, (congrArg (fun l => pm_look l 0) cq_76).trans rfl⟩
theorem lk_76_1 : Lk 76 1 (.iload_n 2) 0 0 (0) := ⟨1, 0, (congrArg (fun l => pm_look l 1) cq_76).trans rfl⟩
theorem lk_76_2 : Lk 76 2 (.ineg) 0 0 (0) := ⟨1, 0, (congrArg (fun l => pm_look l 2) cq_76).trans rfl⟩
theorem lk_76_3 : Lk 76 3 (.iand) 0 0 (0) := ⟨1, 0, (congrArg (fun l => pm_look l 3) cq_76).trans rfl⟩
theorem lk_76_4 : Lk 76 4 (.istore_n 3) 0 0 (0) := ⟨1, 0, (congrArg (fun l => pm_look l 4) cq_76).trans rfl⟩
theorem lk_76_5 : Lk 76 5 (.aload_n 0) 0 0 (0) := ⟨1, 0, (congrArg (fun l => pm_look l 5) cq_76).trans rfl⟩
theorem lk_76_6 : Lk 76 6 (.getfield 29) 7 1 (2) := ⟨3, 435, (congrArg (fun l => pm_look l 6) cq_76).trans rfl⟩
theorem lk_76_9 : Lk 76 9 (.iload_n 1) 0 0 (0) := ⟨1, 0, (congrArg (fun l => pm_look l 9) cq_76).trans rfl⟩
theorem lk_76_10 : Lk 76 10 (.invokestatic 80) 165 1 (0) := ⟨3, 1080, (congrArg (fun l => pm_look l 10) cq_76).trans rfl⟩
theorem lk_76_13 : Lk 76 13 (.iload_n 3) 0 0 (0) := ⟨1, 0, (congrArg (fun l => pm_look l 13) cq_76).trans rfl⟩
theorem lk_76_14 : Lk 76 14 (.invokestatic 80) 165 1 (0) := ⟨3, 1080, (congrArg (fun l => pm_look l 14) cq_76).trans rfl⟩
theorem lk_76_17 : Lk 76 17 (.invokevirtual 83) 85 0 (0) := ⟨3, 1081, (congrArg (fun l => pm_look l 17) cq_76).trans rfl⟩
theorem lk_76_20 : Lk 76 20 (.istore 4) 0 0 (0) := ⟨2, 0, (congrArg (fun l => pm_look l 20) cq_76).trans rfl⟩
theorem lk_76_22 : Lk 76 22 (.iload 4) 0 0 (0) := ⟨2, 0, (congrArg (fun l => pm_look l 22) cq_76).trans rfl⟩
theorem lk_76_24 : Lk 76 24 (.bipush 10) 0 0 (0) := ⟨2, 0, (congrArg (fun l => pm_look l 24) cq_76).trans rfl⟩
theorem lk_76_26 : Lk 76 26 (.if_icmp .ne 7) 0 0 (0) := ⟨3, 0, (congrArg (fun l => pm_look l 26) cq_76).trans rfl⟩
theorem lk_76_29 : Lk 76 29 (.lconst 0) 0 0 (0) := ⟨1, 0, (congrArg (fun l => pm_look l 29) cq_76).trans rfl⟩
theorem lk_76_30 : Lk 76 30 (.goto 10) 0 0 (0) := ⟨3, 0, (congrArg (fun l => pm_look l 30) cq_76).trans rfl⟩
theorem lk_76_33 : Lk 76 33 (.lconst 1) 0 0 (0) := ⟨1, 0, (congrArg (fun l => pm_look l 33) cq_76).trans rfl⟩
theorem lk_76_34 : Lk 76 34 (.iload 4) 0 0 (0) := ⟨2, 0, (congrArg (fun l => pm_look l 34) cq_76).trans rfl⟩
theorem lk_76_36 : Lk 76 36 (.bipush 6) 0 0 (0) := ⟨2, 0, (congrArg (fun l => pm_look l 36) cq_76).trans rfl⟩
theorem lk_76_38 : Lk 76 38 (.imul) 0 0 (0) := ⟨1, 0, (congrArg (fun l => pm_look l 38) cq_76).trans rfl⟩
theorem lk_76_39 : Lk 76 39 (.lshl) 0 0 (0) := ⟨1, 0, (congrArg (fun l => pm_look l 39) cq_76).trans rfl⟩
theorem lk_76_40 : Lk 76 40 (.lstore 5) 0 0 (0) := ⟨2, 0, (congrArg (fun l => pm_look l 40) cq_76).trans rfl⟩
theorem lk_76_42 : Lk 76 42 (.lload 5) 0 0 (0) := ⟨2, 0, (congrArg (fun l => pm_look l 42) cq_76).trans rfl⟩
theorem lk_76_44 : Lk 76 44 (.aload_n 0) 0 0 (0) := ⟨1, 0, (congrArg (fun l => pm_look l 44) cq_76).trans rfl⟩
theorem lk_76_45 : Lk 76 45 (.getfield 15) 7 3 (2) := ⟨3, 437, (congrArg (fun l => pm_look l 45) cq_76).trans rfl⟩
theorem lk_76_48 : Lk 76 48 (.aload_n 0) 0 0 (0) := ⟨1, 0, (congrArg (fun l => pm_look l 48) cq_76).trans rfl⟩
theorem lk_76_49 : Lk 76 49 (.getfield 19) 7 0 (2) := ⟨3, 434, (congrArg (fun l => pm_look l 49) cq_76).trans rfl⟩
theorem lk_76_52 : Lk 76 52 (.iload_n 1) 0 0 (0) := ⟨1, 0, (congrArg (fun l => pm_look l 52) cq_76).trans rfl⟩
theorem lk_76_53 : Lk 76 53 (.iload_n 2) 0 0 (0) := ⟨1, 0, (congrArg (fun l => pm_look l 53) cq_76).trans rfl⟩
theorem lk_76_54 : Lk 76 54 (.iload_n 3) 0 0 (0) := ⟨1, 0, (congrArg (fun l => pm_look l 54) cq_76).trans rfl⟩
theorem lk_76_55 : Lk 76 55 (.ixor) 0 0 (0) := ⟨1, 0, (congrArg (fun l => pm_look l 55) cq_76).trans rfl⟩
theorem lk_76_56 : Lk 76 56 (.invokevirtual 46) 2 0 (0) := ⟨3, 1074, (congrArg (fun l => pm_look l 56) cq_76).trans rfl⟩
theorem lk_76_59 : Lk 76 59 (.laload) 0 0 (0) := ⟨1, 0, (congrArg (fun l => pm_look l 59) cq_76).trans rfl⟩
theorem lk_76_60 : Lk 76 60 (.ladd) 0 0 (0) := ⟨1, 0, (congrArg (fun l => pm_look l 60) cq_76).trans rfl⟩
theorem lk_76_61 : Lk 76 61 (.lreturn) 0 0 (0) := ⟨1, 0, (congrArg (fun l => pm_look l 61) cq_76).trans rfl⟩
theorem cq_77 : pm_code 77 = cd_77 := rfl
theorem lk_77_0 : Lk 77 0 (.iconst 0) 0 0 (0) := ⟨1, 0, (congrArg (fun l => pm_look l 0) cq_77).trans rfl⟩
theorem lk_77_1 : Lk 77 1 (.istore_n 2) 0 0 (0) := ⟨1, 0, (congrArg (fun l => pm_look l 1) cq_77).trans rfl⟩
theorem lk_77_2 : Lk 77 2 (.iconst 0) 0 0 (0) := ⟨1, 0, (congrArg (fun l => pm_look l 2) cq_77).trans rfl⟩
theorem lk_77_3 : Lk 77 3 (.istore_n 3) 0 0 (0) := ⟨1, 0, (congrArg (fun l => pm_look l 3) cq_77).trans rfl⟩
theorem lk_77_4 : Lk 77 4 (.iload_n 3) 0 0 (0) := ⟨1, 0, (congrArg (fun l => pm_look l 4) cq_77).trans rfl⟩
theorem lk_77_5 : Lk 77 5 (.bipush 10) 0 0 (0) := ⟨2, 0, (congrArg (fun l => pm_look l 5) cq_77).trans rfl⟩
theorem lk_77_7 : Lk 77 7 (.if_icmp .ge 25) 0 0 (0) := ⟨3, 0, (congrArg (fun l => pm_look l 7) cq_77).trans rfl⟩
theorem lk_77_10 : Lk 77 10 (.iload_n 2) 0 0 (0) := ⟨1, 0, (congrArg (fun l => pm_look l 10) cq_77).trans rfl⟩
theorem lk_77_11 : Lk 77 11 (.lload_n 0) 0 0 (0) := ⟨1, 0, (congrArg (fun l => pm_look l 11) cq_77).trans rfl⟩
theorem lk_77_12 : Lk 77 12 (.iload_n 3) 0 0 (0) := ⟨1, 0, (congrArg (fun l => pm_look l 12) cq_77).trans rfl⟩
theorem lk_77_13 : Lk 77 13 (.bipush 6) 0 0 (0) := ⟨2, 0, (congrArg (fun l => pm_look l 13) cq_77).trans rfl⟩
theorem lk_77_15 : Lk 77 15 (.imul) 0 0 (0) := ⟨1, 0, (congrArg (fun l => pm_look l 15) cq_77).trans rfl⟩
theorem lk_77_16 : Lk 77 16 (.lshr) 0 0 (0) := ⟨1, 0, (congrArg (fun l => pm_look l 16) cq_77).trans rfl⟩
theorem lk_77_17 : Lk 77 17 (.ldc2_w 54) 0 0 (63) := ⟨3, 1086, (congrArg (fun l => pm_look l 17) cq_77).trans rfl⟩
theorem lk_77_20 : Lk 77 20 (.land) 0 0 (0) := ⟨1, 0, (congrArg (fun l => pm_look l 20) cq_77).trans rfl⟩
theorem lk_77_21 : Lk 77 21 (.l2i) 0 0 (0) := ⟨1, 0, (congrArg (fun l => pm_look l 21) cq_77).trans rfl⟩
theorem lk_77_22 : Lk 77 22 (.invokestatic 86) 1000 0 (0) := ⟨3, 1087, (congrArg (fun l => pm_look l 22) cq_77).trans rfl⟩
theorem lk_77_25 : Lk 77 25 (.istore_n 2) 0 0 (0) := ⟨1, 0, (congrArg (fun l => pm_look l 25) cq_77).trans rfl⟩
theorem lk_77_26 : Lk 77 26 (.iinc 3 1) 0 0 (0) := ⟨3, 0, (congrArg (fun l => pm_look l 26) cq_77).trans rfl⟩
theorem lk_77_29 : Lk 77 29 (.goto (-25)) 0 0 (0) := ⟨3, 0, (congrArg (fun l => pm_look l 29) cq_77).trans rfl⟩
theorem lk_77_32 : Lk 77 32 (.iload_n 2) 0 0 (0) := ⟨1, 0, (congrArg (fun l => pm_look l 32) cq_77).trans rfl⟩
theorem lk_77_33 : Lk 77 33 (.ireturn) 0 0 (0) := ⟨1, 0, (congrArg (fun l => pm_look l 33) cq_77).trans rfl⟩
theorem cq_78 : pm_code 78 = cd_78 := rfl
theorem lk_78_0 : Lk 78 0 (.iload_n 1) 0 0 (0) := ⟨1, 0, (congrArg (fun l => pm_look l 0) cq_78).trans rfl⟩
theorem lk_78_1 : Lk 78 1 (.iload_n 2) 0 0 (0) := ⟨1, 0, (congrArg (fun l => pm_look l 1) cq_78).trans rfl⟩
theorem lk_78_2 : Lk 78 2 (.if_icmp .lt 20) 0 0 (0) := ⟨3, 0, (congrArg (fun l => pm_look l 2) cq_78).trans rfl⟩
theorem lk_78_5 : Lk 78 5 (.aload_n 0) 0 0 (0) := ⟨1, 0, (congrArg (fun l => pm_look l 5) cq_78).trans rfl⟩
theorem lk_78_6 : Lk 78 6 (.getfield 65) 7 5 (0) := ⟨3, 440, (congrArg (fun l => pm_look l 6) cq_78).trans rfl⟩
theorem lk_78_9 : Lk 78 9 (.iload_n 1) 0 0 (0) := ⟨1, 0, (congrArg (fun l => pm_look l 9) cq_78).trans rfl⟩
theorem lk_78_10 : Lk 78 10 (.iload_n 2) 0 0 (0) := ⟨1, 0, (congrArg (fun l => pm_look l 10) cq_78).trans rfl⟩
theorem lk_78_11 : Lk 78 11 (.isub) 0 0 (0) := ⟨1, 0, (congrArg (fun l => pm_look l 11) cq_78).trans rfl⟩
theorem lk_78_12 : Lk 78 12 (.ishr) 0 0 (0) := ⟨1, 0, (congrArg (fun l => pm_look l 12) cq_78).trans rfl⟩
theorem lk_78_13 : Lk 78 13 (.iconst 1) 0 0 (0) := ⟨1, 0, (congrArg (fun l => pm_look l 13) cq_78).trans rfl⟩
theorem lk_78_14 : Lk 78 14 (.iand) 0 0 (0) := ⟨1, 0, (congrArg (fun l => pm_look l 14) cq_78).trans rfl⟩
theorem lk_78_15 : Lk 78 15 (.ifCond .eq 7) 0 0 (0) := ⟨3, 0, (congrArg (fun l => pm_look l 15) cq_78).trans rfl⟩
theorem lk_78_18 : Lk 78 18 (.iconst 1) 0 0 (0) := ⟨1, 0, (congrArg (fun l => pm_look l 18) cq_78).trans rfl⟩
theorem lk_78_19 : Lk 78 19 (.goto 4) 0 0 (0) := ⟨3, 0, (congrArg (fun l => pm_look l 19) cq_78).trans rfl⟩
theorem lk_78_22 : Lk 78 22 (.iconst 0) 0 0 (0) := ⟨1, 0, (congrArg (fun l => pm_look l 22) cq_78).trans rfl⟩
theorem lk_78_23 : Lk 78 23 (.ireturn) 1 0 (0) := ⟨1, 0, (congrArg (fun l => pm_look l 23) cq_78).trans rfl⟩
theorem cq_79 : pm_code 79 = cd_79 := rfl
theorem lk_79_0 : Lk 79 0 (.aload_n 0) 0 0 (0) := ⟨1, 0, (congrArg (fun l => pm_look l 0) cq_79).trans rfl⟩
theorem lk_79_1 : Lk 79 1 (.iload_n 1) 0 0 (0) := ⟨1, 0, (congrArg (fun l => pm_look l 1) cq_79).trans rfl⟩
theorem lk_79_2 : Lk 79 2 (.aload_n 0) 0 0 (0) := ⟨1, 0, (congrArg (fun l => pm_look l 2) cq_79).trans rfl⟩
theorem lk_79_3 : Lk 79 3 (.getfield 29) 7 1 (2) := ⟨3, 435, (congrArg (fun l => pm_look l 3) cq_79).trans rfl⟩
theorem lk_79_6 : Lk 79 6 (.getfield 91) 8 3 (0) := ⟨3, 174, (congrArg (fun l => pm_look l 6) cq_79).trans rfl⟩
theorem lk_79_9 : Lk 79 9 (.invokevirtual 94) 78 0 (0) := ⟨3, 1092, (congrArg (fun l => pm_look l 9) cq_79).trans rfl⟩
theorem lk_79_12 : Lk 79 12 (.istore_n 2) 0 0 (0) := ⟨1, 0, (congrArg (fun l => pm_look l 12) cq_79).trans rfl⟩
theorem lk_79_13 : Lk 79 13 (.aload_n 0) 0 0 (0) := ⟨1, 0, (congrArg (fun l => pm_look l 13) cq_79).trans rfl⟩
theorem lk_79_14 : Lk 79 14 (.iload_n 1) 0 0 (0) := ⟨1, 0, (congrArg (fun l => pm_look l 14) cq_79).trans rfl⟩
theorem lk_79_15 : Lk 79 15 (.aload_n 0) 0 0 (0) := ⟨1, 0, (congrArg (fun l => pm_look l 15) cq_79).trans rfl⟩
theorem lk_79_16 : Lk 79 16 (.getfield 29) 7 1 (2) := ⟨3, 435, (congrArg (fun l => pm_look l 16) cq_79).trans rfl⟩
theorem lk_79_19 : Lk 79 19 (.getfield 98) 8 4 (0) := ⟨3, 181, (congrArg (fun l => pm_look l 19) cq_79).trans rfl⟩
theorem lk_79_22 : Lk 79 22 (.invokevirtual 94) 78 0 (0) := ⟨3, 1092, (congrArg (fun l => pm_look l 22) cq_79).trans rfl⟩
theorem lk_79_25 : Lk 79 25 (.istore_n 3) 0 0 (0) := ⟨1, 0, (congrArg (fun l => pm_look l 25) cq_79).trans rfl⟩
theorem lk_79_26 : Lk 79 26 (.aload_n 0) 0 0 (0) := ⟨1, 0, (congrArg (fun l => pm_look l 26) cq_79).trans rfl⟩
theorem lk_79_27 : Lk 79 27 (.getfield 29) 7 1 (2) := ⟨3, 435, (congrArg (fun l => pm_look l 27) cq_79).trans rfl⟩
theorem lk_79_30 : Lk 79 30 (.invokevirtual 37) 86 0 (0) := ⟨3, 1073, (congrArg (fun l => pm_look l 30) cq_79).trans rfl⟩
theorem lk_79_33 : Lk 79 33 (.istore 4) 0 0 (0) := ⟨2, 0, (congrArg (fun l => pm_look l 33) cq_79).trans rfl⟩
theorem lk_79_35 : Lk 79 35 (.aload_n 0) 0 0 (0) := ⟨1, 0, (congrArg (fun l => pm_look l 35) cq_79).trans rfl⟩
theorem lk_79_36 : Lk 79 36 (.getfield 29) 7 1 (2) := ⟨3, 435, (congrArg (fun l => pm_look l 36) cq_79).trans rfl⟩
theorem lk_79_39 : Lk 79 39 (.invokevirtual 43) 87 0 (0) := ⟨3, 1075, (congrArg (fun l => pm_look l 39) cq_79).trans rfl⟩
theorem lk_79_42 : Lk 79 42 (.istore 5) 0 0 (0) := ⟨2, 0, (congrArg (fun l => pm_look l 42) cq_79).trans rfl⟩
theorem lk_79_44 : Lk 79 44 (.iconst 1) 0 0 (0) := ⟨1, 0, (congrArg (fun l => pm_look l 44) cq_79).trans rfl⟩
theorem lk_79_45 : Lk 79 45 (.istore 6) 0 0 (0) := ⟨2, 0, (congrArg (fun l => pm_look l 45) cq_79).trans rfl⟩
theorem lk_79_47 : Lk 79 47 (.iload 6) 0 0 (0) := ⟨2, 0, (congrArg (fun l => pm_look l 47) cq_79).trans rfl⟩
theorem lk_79_49 : Lk 79 49 (.iload 4) 0 0 (0) := ⟨2, 0, (congrArg (fun l => pm_look l 49) cq_79).trans rfl⟩
theorem lk_79_51 : Lk 79 51 (.if_icmp .gt 182) 0 0 (0) := ⟨3, 0, (congrArg (fun l => pm_look l 51) cq_79).trans rfl⟩
theorem lk_79_54 : Lk 79 54 (.iconst 1) 0 0 (0) := ⟨1, 0, (congrArg (fun l => pm_look l 54) cq_79).trans rfl⟩
theorem lk_79_55 : Lk 79 55 (.istore 7) 0 0 (0) := ⟨2, 0, (congrArg (fun l => pm_look l 55) cq_79).trans rfl⟩
theorem lk_79_57 : Lk 79 57 (.iload 7) 0 0 (0) := ⟨2, 0, (congrArg (fun l => pm_look l 57) cq_79).trans rfl⟩
theorem lk_79_59 : Lk 79 59 (.iload 5) 0 0 (0) := ⟨2, 0, (congrArg (fun l => pm_look l 59) cq_79).trans rfl⟩
theorem lk_79_61 : Lk 79 61 (.if_icmp .gt 166) 0 0 (0) := ⟨3, 0, (congrArg (fun l => pm_look l 61) cq_79).trans rfl⟩
theorem lk_79_64 : Lk 79 64 (.aload_n 0) 0 0 (0) := ⟨1, 0, (congrArg (fun l => pm_look l 64) cq_79).trans rfl⟩
theorem lk_79_65 : Lk 79 65 (.getfield 19) 7 0 (2) := ⟨3, 434, (congrArg (fun l => pm_look l 65) cq_79).trans rfl⟩
theorem lk_79_68 : Lk 79 68 (.iload 6) 0 0 (0) := ⟨2, 0, (congrArg (fun l => pm_look l 68) cq_79).trans rfl⟩
theorem lk_79_70 : Lk 79 70 (.iload 7) 0 0 (0) := ⟨2, 0, (congrArg (fun l => pm_look l 70) cq_79).trans rfl⟩
theorem lk_79_72 : Lk 79 72 (.invokevirtual 46) 2 0 (0) := ⟨3, 1074, (congrArg (fun l => pm_look l 72) cq_79).trans rfl⟩
theorem lk_79_75 : Lk 79 75 (.istore 8) 0 0 (0) := ⟨2, 0, (congrArg (fun l => pm_look l 75) cq_79).trans rfl⟩
theorem lk_79_77 : Lk 79 77 (.aload_n 0) 0 0 (0) := ⟨1, 0, (congrArg (fun l => pm_look l 77) cq_79).trans rfl⟩
theorem lk_79_78 : Lk 79 78 (.getfield 15) 7 3 (2) := ⟨3, 437, (congrArg (fun l => pm_look l 78) cq_79).trans rfl⟩
theorem lk_79_81 : Lk 79 81 (.iload 8) 0 0 (0) := ⟨2, 0, (congrArg (fun l => pm_look l 81) cq_79).trans rfl⟩
theorem lk_79_83 : Lk 79 83 (.laload) 0 0 (0) := ⟨1, 0, (congrArg (fun l => pm_look l 83) cq_79).trans rfl⟩
theorem lk_79_84 : Lk 79 84 (.ldc2_w 54) 0 0 (63) := ⟨3, 1086, (congrArg (fun l => pm_look l 84) cq_79).trans rfl⟩
theorem lk_79_87 : Lk 79 87 (.land) 0 0 (0) := ⟨1, 0, (congrArg (fun l => pm_look l 87) cq_79).trans rfl⟩
theorem lk_79_88 : Lk 79 88 (.l2i) 0 0 (0) := ⟨1, 0, (congrArg (fun l => pm_look l 88) cq_79).trans rfl⟩
theorem lk_79_89 : Lk 79 89 (.istore 9) 0 0 (0) := ⟨2, 0, (congrArg (fun l => pm_look l 89) cq_79).trans rfl⟩
theorem lk_79_91 : Lk 79 91 (.iload 9) 0 0 (0) := ⟨2, 0, (congrArg (fun l => pm_look l 91) cq_79).trans rfl⟩
theorem lk_79_93 : Lk 79 93 (.istore 10) 0 0 (0) := ⟨2, 0, (congrArg (fun l => pm_look l 93) cq_79).trans rfl⟩
theorem lk_79_95 : Lk 79 95 (.iload 10) 0 0 (0) := ⟨2, 0, (congrArg (fun l => pm_look l 95) cq_79).trans rfl⟩
theorem lk_79_97 : Lk 79 97 (.ifCond .le 36) 0 0 (0) := ⟨3, 0, (congrArg (fun l => pm_look l 97) cq_79).trans rfl⟩
theorem lk_79_100 : Lk 79 100 (.iload_n 2) 0 0 (0) := ⟨1, 0, (congrArg (fun l => pm_look l 100) cq_79).trans rfl⟩
theorem lk_79_101 : Lk 79 101 (.ifCond .eq 32) 0 0 (0) := ⟨3, 0, (congrArg (fun l => pm_look l 101) cq_79).trans rfl⟩
theorem lk_79_104 : Lk 79 104 (.iload 10) 0 0 (0) := ⟨2, 0, (congrArg (fun l => pm_look l 104) cq_79).trans rfl⟩
theorem lk_79_106 : Lk 79 106 (.aload_n 0) 0 0 (0) := ⟨1, 0, (congrArg (fun l => pm_look l 106) cq_79).trans rfl⟩
theorem lk_79_107 : Lk 79 107 (.iload 6) 0 0 (0) := ⟨2, 0, (congrArg (fun l => pm_look l 107) cq_79).trans rfl⟩
theorem lk_79_109 : Lk 79 109 (.aload_n 0) 0 0 (0) := ⟨1, 0, (congrArg (fun l => pm_look l 109) cq_79).trans rfl⟩
theorem lk_79_110 : Lk 79 110 (.getfield 29) 7 1 (2) := ⟨3, 435, (congrArg (fun l => pm_look l 110) cq_79).trans rfl⟩
theorem lk_79_113 : Lk 79 113 (.getfield 101) 8 2 (0) := ⟨3, 166, (congrArg (fun l => pm_look l 113) cq_79).trans rfl⟩
theorem lk_79_116 : Lk 79 116 (.iload 7) 0 0 (0) := ⟨2, 0, (congrArg (fun l => pm_look l 116) cq_79).trans rfl⟩
theorem lk_79_118 : Lk 79 118 (.aload_n 0) 0 0 (0) := ⟨1, 0, (congrArg (fun l => pm_look l 118) cq_79).trans rfl⟩
theorem lk_79_119 : Lk 79 119 (.getfield 29) 7 1 (2) := ⟨3, 435, (congrArg (fun l => pm_look l 119) cq_79).trans rfl⟩
theorem lk_79_122 : Lk 79 122 (.getfield 91) 8 3 (0) := ⟨3, 174, (congrArg (fun l => pm_look l 122) cq_79).trans rfl⟩
theorem lk_79_125 : Lk 79 125 (.invokevirtual 104) 80 0 (0) := ⟨3, 1096, (congrArg (fun l => pm_look l 125) cq_79).trans rfl⟩
theorem lk_79_128 : Lk 79 128 (.invokestatic 108) 1001 0 (0) := ⟨3, 1104, (congrArg (fun l => pm_look l 128) cq_79).trans rfl⟩
theorem lk_79_131 : Lk 79 131 (.istore 10) 0 0 (0) := ⟨2, 0, (congrArg (fun l => pm_look l 131) cq_79).trans rfl⟩
theorem lk_79_133 : Lk 79 133 (.iload 10) 0 0 (0) := ⟨2, 0, (congrArg (fun l => pm_look l 133) cq_79).trans rfl⟩
theorem lk_79_135 : Lk 79 135 (.ifCond .le 38) 0 0 (0) := ⟨3, 0, (congrArg (fun l => pm_look l 135) cq_79).trans rfl⟩
theorem lk_79_138 : Lk 79 138 (.iload_n 3) 0 0 (0) := ⟨1, 0, (congrArg (fun l => pm_look l 138) cq_79).trans rfl⟩
theorem lk_79_139 : Lk 79 139 (.ifCond .eq 34) 0 0 (0) := ⟨3, 0, (congrArg (fun l => pm_look l 139) cq_79).trans rfl⟩
theorem lk_79_142 : Lk 79 142 (.iload 10) 0 0 (0) := ⟨2, 0, (congrArg (fun l => pm_look l 142) cq_79).trans rfl⟩
theorem lk_79_144 : Lk 79 144 (.aload_n 0) 0 0 (0) := ⟨1, 0, (congrArg (fun l => pm_look l 144) cq_79).trans rfl⟩
theorem lk_79_145 : Lk 79 145 (.iload 7) 0 0 (0) := ⟨2, 0, (congrArg (fun l => pm_look l 145) cq_79).trans rfl⟩
theorem lk_79_147 : Lk 79 147 (.iconst 0) 0 0 (0) := ⟨1, 0, (congrArg (fun l => pm_look l 147) cq_79).trans rfl⟩
theorem lk_79_148 : Lk 79 148 (.iload 6) 0 0 (0) := ⟨2, 0, (congrArg (fun l => pm_look l 148) cq_79).trans rfl⟩
theorem lk_79_150 : Lk 79 150 (.aload_n 0) 0 0 (0) := ⟨1, 0, (congrArg (fun l => pm_look l 150) cq_79).trans rfl⟩
theorem lk_79_151 : Lk 79 151 (.getfield 29) 7 1 (2) := ⟨3, 435, (congrArg (fun l => pm_look l 151) cq_79).trans rfl⟩
theorem lk_79_154 : Lk 79 154 (.getfield 101) 8 2 (0) := ⟨3, 166, (congrArg (fun l => pm_look l 154) cq_79).trans rfl⟩
theorem lk_79_157 : Lk 79 157 (.ishl) 0 0 (0) := ⟨1, 0, (congrArg (fun l => pm_look l 157) cq_79).trans rfl⟩
theorem lk_79_158 : Lk 79 158 (.aload_n 0) 0 0 (0) := ⟨1, 0, (congrArg (fun l => pm_look l 158) cq_79).trans rfl⟩
theorem lk_79_159 : Lk 79 159 (.getfield 29) 7 1 (2) := ⟨3, 435, (congrArg (fun l => pm_look l 159) cq_79).trans rfl⟩
theorem lk_79_162 : Lk 79 162 (.getfield 98) 8 4 (0) := ⟨3, 181, (congrArg (fun l => pm_look l 162) cq_79).trans rfl⟩
theorem lk_79_165 : Lk 79 165 (.invokevirtual 104) 80 0 (0) := ⟨3, 1096, (congrArg (fun l => pm_look l 165) cq_79).trans rfl⟩
theorem lk_79_168 : Lk 79 168 (.invokestatic 108) 1001 0 (0) := ⟨3, 1104, (congrArg (fun l => pm_look l 168) cq_79).trans rfl⟩
theorem lk_79_171 : Lk 79 171 (.istore 10) 0 0 (0) := ⟨2, 0, (congrArg (fun l => pm_look l 171) cq_79).trans rfl⟩
theorem lk_79_173 : Lk 79 173 (.aload_n 0) 0 0 (0) := ⟨1, 0, (congrArg (fun l => pm_look l 173) cq_79).trans rfl⟩
theorem lk_79_174 : Lk 79 174 (.dup) 0 0 (0) := ⟨1, 0, (congrArg (fun l => pm_look l 174) cq_79).trans rfl⟩
theorem lk_79_175 : Lk 79 175 (.getfield 65) 7 5 (0) := ⟨3, 440, (congrArg (fun l => pm_look l 175) cq_79).trans rfl⟩
theorem lk_79_178 : Lk 79 178 (.iload 10) 0 0 (0) := ⟨2, 0, (congrArg (fun l => pm_look l 178) cq_79).trans rfl⟩
theorem lk_79_180 : Lk 79 180 (.iload 9) 0 0 (0) := ⟨2, 0, (congrArg (fun l => pm_look l 180) cq_79).trans rfl⟩
theorem lk_79_182 : Lk 79 182 (.if_icmp .ge 9) 0 0 (0) := ⟨3, 0, (congrArg (fun l => pm_look l 182) cq_79).trans rfl⟩
theorem lk_79_185 : Lk 79 185 (.iconst 1) 0 0 (0) := ⟨1, 0, (congrArg (fun l => pm_look l 185) cq_79).trans rfl⟩
theorem lk_79_186 : Lk 79 186 (.iload_n 1) 0 0 (0) := ⟨1, 0, (congrArg (fun l => pm_look l 186) cq_79).trans rfl⟩
theorem lk_79_187 : Lk 79 187 (.ishl) 0 0 (0) := ⟨1, 0, (congrArg (fun l => pm_look l 187) cq_79).trans rfl⟩
theorem lk_79_188 : Lk 79 188 (.goto 4) 0 0 (0) := ⟨3, 0, (congrArg (fun l => pm_look l 188) cq_79).trans rfl⟩
theorem lk_79_191 : Lk 79 191 (.iconst 0) 0 0 (0) := ⟨1, 0, (congrArg (fun l => pm_look l 191) cq_79).trans rfl⟩
theorem lk_79_192 : Lk 79 192 (.ior) 0 0 (0) := ⟨1, 0, (congrArg (fun l => pm_look l 192) cq_79).trans rfl⟩
theorem lk_79_193 : Lk 79 193 (.putfield 65) 7 5 (0) := ⟨3, 440, (congrArg (fun l => pm_look l 193) cq_79).trans rfl⟩
theorem lk_79_196 : Lk 79 196 (.aload_n 0) 0 0 (0) := ⟨1, 0, (congrArg (fun l => pm_look l 196) cq_79).trans rfl⟩
theorem lk_79_197 : Lk 79 197 (.getfield 15) 7 3 (2) := ⟨3, 437, (congrArg (fun l => pm_look l 197) cq_79).trans rfl⟩
theorem lk_79_200 : Lk 79 200 (.iload 8) 0 0 (0) := ⟨2, 0, (congrArg (fun l => pm_look l 200) cq_79).trans rfl⟩
theorem lk_79_202 : Lk 79 202 (.aload_n 0) 0 0 (0) := ⟨1, 0, (congrArg (fun l => pm_look l 202) cq_79).trans rfl⟩
theorem lk_79_203 : Lk 79 203 (.getfield 15) 7 3 (2) := ⟨3, 437, (congrArg (fun l => pm_look l 203) cq_79).trans rfl⟩
theorem lk_79_206 : Lk 79 206 (.iload 8) 0 0 (0) := ⟨2, 0, (congrArg (fun l => pm_look l 206) cq_79).trans rfl⟩
theorem lk_79_208 : Lk 79 208 (.laload) 0 0 (0) := ⟨1, 0, (congrArg (fun l => pm_look l 208) cq_79).trans rfl⟩
theorem lk_79_209 : Lk 79 209 (.bipush 6) 0 0 (0) := ⟨2, 0, (congrArg (fun l => pm_look l 209) cq_79).trans rfl⟩
theorem lk_79_211 : Lk 79 211 (.lshl) 0 0 (0) := ⟨1, 0, (congrArg (fun l => pm_look l 211) cq_79).trans rfl⟩
theorem lk_79_212 : Lk 79 212 (.iload 10) 0 0 (0) := ⟨2, 0, (congrArg (fun l => pm_look l 212) cq_79).trans rfl⟩
theorem lk_79_214 : Lk 79 214 (.i2l) 0 0 (0) := ⟨1, 0, (congrArg (fun l => pm_look l 214) cq_79).trans rfl⟩
theorem lk_79_215 : Lk 79 215 (.lor) 0 0 (0) := ⟨1, 0, (congrArg (fun l => pm_look l 215) cq_79).trans rfl⟩
theorem lk_79_216 : Lk 79 216 (.ldc2_w 111) 0 0 (1152921504606846975) := ⟨3, 1105, (congrArg (fun l => pm_look l 216) cq_79).trans rfl⟩
theorem lk_79_219 : Lk 79 219 (.land) 0 0 (0) := ⟨1, 0, (congrArg (fun l => pm_look l 219) cq_79).trans rfl⟩
theorem lk_79_220 : Lk 79 220 (.lastore) 0 0 (0) := ⟨1, 0, (congrArg (fun l => pm_look l 220) cq_79).trans rfl⟩
theorem lk_79_221 : Lk 79 221 (.iinc 7 1) 0 0 (0) := ⟨3, 0, (congrArg (fun l => pm_look l 221) cq_79).trans rfl⟩
theorem lk_79_224 : Lk 79 224 (.goto (-167)) 0 0 (0) := ⟨3, 0, (congrArg (fun l => pm_look l 224) cq_79).trans rfl⟩
theorem lk_79_227 : Lk 79 227 (.iinc 6 1) 0 0 (0) := ⟨3, 0, (congrArg (fun l => pm_look l 227) cq_79).trans rfl⟩
theorem lk_79_230 : Lk 79 230 (.goto (-183)) 0 0 (0) := ⟨3, 0, (congrArg (fun l => pm_look l 230) cq_79).trans rfl⟩
theorem lk_79_233 : Lk 79 233 (.return_) 0 0 (0) := ⟨1, 0, (congrArg (fun l => pm_look l 233) cq_79).trans rfl⟩
theorem cq_80 : pm_code 80 = cd_80 := rfl
theorem lk_80_0 : Lk 80 0 (.iload_n 1) 0 0 (0) := ⟨1, 0, (congrArg (fun l => pm_look l 0) cq_80).trans rfl⟩
theorem lk_80_1 : Lk 80 1 (.iload_n 1) 0 0 (0) := ⟨1, 0, (congrArg (fun l => pm_look l 1) cq_80).trans rfl⟩
theorem lk_80_2 : Lk 80 2 (.ineg) 0 0 (0) := ⟨1, 0, (congrArg (fun l => pm_look l 2) cq_80).trans rfl⟩
theorem lk_80_3 : Lk 80 3 (.iand) 0 0 (0) := ⟨1, 0, (congrArg (fun l => pm_look l 3) cq_80).trans rfl⟩
theorem lk_80_4 : Lk 80 4 (.istore 5) 0 0 (0) := ⟨2, 0, (congrArg (fun l => pm_look l 4) cq_80).trans rfl⟩
theorem lk_80_6 : Lk 80 6 (.iload_n 1) 0 0 (0) := ⟨1, 0, (congrArg (fun l => pm_look l 6) cq_80).trans rfl⟩
theorem lk_80_7 : Lk 80 7 (.iload 5) 0 0 (0) := ⟨2, 0, (congrArg (fun l => pm_look l 7) cq_80).trans rfl⟩
theorem lk_80_9 : Lk 80 9 (.ixor) 0 0 (0) := ⟨1, 0, (congrArg (fun l => pm_look l 9) cq_80).trans rfl⟩
theorem lk_80_10 : Lk 80 10 (.istore 6) 0 0 (0) := ⟨2, 0, (congrArg (fun l => pm_look l 10) cq_80).trans rfl⟩
theorem lk_80_12 : Lk 80 12 (.iload 4) 0 0 (0) := ⟨2, 0, (congrArg (fun l => pm_look l 12) cq_80).trans rfl⟩
theorem lk_80_14 : Lk 80 14 (.bipush 6) 0 0 (0) := ⟨2, 0, (congrArg (fun l => pm_look l 14) cq_80).trans rfl⟩
theorem lk_80_16 : Lk 80 16 (.imul) 0 0 (0) := ⟨1, 0, (congrArg (fun l => pm_look l 16) cq_80).trans rfl⟩
theorem lk_80_17 : Lk 80 17 (.istore 7) 0 0 (0) := ⟨2, 0, (congrArg (fun l => pm_look l 17) cq_80).trans rfl⟩
theorem lk_80_19 : Lk 80 19 (.ldc2_w 113) 0 0 (1000000) := ⟨3, 1100, (congrArg (fun l => pm_look l 19) cq_80).trans rfl⟩
theorem lk_80_22 : Lk 80 22 (.lstore 8) 0 0 (0) := ⟨2, 0, (congrArg (fun l => pm_look l 22) cq_80).trans rfl⟩
theorem lk_80_24 : Lk 80 24 (.iload 6) 0 0 (0) := ⟨2, 0, (congrArg (fun l => pm_look l 24) cq_80).trans rfl⟩
theorem lk_80_26 : Lk 80 26 (.istore 10) 0 0 (0) := ⟨2, 0, (congrArg (fun l => pm_look l 26) cq_80).trans rfl⟩
theorem lk_80_28 : Lk 80 28 (.iload 10) 0 0 (0) := ⟨2, 0, (congrArg (fun l => pm_look l 28) cq_80).trans rfl⟩
theorem lk_80_30 : Lk 80 30 (.ifCond .le 80) 0 0 (0) := ⟨3, 0, (congrArg (fun l => pm_look l 30) cq_80).trans rfl⟩
theorem lk_80_33 : Lk 80 33 (.lload 8) 0 0 (0) := ⟨2, 0, (congrArg (fun l => pm_look l 33) cq_80).trans rfl⟩
theorem lk_80_35 : Lk 80 35 (.lconst 0) 0 0 (0) := ⟨1, 0, (congrArg (fun l => pm_look l 35) cq_80).trans rfl⟩
theorem lk_80_36 : Lk 80 36 (.lcmp) 0 0 (0) := ⟨1, 0, (congrArg (fun l => pm_look l 36) cq_80).trans rfl⟩
theorem lk_80_37 : Lk 80 37 (.ifCond .le 73) 0 0 (0) := ⟨3, 0, (congrArg (fun l => pm_look l 37) cq_80).trans rfl⟩
theorem lk_80_40 : Lk 80 40 (.iload 10) 0 0 (0) := ⟨2, 0, (congrArg (fun l => pm_look l 40) cq_80).trans rfl⟩
theorem lk_80_42 : Lk 80 42 (.iconst 1) 0 0 (0) := ⟨1, 0, (congrArg (fun l => pm_look l 42) cq_80).trans rfl⟩
theorem lk_80_43 : Lk 80 43 (.isub) 0 0 (0) := ⟨1, 0, (congrArg (fun l => pm_look l 43) cq_80).trans rfl⟩
theorem lk_80_44 : Lk 80 44 (.iload 6) 0 0 (0) := ⟨2, 0, (congrArg (fun l => pm_look l 44) cq_80).trans rfl⟩
theorem lk_80_46 : Lk 80 46 (.iand) 0 0 (0) := ⟨1, 0, (congrArg (fun l => pm_look l 46) cq_80).trans rfl⟩
theorem lk_80_47 : Lk 80 47 (.istore 10) 0 0 (0) := ⟨2, 0, (congrArg (fun l => pm_look l 47) cq_80).trans rfl⟩
theorem lk_80_49 : Lk 80 49 (.aload_n 0) 0 0 (0) := ⟨1, 0, (congrArg (fun l => pm_look l 49) cq_80).trans rfl⟩
theorem lk_80_50 : Lk 80 50 (.getfield 15) 7 3 (2) := ⟨3, 437, (congrArg (fun l => pm_look l 50) cq_80).trans rfl⟩
theorem lk_80_53 : Lk 80 53 (.iload 5) 0 0 (0) := ⟨2, 0, (congrArg (fun l => pm_look l 53) cq_80).trans rfl⟩
theorem lk_80_55 : Lk 80 55 (.iload 10) 0 0 (0) := ⟨2, 0, (congrArg (fun l => pm_look l 55) cq_80).trans rfl⟩
theorem lk_80_57 : Lk 80 57 (.ior) 0 0 (0) := ⟨1, 0, (congrArg (fun l => pm_look l 57) cq_80).trans rfl⟩
theorem lk_80_58 : Lk 80 58 (.iload_n 2) 0 0 (0) := ⟨1, 0, (congrArg (fun l => pm_look l 58) cq_80).trans rfl⟩
theorem lk_80_59 : Lk 80 59 (.ishl) 0 0 (0) := ⟨1, 0, (congrArg (fun l => pm_look l 59) cq_80).trans rfl⟩
theorem lk_80_60 : Lk 80 60 (.iload_n 3) 0 0 (0) := ⟨1, 0, (congrArg (fun l => pm_look l 60) cq_80).trans rfl⟩
theorem lk_80_61 : Lk 80 61 (.ior) 0 0 (0) := ⟨1, 0, (congrArg (fun l => pm_look l 61) cq_80).trans rfl⟩
theorem lk_80_62 : Lk 80 62 (.laload) 0 0 (0) := ⟨1, 0, (congrArg (fun l => pm_look l 62) cq_80).trans rfl⟩
theorem lk_80_63 : Lk 80 63 (.iload 7) 0 0 (0) := ⟨2, 0, (congrArg (fun l => pm_look l 63) cq_80).trans rfl⟩
theorem lk_80_65 : Lk 80 65 (.lshr) 0 0 (0) := ⟨1, 0, (congrArg (fun l => pm_look l 65) cq_80).trans rfl⟩
theorem lk_80_66 : Lk 80 66 (.ldc2_w 54) 0 0 (63) := ⟨3, 1086, (congrArg (fun l => pm_look l 66) cq_80).trans rfl⟩
theorem lk_80_69 : Lk 80 69 (.land) 0 0 (0) := ⟨1, 0, (congrArg (fun l => pm_look l 69) cq_80).trans rfl⟩
theorem lk_80_70 : Lk 80 70 (.lstore 11) 0 0 (0) := ⟨2, 0, (congrArg (fun l => pm_look l 70) cq_80).trans rfl⟩
theorem lk_80_72 : Lk 80 72 (.aload_n 0) 0 0 (0) := ⟨1, 0, (congrArg (fun l => pm_look l 72) cq_80).trans rfl⟩
theorem lk_80_73 : Lk 80 73 (.getfield 15) 7 3 (2) := ⟨3, 437, (congrArg (fun l => pm_look l 73) cq_80).trans rfl⟩
theorem lk_80_76 : Lk 80 76 (.iload 6) 0 0 (0) := ⟨2, 0, (congrArg (fun l => pm_look l 76) cq_80).trans rfl⟩
theorem lk_80_78 : Lk 80 78 (.iload 10) 0 0 (0) := ⟨2, 0, (congrArg (fun l => pm_look l 78) cq_80).trans rfl⟩
theorem lk_80_80 : Lk 80 80 (.ixor) 0 0 (0) := ⟨1, 0, (congrArg (fun l => pm_look l 80) cq_80).trans rfl⟩
theorem lk_80_81 : Lk 80 81 (.iload_n 2) 0 0 (0) := ⟨1, 0, (congrArg (fun l => pm_look l 81) cq_80).trans rfl⟩
theorem lk_80_82 : Lk 80 82 (.ishl) 0 0 (0) := ⟨1, 0, (congrArg (fun l => pm_look l 82) cq_80).trans rfl⟩
theorem lk_80_83 : Lk 80 83 (.iload_n 3) 0 0 (0) := ⟨1, 0, (congrArg (fun l => pm_look l 83) cq_80).trans rfl⟩
theorem lk_80_84 : Lk 80 84 (.ior) 0 0 (0) := ⟨1, 0, (congrArg (fun l => pm_look l 84) cq_80).trans rfl⟩
theorem lk_80_85 : Lk 80 85 (.laload) 0 0 (0) := ⟨1, 0, (congrArg (fun l => pm_look l 85) cq_80).trans rfl⟩
theorem lk_80_86 : Lk 80 86 (.iload 7) 0 0 (0) := ⟨2, 0, (congrArg (fun l => pm_look l 86) cq_80).trans rfl⟩
theorem lk_80_88 : Lk 80 88 (.lshr) 0 0 (0) := ⟨1, 0, (congrArg (fun l => pm_look l 88) cq_80).trans rfl⟩
theorem lk_80_89 : Lk 80 89 (.ldc2_w 54) 0 0 (63) := ⟨3, 1086, (congrArg (fun l => pm_look l 89) cq_80).trans rfl⟩
theorem lk_80_92 : Lk 80 92 (.land) 0 0 (0) := ⟨1, 0, (congrArg (fun l => pm_look l 92) cq_80).trans rfl⟩
theorem lk_80_93 : Lk 80 93 (.lstore 13) 0 0 (0) := ⟨2, 0, (congrArg (fun l => pm_look l 93) cq_80).trans rfl⟩
theorem lk_80_95 : Lk 80 95 (.lload 8) 0 0 (0) := ⟨2, 0, (congrArg (fun l => pm_look l 95) cq_80).trans rfl⟩
theorem lk_80_97 : Lk 80 97 (.lload 11) 0 0 (0) := ⟨2, 0, (congrArg (fun l => pm_look l 97) cq_80).trans rfl⟩
theorem lk_80_99 : Lk 80 99 (.lload 13) 0 0 (0) := ⟨2, 0, (congrArg (fun l => pm_look l 99) cq_80).trans rfl⟩
theorem lk_80_101 : Lk 80 101 (.ladd) 0 0 (0) := ⟨1, 0, (congrArg (fun l => pm_look l 101) cq_80).trans rfl⟩
theorem lk_80_102 : Lk 80 102 (.invokestatic 115) 1002 0 (0) := ⟨3, 1101, (congrArg (fun l => pm_look l 102) cq_80).trans rfl⟩
theorem lk_80_105 : Lk 80 105 (.lstore 8) 0 0 (0) := ⟨2, 0, (congrArg (fun l => pm_look l 105) cq_80).trans rfl⟩
theorem lk_80_107 : Lk 80 107 (.goto (-79)) 0 0 (0) := ⟨3, 0, (congrArg (fun l => pm_look l 107) cq_80).trans rfl⟩
theorem lk_80_110 : Lk 80 110 (.lload 8) 0 0 (0) := ⟨2, 0, (congrArg (fun l => pm_look l 110) cq_80).trans rfl⟩
theorem lk_80_112 : Lk 80 112 (.l2i) 0 0 (0) := ⟨1, 0, (congrArg (fun l => pm_look l 112) cq_80).trans rfl⟩
theorem lk_80_113 : Lk 80 113 (.ireturn) 0 0 (0) := ⟨1, 0, (congrArg (fun l => pm_look l 113) cq_80).trans rfl⟩
theorem cq_81 : pm_code 81 = cd_81 := rfl
theorem lk_81_0 : Lk 81 0 (.aload_n 0) 0 0 (0) := ⟨1, 0, (congrArg (fun l => pm_look l 0) cq_81).trans rfl⟩
theorem lk_81_1 : Lk 81 1 (.invokespecial 3) 999 0 (0) := ⟨3, 143, (congrArg (fun l => pm_look l 1) cq_81).trans rfl⟩
theorem lk_81_4 : Lk 81 4 (.aload_n 0) 0 0 (0) := ⟨1, 0, (congrArg (fun l => pm_look l 4) cq_81).trans rfl⟩
theorem lk_81_5 : Lk 81 5 (.bipush 36) 0 0 (0) := ⟨2, 0, (congrArg (fun l => pm_look l 5) cq_81).trans rfl⟩
theorem lk_81_7 : Lk 81 7 (.newarray .int) 100 0 (0) := ⟨2, 0, (congrArg (fun l => pm_look l 7) cq_81).trans rfl⟩
theorem lk_81_9 : Lk 81 9 (.putfield 9) 8 0 (2) := ⟨3, 148, (congrArg (fun l => pm_look l 9) cq_81).trans rfl⟩
theorem lk_81_12 : Lk 81 12 (.aload_n 0) 0 0 (0) := ⟨1, 0, (congrArg (fun l => pm_look l 12) cq_81).trans rfl⟩
theorem lk_81_13 : Lk 81 13 (.invokevirtual 15) 82 0 (0) := ⟨3, 144, (congrArg (fun l => pm_look l 13) cq_81).trans rfl⟩
theorem lk_81_16 : Lk 81 16 (.aload_n 0) 0 0 (0) := ⟨1, 0, (congrArg (fun l => pm_look l 16) cq_81).trans rfl⟩
theorem lk_81_17 : Lk 81 17 (.iconst 1) 0 0 (0) := ⟨1, 0, (congrArg (fun l => pm_look l 17) cq_81).trans rfl⟩
theorem lk_81_18 : Lk 81 18 (.putfield 18) 8 1 (0) := ⟨3, 151, (congrArg (fun l => pm_look l 18) cq_81).trans rfl⟩
theorem lk_81_21 : Lk 81 21 (.aload_n 0) 0 0 (0) := ⟨1, 0, (congrArg (fun l => pm_look l 21) cq_81).trans rfl⟩
theorem lk_81_22 : Lk 81 22 (.iconst 1) 0 0 (0) := ⟨1, 0, (congrArg (fun l => pm_look l 22) cq_81).trans rfl⟩
theorem lk_81_23 : Lk 81 23 (.putfield 22) 8 2 (0) := ⟨3, 158, (congrArg (fun l => pm_look l 23) cq_81).trans rfl⟩
theorem lk_81_26 : Lk 81 26 (.return_) 0 0 (0) := ⟨1, 0, (congrArg (fun l => pm_look l 26) cq_81).trans rfl⟩
theorem cq_82 : pm_code 82 = cd_82 := rfl
theorem lk_82_0 : Lk 82 0 (.iconst 0) 0 0 (0) := ⟨1, 0, (congrArg (fun l => pm_look l 0) cq_82).trans rfl⟩
theorem lk_82_1 : Lk 82 1 (.istore_n 1) 0 0 (0) := ⟨1, 0, (congrArg (fun l => pm_look l 1) cq_82).trans rfl⟩
theorem lk_82_2 : Lk 82 2 (.iload_n 1) 0 0 (0) := ⟨1, 0, (congrArg (fun l => pm_look l 2) cq_82).trans rfl⟩
theorem lk_82_3 : Lk 82 3 (.aload_n 0) 0 0 (0) := ⟨1, 0, (congrArg (fun l => pm_look l 3) cq_82).trans rfl⟩
theorem lk_82_4 : Lk 82 4 (.getfield 9) 8 0 (2) := ⟨3, 148, (congrArg (fun l => pm_look l 4) cq_82).trans rfl⟩
theorem lk_82_7 : Lk 82 7 (.arraylength) 0 0 (0) := ⟨1, 0, (congrArg (fun l => pm_look l 7) cq_82).trans rfl⟩
theorem lk_82_8 : Lk 82 8 (.if_icmp .ge 17) 0 0 (0) := ⟨3, 0, (congrArg (fun l => pm_look l 8) cq_82).trans rfl⟩
theorem lk_82_11 : Lk 82 11 (.aload_n 0) 0 0 (0) := ⟨1, 0, (congrArg (fun l => pm_look l 11) cq_82).trans rfl⟩
theorem lk_82_12 : Lk 82 12 (.getfield 9) 8 0 (2) := ⟨3, 148, (congrArg (fun l => pm_look l 12) cq_82).trans rfl⟩
theorem lk_82_15 : Lk 82 15 (.iload_n 1) 0 0 (0) := ⟨1, 0, (congrArg (fun l => pm_look l 15) cq_82).trans rfl⟩
theorem lk_82_16 : Lk 82 16 (.bipush 10) 0 0 (0) := ⟨2, 0, (congrArg (fun l => pm_look l 16) cq_82).trans rfl⟩
theorem lk_82_18 : Lk 82 18 (.iastore) 0 0 (0) := ⟨1, 0, (congrArg (fun l => pm_look l 18) cq_82).trans rfl⟩
theorem lk_82_19 : Lk 82 19 (.iinc 1 1) 0 0 (0) := ⟨3, 0, (congrArg (fun l => pm_look l 19) cq_82).trans rfl⟩
theorem lk_82_22 : Lk 82 22 (.goto (-20)) 0 0 (0) := ⟨3, 0, (congrArg (fun l => pm_look l 22) cq_82).trans rfl⟩
theorem lk_82_25 : Lk 82 25 (.aload_n 0) 0 0 (0) := ⟨1, 0, (congrArg (fun l => pm_look l 25) cq_82).trans rfl⟩
theorem lk_82_26 : Lk 82 26 (.iconst 0) 0 0 (0) := ⟨1, 0, (congrArg (fun l => pm_look l 26) cq_82).trans rfl⟩
theorem lk_82_27 : Lk 82 27 (.putfield 18) 8 1 (0) := ⟨3, 151, (congrArg (fun l => pm_look l 27) cq_82).trans rfl⟩
theorem lk_82_30 : Lk 82 30 (.aload_n 0) 0 0 (0) := ⟨1, 0, (congrArg (fun l => pm_look l 30) cq_82).trans rfl⟩
theorem lk_82_31 : Lk 82 31 (.iconst 0) 0 0 (0) := ⟨1, 0, (congrArg (fun l => pm_look l 31) cq_82).trans rfl⟩
theorem lk_82_32 : Lk 82 32 (.putfield 22) 8 2 (0) := ⟨3, 158, (congrArg (fun l => pm_look l 32) cq_82).trans rfl⟩
theorem lk_82_35 : Lk 82 35 (.aload_n 0) 0 0 (0) := ⟨1, 0, (congrArg (fun l => pm_look l 35) cq_82).trans rfl⟩
theorem lk_82_36 : Lk 82 36 (.iconst 1) 0 0 (0) := ⟨1, 0, (congrArg (fun l => pm_look l 36) cq_82).trans rfl⟩
theorem lk_82_37 : Lk 82 37 (.putfield 25) 8 3 (0) := ⟨3, 168, (congrArg (fun l => pm_look l 37) cq_82).trans rfl⟩
theorem lk_82_40 : Lk 82 40 (.aload_n 0) 0 0 (0) := ⟨1, 0, (congrArg (fun l => pm_look l 40) cq_82).trans rfl⟩
theorem lk_82_41 : Lk 82 41 (.iconst 1) 0 0 (0) := ⟨1, 0, (congrArg (fun l => pm_look l 41) cq_82).trans rfl⟩
theorem lk_82_42 : Lk 82 42 (.putfield 28) 8 4 (0) := ⟨3, 175, (congrArg (fun l => pm_look l 42) cq_82).trans rfl⟩
theorem lk_82_45 : Lk 82 45 (.return_) 0 0 (0) := ⟨1, 0, (congrArg (fun l => pm_look l 45) cq_82).trans rfl⟩
theorem cq_83 : pm_code 83 = cd_83 := rfl
theorem lk_83_0 : Lk 83 0 (.iconst 0) 0 0 (0) := ⟨1, 0, (congrArg (fun l => pm_look l 0) cq_83).trans rfl⟩
theorem lk_83_1 : Lk 83 1 (.istore_n 2) 0 0 (0) := ⟨1, 0, (congrArg (fun l => pm_look l 1) cq_83).trans rfl⟩
theorem lk_83_2 : Lk 83 2 (.iload_n 2) 0 0 (0) := ⟨1, 0, (congrArg (fun l => pm_look l 2) cq_83).trans rfl⟩
theorem lk_83_3 : Lk 83 3 (.aload_n 0) 0 0 (0) := ⟨1, 0, (congrArg (fun l => pm_look l 3) cq_83).trans rfl⟩
theorem lk_83_4 : Lk 83 4 (.getfield 9) 8 0 (2) := ⟨3, 148, (congrArg (fun l => pm_look l 4) cq_83).trans rfl⟩
theorem lk_83_7 : Lk 83 7 (.arraylength) 0 0 (0) := ⟨1, 0, (congrArg (fun l => pm_look l 7) cq_83).trans rfl⟩
theorem lk_83_8 : Lk 83 8 (.if_icmp .ge 21) 0 0 (0) := ⟨3, 0, (congrArg (fun l => pm_look l 8) cq_83).trans rfl⟩
theorem lk_83_11 : Lk 83 11 (.aload_n 0) 0 0 (0) := ⟨1, 0, (congrArg (fun l => pm_look l 11) cq_83).trans rfl⟩
theorem lk_83_12 : Lk 83 12 (.getfield 9) 8 0 (2) := ⟨3, 148, (congrArg (fun l => pm_look l 12) cq_83).trans rfl⟩
theorem lk_83_15 : Lk 83 15 (.iload_n 2) 0 0 (0) := ⟨1, 0, (congrArg (fun l => pm_look l 15) cq_83).trans rfl⟩
theorem lk_83_16 : Lk 83 16 (.aload_n 1) 0 0 (0) := ⟨1, 0, (congrArg (fun l => pm_look l 16) cq_83).trans rfl⟩
theorem lk_83_17 : Lk 83 17 (.getfield 9) 8 0 (2) := ⟨3, 148, (congrArg (fun l => pm_look l 17) cq_83).trans rfl⟩
theorem lk_83_20 : Lk 83 20 (.iload_n 2) 0 0 (0) := ⟨1, 0, (congrArg (fun l => pm_look l 20) cq_83).trans rfl⟩
theorem lk_83_21 : Lk 83 21 (.iaload) 0 0 (0) := ⟨1, 0, (congrArg (fun l => pm_look l 21) cq_83).trans rfl⟩
theorem lk_83_22 : Lk 83 22 (.iastore) 0 0 (0) := ⟨1, 0, (congrArg (fun l => pm_look l 22) cq_83).trans rfl⟩
theorem lk_83_23 : Lk 83 23 (.iinc 2 1) 0 0 (0) := ⟨3, 0, (congrArg (fun l => pm_look l 23) cq_83).trans rfl⟩
theorem lk_83_26 : Lk 83 26 (.goto (-24)) 0 0 (0) := ⟨3, 0, (congrArg (fun l => pm_look l 26) cq_83).trans rfl⟩
theorem lk_83_29 : Lk 83 29 (.aload_n 0) 0 0 (0) := ⟨1, 0, (congrArg (fun l => pm_look l 29) cq_83).trans rfl⟩
theorem lk_83_30 : Lk 83 30 (.aload_n 1) 0 0 (0) := ⟨1, 0, (congrArg (fun l => pm_look l 30) cq_83).trans rfl⟩
theorem lk_83_31 : Lk 83 31 (.getfield 18) 8 1 (0) := ⟨3, 151, (congrArg (fun l => pm_look l 31) cq_83).trans rfl⟩
theorem lk_83_34 : Lk 83 34 (.putfield 18) 8 1 (0) := ⟨3, 151, (congrArg (fun l => pm_look l 34) cq_83).trans rfl⟩
theorem lk_83_37 : Lk 83 37 (.aload_n 0) 0 0 (0) := ⟨1, 0, (congrArg (fun l => pm_look l 37) cq_83).trans rfl⟩
theorem lk_83_38 : Lk 83 38 (.aload_n 1) 0 0 (0) := ⟨1, 0, (congrArg (fun l => pm_look l 38) cq_83).trans rfl⟩
theorem lk_83_39 : Lk 83 39 (.getfield 22) 8 2 (0) := ⟨3, 158, (congrArg (fun l => pm_look l 39) cq_83).trans rfl⟩
theorem lk_83_42 : Lk 83 42 (.putfield 22) 8 2 (0) := ⟨3, 158, (congrArg (fun l => pm_look l 42) cq_83).trans rfl⟩
theorem lk_83_45 : Lk 83 45 (.aload_n 0) 0 0 (0) := ⟨1, 0, (congrArg (fun l => pm_look l 45) cq_83).trans rfl⟩
theorem lk_83_46 : Lk 83 46 (.aload_n 1) 0 0 (0) := ⟨1, 0, (congrArg (fun l => pm_look l 46) cq_83).trans rfl⟩
theorem lk_83_47 : Lk 83 47 (.getfield 25) 8 3 (0) := ⟨3, 168, (congrArg (fun l => pm_look l 47) cq_83).trans rfl⟩
theorem lk_83_50 : Lk 83 50 (.putfield 25) 8 3 (0) := ⟨3, 168, (congrArg (fun l => pm_look l 50) cq_83).trans rfl⟩
theorem lk_83_53 : Lk 83 53 (.aload_n 0) 0 0 (0) := ⟨1, 0, (congrArg (fun l => pm_look l 53) cq_83).trans rfl⟩
theorem lk_83_54 : Lk 83 54 (.aload_n 1) 0 0 (0) := ⟨1, 0, (congrArg (fun l => pm_look l 54) cq_83).trans rfl⟩
theorem lk_83_55 : Lk 83 55 (.getfield 28) 8 4 (0) := ⟨3, 175, (congrArg (fun l => pm_look l 55) cq_83).trans rfl⟩
theorem lk_83_58 : Lk 83 58 (.putfield 28) 8 4 (0) := ⟨3, 175, (congrArg (fun l => pm_look l 58) cq_83).trans rfl⟩
theorem lk_83_61 : Lk 83 61 (.return_) 0 0 (0) := ⟨1, 0, (congrArg (fun l => pm_look l 61) cq_83).trans rfl⟩
theorem cq_84 : pm_code 84 = cd_84 := rfl
theorem lk_84_0 : Lk 84 0 (.iload_n 1) 0 0 (0) := ⟨1, 0, (congrArg (fun l => pm_look l 0) cq_84).trans rfl⟩
theorem lk_84_1 : Lk 84 1 (.ifCond .lt 27) 0 0 (0) := ⟨3, 0, (congrArg (fun l => pm_look l 1) cq_84).trans rfl⟩
theorem lk_84_4 : Lk 84 4 (.iload_n 1) 0 0 (0) := ⟨1, 0, (congrArg (fun l => pm_look l 4) cq_84).trans rfl⟩
theorem lk_84_5 : Lk 84 5 (.aload_n 0) 0 0 (0) := ⟨1, 0, (congrArg (fun l => pm_look l 5) cq_84).trans rfl⟩
theorem lk_84_6 : Lk 84 6 (.getfield 18) 8 1 (0) := ⟨3, 151, (congrArg (fun l => pm_look l 6) cq_84).trans rfl⟩
theorem lk_84_9 : Lk 84 9 (.if_icmp .ge 19) 0 0 (0) := ⟨3, 0, (congrArg (fun l => pm_look l 9) cq_84).trans rfl⟩
theorem lk_84_12 : Lk 84 12 (.iload_n 2) 0 0 (0) := ⟨1, 0, (congrArg (fun l => pm_look l 12) cq_84).trans rfl⟩
theorem lk_84_13 : Lk 84 13 (.ifCond .lt 15) 0 0 (0) := ⟨3, 0, (congrArg (fun l => pm_look l 13) cq_84).trans rfl⟩
theorem lk_84_16 : Lk 84 16 (.iload_n 2) 0 0 (0) := ⟨1, 0, (congrArg (fun l => pm_look l 16) cq_84).trans rfl⟩
theorem lk_84_17 : Lk 84 17 (.aload_n 0) 0 0 (0) := ⟨1, 0, (congrArg (fun l => pm_look l 17) cq_84).trans rfl⟩
theorem lk_84_18 : Lk 84 18 (.getfield 22) 8 2 (0) := ⟨3, 158, (congrArg (fun l => pm_look l 18) cq_84).trans rfl⟩
theorem lk_84_21 : Lk 84 21 (.if_icmp .ge 7) 0 0 (0) := ⟨3, 0, (congrArg (fun l => pm_look l 21) cq_84).trans rfl⟩
theorem lk_84_24 : Lk 84 24 (.iconst 1) 0 0 (0) := ⟨1, 0, (congrArg (fun l => pm_look l 24) cq_84).trans rfl⟩
theorem lk_84_25 : Lk 84 25 (.goto 4) 0 0 (0) := ⟨3, 0, (congrArg (fun l => pm_look l 25) cq_84).trans rfl⟩
theorem lk_84_28 : Lk 84 28 (.iconst 0) 0 0 (0) := ⟨1, 0, (congrArg (fun l => pm_look l 28) cq_84).trans rfl⟩
theorem lk_84_29 : Lk 84 29 (.ireturn) 1 0 (0) := ⟨1, 0, (congrArg (fun l => pm_look l 29) cq_84).trans rfl⟩
theorem cq_85 : pm_code 85 = cd_85 := rfl
theorem lk_85_0 : Lk 85 0 (.aload_n 0) 0 0 (0) := ⟨1, 0, (congrArg (fun l => pm_look l 0) cq_85).trans rfl⟩
theorem lk_85_1 : Lk 85 1 (.getfield 9) 8 0 (2) := ⟨3, 148, (congrArg (fun l => pm_look l 1) cq_85).trans rfl⟩
theorem lk_85_4 : Lk 85 4 (.iload_n 1) 0 0 (0) := ⟨1, 0, (congrArg (fun l => pm_look l 4) cq_85).trans rfl⟩
theorem lk_85_5 : Lk 85 5 (.bipush 6) 0 0 (0) := ⟨2, 0, (congrArg (fun l => pm_look l 5) cq_85).trans rfl⟩
theorem lk_85_7 : Lk 85 7 (.imul) 0 0 (0) := ⟨1, 0, (congrArg (fun l => pm_look l 7) cq_85).trans rfl⟩
theorem lk_85_8 : Lk 85 8 (.iload_n 2) 0 0 (0) := ⟨1, 0, (congrArg (fun l => pm_look l 8) cq_85).trans rfl⟩
theorem lk_85_9 : Lk 85 9 (.iadd) 0 0 (0) := ⟨1, 0, (congrArg (fun l => pm_look l 9) cq_85).trans rfl⟩
theorem lk_85_10 : Lk 85 10 (.iaload) 0 0 (0) := ⟨1, 0, (congrArg (fun l => pm_look l 10) cq_85).trans rfl⟩
theorem lk_85_11 : Lk 85 11 (.ireturn) 0 0 (0) := ⟨1, 0, (congrArg (fun l => pm_look l 11) cq_85).trans rfl⟩
theorem cq_86 : pm_code 86 = cd_86 := rfl
theorem lk_86_0 : Lk 86 0 (.iconst 1) 0 0 (0) := ⟨1, 0, (congrArg (fun l => pm_look l 0) cq_86).trans rfl⟩
theorem lk_86_1 : Lk 86 1 (.aload_n 0) 0 0 (0) := ⟨1, 0, (congrArg (fun l => pm_look l 1) cq_86).trans rfl⟩
theorem lk_86_2 : Lk 86 2 (.getfield 18) 8 1 (0) := ⟨3, 151, (congrArg (fun l => pm_look l 2) cq_86).trans rfl⟩
theorem lk_86_5 : Lk 86 5 (.ishl) 0 0 (0) := ⟨1, 0, (congrArg (fun l => pm_look l 5) cq_86).trans rfl⟩
theorem lk_86_6 : Lk 86 6 (.iconst 1) 0 0 (0) := ⟨1, 0, (congrArg (fun l => pm_look l 6) cq_86).trans rfl⟩
theorem lk_86_7 : Lk 86 7 (.isub) 0 0 (0) := ⟨1, 0, (congrArg (fun l => pm_look l 7) cq_86).trans rfl⟩
theorem lk_86_8 : Lk 86 8 (.ireturn) 0 0 (0) := ⟨1, 0, (congrArg (fun l => pm_look l 8) cq_86).trans rfl⟩
theorem cq_87 : pm_code 87 = cd_87 := rfl
theorem lk_87_0 : Lk 87 0 (.iconst 1) 0 0 (0) := ⟨1, 0, (congrArg (fun l => pm_look l 0) cq_87).trans rfl⟩
theorem lk_87_1 : Lk 87 1 (.aload_n 0) 0 0 (0) := ⟨1, 0, (congrArg (fun l => pm_look l 1) cq_87).trans rfl⟩
theorem lk_87_2 : Lk 87 2 (.getfield 22) 8 2 (0) := ⟨3, 158, (congrArg (fun l => pm_look l 2) cq_87).trans rfl⟩
theorem lk_87_5 : Lk 87 5 (.ishl) 0 0 (0) := ⟨1, 0, (congrArg (fun l => pm_look l 5) cq_87).trans rfl⟩
theorem lk_87_6 : Lk 87 6 (.iconst 1) 0 0 (0) := ⟨1, 0, (congrArg (fun l => pm_look l 6) cq_87).trans rfl⟩
theorem lk_87_7 : Lk 87 7 (.isub) 0 0 (0) := ⟨1, 0, (congrArg (fun l => pm_look l 7) cq_87).trans rfl⟩
theorem lk_87_8 : Lk 87 8 (.ireturn) 0 0 (0) := ⟨1, 0, (congrArg (fun l => pm_look l 8) cq_87).trans rfl⟩
theorem cq_88 : pm_code 88 = cd_88 := rfl
theorem lk_88_0 : Lk 88 0 (.iconst 0) 0 0 (0) := ⟨1, 0, (congrArg (fun l => pm_look l 0) cq_88).trans rfl⟩
theorem lk_88_1 : Lk 88 1 (.istore_n 3) 0 0 (0) := ⟨1, 0, (congrArg (fun l => pm_look l 1) cq_88).trans rfl⟩
theorem lk_88_2 : Lk 88 2 (.iconst 0) 0 0 (0) := ⟨1, 0, (congrArg (fun l => pm_look l 2) cq_88).trans rfl⟩
theorem lk_88_3 : Lk 88 3 (.istore 4) 0 0 (0) := ⟨2, 0, (congrArg (fun l => pm_look l 3) cq_88).trans rfl⟩
theorem lk_88_5 : Lk 88 5 (.iload 4) 0 0 (0) := ⟨2, 0, (congrArg (fun l => pm_look l 5) cq_88).trans rfl⟩
theorem lk_88_7 : Lk 88 7 (.aload_n 0) 0 0 (0) := ⟨1, 0, (congrArg (fun l => pm_look l 7) cq_88).trans rfl⟩
theorem lk_88_8 : Lk 88 8 (.getfield 18) 8 1 (0) := ⟨3, 151, (congrArg (fun l => pm_look l 8) cq_88).trans rfl⟩
theorem lk_88_11 : Lk 88 11 (.if_icmp .ge 58) 0 0 (0) := ⟨3, 0, (congrArg (fun l => pm_look l 11) cq_88).trans rfl⟩
theorem lk_88_14 : Lk 88 14 (.iconst 0) 0 0 (0) := ⟨1, 0, (congrArg (fun l => pm_look l 14) cq_88).trans rfl⟩
theorem lk_88_15 : Lk 88 15 (.istore 5) 0 0 (0) := ⟨2, 0, (congrArg (fun l => pm_look l 15) cq_88).trans rfl⟩
theorem lk_88_17 : Lk 88 17 (.iload 5) 0 0 (0) := ⟨2, 0, (congrArg (fun l => pm_look l 17) cq_88).trans rfl⟩
theorem lk_88_19 : Lk 88 19 (.aload_n 0) 0 0 (0) := ⟨1, 0, (congrArg (fun l => pm_look l 19) cq_88).trans rfl⟩
theorem lk_88_20 : Lk 88 20 (.getfield 22) 8 2 (0) := ⟨3, 158, (congrArg (fun l => pm_look l 20) cq_88).trans rfl⟩
theorem lk_88_23 : Lk 88 23 (.if_icmp .ge 40) 0 0 (0) := ⟨3, 0, (congrArg (fun l => pm_look l 23) cq_88).trans rfl⟩
theorem lk_88_26 : Lk 88 26 (.iload 4) 0 0 (0) := ⟨2, 0, (congrArg (fun l => pm_look l 26) cq_88).trans rfl⟩
theorem lk_88_28 : Lk 88 28 (.iload_n 1) 0 0 (0) := ⟨1, 0, (congrArg (fun l => pm_look l 28) cq_88).trans rfl⟩
theorem lk_88_29 : Lk 88 29 (.invokestatic 31) 95 0 (0) := ⟨3, 690, (congrArg (fun l => pm_look l 29) cq_88).trans rfl⟩
theorem lk_88_32 : Lk 88 32 (.ifCond .eq 25) 0 0 (0) := ⟨3, 0, (congrArg (fun l => pm_look l 32) cq_88).trans rfl⟩
theorem lk_88_35 : Lk 88 35 (.iload 5) 0 0 (0) := ⟨2, 0, (congrArg (fun l => pm_look l 35) cq_88).trans rfl⟩
theorem lk_88_37 : Lk 88 37 (.iload_n 2) 0 0 (0) := ⟨1, 0, (congrArg (fun l => pm_look l 37) cq_88).trans rfl⟩
theorem lk_88_38 : Lk 88 38 (.invokestatic 31) 95 0 (0) := ⟨3, 690, (congrArg (fun l => pm_look l 38) cq_88).trans rfl⟩
theorem lk_88_41 : Lk 88 41 (.ifCond .eq 16) 0 0 (0) := ⟨3, 0, (congrArg (fun l => pm_look l 41) cq_88).trans rfl⟩
theorem lk_88_44 : Lk 88 44 (.iload_n 3) 0 0 (0) := ⟨1, 0, (congrArg (fun l => pm_look l 44) cq_88).trans rfl⟩
theorem lk_88_45 : Lk 88 45 (.iconst 1) 0 0 (0) := ⟨1, 0, (congrArg (fun l => pm_look l 45) cq_88).trans rfl⟩
theorem lk_88_46 : Lk 88 46 (.aload_n 0) 0 0 (0) := ⟨1, 0, (congrArg (fun l => pm_look l 46) cq_88).trans rfl⟩
theorem lk_88_47 : Lk 88 47 (.iload 4) 0 0 (0) := ⟨2, 0, (congrArg (fun l => pm_look l 47) cq_88).trans rfl⟩
theorem lk_88_49 : Lk 88 49 (.iload 5) 0 0 (0) := ⟨2, 0, (congrArg (fun l => pm_look l 49) cq_88).trans rfl⟩
theorem lk_88_51 : Lk 88 51 (.invokevirtual 35) 85 0 (0) := ⟨3, 693, (congrArg (fun l => pm_look l 51) cq_88).trans rfl⟩
theorem lk_88_54 : Lk 88 54 (.ishl) 0 0 (0) := ⟨1, 0, (congrArg (fun l => pm_look l 54) cq_88).trans rfl⟩
theorem lk_88_55 : Lk 88 55 (.ior) 0 0 (0) := ⟨1, 0, (congrArg (fun l => pm_look l 55) cq_88).trans rfl⟩
theorem lk_88_56 : Lk 88 56 (.istore_n 3) 0 0 (0) := ⟨1, 0, (congrArg (fun l => pm_look l 56) cq_88).trans rfl⟩
theorem lk_88_57 : Lk 88 57 (.iinc 5 1) 0 0 (0) := ⟨3, 0, (congrArg (fun l => pm_look l 57) cq_88).trans rfl⟩
theorem lk_88_60 : Lk 88 60 (.goto (-43)) 0 0 (0) := ⟨3, 0, (congrArg (fun l => pm_look l 60) cq_88).trans rfl⟩
theorem lk_88_63 : Lk 88 63 (.iinc 4 1) 0 0 (0) := ⟨3, 0, (congrArg (fun l => pm_look l 63) cq_88).trans rfl⟩
theorem lk_88_66 : Lk 88 66 (.goto (-61)) 0 0 (0) := ⟨3, 0, (congrArg (fun l => pm_look l 66) cq_88).trans rfl⟩
theorem lk_88_69 : Lk 88 69 (.iload_n 3) 0 0 (0) := ⟨1, 0, (congrArg (fun l => pm_look l 69) cq_88).trans rfl⟩
theorem lk_88_70 : Lk 88 70 (.sipush 1023) 0 0 (0) := ⟨3, 0, (congrArg (fun l => pm_look l 70) cq_88).trans rfl⟩
theorem lk_88_73 : Lk 88 73 (.iand) 0 0 (0) := ⟨1, 0, (congrArg (fun l => pm_look l 73) cq_88).trans rfl⟩
theorem lk_88_74 : Lk 88 74 (.ireturn) 0 0 (0) := ⟨1, 0, (congrArg (fun l => pm_look l 74) cq_88).trans rfl⟩
theorem cq_89 : pm_code 89 = cd_89 := rfl
theorem lk_89_0 : Lk 89 0 (.aload_n 0) 0 0 (0) := ⟨1, 0, (congrArg (fun l => pm_look l 0) cq_89).trans rfl⟩
theorem lk_89_1 : Lk 89 1 (.iload_n 1) 0 0 (0) := ⟨1, 0, (congrArg (fun l => pm_look l 1) cq_89).trans rfl⟩
theorem lk_89_2 : Lk 89 2 (.iload_n 2) 0 0 (0) := ⟨1, 0, (congrArg (fun l => pm_look l 2) cq_89).trans rfl⟩
theorem lk_89_3 : Lk 89 3 (.bipush 10) 0 0 (0) := ⟨2, 0, (congrArg (fun l => pm_look l 3) cq_89).trans rfl⟩
theorem lk_89_5 : Lk 89 5 (.invokevirtual 39) 90 0 (0) := ⟨3, 701, (congrArg (fun l => pm_look l 5) cq_89).trans rfl⟩
theorem lk_89_8 : Lk 89 8 (.ireturn) 0 0 (0) := ⟨1, 0, (congrArg (fun l => pm_look l 8) cq_89).trans rfl⟩
theorem cq_90 : pm_code 90 = cd_90 := rfl
theorem lk_90_0 : Lk 90 0 (.iconst 0) 0 0 (0) := ⟨1, 0, (congrArg (fun l => pm_look l 0) cq_90).trans rfl⟩
theorem lk_90_1 : Lk 90 1 (.istore 4) 0 0 (0) := ⟨2, 0, (congrArg (fun l => pm_look l 1) cq_90).trans rfl⟩
theorem lk_90_3 : Lk 90 3 (.iconst 0) 0 0 (0) := ⟨1, 0, (congrArg (fun l => pm_look l 3) cq_90).trans rfl⟩
theorem lk_90_4 : Lk 90 4 (.istore 5) 0 0 (0) := ⟨2, 0, (congrArg (fun l => pm_look l 4) cq_90).trans rfl⟩
theorem lk_90_6 : Lk 90 6 (.iload 5) 0 0 (0) := ⟨2, 0, (congrArg (fun l => pm_look l 6) cq_90).trans rfl⟩
theorem lk_90_8 : Lk 90 8 (.aload_n 0) 0 0 (0) := ⟨1, 0, (congrArg (fun l => pm_look l 8) cq_90).trans rfl⟩
theorem lk_90_9 : Lk 90 9 (.getfield 18) 8 1 (0) := ⟨3, 151, (congrArg (fun l => pm_look l 9) cq_90).trans rfl⟩
theorem lk_90_12 : Lk 90 12 (.if_icmp .ge 35) 0 0 (0) := ⟨3, 0, (congrArg (fun l => pm_look l 12) cq_90).trans rfl⟩
theorem lk_90_15 : Lk 90 15 (.iload 5) 0 0 (0) := ⟨2, 0, (congrArg (fun l => pm_look l 15) cq_90).trans rfl⟩
theorem lk_90_17 : Lk 90 17 (.iload_n 1) 0 0 (0) := ⟨1, 0, (congrArg (fun l => pm_look l 17) cq_90).trans rfl⟩
theorem lk_90_18 : Lk 90 18 (.invokestatic 31) 95 0 (0) := ⟨3, 690, (congrArg (fun l => pm_look l 18) cq_90).trans rfl⟩
theorem lk_90_21 : Lk 90 21 (.ifCond .eq 20) 0 0 (0) := ⟨3, 0, (congrArg (fun l => pm_look l 21) cq_90).trans rfl⟩
theorem lk_90_24 : Lk 90 24 (.iload 4) 0 0 (0) := ⟨2, 0, (congrArg (fun l => pm_look l 24) cq_90).trans rfl⟩
theorem lk_90_26 : Lk 90 26 (.aload_n 0) 0 0 (0) := ⟨1, 0, (congrArg (fun l => pm_look l 26) cq_90).trans rfl⟩
theorem lk_90_27 : Lk 90 27 (.iload 5) 0 0 (0) := ⟨2, 0, (congrArg (fun l => pm_look l 27) cq_90).trans rfl⟩
theorem lk_90_29 : Lk 90 29 (.iload_n 3) 0 0 (0) := ⟨1, 0, (congrArg (fun l => pm_look l 29) cq_90).trans rfl⟩
theorem lk_90_30 : Lk 90 30 (.invokevirtual 43) 92 0 (0) := ⟨3, 705, (congrArg (fun l => pm_look l 30) cq_90).trans rfl⟩
theorem lk_90_33 : Lk 90 33 (.iload_n 2) 0 0 (0) := ⟨1, 0, (congrArg (fun l => pm_look l 33) cq_90).trans rfl⟩
theorem lk_90_34 : Lk 90 34 (.iand) 0 0 (0) := ⟨1, 0, (congrArg (fun l => pm_look l 34) cq_90).trans rfl⟩
theorem lk_90_35 : Lk 90 35 (.invokestatic 46) 265 0 (0) := ⟨3, 714, (congrArg (fun l => pm_look l 35) cq_90).trans rfl⟩
theorem lk_90_38 : Lk 90 38 (.iadd) 0 0 (0) := ⟨1, 0, (congrArg (fun l => pm_look l 38) cq_90).trans rfl⟩
theorem lk_90_39 : Lk 90 39 (.istore 4) 0 0 (0) := ⟨2, 0, (congrArg (fun l => pm_look l 39) cq_90).trans rfl⟩
theorem lk_90_41 : Lk 90 41 (.iinc 5 1) 0 0 (0) := ⟨3, 0, (congrArg (fun l => pm_look l 41) cq_90).trans rfl⟩
theorem lk_90_44 : Lk 90 44 (.goto (-38)) 0 0 (0) := ⟨3, 0, (congrArg (fun l => pm_look l 44) cq_90).trans rfl⟩
theorem lk_90_47 : Lk 90 47 (.iload 4) 0 0 (0) := ⟨2, 0, (congrArg (fun l => pm_look l 47) cq_90).trans rfl⟩
theorem lk_90_49 : Lk 90 49 (.ireturn) 0 0 (0) := ⟨1, 0, (congrArg (fun l => pm_look l 49) cq_90).trans rfl⟩
theorem cq_91 : pm_code 91 = cd_91 := rfl
theorem lk_91_0 : Lk 91 0 (.iconst 0) 0 0 (0) := ⟨1, 0, (congrArg (fun l => pm_look l 0) cq_91).trans rfl⟩
theorem lk_91_1 : Lk 91 1 (.istore_n 3) 0 0 (0) := ⟨1, 0, (congrArg (fun l => pm_look l 1) cq_91).trans rfl⟩
theorem lk_91_2 : Lk 91 2 (.iconst 0) 0 0 (0) := ⟨1, 0, (congrArg (fun l => pm_look l 2) cq_91).trans rfl⟩
theorem lk_91_3 : Lk 91 3 (.istore 4) 0 0 (0) := ⟨2, 0, (congrArg (fun l => pm_look l 3) cq_91).trans rfl⟩
theorem lk_91_5 : Lk 91 5 (.iload 4) 0 0 (0) := ⟨2, 0, (congrArg (fun l => pm_look l 5) cq_91).trans rfl⟩
theorem lk_91_7 : Lk 91 7 (.aload_n 0) 0 0 (0) := ⟨1, 0, (congrArg (fun l => pm_look l 7) cq_91).trans rfl⟩
theorem lk_91_8 : Lk 91 8 (.getfield 22) 8 2 (0) := ⟨3, 158, (congrArg (fun l => pm_look l 8) cq_91).trans rfl⟩
theorem lk_91_11 : Lk 91 11 (.if_icmp .ge 27) 0 0 (0) := ⟨3, 0, (congrArg (fun l => pm_look l 11) cq_91).trans rfl⟩
theorem lk_91_14 : Lk 91 14 (.aload_n 0) 0 0 (0) := ⟨1, 0, (congrArg (fun l => pm_look l 14) cq_91).trans rfl⟩
theorem lk_91_15 : Lk 91 15 (.iload_n 1) 0 0 (0) := ⟨1, 0, (congrArg (fun l => pm_look l 15) cq_91).trans rfl⟩
theorem lk_91_16 : Lk 91 16 (.iload 4) 0 0 (0) := ⟨2, 0, (congrArg (fun l => pm_look l 16) cq_91).trans rfl⟩
theorem lk_91_18 : Lk 91 18 (.invokevirtual 35) 85 0 (0) := ⟨3, 693, (congrArg (fun l => pm_look l 18) cq_91).trans rfl⟩
theorem lk_91_21 : Lk 91 21 (.iload_n 2) 0 0 (0) := ⟨1, 0, (congrArg (fun l => pm_look l 21) cq_91).trans rfl⟩
theorem lk_91_22 : Lk 91 22 (.if_icmp .ne 10) 0 0 (0) := ⟨3, 0, (congrArg (fun l => pm_look l 22) cq_91).trans rfl⟩
theorem lk_91_25 : Lk 91 25 (.iload_n 3) 0 0 (0) := ⟨1, 0, (congrArg (fun l => pm_look l 25) cq_91).trans rfl⟩
theorem lk_91_26 : Lk 91 26 (.iconst 1) 0 0 (0) := ⟨1, 0, (congrArg (fun l => pm_look l 26) cq_91).trans rfl⟩
theorem lk_91_27 : Lk 91 27 (.iload 4) 0 0 (0) := ⟨2, 0, (congrArg (fun l => pm_look l 27) cq_91).trans rfl⟩
theorem lk_91_29 : Lk 91 29 (.ishl) 0 0 (0) := ⟨1, 0, (congrArg (fun l => pm_look l 29) cq_91).trans rfl⟩
theorem lk_91_30 : Lk 91 30 (.ior) 0 0 (0) := ⟨1, 0, (congrArg (fun l => pm_look l 30) cq_91).trans rfl⟩
theorem lk_91_31 : Lk 91 31 (.istore_n 3) 0 0 (0) := ⟨1, 0, (congrArg (fun l => pm_look l 31) cq_91).trans rfl⟩
theorem lk_91_32 : Lk 91 32 (.iinc 4 1) 0 0 (0) := ⟨3, 0, (congrArg (fun l => pm_look l 32) cq_91).trans rfl⟩
theorem lk_91_35 : Lk 91 35 (.goto (-30)) 0 0 (0) := ⟨3, 0, (congrArg (fun l => pm_look l 35) cq_91).trans rfl⟩
theorem lk_91_38 : Lk 91 38 (.iload_n 3) 0 0 (0) := ⟨1, 0, (congrArg (fun l => pm_look l 38) cq_91).trans rfl⟩
theorem lk_91_39 : Lk 91 39 (.ireturn) 0 0 (0) := ⟨1, 0, (congrArg (fun l => pm_look l 39) cq_91).trans rfl⟩
theorem cq_92 : pm_code 92 = cd_92 := rfl
theorem lk_92_0 : Lk 92 0 (.aload_n 0) 0 0 (0) := ⟨1, 0, (congrArg (fun l => pm_look l 0) cq_92).trans rfl⟩
theorem lk_92_1 : Lk 92 1 (.invokevirtual 52) 87 0 (0) := ⟨3, 709, (congrArg (fun l => pm_look l 1) cq_92).trans rfl⟩
theorem lk_92_4 : Lk 92 4 (.aload_n 0) 0 0 (0) := ⟨1, 0, (congrArg (fun l => pm_look l 4) cq_92).trans rfl⟩
theorem lk_92_5 : Lk 92 5 (.iload_n 1) 0 0 (0) := ⟨1, 0, (congrArg (fun l => pm_look l 5) cq_92).trans rfl⟩
theorem lk_92_6 : Lk 92 6 (.iload_n 2) 0 0 (0) := ⟨1, 0, (congrArg (fun l => pm_look l 6) cq_92).trans rfl⟩
theorem lk_92_7 : Lk 92 7 (.invokevirtual 56) 91 0 (0) := ⟨3, 710, (congrArg (fun l => pm_look l 7) cq_92).trans rfl⟩
theorem lk_92_10 : Lk 92 10 (.iconst (-1)) 0 0 (0) := ⟨1, 0, (congrArg (fun l => pm_look l 10) cq_92).trans rfl⟩
theorem lk_92_11 : Lk 92 11 (.ixor) 0 0 (0) := ⟨1, 0, (congrArg (fun l => pm_look l 11) cq_92).trans rfl⟩
theorem lk_92_12 : Lk 92 12 (.iand) 0 0 (0) := ⟨1, 0, (congrArg (fun l => pm_look l 12) cq_92).trans rfl⟩
theorem lk_92_13 : Lk 92 13 (.aload_n 0) 0 0 (0) := ⟨1, 0, (congrArg (fun l => pm_look l 13) cq_92).trans rfl⟩
theorem lk_92_14 : Lk 92 14 (.iload_n 1) 0 0 (0) := ⟨1, 0, (congrArg (fun l => pm_look l 14) cq_92).trans rfl⟩
theorem lk_92_15 : Lk 92 15 (.bipush 10) 0 0 (0) := ⟨2, 0, (congrArg (fun l => pm_look l 15) cq_92).trans rfl⟩
theorem lk_92_17 : Lk 92 17 (.invokevirtual 56) 91 0 (0) := ⟨3, 710, (congrArg (fun l => pm_look l 17) cq_92).trans rfl⟩
theorem lk_92_20 : Lk 92 20 (.iconst (-1)) 0 0 (0) := ⟨1, 0, (congrArg (fun l => pm_look l 20) cq_92).trans rfl⟩
theorem lk_92_21 : Lk 92 21 (.ixor) 0 0 (0) := ⟨1, 0, (congrArg (fun l => pm_look l 21) cq_92).trans rfl⟩
theorem lk_92_22 : Lk 92 22 (.iand) 0 0 (0) := ⟨1, 0, (congrArg (fun l => pm_look l 22) cq_92).trans rfl⟩
theorem lk_92_23 : Lk 92 23 (.ireturn) 0 0 (0) := ⟨1, 0, (congrArg (fun l => pm_look l 23) cq_92).trans rfl⟩
theorem cq_93 : pm_code 93 = cd_93 := rfl
theorem lk_93_0 : Lk 93 0 (.iload_n 1) 0 0 (0) := ⟨1, 0, (congrArg (fun l => pm_look l 0) cq_93).trans rfl⟩
theorem lk_93_1 : Lk 93 1 (.ifCond .eq 10) 0 0 (0) := ⟨3, 0, (congrArg (fun l => pm_look l 1) cq_93).trans rfl⟩
theorem lk_93_4 : Lk 93 4 (.aload_n 0) 0 0 (0) := ⟨1, 0, (congrArg (fun l => pm_look l 4) cq_93).trans rfl⟩
theorem lk_93_5 : Lk 93 5 (.getfield 22) 8 2 (0) := ⟨3, 158, (congrArg (fun l => pm_look l 5) cq_93).trans rfl⟩
theorem lk_93_8 : Lk 93 8 (.goto 7) 0 0 (0) := ⟨3, 0, (congrArg (fun l => pm_look l 8) cq_93).trans rfl⟩
theorem lk_93_11 : Lk 93 11 (.aload_n 0) 0 0 (0) := ⟨1, 0, (congrArg (fun l => pm_look l 11) cq_93).trans rfl⟩
theorem lk_93_12 : Lk 93 12 (.getfield 18) 8 1 (0) := ⟨3, 151, (congrArg (fun l => pm_look l 12) cq_93).trans rfl⟩
theorem lk_93_15 : Lk 93 15 (.istore 4) 0 0 (0) := ⟨2, 0, (congrArg (fun l => pm_look l 15) cq_93).trans rfl⟩
theorem lk_93_17 : Lk 93 17 (.iload_n 2) 0 0 (0) := ⟨1, 0, (congrArg (fun l => pm_look l 17) cq_93).trans rfl⟩
theorem lk_93_18 : Lk 93 18 (.ifCond .lt 19) 0 0 (0) := ⟨3, 0, (congrArg (fun l => pm_look l 18) cq_93).trans rfl⟩
theorem lk_93_21 : Lk 93 21 (.iload_n 2) 0 0 (0) := ⟨1, 0, (congrArg (fun l => pm_look l 21) cq_93).trans rfl⟩
theorem lk_93_22 : Lk 93 22 (.iload 4) 0 0 (0) := ⟨2, 0, (congrArg (fun l => pm_look l 22) cq_93).trans rfl⟩
theorem lk_93_24 : Lk 93 24 (.if_icmp .ge 13) 0 0 (0) := ⟨3, 0, (congrArg (fun l => pm_look l 24) cq_93).trans rfl⟩
theorem lk_93_27 : Lk 93 27 (.iload_n 3) 0 0 (0) := ⟨1, 0, (congrArg (fun l => pm_look l 27) cq_93).trans rfl⟩
theorem lk_93_28 : Lk 93 28 (.ifCond .lt 9) 0 0 (0) := ⟨3, 0, (congrArg (fun l => pm_look l 28) cq_93).trans rfl⟩
theorem lk_93_31 : Lk 93 31 (.iload_n 3) 0 0 (0) := ⟨1, 0, (congrArg (fun l => pm_look l 31) cq_93).trans rfl⟩
theorem lk_93_32 : Lk 93 32 (.iload 4) 0 0 (0) := ⟨2, 0, (congrArg (fun l => pm_look l 32) cq_93).trans rfl⟩
theorem lk_93_34 : Lk 93 34 (.if_icmp .lt 5) 0 0 (0) := ⟨3, 0, (congrArg (fun l => pm_look l 34) cq_93).trans rfl⟩
theorem lk_93_37 : Lk 93 37 (.iconst (-1)) 0 0 (0) := ⟨1, 0, (congrArg (fun l => pm_look l 37) cq_93).trans rfl⟩
theorem lk_93_38 : Lk 93 38 (.ireturn) 0 0 (0) := ⟨1, 0, (congrArg (fun l => pm_look l 38) cq_93).trans rfl⟩
theorem lk_93_39 : Lk 93 39 (.iload_n 1) 0 0 (0) := ⟨1, 0, (congrArg (fun l => pm_look l 39) cq_93).trans rfl⟩
theorem lk_93_40 : Lk 93 40 (.ifCond .eq 10) 0 0 (0) := ⟨3, 0, (congrArg (fun l => pm_look l 40) cq_93).trans rfl⟩
theorem lk_93_43 : Lk 93 43 (.aload_n 0) 0 0 (0) := ⟨1, 0, (congrArg (fun l => pm_look l 43) cq_93).trans rfl⟩
theorem lk_93_44 : Lk 93 44 (.getfield 18) 8 1 (0) := ⟨3, 151, (congrArg (fun l => pm_look l 44) cq_93).trans rfl⟩
theorem lk_93_47 : Lk 93 47 (.goto 7) 0 0 (0) := ⟨3, 0, (congrArg (fun l => pm_look l 47) cq_93).trans rfl⟩
theorem lk_93_50 : Lk 93 50 (.aload_n 0) 0 0 (0) := ⟨1, 0, (congrArg (fun l => pm_look l 50) cq_93).trans rfl⟩
theorem lk_93_51 : Lk 93 51 (.getfield 22) 8 2 (0) := ⟨3, 158, (congrArg (fun l => pm_look l 51) cq_93).trans rfl⟩
theorem lk_93_54 : Lk 93 54 (.istore 5) 0 0 (0) := ⟨2, 0, (congrArg (fun l => pm_look l 54) cq_93).trans rfl⟩
theorem lk_93_56 : Lk 93 56 (.iconst 0) 0 0 (0) := ⟨1, 0, (congrArg (fun l => pm_look l 56) cq_93).trans rfl⟩
theorem lk_93_57 : Lk 93 57 (.istore 6) 0 0 (0) := ⟨2, 0, (congrArg (fun l => pm_look l 57) cq_93).trans rfl⟩
theorem lk_93_59 : Lk 93 59 (.iload 6) 0 0 (0) := ⟨2, 0, (congrArg (fun l => pm_look l 59) cq_93).trans rfl⟩
theorem lk_93_61 : Lk 93 61 (.iload 5) 0 0 (0) := ⟨2, 0, (congrArg (fun l => pm_look l 61) cq_93).trans rfl⟩
theorem lk_93_63 : Lk 93 63 (.if_icmp .ge 79) 0 0 (0) := ⟨3, 0, (congrArg (fun l => pm_look l 63) cq_93).trans rfl⟩
theorem lk_93_66 : Lk 93 66 (.iload_n 1) 0 0 (0) := ⟨1, 0, (congrArg (fun l => pm_look l 66) cq_93).trans rfl⟩
theorem lk_93_67 : Lk 93 67 (.ifCond .eq 13) 0 0 (0) := ⟨3, 0, (congrArg (fun l => pm_look l 67) cq_93).trans rfl⟩
theorem lk_93_70 : Lk 93 70 (.aload_n 0) 0 0 (0) := ⟨1, 0, (congrArg (fun l => pm_look l 70) cq_93).trans rfl⟩
theorem lk_93_71 : Lk 93 71 (.iload 6) 0 0 (0) := ⟨2, 0, (congrArg (fun l => pm_look l 71) cq_93).trans rfl⟩
theorem lk_93_73 : Lk 93 73 (.iload_n 2) 0 0 (0) := ⟨1, 0, (congrArg (fun l => pm_look l 73) cq_93).trans rfl⟩
theorem lk_93_74 : Lk 93 74 (.invokevirtual 35) 85 0 (0) := ⟨3, 693, (congrArg (fun l => pm_look l 74) cq_93).trans rfl⟩
theorem lk_93_77 : Lk 93 77 (.goto 10) 0 0 (0) := ⟨3, 0, (congrArg (fun l => pm_look l 77) cq_93).trans rfl⟩
theorem lk_93_80 : Lk 93 80 (.aload_n 0) 0 0 (0) := ⟨1, 0, (congrArg (fun l => pm_look l 80) cq_93).trans rfl⟩
theorem lk_93_81 : Lk 93 81 (.iload_n 2) 0 0 (0) := ⟨1, 0, (congrArg (fun l => pm_look l 81) cq_93).trans rfl⟩
theorem lk_93_82 : Lk 93 82 (.iload 6) 0 0 (0) := ⟨2, 0, (congrArg (fun l => pm_look l 82) cq_93).trans rfl⟩
theorem lk_93_84 : Lk 93 84 (.invokevirtual 35) 85 0 (0) := ⟨3, 693, (congrArg (fun l => pm_look l 84) cq_93).trans rfl⟩
theorem lk_93_87 : Lk 93 87 (.istore 7) 0 0 (0) := ⟨2, 0, (congrArg (fun l => pm_look l 87) cq_93).trans rfl⟩
theorem lk_93_89 : Lk 93 89 (.iload_n 1) 0 0 (0) := ⟨1, 0, (congrArg (fun l => pm_look l 89) cq_93).trans rfl⟩
theorem lk_93_90 : Lk 93 90 (.ifCond .eq 13) 0 0 (0) := ⟨3, 0, (congrArg (fun l => pm_look l 90) cq_93).trans rfl⟩
theorem lk_93_93 : Lk 93 93 (.aload_n 0) 0 0 (0) := ⟨1, 0, (congrArg (fun l => pm_look l 93) cq_93).trans rfl⟩
theorem lk_93_94 : Lk 93 94 (.iload 6) 0 0 (0) := ⟨2, 0, (congrArg (fun l => pm_look l 94) cq_93).trans rfl⟩
theorem lk_93_96 : Lk 93 96 (.iload_n 3) 0 0 (0) := ⟨1, 0, (congrArg (fun l => pm_look l 96) cq_93).trans rfl⟩
theorem lk_93_97 : Lk 93 97 (.invokevirtual 35) 85 0 (0) := ⟨3, 693, (congrArg (fun l => pm_look l 97) cq_93).trans rfl⟩
theorem lk_93_100 : Lk 93 100 (.goto 10) 0 0 (0) := ⟨3, 0, (congrArg (fun l => pm_look l 100) cq_93).trans rfl⟩
theorem lk_93_103 : Lk 93 103 (.aload_n 0) 0 0 (0) := ⟨1, 0, (congrArg (fun l => pm_look l 103) cq_93).trans rfl⟩
theorem lk_93_104 : Lk 93 104 (.iload_n 3) 0 0 (0) := ⟨1, 0, (congrArg (fun l => pm_look l 104) cq_93).trans rfl⟩
theorem lk_93_105 : Lk 93 105 (.iload 6) 0 0 (0) := ⟨2, 0, (congrArg (fun l => pm_look l 105) cq_93).trans rfl⟩
theorem lk_93_107 : Lk 93 107 (.invokevirtual 35) 85 0 (0) := ⟨3, 693, (congrArg (fun l => pm_look l 107) cq_93).trans rfl⟩
theorem lk_93_110 : Lk 93 110 (.istore 8) 0 0 (0) := ⟨2, 0, (congrArg (fun l => pm_look l 110) cq_93).trans rfl⟩
theorem lk_93_112 : Lk 93 112 (.iload 7) 0 0 (0) := ⟨2, 0, (congrArg (fun l => pm_look l 112) cq_93).trans rfl⟩
theorem lk_93_114 : Lk 93 114 (.iload 8) 0 0 (0) := ⟨2, 0, (congrArg (fun l => pm_look l 114) cq_93).trans rfl⟩
theorem lk_93_116 : Lk 93 116 (.if_icmp .eq 20) 0 0 (0) := ⟨3, 0, (congrArg (fun l => pm_look l 116) cq_93).trans rfl⟩
theorem lk_93_119 : Lk 93 119 (.iload 7) 0 0 (0) := ⟨2, 0, (congrArg (fun l => pm_look l 119) cq_93).trans rfl⟩
theorem lk_93_121 : Lk 93 121 (.bipush 10) 0 0 (0) := ⟨2, 0, (congrArg (fun l => pm_look l 121) cq_93).trans rfl⟩
theorem lk_93_123 : Lk 93 123 (.if_icmp .eq 13) 0 0 (0) := ⟨3, 0, (congrArg (fun l => pm_look l 123) cq_93).trans rfl⟩
theorem lk_93_126 : Lk 93 126 (.iload 8) 0 0 (0) := ⟨2, 0, (congrArg (fun l => pm_look l 126) cq_93).trans rfl⟩
theorem lk_93_128 : Lk 93 128 (.bipush 10) 0 0 (0) := ⟨2, 0, (congrArg (fun l => pm_look l 128) cq_93).trans rfl⟩
theorem lk_93_130 : Lk 93 130 (.if_icmp .eq 6) 0 0 (0) := ⟨3, 0, (congrArg (fun l => pm_look l 130) cq_93).trans rfl⟩
theorem lk_93_133 : Lk 93 133 (.iload 6) 0 0 (0) := ⟨2, 0, (congrArg (fun l => pm_look l 133) cq_93).trans rfl⟩
theorem lk_93_135 : Lk 93 135 (.ireturn) 0 0 (0) := ⟨1, 0, (congrArg (fun l => pm_look l 135) cq_93).trans rfl⟩
theorem lk_93_136 : Lk 93 136 (.iinc 6 1) 0 0 (0) := ⟨3, 0, (congrArg (fun l => pm_look l 136) cq_93).trans rfl⟩
theorem lk_93_139 : Lk 93 139 (.goto (-80)) 0 0 (0) := ⟨3, 0, (congrArg (fun l => pm_look l 139) cq_93).trans rfl⟩
theorem lk_93_142 : Lk 93 142 (.iconst (-1)) 0 0 (0) := ⟨1, 0, (congrArg (fun l => pm_look l 142) cq_93).trans rfl⟩
theorem lk_93_143 : Lk 93 143 (.ireturn) 0 0 (0) := ⟨1, 0, (congrArg (fun l => pm_look l 143) cq_93).trans rfl⟩
theorem cq_94 : pm_code 94 = cd_94 := rfl
theorem lk_94_0 : Lk 94 0 (.iconst 0) 0 0 (0) := ⟨1, 0, (congrArg (fun l => pm_look l 0) cq_94).trans rfl⟩
theorem lk_94_1 : Lk 94 1 (.istore_n 1) 0 0 (0) := ⟨1, 0, (congrArg (fun l => pm_look l 1) cq_94).trans rfl⟩
theorem lk_94_2 : Lk 94 2 (.iload_n 1) 0 0 (0) := ⟨1, 0, (congrArg (fun l => pm_look l 2) cq_94).trans rfl⟩
theorem lk_94_3 : Lk 94 3 (.bipush 6) 0 0 (0) := ⟨2, 0, (congrArg (fun l => pm_look l 3) cq_94).trans rfl⟩
theorem lk_94_5 : Lk 94 5 (.if_icmp .ge 58) 0 0 (0) := ⟨3, 0, (congrArg (fun l => pm_look l 5) cq_94).trans rfl⟩
theorem lk_94_8 : Lk 94 8 (.iconst 0) 0 0 (0) := ⟨1, 0, (congrArg (fun l => pm_look l 8) cq_94).trans rfl⟩
theorem lk_94_9 : Lk 94 9 (.istore_n 2) 0 0 (0) := ⟨1, 0, (congrArg (fun l => pm_look l 9) cq_94).trans rfl⟩
theorem lk_94_10 : Lk 94 10 (.iload_n 2) 0 0 (0) := ⟨1, 0, (congrArg (fun l => pm_look l 10) cq_94).trans rfl⟩
theorem lk_94_11 : Lk 94 11 (.iload_n 1) 0 0 (0) := ⟨1, 0, (congrArg (fun l => pm_look l 11) cq_94).trans rfl⟩
theorem lk_94_12 : Lk 94 12 (.if_icmp .ge 45) 0 0 (0) := ⟨3, 0, (congrArg (fun l => pm_look l 12) cq_94).trans rfl⟩
theorem lk_94_15 : Lk 94 15 (.aload_n 0) 0 0 (0) := ⟨1, 0, (congrArg (fun l => pm_look l 15) cq_94).trans rfl⟩
theorem lk_94_16 : Lk 94 16 (.iload_n 1) 0 0 (0) := ⟨1, 0, (congrArg (fun l => pm_look l 16) cq_94).trans rfl⟩
theorem lk_94_17 : Lk 94 17 (.iload_n 2) 0 0 (0) := ⟨1, 0, (congrArg (fun l => pm_look l 17) cq_94).trans rfl⟩
theorem lk_94_18 : Lk 94 18 (.invokevirtual 35) 85 0 (0) := ⟨3, 693, (congrArg (fun l => pm_look l 18) cq_94).trans rfl⟩
theorem lk_94_21 : Lk 94 21 (.istore_n 3) 0 0 (0) := ⟨1, 0, (congrArg (fun l => pm_look l 21) cq_94).trans rfl⟩
theorem lk_94_22 : Lk 94 22 (.aload_n 0) 0 0 (0) := ⟨1, 0, (congrArg (fun l => pm_look l 22) cq_94).trans rfl⟩
theorem lk_94_23 : Lk 94 23 (.getfield 9) 8 0 (2) := ⟨3, 148, (congrArg (fun l => pm_look l 23) cq_94).trans rfl⟩
theorem lk_94_26 : Lk 94 26 (.iload_n 1) 0 0 (0) := ⟨1, 0, (congrArg (fun l => pm_look l 26) cq_94).trans rfl⟩
theorem lk_94_27 : Lk 94 27 (.bipush 6) 0 0 (0) := ⟨2, 0, (congrArg (fun l => pm_look l 27) cq_94).trans rfl⟩
theorem lk_94_29 : Lk 94 29 (.imul) 0 0 (0) := ⟨1, 0, (congrArg (fun l => pm_look l 29) cq_94).trans rfl⟩
theorem lk_94_30 : Lk 94 30 (.iload_n 2) 0 0 (0) := ⟨1, 0, (congrArg (fun l => pm_look l 30) cq_94).trans rfl⟩
theorem lk_94_31 : Lk 94 31 (.iadd) 0 0 (0) := ⟨1, 0, (congrArg (fun l => pm_look l 31) cq_94).trans rfl⟩
theorem lk_94_32 : Lk 94 32 (.aload_n 0) 0 0 (0) := ⟨1, 0, (congrArg (fun l => pm_look l 32) cq_94).trans rfl⟩
theorem lk_94_33 : Lk 94 33 (.iload_n 2) 0 0 (0) := ⟨1, 0, (congrArg (fun l => pm_look l 33) cq_94).trans rfl⟩
theorem lk_94_34 : Lk 94 34 (.iload_n 1) 0 0 (0) := ⟨1, 0, (congrArg (fun l => pm_look l 34) cq_94).trans rfl⟩
theorem lk_94_35 : Lk 94 35 (.invokevirtual 35) 85 0 (0) := ⟨3, 693, (congrArg (fun l => pm_look l 35) cq_94).trans rfl⟩
theorem lk_94_38 : Lk 94 38 (.iastore) 0 0 (0) := ⟨1, 0, (congrArg (fun l => pm_look l 38) cq_94).trans rfl⟩
theorem lk_94_39 : Lk 94 39 (.aload_n 0) 0 0 (0) := ⟨1, 0, (congrArg (fun l => pm_look l 39) cq_94).trans rfl⟩
theorem lk_94_40 : Lk 94 40 (.getfield 9) 8 0 (2) := ⟨3, 148, (congrArg (fun l => pm_look l 40) cq_94).trans rfl⟩
theorem lk_94_43 : Lk 94 43 (.iload_n 2) 0 0 (0) := ⟨1, 0, (congrArg (fun l => pm_look l 43) cq_94).trans rfl⟩
theorem lk_94_44 : Lk 94 44 (.bipush 6) 0 0 (0) := ⟨2, 0, (congrArg (fun l => pm_look l 44) cq_94).trans rfl⟩
theorem lk_94_46 : Lk 94 46 (.imul) 0 0 (0) := ⟨1, 0, (congrArg (fun l => pm_look l 46) cq_94).trans rfl⟩
theorem lk_94_47 : Lk 94 47 (.iload_n 1) 0 0 (0) := ⟨1, 0, (congrArg (fun l => pm_look l 47) cq_94).trans rfl⟩
theorem lk_94_48 : Lk 94 48 (.iadd) 0 0 (0) := ⟨1, 0, (congrArg (fun l => pm_look l 48) cq_94).trans rfl⟩
theorem lk_94_49 : Lk 94 49 (.iload_n 3) 0 0 (0) := ⟨1, 0, (congrArg (fun l => pm_look l 49) cq_94).trans rfl⟩
theorem lk_94_50 : Lk 94 50 (.iastore) 0 0 (0) := ⟨1, 0, (congrArg (fun l => pm_look l 50) cq_94).trans rfl⟩
theorem lk_94_51 : Lk 94 51 (.iinc 2 1) 0 0 (0) := ⟨3, 0, (congrArg (fun l => pm_look l 51) cq_94).trans rfl⟩
theorem lk_94_54 : Lk 94 54 (.goto (-44)) 0 0 (0) := ⟨3, 0, (congrArg (fun l => pm_look l 54) cq_94).trans rfl⟩
theorem lk_94_57 : Lk 94 57 (.iinc 1 1) 0 0 (0) := ⟨3, 0, (congrArg (fun l => pm_look l 57) cq_94).trans rfl⟩
theorem lk_94_60 : Lk 94 60 (.goto (-58)) 0 0 (0) := ⟨3, 0, (congrArg (fun l => pm_look l 60) cq_94).trans rfl⟩
theorem lk_94_63 : Lk 94 63 (.aload_n 0) 0 0 (0) := ⟨1, 0, (congrArg (fun l => pm_look l 63) cq_94).trans rfl⟩
theorem lk_94_64 : Lk 94 64 (.getfield 18) 8 1 (0) := ⟨3, 151, (congrArg (fun l => pm_look l 64) cq_94).trans rfl⟩
theorem lk_94_67 : Lk 94 67 (.istore_n 1) 0 0 (0) := ⟨1, 0, (congrArg (fun l => pm_look l 67) cq_94).trans rfl⟩
theorem lk_94_68 : Lk 94 68 (.aload_n 0) 0 0 (0) := ⟨1, 0, (congrArg (fun l => pm_look l 68) cq_94).trans rfl⟩
theorem lk_94_69 : Lk 94 69 (.aload_n 0) 0 0 (0) := ⟨1, 0, (congrArg (fun l => pm_look l 69) cq_94).trans rfl⟩
theorem lk_94_70 : Lk 94 70 (.getfield 22) 8 2 (0) := ⟨3, 158, (congrArg (fun l => pm_look l 70) cq_94).trans rfl⟩
theorem lk_94_73 : Lk 94 73 (.putfield 18) 8 1 (0) := ⟨3, 151, (congrArg (fun l => pm_look l 73) cq_94).trans rfl⟩
theorem lk_94_76 : Lk 94 76 (.aload_n 0) 0 0 (0) := ⟨1, 0, (congrArg (fun l => pm_look l 76) cq_94).trans rfl⟩
theorem lk_94_77 : Lk 94 77 (.iload_n 1) 0 0 (0) := ⟨1, 0, (congrArg (fun l => pm_look l 77) cq_94).trans rfl⟩
theorem lk_94_78 : Lk 94 78 (.putfield 22) 8 2 (0) := ⟨3, 158, (congrArg (fun l => pm_look l 78) cq_94).trans rfl⟩
theorem lk_94_81 : Lk 94 81 (.aload_n 0) 0 0 (0) := ⟨1, 0, (congrArg (fun l => pm_look l 81) cq_94).trans rfl⟩
theorem lk_94_82 : Lk 94 82 (.getfield 25) 8 3 (0) := ⟨3, 168, (congrArg (fun l => pm_look l 82) cq_94).trans rfl⟩
theorem lk_94_85 : Lk 94 85 (.istore_n 2) 0 0 (0) := ⟨1, 0, (congrArg (fun l => pm_look l 85) cq_94).trans rfl⟩
theorem lk_94_86 : Lk 94 86 (.aload_n 0) 0 0 (0) := ⟨1, 0, (congrArg (fun l => pm_look l 86) cq_94).trans rfl⟩
theorem lk_94_87 : Lk 94 87 (.aload_n 0) 0 0 (0) := ⟨1, 0, (congrArg (fun l => pm_look l 87) cq_94).trans rfl⟩
theorem lk_94_88 : Lk 94 88 (.getfield 28) 8 4 (0) := ⟨3, 175, (congrArg (fun l => pm_look l 88) cq_94).trans rfl⟩
theorem lk_94_91 : Lk 94 91 (.putfield 25) 8 3 (0) := ⟨3, 168, (congrArg (fun l => pm_look l 91) cq_94).trans rfl⟩
theorem lk_94_94 : Lk 94 94 (.aload_n 0) 0 0 (0) := ⟨1, 0, (congrArg (fun l => pm_look l 94) cq_94).trans rfl⟩
theorem lk_94_95 : Lk 94 95 (.iload_n 2) 0 0 (0) := ⟨1, 0, (congrArg (fun l => pm_look l 95) cq_94).trans rfl⟩
theorem lk_94_96 : Lk 94 96 (.putfield 28) 8 4 (0) := ⟨3, 175, (congrArg (fun l => pm_look l 96) cq_94).trans rfl⟩
theorem lk_94_99 : Lk 94 99 (.return_) 0 0 (0) := ⟨1, 0, (congrArg (fun l => pm_look l 99) cq_94).trans rfl⟩
theorem cq_95 : pm_code 95 = cd_95 := rfl
theorem lk_95_0 : Lk 95 0 (.iload_n 1) 0 0 (0) := ⟨1, 0, (congrArg (fun l => pm_look l 0) cq_95).trans rfl⟩
theorem lk_95_1 : Lk 95 1 (.iload_n 0) 0 0 (0) := ⟨1, 0, (congrArg (fun l => pm_look l 1) cq_95).trans rfl⟩
theorem lk_95_2 : Lk 95 2 (.ishr) 0 0 (0) := ⟨1, 0, (congrArg (fun l => pm_look l 2) cq_95).trans rfl⟩
theorem lk_95_3 : Lk 95 3 (.iconst 1) 0 0 (0) := ⟨1, 0, (congrArg (fun l => pm_look l 3) cq_95).trans rfl⟩
theorem lk_95_4 : Lk 95 4 (.iand) 0 0 (0) := ⟨1, 0, (congrArg (fun l => pm_look l 4) cq_95).trans rfl⟩
theorem lk_95_5 : Lk 95 5 (.ifCond .eq 7) 0 0 (0) := ⟨3, 0, (congrArg (fun l => pm_look l 5) cq_95).trans rfl⟩
theorem lk_95_8 : Lk 95 8 (.iconst 1) 0 0 (0) := ⟨1, 0, (congrArg (fun l => pm_look l 8) cq_95).trans rfl⟩
theorem lk_95_9 : Lk 95 9 (.goto 4) 0 0 (0) := ⟨3, 0, (congrArg (fun l => pm_look l 9) cq_95).trans rfl⟩
theorem lk_95_12 : Lk 95 12 (.iconst 0) 0 0 (0) := ⟨1, 0, (congrArg (fun l => pm_look l 12) cq_95).trans rfl⟩
theorem lk_95_13 : Lk 95 13 (.ireturn) 1 0 (0) := ⟨1, 0, (congrArg (fun l => pm_look l 13) cq_95).trans rfl⟩
theorem cq_96 : pm_code 96 = cd_96 := rfl
theorem lk_96_0 : Lk 96 0 (.aload_n 0) 0 0 (0) := ⟨1, 0, (congrArg (fun l => pm_look l 0) cq_96).trans rfl⟩
theorem lk_96_1 : Lk 96 1 (.invokespecial 3) 999 0 (0) := ⟨3, 458, (congrArg (fun l => pm_look l 1) cq_96).trans rfl⟩
theorem lk_96_4 : Lk 96 4 (.aload_n 0) 0 0 (0) := ⟨1, 0, (congrArg (fun l => pm_look l 4) cq_96).trans rfl⟩
theorem lk_96_5 : Lk 96 5 (.new 9) 4 0 (0) := ⟨3, 459, (congrArg (fun l => pm_look l 5) cq_96).trans rfl⟩
theorem lk_96_8 : Lk 96 8 (.dup) 0 0 (0) := ⟨1, 0, (congrArg (fun l => pm_look l 8) cq_96).trans rfl⟩
theorem lk_96_9 : Lk 96 9 (.bipush 31) 0 0 (0) := ⟨2, 0, (congrArg (fun l => pm_look l 9) cq_96).trans rfl⟩
theorem lk_96_11 : Lk 96 11 (.invokespecial 11) 35 0 (0) := ⟨3, 460, (congrArg (fun l => pm_look l 11) cq_96).trans rfl⟩
theorem lk_96_14 : Lk 96 14 (.putfield 14) 9 0 (2) := ⟨3, 461, (congrArg (fun l => pm_look l 14) cq_96).trans rfl⟩
theorem lk_96_17 : Lk 96 17 (.aload_n 0) 0 0 (0) := ⟨1, 0, (congrArg (fun l => pm_look l 17) cq_96).trans rfl⟩
theorem lk_96_18 : Lk 96 18 (.bipush 31) 0 0 (0) := ⟨2, 0, (congrArg (fun l => pm_look l 18) cq_96).trans rfl⟩
theorem lk_96_20 : Lk 96 20 (.newarray .int) 100 0 (0) := ⟨2, 0, (congrArg (fun l => pm_look l 20) cq_96).trans rfl⟩
theorem lk_96_22 : Lk 96 22 (.putfield 20) 9 1 (2) := ⟨3, 463, (congrArg (fun l => pm_look l 22) cq_96).trans rfl⟩
theorem lk_96_25 : Lk 96 25 (.aload_n 0) 0 0 (0) := ⟨1, 0, (congrArg (fun l => pm_look l 25) cq_96).trans rfl⟩
theorem lk_96_26 : Lk 96 26 (.bipush 31) 0 0 (0) := ⟨2, 0, (congrArg (fun l => pm_look l 26) cq_96).trans rfl⟩
theorem lk_96_28 : Lk 96 28 (.newarray .int) 100 0 (0) := ⟨2, 0, (congrArg (fun l => pm_look l 28) cq_96).trans rfl⟩
theorem lk_96_30 : Lk 96 30 (.putfield 24) 9 2 (2) := ⟨3, 465, (congrArg (fun l => pm_look l 30) cq_96).trans rfl⟩
theorem lk_96_33 : Lk 96 33 (.aload_n 0) 0 0 (0) := ⟨1, 0, (congrArg (fun l => pm_look l 33) cq_96).trans rfl⟩
theorem lk_96_34 : Lk 96 34 (.bipush 31) 0 0 (0) := ⟨2, 0, (congrArg (fun l => pm_look l 34) cq_96).trans rfl⟩
theorem lk_96_36 : Lk 96 36 (.newarray .int) 100 0 (0) := ⟨2, 0, (congrArg (fun l => pm_look l 36) cq_96).trans rfl⟩
theorem lk_96_38 : Lk 96 38 (.putfield 27) 9 3 (2) := ⟨3, 467, (congrArg (fun l => pm_look l 38) cq_96).trans rfl⟩
theorem lk_96_41 : Lk 96 41 (.aload_n 0) 0 0 (0) := ⟨1, 0, (congrArg (fun l => pm_look l 41) cq_96).trans rfl⟩
theorem lk_96_42 : Lk 96 42 (.bipush 31) 0 0 (0) := ⟨2, 0, (congrArg (fun l => pm_look l 42) cq_96).trans rfl⟩
theorem lk_96_44 : Lk 96 44 (.newarray .int) 100 0 (0) := ⟨2, 0, (congrArg (fun l => pm_look l 44) cq_96).trans rfl⟩
theorem lk_96_46 : Lk 96 46 (.putfield 30) 9 4 (2) := ⟨3, 469, (congrArg (fun l => pm_look l 46) cq_96).trans rfl⟩
theorem lk_96_49 : Lk 96 49 (.aload_n 0) 0 0 (0) := ⟨1, 0, (congrArg (fun l => pm_look l 49) cq_96).trans rfl⟩
theorem lk_96_50 : Lk 96 50 (.bipush 31) 0 0 (0) := ⟨2, 0, (congrArg (fun l => pm_look l 50) cq_96).trans rfl⟩
theorem lk_96_52 : Lk 96 52 (.newarray .int) 100 0 (0) := ⟨2, 0, (congrArg (fun l => pm_look l 52) cq_96).trans rfl⟩
theorem lk_96_54 : Lk 96 54 (.putfield 33) 9 5 (2) := ⟨3, 471, (congrArg (fun l => pm_look l 54) cq_96).trans rfl⟩
theorem lk_96_57 : Lk 96 57 (.aload_n 0) 0 0 (0) := ⟨1, 0, (congrArg (fun l => pm_look l 57) cq_96).trans rfl⟩
theorem lk_96_58 : Lk 96 58 (.bipush 31) 0 0 (0) := ⟨2, 0, (congrArg (fun l => pm_look l 58) cq_96).trans rfl⟩
theorem lk_96_60 : Lk 96 60 (.newarray .int) 100 0 (0) := ⟨2, 0, (congrArg (fun l => pm_look l 60) cq_96).trans rfl⟩
theorem lk_96_62 : Lk 96 62 (.putfield 36) 9 6 (2) := ⟨3, 472, (congrArg (fun l => pm_look l 62) cq_96).trans rfl⟩
theorem lk_96_65 : Lk 96 65 (.return_) 0 0 (0) := ⟨1, 0, (congrArg (fun l => pm_look l 65) cq_96).trans rfl⟩
theorem cq_97 : pm_code 97 = cd_97 := rfl
theorem lk_97_0 : Lk 97 0 (.aload_n 0) 0 0 (0) := ⟨1, 0, (congrArg (fun l => pm_look l 0) cq_97).trans rfl⟩
theorem lk_97_1 : Lk 97 1 (.getfield 14) 9 0 (2) := ⟨3, 461, (congrArg (fun l => pm_look l 1) cq_97).trans rfl⟩
theorem lk_97_4 : Lk 97 4 (.aload_n 1) 0 0 (0) := ⟨1, 0, (congrArg (fun l => pm_look l 4) cq_97).trans rfl⟩
theorem lk_97_5 : Lk 97 5 (.invokevirtual 39) 37 0 (0) := ⟨3, 649, (congrArg (fun l => pm_look l 5) cq_97).trans rfl⟩
theorem lk_97_8 : Lk 97 8 (.aload_n 0) 0 0 (0) := ⟨1, 0, (congrArg (fun l => pm_look l 8) cq_97).trans rfl⟩
theorem lk_97_9 : Lk 97 9 (.aload_n 2) 0 0 (0) := ⟨1, 0, (congrArg (fun l => pm_look l 9) cq_97).trans rfl⟩
theorem lk_97_10 : Lk 97 10 (.invokevirtual 43) 99 0 (0) := ⟨3, 656, (congrArg (fun l => pm_look l 10) cq_97).trans rfl⟩
theorem lk_97_13 : Lk 97 13 (.return_) 0 0 (0) := ⟨1, 0, (congrArg (fun l => pm_look l 13) cq_97).trans rfl⟩
theorem cq_98 : pm_code 98 = cd_98 := rfl
theorem lk_98_0 : Lk 98 0 (.iconst 0) 0 0 (0) := ⟨1, 0, (congrArg (fun l => pm_look l 0) cq_98).trans rfl⟩
theorem lk_98_1 : Lk 98 1 (.istore_n 2) 0 0 (0) := ⟨1, 0, (congrArg (fun l => pm_look l 1) cq_98).trans rfl⟩
theorem lk_98_2 : Lk 98 2 (.iload_n 2) 0 0 (0) := ⟨1, 0, (congrArg (fun l => pm_look l 2) cq_98).trans rfl⟩
theorem lk_98_3 : Lk 98 3 (.aload_n 0) 0 0 (0) := ⟨1, 0, (congrArg (fun l => pm_look l 3) cq_98).trans rfl⟩
theorem lk_98_4 : Lk 98 4 (.getfield 14) 9 0 (2) := ⟨3, 461, (congrArg (fun l => pm_look l 4) cq_98).trans rfl⟩
theorem lk_98_7 : Lk 98 7 (.getfield 47) 4 3 (0) := ⟨3, 211, (congrArg (fun l => pm_look l 7) cq_98).trans rfl⟩
theorem lk_98_10 : Lk 98 10 (.if_icmp .ge 48) 0 0 (0) := ⟨3, 0, (congrArg (fun l => pm_look l 10) cq_98).trans rfl⟩
theorem lk_98_13 : Lk 98 13 (.aload_n 0) 0 0 (0) := ⟨1, 0, (congrArg (fun l => pm_look l 13) cq_98).trans rfl⟩
theorem lk_98_14 : Lk 98 14 (.getfield 14) 9 0 (2) := ⟨3, 461, (congrArg (fun l => pm_look l 14) cq_98).trans rfl⟩
theorem lk_98_17 : Lk 98 17 (.getfield 51) 4 0 (2) := ⟨3, 203, (congrArg (fun l => pm_look l 17) cq_98).trans rfl⟩
theorem lk_98_20 : Lk 98 20 (.iload_n 2) 0 0 (0) := ⟨1, 0, (congrArg (fun l => pm_look l 20) cq_98).trans rfl⟩
theorem lk_98_21 : Lk 98 21 (.iaload) 0 0 (0) := ⟨1, 0, (congrArg (fun l => pm_look l 21) cq_98).trans rfl⟩
theorem lk_98_22 : Lk 98 22 (.ifCond .eq 30) 0 0 (0) := ⟨3, 0, (congrArg (fun l => pm_look l 22) cq_98).trans rfl⟩
theorem lk_98_25 : Lk 98 25 (.aload_n 0) 0 0 (0) := ⟨1, 0, (congrArg (fun l => pm_look l 25) cq_98).trans rfl⟩
theorem lk_98_26 : Lk 98 26 (.getfield 14) 9 0 (2) := ⟨3, 461, (congrArg (fun l => pm_look l 26) cq_98).trans rfl⟩
theorem lk_98_29 : Lk 98 29 (.getfield 51) 4 0 (2) := ⟨3, 203, (congrArg (fun l => pm_look l 29) cq_98).trans rfl⟩
theorem lk_98_32 : Lk 98 32 (.iload_n 2) 0 0 (0) := ⟨1, 0, (congrArg (fun l => pm_look l 32) cq_98).trans rfl⟩
theorem lk_98_33 : Lk 98 33 (.aload_n 0) 0 0 (0) := ⟨1, 0, (congrArg (fun l => pm_look l 33) cq_98).trans rfl⟩
theorem lk_98_34 : Lk 98 34 (.getfield 14) 9 0 (2) := ⟨3, 461, (congrArg (fun l => pm_look l 34) cq_98).trans rfl⟩
theorem lk_98_37 : Lk 98 37 (.getfield 51) 4 0 (2) := ⟨3, 203, (congrArg (fun l => pm_look l 37) cq_98).trans rfl⟩
theorem lk_98_40 : Lk 98 40 (.iload_n 2) 0 0 (0) := ⟨1, 0, (congrArg (fun l => pm_look l 40) cq_98).trans rfl⟩
theorem lk_98_41 : Lk 98 41 (.iaload) 0 0 (0) := ⟨1, 0, (congrArg (fun l => pm_look l 41) cq_98).trans rfl⟩
theorem lk_98_42 : Lk 98 42 (.iconst 1) 0 0 (0) := ⟨1, 0, (congrArg (fun l => pm_look l 42) cq_98).trans rfl⟩
theorem lk_98_43 : Lk 98 43 (.if_icmp .ne 7) 0 0 (0) := ⟨3, 0, (congrArg (fun l => pm_look l 43) cq_98).trans rfl⟩
theorem lk_98_46 : Lk 98 46 (.iconst 2) 0 0 (0) := ⟨1, 0, (congrArg (fun l => pm_look l 46) cq_98).trans rfl⟩
theorem lk_98_47 : Lk 98 47 (.goto 4) 0 0 (0) := ⟨3, 0, (congrArg (fun l => pm_look l 47) cq_98).trans rfl⟩
theorem lk_98_50 : Lk 98 50 (.iconst 1) 0 0 (0) := ⟨1, 0, (congrArg (fun l => pm_look l 50) cq_98).trans rfl⟩
theorem lk_98_51 : Lk 98 51 (.iastore) 0 0 (0) := ⟨1, 0, (congrArg (fun l => pm_look l 51) cq_98).trans rfl⟩
theorem lk_98_52 : Lk 98 52 (.iinc 2 1) 0 0 (0) := ⟨3, 0, (congrArg (fun l => pm_look l 52) cq_98).trans rfl⟩
theorem lk_98_55 : Lk 98 55 (.goto (-53)) 0 0 (0) := ⟨3, 0, (congrArg (fun l => pm_look l 55) cq_98).trans rfl⟩
theorem lk_98_58 : Lk 98 58 (.aload_n 0) 0 0 (0) := ⟨1, 0, (congrArg (fun l => pm_look l 58) cq_98).trans rfl⟩
theorem lk_98_59 : Lk 98 59 (.aload_n 1) 0 0 (0) := ⟨1, 0, (congrArg (fun l => pm_look l 59) cq_98).trans rfl⟩
theorem lk_98_60 : Lk 98 60 (.invokevirtual 43) 99 0 (0) := ⟨3, 656, (congrArg (fun l => pm_look l 60) cq_98).trans rfl⟩
theorem lk_98_63 : Lk 98 63 (.return_) 0 0 (0) := ⟨1, 0, (congrArg (fun l => pm_look l 63) cq_98).trans rfl⟩
theorem cq_99 : pm_code 99 = cd_99 := rfl
theorem lk_99_0 : Lk 99 0 (.aload_n 0) 0 0 (0) := ⟨1, 0, (congrArg (fun l => pm_look l 0) cq_99).trans rfl⟩
theorem lk_99_1 : Lk 99 1 (.getfield 20) 9 1 (2) := ⟨3, 463, (congrArg (fun l => pm_look l 1) cq_99).trans rfl⟩
theorem lk_99_4 : Lk 99 4 (.iconst 0) 0 0 (0) := ⟨1, 0, (congrArg (fun l => pm_look l 4) cq_99).trans rfl⟩
theorem lk_99_5 : Lk 99 5 (.aload_n 1) 0 0 (0) := ⟨1, 0, (congrArg (fun l => pm_look l 5) cq_99).trans rfl⟩
theorem lk_99_6 : Lk 99 6 (.invokevirtual 54) 86 0 (0) := ⟨3, 660, (congrArg (fun l => pm_look l 6) cq_99).trans rfl⟩
theorem lk_99_9 : Lk 99 9 (.iastore) 0 0 (0) := ⟨1, 0, (congrArg (fun l => pm_look l 9) cq_99).trans rfl⟩
theorem lk_99_10 : Lk 99 10 (.aload_n 0) 0 0 (0) := ⟨1, 0, (congrArg (fun l => pm_look l 10) cq_99).trans rfl⟩
theorem lk_99_11 : Lk 99 11 (.getfield 24) 9 2 (2) := ⟨3, 465, (congrArg (fun l => pm_look l 11) cq_99).trans rfl⟩
theorem lk_99_14 : Lk 99 14 (.iconst 0) 0 0 (0) := ⟨1, 0, (congrArg (fun l => pm_look l 14) cq_99).trans rfl⟩
theorem lk_99_15 : Lk 99 15 (.aload_n 1) 0 0 (0) := ⟨1, 0, (congrArg (fun l => pm_look l 15) cq_99).trans rfl⟩
theorem lk_99_16 : Lk 99 16 (.invokevirtual 60) 87 0 (0) := ⟨3, 664, (congrArg (fun l => pm_look l 16) cq_99).trans rfl⟩
theorem lk_99_19 : Lk 99 19 (.iastore) 0 0 (0) := ⟨1, 0, (congrArg (fun l => pm_look l 19) cq_99).trans rfl⟩
theorem lk_99_20 : Lk 99 20 (.aload_n 0) 0 0 (0) := ⟨1, 0, (congrArg (fun l => pm_look l 20) cq_99).trans rfl⟩
theorem lk_99_21 : Lk 99 21 (.getfield 27) 9 3 (2) := ⟨3, 467, (congrArg (fun l => pm_look l 21) cq_99).trans rfl⟩
theorem lk_99_24 : Lk 99 24 (.iconst 0) 0 0 (0) := ⟨1, 0, (congrArg (fun l => pm_look l 24) cq_99).trans rfl⟩
theorem lk_99_25 : Lk 99 25 (.iconst 0) 0 0 (0) := ⟨1, 0, (congrArg (fun l => pm_look l 25) cq_99).trans rfl⟩
theorem lk_99_26 : Lk 99 26 (.iastore) 0 0 (0) := ⟨1, 0, (congrArg (fun l => pm_look l 26) cq_99).trans rfl⟩
theorem lk_99_27 : Lk 99 27 (.aload_n 0) 0 0 (0) := ⟨1, 0, (congrArg (fun l => pm_look l 27) cq_99).trans rfl⟩
theorem lk_99_28 : Lk 99 28 (.getfield 30) 9 4 (2) := ⟨3, 469, (congrArg (fun l => pm_look l 28) cq_99).trans rfl⟩
theorem lk_99_31 : Lk 99 31 (.iconst 0) 0 0 (0) := ⟨1, 0, (congrArg (fun l => pm_look l 31) cq_99).trans rfl⟩
theorem lk_99_32 : Lk 99 32 (.iconst 0) 0 0 (0) := ⟨1, 0, (congrArg (fun l => pm_look l 32) cq_99).trans rfl⟩
theorem lk_99_33 : Lk 99 33 (.iastore) 0 0 (0) := ⟨1, 0, (congrArg (fun l => pm_look l 33) cq_99).trans rfl⟩
theorem lk_99_34 : Lk 99 34 (.aload_n 0) 0 0 (0) := ⟨1, 0, (congrArg (fun l => pm_look l 34) cq_99).trans rfl⟩
theorem lk_99_35 : Lk 99 35 (.getfield 33) 9 5 (2) := ⟨3, 471, (congrArg (fun l => pm_look l 35) cq_99).trans rfl⟩
theorem lk_99_38 : Lk 99 38 (.iconst 0) 0 0 (0) := ⟨1, 0, (congrArg (fun l => pm_look l 38) cq_99).trans rfl⟩
theorem lk_99_39 : Lk 99 39 (.iconst 0) 0 0 (0) := ⟨1, 0, (congrArg (fun l => pm_look l 39) cq_99).trans rfl⟩
theorem lk_99_40 : Lk 99 40 (.iastore) 0 0 (0) := ⟨1, 0, (congrArg (fun l => pm_look l 40) cq_99).trans rfl⟩
theorem lk_99_41 : Lk 99 41 (.aload_n 0) 0 0 (0) := ⟨1, 0, (congrArg (fun l => pm_look l 41) cq_99).trans rfl⟩
theorem lk_99_42 : Lk 99 42 (.getfield 36) 9 6 (2) := ⟨3, 472, (congrArg (fun l => pm_look l 42) cq_99).trans rfl⟩
theorem lk_99_45 : Lk 99 45 (.iconst 0) 0 0 (0) := ⟨1, 0, (congrArg (fun l => pm_look l 45) cq_99).trans rfl⟩
theorem lk_99_46 : Lk 99 46 (.iconst 0) 0 0 (0) := ⟨1, 0, (congrArg (fun l => pm_look l 46) cq_99).trans rfl⟩
theorem lk_99_47 : Lk 99 47 (.iastore) 0 0 (0) := ⟨1, 0, (congrArg (fun l => pm_look l 47) cq_99).trans rfl⟩
theorem lk_99_48 : Lk 99 48 (.iconst 0) 0 0 (0) := ⟨1, 0, (congrArg (fun l => pm_look l 48) cq_99).trans rfl⟩
theorem lk_99_49 : Lk 99 49 (.istore_n 2) 0 0 (0) := ⟨1, 0, (congrArg (fun l => pm_look l 49) cq_99).trans rfl⟩
theorem lk_99_50 : Lk 99 50 (.iload_n 2) 0 0 (0) := ⟨1, 0, (congrArg (fun l => pm_look l 50) cq_99).trans rfl⟩
theorem lk_99_51 : Lk 99 51 (.aload_n 0) 0 0 (0) := ⟨1, 0, (congrArg (fun l => pm_look l 51) cq_99).trans rfl⟩
theorem lk_99_52 : Lk 99 52 (.getfield 14) 9 0 (2) := ⟨3, 461, (congrArg (fun l => pm_look l 52) cq_99).trans rfl⟩
theorem lk_99_55 : Lk 99 55 (.getfield 47) 4 3 (0) := ⟨3, 211, (congrArg (fun l => pm_look l 55) cq_99).trans rfl⟩
theorem lk_99_58 : Lk 99 58 (.if_icmp .ge 65) 0 0 (0) := ⟨3, 0, (congrArg (fun l => pm_look l 58) cq_99).trans rfl⟩
theorem lk_99_61 : Lk 99 61 (.aload_n 0) 0 0 (0) := ⟨1, 0, (congrArg (fun l => pm_look l 61) cq_99).trans rfl⟩
theorem lk_99_62 : Lk 99 62 (.getfield 14) 9 0 (2) := ⟨3, 461, (congrArg (fun l => pm_look l 62) cq_99).trans rfl⟩
theorem lk_99_65 : Lk 99 65 (.getfield 51) 4 0 (2) := ⟨3, 203, (congrArg (fun l => pm_look l 65) cq_99).trans rfl⟩
theorem lk_99_68 : Lk 99 68 (.iload_n 2) 0 0 (0) := ⟨1, 0, (congrArg (fun l => pm_look l 68) cq_99).trans rfl⟩
theorem lk_99_69 : Lk 99 69 (.iaload) 0 0 (0) := ⟨1, 0, (congrArg (fun l => pm_look l 69) cq_99).trans rfl⟩
theorem lk_99_70 : Lk 99 70 (.ifCond .eq 47) 0 0 (0) := ⟨3, 0, (congrArg (fun l => pm_look l 70) cq_99).trans rfl⟩
theorem lk_99_73 : Lk 99 73 (.aload_n 0) 0 0 (0) := ⟨1, 0, (congrArg (fun l => pm_look l 73) cq_99).trans rfl⟩
theorem lk_99_74 : Lk 99 74 (.iload_n 2) 0 0 (0) := ⟨1, 0, (congrArg (fun l => pm_look l 74) cq_99).trans rfl⟩
theorem lk_99_75 : Lk 99 75 (.iload_n 2) 0 0 (0) := ⟨1, 0, (congrArg (fun l => pm_look l 75) cq_99).trans rfl⟩
theorem lk_99_76 : Lk 99 76 (.iconst 1) 0 0 (0) := ⟨1, 0, (congrArg (fun l => pm_look l 76) cq_99).trans rfl⟩
theorem lk_99_77 : Lk 99 77 (.iadd) 0 0 (0) := ⟨1, 0, (congrArg (fun l => pm_look l 77) cq_99).trans rfl⟩
theorem lk_99_78 : Lk 99 78 (.aload_n 0) 0 0 (0) := ⟨1, 0, (congrArg (fun l => pm_look l 78) cq_99).trans rfl⟩
theorem lk_99_79 : Lk 99 79 (.getfield 14) 9 0 (2) := ⟨3, 461, (congrArg (fun l => pm_look l 79) cq_99).trans rfl⟩
theorem lk_99_82 : Lk 99 82 (.getfield 63) 4 1 (2) := ⟨3, 205, (congrArg (fun l => pm_look l 82) cq_99).trans rfl⟩
theorem lk_99_85 : Lk 99 85 (.iload_n 2) 0 0 (0) := ⟨1, 0, (congrArg (fun l => pm_look l 85) cq_99).trans rfl⟩
theorem lk_99_86 : Lk 99 86 (.iaload) 0 0 (0) := ⟨1, 0, (congrArg (fun l => pm_look l 86) cq_99).trans rfl⟩
theorem lk_99_87 : Lk 99 87 (.aload_n 1) 0 0 (0) := ⟨1, 0, (congrArg (fun l => pm_look l 87) cq_99).trans rfl⟩
theorem lk_99_88 : Lk 99 88 (.invokevirtual 66) 100 0 (0) := ⟨3, 668, (congrArg (fun l => pm_look l 88) cq_99).trans rfl⟩
theorem lk_99_91 : Lk 99 91 (.aload_n 0) 0 0 (0) := ⟨1, 0, (congrArg (fun l => pm_look l 91) cq_99).trans rfl⟩
theorem lk_99_92 : Lk 99 92 (.iload_n 2) 0 0 (0) := ⟨1, 0, (congrArg (fun l => pm_look l 92) cq_99).trans rfl⟩
theorem lk_99_93 : Lk 99 93 (.aload_n 0) 0 0 (0) := ⟨1, 0, (congrArg (fun l => pm_look l 93) cq_99).trans rfl⟩
theorem lk_99_94 : Lk 99 94 (.getfield 14) 9 0 (2) := ⟨3, 461, (congrArg (fun l => pm_look l 94) cq_99).trans rfl⟩
theorem lk_99_97 : Lk 99 97 (.getfield 70) 4 2 (2) := ⟨3, 207, (congrArg (fun l => pm_look l 97) cq_99).trans rfl⟩
theorem lk_99_100 : Lk 99 100 (.iload_n 2) 0 0 (0) := ⟨1, 0, (congrArg (fun l => pm_look l 100) cq_99).trans rfl⟩
theorem lk_99_101 : Lk 99 101 (.iaload) 0 0 (0) := ⟨1, 0, (congrArg (fun l => pm_look l 101) cq_99).trans rfl⟩
theorem lk_99_102 : Lk 99 102 (.aload_n 0) 0 0 (0) := ⟨1, 0, (congrArg (fun l => pm_look l 102) cq_99).trans rfl⟩
theorem lk_99_103 : Lk 99 103 (.getfield 14) 9 0 (2) := ⟨3, 461, (congrArg (fun l => pm_look l 103) cq_99).trans rfl⟩
theorem lk_99_106 : Lk 99 106 (.getfield 63) 4 1 (2) := ⟨3, 205, (congrArg (fun l => pm_look l 106) cq_99).trans rfl⟩
theorem lk_99_109 : Lk 99 109 (.iload_n 2) 0 0 (0) := ⟨1, 0, (congrArg (fun l => pm_look l 109) cq_99).trans rfl⟩
theorem lk_99_110 : Lk 99 110 (.iaload) 0 0 (0) := ⟨1, 0, (congrArg (fun l => pm_look l 110) cq_99).trans rfl⟩
theorem lk_99_111 : Lk 99 111 (.iconst (-1)) 0 0 (0) := ⟨1, 0, (congrArg (fun l => pm_look l 111) cq_99).trans rfl⟩
theorem lk_99_112 : Lk 99 112 (.ixor) 0 0 (0) := ⟨1, 0, (congrArg (fun l => pm_look l 112) cq_99).trans rfl⟩
theorem lk_99_113 : Lk 99 113 (.aload_n 1) 0 0 (0) := ⟨1, 0, (congrArg (fun l => pm_look l 113) cq_99).trans rfl⟩
theorem lk_99_114 : Lk 99 114 (.invokevirtual 66) 100 0 (0) := ⟨3, 668, (congrArg (fun l => pm_look l 114) cq_99).trans rfl⟩
theorem lk_99_117 : Lk 99 117 (.iinc 2 1) 0 0 (0) := ⟨3, 0, (congrArg (fun l => pm_look l 117) cq_99).trans rfl⟩
theorem lk_99_120 : Lk 99 120 (.goto (-70)) 0 0 (0) := ⟨3, 0, (congrArg (fun l => pm_look l 120) cq_99).trans rfl⟩
theorem lk_99_123 : Lk 99 123 (.return_) 0 0 (0) := ⟨1, 0, (congrArg (fun l => pm_look l 123) cq_99).trans rfl⟩
theorem cq_100 : pm_code 100 = cd_100 := rfl
theorem lk_100_0 : Lk 100 0 (.iload_n 2) 0 0 (0) := ⟨1, 0, (congrArg (fun l => pm_look l 0) cq_100).trans rfl⟩
theorem lk_100_1 : Lk 100 1 (.iload_n 1) 0 0 (0) := ⟨1, 0, (congrArg (fun l => pm_look l 1) cq_100).trans rfl⟩
theorem lk_100_2 : Lk 100 2 (.if_icmp .le 14) 0 0 (0) := ⟨3, 0, (congrArg (fun l => pm_look l 2) cq_100).trans rfl⟩
theorem lk_100_5 : Lk 100 5 (.iload_n 2) 0 0 (0) := ⟨1, 0, (congrArg (fun l => pm_look l 5) cq_100).trans rfl⟩
theorem lk_100_6 : Lk 100 6 (.aload_n 0) 0 0 (0) := ⟨1, 0, (congrArg (fun l => pm_look l 6) cq_100).trans rfl⟩
theorem lk_100_7 : Lk 100 7 (.getfield 14) 9 0 (2) := ⟨3, 461, (congrArg (fun l => pm_look l 7) cq_100).trans rfl⟩
theorem lk_100_10 : Lk 100 10 (.getfield 47) 4 3 (0) := ⟨3, 211, (congrArg (fun l => pm_look l 10) cq_100).trans rfl⟩
theorem lk_100_13 : Lk 100 13 (.if_icmp .lt 4) 0 0 (0) := ⟨3, 0, (congrArg (fun l => pm_look l 13) cq_100).trans rfl⟩
theorem lk_100_16 : Lk 100 16 (.return_) 0 0 (0) := ⟨1, 0, (congrArg (fun l => pm_look l 16) cq_100).trans rfl⟩
theorem lk_100_17 : Lk 100 17 (.aload_n 0) 0 0 (0) := ⟨1, 0, (congrArg (fun l => pm_look l 17) cq_100).trans rfl⟩
theorem lk_100_18 : Lk 100 18 (.getfield 14) 9 0 (2) := ⟨3, 461, (congrArg (fun l => pm_look l 18) cq_100).trans rfl⟩
theorem lk_100_21 : Lk 100 21 (.getfield 51) 4 0 (2) := ⟨3, 203, (congrArg (fun l => pm_look l 21) cq_100).trans rfl⟩
theorem lk_100_24 : Lk 100 24 (.iload_n 1) 0 0 (0) := ⟨1, 0, (congrArg (fun l => pm_look l 24) cq_100).trans rfl⟩
theorem lk_100_25 : Lk 100 25 (.iaload) 0 0 (0) := ⟨1, 0, (congrArg (fun l => pm_look l 25) cq_100).trans rfl⟩
theorem lk_100_26 : Lk 100 26 (.iconst 1) 0 0 (0) := ⟨1, 0, (congrArg (fun l => pm_look l 26) cq_100).trans rfl⟩
theorem lk_100_27 : Lk 100 27 (.if_icmp .ne 7) 0 0 (0) := ⟨3, 0, (congrArg (fun l => pm_look l 27) cq_100).trans rfl⟩
theorem lk_100_30 : Lk 100 30 (.iconst 1) 0 0 (0) := ⟨1, 0, (congrArg (fun l => pm_look l 30) cq_100).trans rfl⟩
theorem lk_100_31 : Lk 100 31 (.goto 4) 0 0 (0) := ⟨3, 0, (congrArg (fun l => pm_look l 31) cq_100).trans rfl⟩
theorem lk_100_34 : Lk 100 34 (.iconst 0) 0 0 (0) := ⟨1, 0, (congrArg (fun l => pm_look l 34) cq_100).trans rfl⟩
theorem lk_100_35 : Lk 100 35 (.istore 5) 0 0 (0) := ⟨2, 0, (congrArg (fun l => pm_look l 35) cq_100).trans rfl⟩
theorem lk_100_37 : Lk 100 37 (.aload_n 0) 0 0 (0) := ⟨1, 0, (congrArg (fun l => pm_look l 37) cq_100).trans rfl⟩
theorem lk_100_38 : Lk 100 38 (.getfield 20) 9 1 (2) := ⟨3, 463, (congrArg (fun l => pm_look l 38) cq_100).trans rfl⟩
theorem lk_100_41 : Lk 100 41 (.iload_n 2) 0 0 (0) := ⟨1, 0, (congrArg (fun l => pm_look l 41) cq_100).trans rfl⟩
theorem lk_100_42 : Lk 100 42 (.iload 5) 0 0 (0) := ⟨2, 0, (congrArg (fun l => pm_look l 42) cq_100).trans rfl⟩
theorem lk_100_44 : Lk 100 44 (.ifCond .eq 14) 0 0 (0) := ⟨3, 0, (congrArg (fun l => pm_look l 44) cq_100).trans rfl⟩
theorem lk_100_47 : Lk 100 47 (.aload_n 0) 0 0 (0) := ⟨1, 0, (congrArg (fun l => pm_look l 47) cq_100).trans rfl⟩
theorem lk_100_48 : Lk 100 48 (.getfield 20) 9 1 (2) := ⟨3, 463, (congrArg (fun l => pm_look l 48) cq_100).trans rfl⟩
theorem lk_100_51 : Lk 100 51 (.iload_n 1) 0 0 (0) := ⟨1, 0, (congrArg (fun l => pm_look l 51) cq_100).trans rfl⟩
theorem lk_100_52 : Lk 100 52 (.iaload) 0 0 (0) := ⟨1, 0, (congrArg (fun l => pm_look l 52) cq_100).trans rfl⟩
theorem lk_100_53 : Lk 100 53 (.iload_n 3) 0 0 (0) := ⟨1, 0, (congrArg (fun l => pm_look l 53) cq_100).trans rfl⟩
theorem lk_100_54 : Lk 100 54 (.iand) 0 0 (0) := ⟨1, 0, (congrArg (fun l => pm_look l 54) cq_100).trans rfl⟩
theorem lk_100_55 : Lk 100 55 (.goto 9) 0 0 (0) := ⟨3, 0, (congrArg (fun l => pm_look l 55) cq_100).trans rfl⟩
theorem lk_100_58 : Lk 100 58 (.aload_n 0) 0 0 (0) := ⟨1, 0, (congrArg (fun l => pm_look l 58) cq_100).trans rfl⟩
theorem lk_100_59 : Lk 100 59 (.getfield 20) 9 1 (2) := ⟨3, 463, (congrArg (fun l => pm_look l 59) cq_100).trans rfl⟩
theorem lk_100_62 : Lk 100 62 (.iload_n 1) 0 0 (0) := ⟨1, 0, (congrArg (fun l => pm_look l 62) cq_100).trans rfl⟩
theorem lk_100_63 : Lk 100 63 (.iaload) 0 0 (0) := ⟨1, 0, (congrArg (fun l => pm_look l 63) cq_100).trans rfl⟩
theorem lk_100_64 : Lk 100 64 (.iastore) 0 0 (0) := ⟨1, 0, (congrArg (fun l => pm_look l 64) cq_100).trans rfl⟩
theorem lk_100_65 : Lk 100 65 (.aload_n 0) 0 0 (0) := ⟨1, 0, (congrArg (fun l => pm_look l 65) cq_100).trans rfl⟩
theorem lk_100_66 : Lk 100 66 (.getfield 24) 9 2 (2) := ⟨3, 465, (congrArg (fun l => pm_look l 66) cq_100).trans rfl⟩
theorem lk_100_69 : Lk 100 69 (.iload_n 2) 0 0 (0) := ⟨1, 0, (congrArg (fun l => pm_look l 69) cq_100).trans rfl⟩
theorem lk_100_70 : Lk 100 70 (.iload 5) 0 0 (0) := ⟨2, 0, (congrArg (fun l => pm_look l 70) cq_100).trans rfl⟩
theorem lk_100_72 : Lk 100 72 (.ifCond .eq 12) 0 0 (0) := ⟨3, 0, (congrArg (fun l => pm_look l 72) cq_100).trans rfl⟩
theorem lk_100_75 : Lk 100 75 (.aload_n 0) 0 0 (0) := ⟨1, 0, (congrArg (fun l => pm_look l 75) cq_100).trans rfl⟩
theorem lk_100_76 : Lk 100 76 (.getfield 24) 9 2 (2) := ⟨3, 465, (congrArg (fun l => pm_look l 76) cq_100).trans rfl⟩
theorem lk_100_79 : Lk 100 79 (.iload_n 1) 0 0 (0) := ⟨1, 0, (congrArg (fun l => pm_look l 79) cq_100).trans rfl⟩
theorem lk_100_80 : Lk 100 80 (.iaload) 0 0 (0) := ⟨1, 0, (congrArg (fun l => pm_look l 80) cq_100).trans rfl⟩
theorem lk_100_81 : Lk 100 81 (.goto 11) 0 0 (0) := ⟨3, 0, (congrArg (fun l => pm_look l 81) cq_100).trans rfl⟩
theorem lk_100_84 : Lk 100 84 (.aload_n 0) 0 0 (0) := ⟨1, 0, (congrArg (fun l => pm_look l 84) cq_100).trans rfl⟩
theorem lk_100_85 : Lk 100 85 (.getfield 24) 9 2 (2) := ⟨3, 465, (congrArg (fun l => pm_look l 85) cq_100).trans rfl⟩
theorem lk_100_88 : Lk 100 88 (.iload_n 1) 0 0 (0) := ⟨1, 0, (congrArg (fun l => pm_look l 88) cq_100).trans rfl⟩
theorem lk_100_89 : Lk 100 89 (.iaload) 0 0 (0) := ⟨1, 0, (congrArg (fun l => pm_look l 89) cq_100).trans rfl⟩
theorem lk_100_90 : Lk 100 90 (.iload_n 3) 0 0 (0) := ⟨1, 0, (congrArg (fun l => pm_look l 90) cq_100).trans rfl⟩
theorem lk_100_91 : Lk 100 91 (.iand) 0 0 (0) := ⟨1, 0, (congrArg (fun l => pm_look l 91) cq_100).trans rfl⟩
theorem lk_100_92 : Lk 100 92 (.iastore) 0 0 (0) := ⟨1, 0, (congrArg (fun l => pm_look l 92) cq_100).trans rfl⟩
theorem lk_100_93 : Lk 100 93 (.aload_n 0) 0 0 (0) := ⟨1, 0, (congrArg (fun l => pm_look l 93) cq_100).trans rfl⟩
theorem lk_100_94 : Lk 100 94 (.getfield 27) 9 3 (2) := ⟨3, 467, (congrArg (fun l => pm_look l 94) cq_100).trans rfl⟩
theorem lk_100_97 : Lk 100 97 (.iload_n 2) 0 0 (0) := ⟨1, 0, (congrArg (fun l => pm_look l 97) cq_100).trans rfl⟩
theorem lk_100_98 : Lk 100 98 (.aload_n 0) 0 0 (0) := ⟨1, 0, (congrArg (fun l => pm_look l 98) cq_100).trans rfl⟩
theorem lk_100_99 : Lk 100 99 (.getfield 27) 9 3 (2) := ⟨3, 467, (congrArg (fun l => pm_look l 99) cq_100).trans rfl⟩
theorem lk_100_102 : Lk 100 102 (.iload_n 1) 0 0 (0) := ⟨1, 0, (congrArg (fun l => pm_look l 102) cq_100).trans rfl⟩
theorem lk_100_103 : Lk 100 103 (.iaload) 0 0 (0) := ⟨1, 0, (congrArg (fun l => pm_look l 103) cq_100).trans rfl⟩
theorem lk_100_104 : Lk 100 104 (.iconst 1) 0 0 (0) := ⟨1, 0, (congrArg (fun l => pm_look l 104) cq_100).trans rfl⟩
theorem lk_100_105 : Lk 100 105 (.iadd) 0 0 (0) := ⟨1, 0, (congrArg (fun l => pm_look l 105) cq_100).trans rfl⟩
theorem lk_100_106 : Lk 100 106 (.iastore) 0 0 (0) := ⟨1, 0, (congrArg (fun l => pm_look l 106) cq_100).trans rfl⟩
theorem lk_100_107 : Lk 100 107 (.aload_n 0) 0 0 (0) := ⟨1, 0, (congrArg (fun l => pm_look l 107) cq_100).trans rfl⟩
theorem lk_100_108 : Lk 100 108 (.getfield 30) 9 4 (2) := ⟨3, 469, (congrArg (fun l => pm_look l 108) cq_100).trans rfl⟩
theorem lk_100_111 : Lk 100 111 (.iload_n 2) 0 0 (0) := ⟨1, 0, (congrArg (fun l => pm_look l 111) cq_100).trans rfl⟩
theorem lk_100_112 : Lk 100 112 (.aload_n 0) 0 0 (0) := ⟨1, 0, (congrArg (fun l => pm_look l 112) cq_100).trans rfl⟩
theorem lk_100_113 : Lk 100 113 (.getfield 30) 9 4 (2) := ⟨3, 469, (congrArg (fun l => pm_look l 113) cq_100).trans rfl⟩
theorem lk_100_116 : Lk 100 116 (.iload_n 1) 0 0 (0) := ⟨1, 0, (congrArg (fun l => pm_look l 116) cq_100).trans rfl⟩
theorem lk_100_117 : Lk 100 117 (.iaload) 0 0 (0) := ⟨1, 0, (congrArg (fun l => pm_look l 117) cq_100).trans rfl⟩
theorem lk_100_118 : Lk 100 118 (.iload 5) 0 0 (0) := ⟨2, 0, (congrArg (fun l => pm_look l 118) cq_100).trans rfl⟩
theorem lk_100_120 : Lk 100 120 (.ifCond .eq 11) 0 0 (0) := ⟨3, 0, (congrArg (fun l => pm_look l 120) cq_100).trans rfl⟩
theorem lk_100_123 : Lk 100 123 (.aload 4) 0 0 (0) := ⟨2, 0, (congrArg (fun l => pm_look l 123) cq_100).trans rfl⟩
theorem lk_100_125 : Lk 100 125 (.getfield 73) 8 3 (0) := ⟨3, 171, (congrArg (fun l => pm_look l 125) cq_100).trans rfl⟩
theorem lk_100_128 : Lk 100 128 (.goto 8) 0 0 (0) := ⟨3, 0, (congrArg (fun l => pm_look l 128) cq_100).trans rfl⟩
theorem lk_100_131 : Lk 100 131 (.aload 4) 0 0 (0) := ⟨2, 0, (congrArg (fun l => pm_look l 131) cq_100).trans rfl⟩
theorem lk_100_133 : Lk 100 133 (.getfield 76) 8 4 (0) := ⟨3, 178, (congrArg (fun l => pm_look l 133) cq_100).trans rfl⟩
theorem lk_100_136 : Lk 100 136 (.iadd) 0 0 (0) := ⟨1, 0, (congrArg (fun l => pm_look l 136) cq_100).trans rfl⟩
theorem lk_100_137 : Lk 100 137 (.iastore) 0 0 (0) := ⟨1, 0, (congrArg (fun l => pm_look l 137) cq_100).trans rfl⟩
theorem lk_100_138 : Lk 100 138 (.aload_n 0) 0 0 (0) := ⟨1, 0, (congrArg (fun l => pm_look l 138) cq_100).trans rfl⟩
theorem lk_100_139 : Lk 100 139 (.getfield 36) 9 6 (2) := ⟨3, 472, (congrArg (fun l => pm_look l 139) cq_100).trans rfl⟩
theorem lk_100_142 : Lk 100 142 (.iload_n 1) 0 0 (0) := ⟨1, 0, (congrArg (fun l => pm_look l 142) cq_100).trans rfl⟩
theorem lk_100_143 : Lk 100 143 (.iaload) 0 0 (0) := ⟨1, 0, (congrArg (fun l => pm_look l 143) cq_100).trans rfl⟩
theorem lk_100_144 : Lk 100 144 (.ifCond .eq 25) 0 0 (0) := ⟨3, 0, (congrArg (fun l => pm_look l 144) cq_100).trans rfl⟩
theorem lk_100_147 : Lk 100 147 (.aload_n 0) 0 0 (0) := ⟨1, 0, (congrArg (fun l => pm_look l 147) cq_100).trans rfl⟩
theorem lk_100_148 : Lk 100 148 (.getfield 36) 9 6 (2) := ⟨3, 472, (congrArg (fun l => pm_look l 148) cq_100).trans rfl⟩
theorem lk_100_151 : Lk 100 151 (.iload_n 1) 0 0 (0) := ⟨1, 0, (congrArg (fun l => pm_look l 151) cq_100).trans rfl⟩
theorem lk_100_152 : Lk 100 152 (.iaload) 0 0 (0) := ⟨1, 0, (congrArg (fun l => pm_look l 152) cq_100).trans rfl⟩
theorem lk_100_153 : Lk 100 153 (.aload_n 0) 0 0 (0) := ⟨1, 0, (congrArg (fun l => pm_look l 153) cq_100).trans rfl⟩
theorem lk_100_154 : Lk 100 154 (.getfield 14) 9 0 (2) := ⟨3, 461, (congrArg (fun l => pm_look l 154) cq_100).trans rfl⟩
theorem lk_100_157 : Lk 100 157 (.getfield 51) 4 0 (2) := ⟨3, 203, (congrArg (fun l => pm_look l 157) cq_100).trans rfl⟩
theorem lk_100_160 : Lk 100 160 (.iload_n 1) 0 0 (0) := ⟨1, 0, (congrArg (fun l => pm_look l 160) cq_100).trans rfl⟩
theorem lk_100_161 : Lk 100 161 (.iaload) 0 0 (0) := ⟨1, 0, (congrArg (fun l => pm_look l 161) cq_100).trans rfl⟩
theorem lk_100_162 : Lk 100 162 (.if_icmp .eq 7) 0 0 (0) := ⟨3, 0, (congrArg (fun l => pm_look l 162) cq_100).trans rfl⟩
theorem lk_100_165 : Lk 100 165 (.iconst 1) 0 0 (0) := ⟨1, 0, (congrArg (fun l => pm_look l 165) cq_100).trans rfl⟩
theorem lk_100_166 : Lk 100 166 (.goto 4) 0 0 (0) := ⟨3, 0, (congrArg (fun l => pm_look l 166) cq_100).trans rfl⟩
theorem lk_100_169 : Lk 100 169 (.iconst 0) 0 0 (0) := ⟨1, 0, (congrArg (fun l => pm_look l 169) cq_100).trans rfl⟩
theorem lk_100_170 : Lk 100 170 (.istore 6) 0 0 (0) := ⟨2, 0, (congrArg (fun l => pm_look l 170) cq_100).trans rfl⟩
theorem lk_100_172 : Lk 100 172 (.aload_n 0) 0 0 (0) := ⟨1, 0, (congrArg (fun l => pm_look l 172) cq_100).trans rfl⟩
theorem lk_100_173 : Lk 100 173 (.getfield 33) 9 5 (2) := ⟨3, 471, (congrArg (fun l => pm_look l 173) cq_100).trans rfl⟩
theorem lk_100_176 : Lk 100 176 (.iload_n 2) 0 0 (0) := ⟨1, 0, (congrArg (fun l => pm_look l 176) cq_100).trans rfl⟩
theorem lk_100_177 : Lk 100 177 (.aload_n 0) 0 0 (0) := ⟨1, 0, (congrArg (fun l => pm_look l 177) cq_100).trans rfl⟩
theorem lk_100_178 : Lk 100 178 (.getfield 33) 9 5 (2) := ⟨3, 471, (congrArg (fun l => pm_look l 178) cq_100).trans rfl⟩
theorem lk_100_181 : Lk 100 181 (.iload_n 1) 0 0 (0) := ⟨1, 0, (congrArg (fun l => pm_look l 181) cq_100).trans rfl⟩
theorem lk_100_182 : Lk 100 182 (.iaload) 0 0 (0) := ⟨1, 0, (congrArg (fun l => pm_look l 182) cq_100).trans rfl⟩
theorem lk_100_183 : Lk 100 183 (.iload 6) 0 0 (0) := ⟨2, 0, (congrArg (fun l => pm_look l 183) cq_100).trans rfl⟩
theorem lk_100_185 : Lk 100 185 (.ifCond .eq 7) 0 0 (0) := ⟨3, 0, (congrArg (fun l => pm_look l 185) cq_100).trans rfl⟩
theorem lk_100_188 : Lk 100 188 (.iconst 1) 0 0 (0) := ⟨1, 0, (congrArg (fun l => pm_look l 188) cq_100).trans rfl⟩
theorem lk_100_189 : Lk 100 189 (.goto 4) 0 0 (0) := ⟨3, 0, (congrArg (fun l => pm_look l 189) cq_100).trans rfl⟩
theorem lk_100_192 : Lk 100 192 (.iconst 0) 0 0 (0) := ⟨1, 0, (congrArg (fun l => pm_look l 192) cq_100).trans rfl⟩
theorem lk_100_193 : Lk 100 193 (.iadd) 0 0 (0) := ⟨1, 0, (congrArg (fun l => pm_look l 193) cq_100).trans rfl⟩
theorem lk_100_194 : Lk 100 194 (.iastore) 0 0 (0) := ⟨1, 0, (congrArg (fun l => pm_look l 194) cq_100).trans rfl⟩
theorem lk_100_195 : Lk 100 195 (.aload_n 0) 0 0 (0) := ⟨1, 0, (congrArg (fun l => pm_look l 195) cq_100).trans rfl⟩
theorem lk_100_196 : Lk 100 196 (.getfield 36) 9 6 (2) := ⟨3, 472, (congrArg (fun l => pm_look l 196) cq_100).trans rfl⟩
theorem lk_100_199 : Lk 100 199 (.iload_n 2) 0 0 (0) := ⟨1, 0, (congrArg (fun l => pm_look l 199) cq_100).trans rfl⟩
theorem lk_100_200 : Lk 100 200 (.aload_n 0) 0 0 (0) := ⟨1, 0, (congrArg (fun l => pm_look l 200) cq_100).trans rfl⟩
theorem lk_100_201 : Lk 100 201 (.getfield 14) 9 0 (2) := ⟨3, 461, (congrArg (fun l => pm_look l 201) cq_100).trans rfl⟩
theorem lk_100_204 : Lk 100 204 (.getfield 51) 4 0 (2) := ⟨3, 203, (congrArg (fun l => pm_look l 204) cq_100).trans rfl⟩
theorem lk_100_207 : Lk 100 207 (.iload_n 1) 0 0 (0) := ⟨1, 0, (congrArg (fun l => pm_look l 207) cq_100).trans rfl⟩
theorem lk_100_208 : Lk 100 208 (.iaload) 0 0 (0) := ⟨1, 0, (congrArg (fun l => pm_look l 208) cq_100).trans rfl⟩
set_option maxRecDepth 100000 in
theorem lk_100_209 : Lk 100 209 (.iastore) 0 0 (0) := ⟨1, 0, (congrArg (fun l => pm_look l 209) cq_100).trans rfl⟩
set_option maxRecDepth 100000 in
theorem lk_100_210 : Lk 100 210 (.return_) 0 0 (0) := ⟨1, 0, (congrArg (fun l => pm_look l 210) cq_100).trans rfl⟩
theorem cq_101 : pm_code 101 = cd_101 := rfl
theorem lk_101_0 : Lk 101 0 (.aload_n 0) 0 0 (0) := ⟨1, 0, (congrArg (fun l => pm_look l 0) cq_101).trans rfl⟩
theorem lk_101_1 : Lk 101 1 (.getfield 20) 9 1 (2) := ⟨3, 463, (congrArg (fun l => pm_look l 1) cq_101).trans rfl⟩
theorem lk_101_4 : Lk 101 4 (.iload_n 1) 0 0 (0) := ⟨1, 0, (congrArg (fun l => pm_look l 4) cq_101).trans rfl⟩
theorem lk_101_5 : Lk 101 5 (.iaload) 0 0 (0) := ⟨1, 0, (congrArg (fun l => pm_look l 5) cq_101).trans rfl⟩
theorem lk_101_6 : Lk 101 6 (.ifCond .eq 12) 0 0 (0) := ⟨3, 0, (congrArg (fun l => pm_look l 6) cq_101).trans rfl⟩
theorem lk_101_9 : Lk 101 9 (.aload_n 0) 0 0 (0) := ⟨1, 0, (congrArg (fun l => pm_look l 9) cq_101).trans rfl⟩
theorem lk_101_10 : Lk 101 10 (.getfield 24) 9 2 (2) := ⟨3, 465, (congrArg (fun l => pm_look l 10) cq_101).trans rfl⟩
theorem lk_101_13 : Lk 101 13 (.iload_n 1) 0 0 (0) := ⟨1, 0, (congrArg (fun l => pm_look l 13) cq_101).trans rfl⟩
theorem lk_101_14 : Lk 101 14 (.iaload) 0 0 (0) := ⟨1, 0, (congrArg (fun l => pm_look l 14) cq_101).trans rfl⟩
theorem lk_101_15 : Lk 101 15 (.ifCond .ne 7) 0 0 (0) := ⟨3, 0, (congrArg (fun l => pm_look l 15) cq_101).trans rfl⟩
theorem lk_101_18 : Lk 101 18 (.iconst 1) 0 0 (0) := ⟨1, 0, (congrArg (fun l => pm_look l 18) cq_101).trans rfl⟩
theorem lk_101_19 : Lk 101 19 (.goto 4) 0 0 (0) := ⟨3, 0, (congrArg (fun l => pm_look l 19) cq_101).trans rfl⟩
theorem lk_101_22 : Lk 101 22 (.iconst 0) 0 0 (0) := ⟨1, 0, (congrArg (fun l => pm_look l 22) cq_101).trans rfl⟩
theorem lk_101_23 : Lk 101 23 (.ireturn) 1 0 (0) := ⟨1, 0, (congrArg (fun l => pm_look l 23) cq_101).trans rfl⟩
theorem cq_102 : pm_code 102 = cd_102 := rfl
theorem lk_102_0 : Lk 102 0 (.aload_n 0) 0 0 (0) := ⟨1, 0, (congrArg (fun l => pm_look l 0) cq_102).trans rfl⟩
theorem lk_102_1 : Lk 102 1 (.getfield 14) 9 0 (2) := ⟨3, 461, (congrArg (fun l => pm_look l 1) cq_102).trans rfl⟩
theorem lk_102_4 : Lk 102 4 (.getfield 51) 4 0 (2) := ⟨3, 203, (congrArg (fun l => pm_look l 4) cq_102).trans rfl⟩
theorem lk_102_7 : Lk 102 7 (.iload_n 1) 0 0 (0) := ⟨1, 0, (congrArg (fun l => pm_look l 7) cq_102).trans rfl⟩
theorem lk_102_8 : Lk 102 8 (.iaload) 0 0 (0) := ⟨1, 0, (congrArg (fun l => pm_look l 8) cq_102).trans rfl⟩
theorem lk_102_9 : Lk 102 9 (.ifCond .ne 15) 0 0 (0) := ⟨3, 0, (congrArg (fun l => pm_look l 9) cq_102).trans rfl⟩
theorem lk_102_12 : Lk 102 12 (.aload_n 0) 0 0 (0) := ⟨1, 0, (congrArg (fun l => pm_look l 12) cq_102).trans rfl⟩
theorem lk_102_13 : Lk 102 13 (.iload_n 1) 0 0 (0) := ⟨1, 0, (congrArg (fun l => pm_look l 13) cq_102).trans rfl⟩
theorem lk_102_14 : Lk 102 14 (.invokevirtual 79) 101 0 (0) := ⟨3, 1180, (congrArg (fun l => pm_look l 14) cq_102).trans rfl⟩
theorem lk_102_17 : Lk 102 17 (.ifCond .ne 7) 0 0 (0) := ⟨3, 0, (congrArg (fun l => pm_look l 17) cq_102).trans rfl⟩
theorem lk_102_20 : Lk 102 20 (.iconst 1) 0 0 (0) := ⟨1, 0, (congrArg (fun l => pm_look l 20) cq_102).trans rfl⟩
theorem lk_102_21 : Lk 102 21 (.goto 4) 0 0 (0) := ⟨3, 0, (congrArg (fun l => pm_look l 21) cq_102).trans rfl⟩
theorem lk_102_24 : Lk 102 24 (.iconst 0) 0 0 (0) := ⟨1, 0, (congrArg (fun l => pm_look l 24) cq_102).trans rfl⟩
theorem lk_102_25 : Lk 102 25 (.ireturn) 1 0 (0) := ⟨1, 0, (congrArg (fun l => pm_look l 25) cq_102).trans rfl⟩
theorem cq_103 : pm_code 103 = cd_103 := rfl
theorem lk_103_0 : Lk 103 0 (.aload_n 0) 0 0 (0) := ⟨1, 0, (congrArg (fun l => pm_look l 0) cq_103).trans rfl⟩
theorem lk_103_1 : Lk 103 1 (.getfield 14) 9 0 (2) := ⟨3, 461, (congrArg (fun l => pm_look l 1) cq_103).trans rfl⟩
theorem lk_103_4 : Lk 103 4 (.iload_n 1) 0 0 (0) := ⟨1, 0, (congrArg (fun l => pm_look l 4) cq_103).trans rfl⟩
theorem lk_103_5 : Lk 103 5 (.iload_n 2) 0 0 (0) := ⟨1, 0, (congrArg (fun l => pm_look l 5) cq_103).trans rfl⟩
theorem lk_103_6 : Lk 103 6 (.iload_n 3) 0 0 (0) := ⟨1, 0, (congrArg (fun l => pm_look l 6) cq_103).trans rfl⟩
theorem lk_103_7 : Lk 103 7 (.invokevirtual 83) 39 0 (0) := ⟨3, 1142, (congrArg (fun l => pm_look l 7) cq_103).trans rfl⟩
theorem lk_103_10 : Lk 103 10 (.ifCond .eq 9) 0 0 (0) := ⟨3, 0, (congrArg (fun l => pm_look l 10) cq_103).trans rfl⟩
theorem lk_103_13 : Lk 103 13 (.iload_n 1) 0 0 (0) := ⟨1, 0, (congrArg (fun l => pm_look l 13) cq_103).trans rfl⟩
theorem lk_103_14 : Lk 103 14 (.iconst 1) 0 0 (0) := ⟨1, 0, (congrArg (fun l => pm_look l 14) cq_103).trans rfl⟩
theorem lk_103_15 : Lk 103 15 (.iadd) 0 0 (0) := ⟨1, 0, (congrArg (fun l => pm_look l 15) cq_103).trans rfl⟩
theorem lk_103_16 : Lk 103 16 (.goto 12) 0 0 (0) := ⟨3, 0, (congrArg (fun l => pm_look l 16) cq_103).trans rfl⟩
theorem lk_103_19 : Lk 103 19 (.aload_n 0) 0 0 (0) := ⟨1, 0, (congrArg (fun l => pm_look l 19) cq_103).trans rfl⟩
theorem lk_103_20 : Lk 103 20 (.getfield 14) 9 0 (2) := ⟨3, 461, (congrArg (fun l => pm_look l 20) cq_103).trans rfl⟩
theorem lk_103_23 : Lk 103 23 (.getfield 70) 4 2 (2) := ⟨3, 207, (congrArg (fun l => pm_look l 23) cq_103).trans rfl⟩
theorem lk_103_26 : Lk 103 26 (.iload_n 1) 0 0 (0) := ⟨1, 0, (congrArg (fun l => pm_look l 26) cq_103).trans rfl⟩
theorem lk_103_27 : Lk 103 27 (.iaload) 0 0 (0) := ⟨1, 0, (congrArg (fun l => pm_look l 27) cq_103).trans rfl⟩
theorem lk_103_28 : Lk 103 28 (.istore 4) 0 0 (0) := ⟨2, 0, (congrArg (fun l => pm_look l 28) cq_103).trans rfl⟩
theorem lk_103_30 : Lk 103 30 (.iload 4) 0 0 (0) := ⟨2, 0, (congrArg (fun l => pm_look l 30) cq_103).trans rfl⟩
theorem lk_103_32 : Lk 103 32 (.iload_n 1) 0 0 (0) := ⟨1, 0, (congrArg (fun l => pm_look l 32) cq_103).trans rfl⟩
theorem lk_103_33 : Lk 103 33 (.if_icmp .le 20) 0 0 (0) := ⟨3, 0, (congrArg (fun l => pm_look l 33) cq_103).trans rfl⟩
theorem lk_103_36 : Lk 103 36 (.iload 4) 0 0 (0) := ⟨2, 0, (congrArg (fun l => pm_look l 36) cq_103).trans rfl⟩
theorem lk_103_38 : Lk 103 38 (.aload_n 0) 0 0 (0) := ⟨1, 0, (congrArg (fun l => pm_look l 38) cq_103).trans rfl⟩
theorem lk_103_39 : Lk 103 39 (.getfield 14) 9 0 (2) := ⟨3, 461, (congrArg (fun l => pm_look l 39) cq_103).trans rfl⟩
theorem lk_103_42 : Lk 103 42 (.getfield 47) 4 3 (0) := ⟨3, 211, (congrArg (fun l => pm_look l 42) cq_103).trans rfl⟩
theorem lk_103_45 : Lk 103 45 (.if_icmp .ge 8) 0 0 (0) := ⟨3, 0, (congrArg (fun l => pm_look l 45) cq_103).trans rfl⟩
theorem lk_103_48 : Lk 103 48 (.iload 4) 0 0 (0) := ⟨2, 0, (congrArg (fun l => pm_look l 48) cq_103).trans rfl⟩
theorem lk_103_50 : Lk 103 50 (.goto 4) 0 0 (0) := ⟨3, 0, (congrArg (fun l => pm_look l 50) cq_103).trans rfl⟩
theorem lk_103_53 : Lk 103 53 (.iload_n 1) 0 0 (0) := ⟨1, 0, (congrArg (fun l => pm_look l 53) cq_103).trans rfl⟩
theorem lk_103_54 : Lk 103 54 (.ireturn) 0 0 (0) := ⟨1, 0, (congrArg (fun l => pm_look l 54) cq_103).trans rfl⟩
theorem cq_104 : pm_code 104 = cd_104 := rfl
theorem lk_104_0 : Lk 104 0 (.iconst 0) 0 0 (0) := ⟨1, 0, (congrArg (fun l => pm_look l 0) cq_104).trans rfl⟩
theorem lk_104_1 : Lk 104 1 (.istore_n 3) 0 0 (0) := ⟨1, 0, (congrArg (fun l => pm_look l 1) cq_104).trans rfl⟩
theorem lk_104_2 : Lk 104 2 (.iconst 0) 0 0 (0) := ⟨1, 0, (congrArg (fun l => pm_look l 2) cq_104).trans rfl⟩
theorem lk_104_3 : Lk 104 3 (.istore 4) 0 0 (0) := ⟨2, 0, (congrArg (fun l => pm_look l 3) cq_104).trans rfl⟩
theorem lk_104_5 : Lk 104 5 (.iload 4) 0 0 (0) := ⟨2, 0, (congrArg (fun l => pm_look l 5) cq_104).trans rfl⟩
theorem lk_104_7 : Lk 104 7 (.bipush 9) 0 0 (0) := ⟨2, 0, (congrArg (fun l => pm_look l 7) cq_104).trans rfl⟩
theorem lk_104_9 : Lk 104 9 (.if_icmp .ge 29) 0 0 (0) := ⟨3, 0, (congrArg (fun l => pm_look l 9) cq_104).trans rfl⟩
theorem lk_104_12 : Lk 104 12 (.aload_n 0) 0 0 (0) := ⟨1, 0, (congrArg (fun l => pm_look l 12) cq_104).trans rfl⟩
theorem lk_104_13 : Lk 104 13 (.getfield 14) 9 0 (2) := ⟨3, 461, (congrArg (fun l => pm_look l 13) cq_104).trans rfl⟩
theorem lk_104_16 : Lk 104 16 (.getfield 51) 4 0 (2) := ⟨3, 203, (congrArg (fun l => pm_look l 16) cq_104).trans rfl⟩
theorem lk_104_19 : Lk 104 19 (.iload_n 3) 0 0 (0) := ⟨1, 0, (congrArg (fun l => pm_look l 19) cq_104).trans rfl⟩
theorem lk_104_20 : Lk 104 20 (.iaload) 0 0 (0) := ⟨1, 0, (congrArg (fun l => pm_look l 20) cq_104).trans rfl⟩
theorem lk_104_21 : Lk 104 21 (.ifCond .eq 17) 0 0 (0) := ⟨3, 0, (congrArg (fun l => pm_look l 21) cq_104).trans rfl⟩
theorem lk_104_24 : Lk 104 24 (.aload_n 0) 0 0 (0) := ⟨1, 0, (congrArg (fun l => pm_look l 24) cq_104).trans rfl⟩
theorem lk_104_25 : Lk 104 25 (.iload_n 3) 0 0 (0) := ⟨1, 0, (congrArg (fun l => pm_look l 25) cq_104).trans rfl⟩
theorem lk_104_26 : Lk 104 26 (.iload_n 1) 0 0 (0) := ⟨1, 0, (congrArg (fun l => pm_look l 26) cq_104).trans rfl⟩
theorem lk_104_27 : Lk 104 27 (.iload_n 2) 0 0 (0) := ⟨1, 0, (congrArg (fun l => pm_look l 27) cq_104).trans rfl⟩
theorem lk_104_28 : Lk 104 28 (.invokevirtual 87) 103 0 (0) := ⟨3, 1138, (congrArg (fun l => pm_look l 28) cq_104).trans rfl⟩
theorem lk_104_31 : Lk 104 31 (.istore_n 3) 0 0 (0) := ⟨1, 0, (congrArg (fun l => pm_look l 31) cq_104).trans rfl⟩
theorem lk_104_32 : Lk 104 32 (.iinc 4 1) 0 0 (0) := ⟨3, 0, (congrArg (fun l => pm_look l 32) cq_104).trans rfl⟩
theorem lk_104_35 : Lk 104 35 (.goto (-30)) 0 0 (0) := ⟨3, 0, (congrArg (fun l => pm_look l 35) cq_104).trans rfl⟩
theorem lk_104_38 : Lk 104 38 (.iload_n 3) 0 0 (0) := ⟨1, 0, (congrArg (fun l => pm_look l 38) cq_104).trans rfl⟩
theorem lk_104_39 : Lk 104 39 (.ireturn) 0 0 (0) := ⟨1, 0, (congrArg (fun l => pm_look l 39) cq_104).trans rfl⟩
theorem cq_105 : pm_code 105 = cd_105 := rfl
theorem lk_105_0 : Lk 105 0 (.aload_n 0) 0 0 (0) := ⟨1, 0, (congrArg (fun l => pm_look l 0) cq_105).trans rfl⟩
theorem lk_105_1 : Lk 105 1 (.getfield 14) 9 0 (2) := ⟨3, 461, (congrArg (fun l => pm_look l 1) cq_105).trans rfl⟩
theorem lk_105_4 : Lk 105 4 (.getfield 63) 4 1 (2) := ⟨3, 205, (congrArg (fun l => pm_look l 4) cq_105).trans rfl⟩
theorem lk_105_7 : Lk 105 7 (.aload_n 0) 0 0 (0) := ⟨1, 0, (congrArg (fun l => pm_look l 7) cq_105).trans rfl⟩
theorem lk_105_8 : Lk 105 8 (.iload_n 1) 0 0 (0) := ⟨1, 0, (congrArg (fun l => pm_look l 8) cq_105).trans rfl⟩
theorem lk_105_9 : Lk 105 9 (.iload_n 2) 0 0 (0) := ⟨1, 0, (congrArg (fun l => pm_look l 9) cq_105).trans rfl⟩
theorem lk_105_10 : Lk 105 10 (.invokevirtual 91) 104 0 (0) := ⟨3, 1134, (congrArg (fun l => pm_look l 10) cq_105).trans rfl⟩
theorem lk_105_13 : Lk 105 13 (.iaload) 0 0 (0) := ⟨1, 0, (congrArg (fun l => pm_look l 13) cq_105).trans rfl⟩
theorem lk_105_14 : Lk 105 14 (.ireturn) 0 0 (0) := ⟨1, 0, (congrArg (fun l => pm_look l 14) cq_105).trans rfl⟩
theorem cq_106 : pm_code 106 = cd_106 := rfl
theorem lk_106_0 : Lk 106 0 (.iconst 0) 0 0 (0) := ⟨1, 0, (congrArg (fun l => pm_look l 0) cq_106).trans rfl⟩
theorem lk_106_1 : Lk 106 1 (.istore 4) 0 0 (0) := ⟨2, 0, (congrArg (fun l => pm_look l 1) cq_106).trans rfl⟩
theorem lk_106_3 : Lk 106 3 (.iconst 0) 0 0 (0) := ⟨1, 0, (congrArg (fun l => pm_look l 3) cq_106).trans rfl⟩
theorem lk_106_4 : Lk 106 4 (.istore 5) 0 0 (0) := ⟨2, 0, (congrArg (fun l => pm_look l 4) cq_106).trans rfl⟩
theorem lk_106_6 : Lk 106 6 (.iload 5) 0 0 (0) := ⟨2, 0, (congrArg (fun l => pm_look l 6) cq_106).trans rfl⟩
theorem lk_106_8 : Lk 106 8 (.iload_n 3) 0 0 (0) := ⟨1, 0, (congrArg (fun l => pm_look l 8) cq_106).trans rfl⟩
theorem lk_106_9 : Lk 106 9 (.if_icmp .ge 26) 0 0 (0) := ⟨3, 0, (congrArg (fun l => pm_look l 9) cq_106).trans rfl⟩
theorem lk_106_12 : Lk 106 12 (.iload 5) 0 0 (0) := ⟨2, 0, (congrArg (fun l => pm_look l 12) cq_106).trans rfl⟩
theorem lk_106_14 : Lk 106 14 (.bipush 9) 0 0 (0) := ⟨2, 0, (congrArg (fun l => pm_look l 14) cq_106).trans rfl⟩
theorem lk_106_16 : Lk 106 16 (.if_icmp .ge 19) 0 0 (0) := ⟨3, 0, (congrArg (fun l => pm_look l 16) cq_106).trans rfl⟩
theorem lk_106_19 : Lk 106 19 (.aload_n 0) 0 0 (0) := ⟨1, 0, (congrArg (fun l => pm_look l 19) cq_106).trans rfl⟩
theorem lk_106_20 : Lk 106 20 (.iload 4) 0 0 (0) := ⟨2, 0, (congrArg (fun l => pm_look l 20) cq_106).trans rfl⟩
theorem lk_106_22 : Lk 106 22 (.iload_n 1) 0 0 (0) := ⟨1, 0, (congrArg (fun l => pm_look l 22) cq_106).trans rfl⟩
theorem lk_106_23 : Lk 106 23 (.iload_n 2) 0 0 (0) := ⟨1, 0, (congrArg (fun l => pm_look l 23) cq_106).trans rfl⟩
theorem lk_106_24 : Lk 106 24 (.invokevirtual 87) 103 0 (0) := ⟨3, 1138, (congrArg (fun l => pm_look l 24) cq_106).trans rfl⟩
theorem lk_106_27 : Lk 106 27 (.istore 4) 0 0 (0) := ⟨2, 0, (congrArg (fun l => pm_look l 27) cq_106).trans rfl⟩
theorem lk_106_29 : Lk 106 29 (.iinc 5 1) 0 0 (0) := ⟨3, 0, (congrArg (fun l => pm_look l 29) cq_106).trans rfl⟩
theorem lk_106_32 : Lk 106 32 (.goto (-26)) 0 0 (0) := ⟨3, 0, (congrArg (fun l => pm_look l 32) cq_106).trans rfl⟩
theorem lk_106_35 : Lk 106 35 (.aload_n 0) 0 0 (0) := ⟨1, 0, (congrArg (fun l => pm_look l 35) cq_106).trans rfl⟩
theorem lk_106_36 : Lk 106 36 (.getfield 14) 9 0 (2) := ⟨3, 461, (congrArg (fun l => pm_look l 36) cq_106).trans rfl⟩
theorem lk_106_39 : Lk 106 39 (.iload 4) 0 0 (0) := ⟨2, 0, (congrArg (fun l => pm_look l 39) cq_106).trans rfl⟩
theorem lk_106_41 : Lk 106 41 (.iload_n 1) 0 0 (0) := ⟨1, 0, (congrArg (fun l => pm_look l 41) cq_106).trans rfl⟩
theorem lk_106_42 : Lk 106 42 (.iload_n 2) 0 0 (0) := ⟨1, 0, (congrArg (fun l => pm_look l 42) cq_106).trans rfl⟩
theorem lk_106_43 : Lk 106 43 (.invokevirtual 83) 39 0 (0) := ⟨3, 1142, (congrArg (fun l => pm_look l 43) cq_106).trans rfl⟩
theorem lk_106_46 : Lk 106 46 (.ifCond .eq 7) 0 0 (0) := ⟨3, 0, (congrArg (fun l => pm_look l 46) cq_106).trans rfl⟩
theorem lk_106_49 : Lk 106 49 (.iconst 1) 0 0 (0) := ⟨1, 0, (congrArg (fun l => pm_look l 49) cq_106).trans rfl⟩
theorem lk_106_50 : Lk 106 50 (.goto 4) 0 0 (0) := ⟨3, 0, (congrArg (fun l => pm_look l 50) cq_106).trans rfl⟩
theorem lk_106_53 : Lk 106 53 (.iconst 0) 0 0 (0) := ⟨1, 0, (congrArg (fun l => pm_look l 53) cq_106).trans rfl⟩
theorem lk_106_54 : Lk 106 54 (.ireturn) 0 0 (0) := ⟨1, 0, (congrArg (fun l => pm_look l 54) cq_106).trans rfl⟩
theorem cq_107 : pm_code 107 = cd_107 := rfl
theorem lk_107_0 : Lk 107 0 (.iconst 0) 0 0 (0) := ⟨1, 0, (congrArg (fun l => pm_look l 0) cq_107).trans rfl⟩
theorem lk_107_1 : Lk 107 1 (.istore_n 1) 0 0 (0) := ⟨1, 0, (congrArg (fun l => pm_look l 1) cq_107).trans rfl⟩
theorem lk_107_2 : Lk 107 2 (.iconst 0) 0 0 (0) := ⟨1, 0, (congrArg (fun l => pm_look l 2) cq_107).trans rfl⟩
theorem lk_107_3 : Lk 107 3 (.istore_n 2) 0 0 (0) := ⟨1, 0, (congrArg (fun l => pm_look l 3) cq_107).trans rfl⟩
theorem lk_107_4 : Lk 107 4 (.iload_n 2) 0 0 (0) := ⟨1, 0, (congrArg (fun l => pm_look l 4) cq_107).trans rfl⟩
theorem lk_107_5 : Lk 107 5 (.aload_n 0) 0 0 (0) := ⟨1, 0, (congrArg (fun l => pm_look l 5) cq_107).trans rfl⟩
theorem lk_107_6 : Lk 107 6 (.getfield 14) 9 0 (2) := ⟨3, 461, (congrArg (fun l => pm_look l 6) cq_107).trans rfl⟩
theorem lk_107_9 : Lk 107 9 (.getfield 47) 4 3 (0) := ⟨3, 211, (congrArg (fun l => pm_look l 9) cq_107).trans rfl⟩
theorem lk_107_12 : Lk 107 12 (.if_icmp .ge 29) 0 0 (0) := ⟨3, 0, (congrArg (fun l => pm_look l 12) cq_107).trans rfl⟩
theorem lk_107_15 : Lk 107 15 (.iload_n 1) 0 0 (0) := ⟨1, 0, (congrArg (fun l => pm_look l 15) cq_107).trans rfl⟩
theorem lk_107_16 : Lk 107 16 (.aload_n 0) 0 0 (0) := ⟨1, 0, (congrArg (fun l => pm_look l 16) cq_107).trans rfl⟩
theorem lk_107_17 : Lk 107 17 (.getfield 14) 9 0 (2) := ⟨3, 461, (congrArg (fun l => pm_look l 17) cq_107).trans rfl⟩
theorem lk_107_20 : Lk 107 20 (.getfield 51) 4 0 (2) := ⟨3, 203, (congrArg (fun l => pm_look l 20) cq_107).trans rfl⟩
theorem lk_107_23 : Lk 107 23 (.iload_n 2) 0 0 (0) := ⟨1, 0, (congrArg (fun l => pm_look l 23) cq_107).trans rfl⟩
theorem lk_107_24 : Lk 107 24 (.iaload) 0 0 (0) := ⟨1, 0, (congrArg (fun l => pm_look l 24) cq_107).trans rfl⟩
theorem lk_107_25 : Lk 107 25 (.ifCond .ne 7) 0 0 (0) := ⟨3, 0, (congrArg (fun l => pm_look l 25) cq_107).trans rfl⟩
theorem lk_107_28 : Lk 107 28 (.iconst 1) 0 0 (0) := ⟨1, 0, (congrArg (fun l => pm_look l 28) cq_107).trans rfl⟩
theorem lk_107_29 : Lk 107 29 (.goto 4) 0 0 (0) := ⟨3, 0, (congrArg (fun l => pm_look l 29) cq_107).trans rfl⟩
theorem lk_107_32 : Lk 107 32 (.iconst 0) 0 0 (0) := ⟨1, 0, (congrArg (fun l => pm_look l 32) cq_107).trans rfl⟩
theorem lk_107_33 : Lk 107 33 (.iadd) 0 0 (0) := ⟨1, 0, (congrArg (fun l => pm_look l 33) cq_107).trans rfl⟩
theorem lk_107_34 : Lk 107 34 (.istore_n 1) 0 0 (0) := ⟨1, 0, (congrArg (fun l => pm_look l 34) cq_107).trans rfl⟩
theorem lk_107_35 : Lk 107 35 (.iinc 2 1) 0 0 (0) := ⟨3, 0, (congrArg (fun l => pm_look l 35) cq_107).trans rfl⟩
theorem lk_107_38 : Lk 107 38 (.goto (-34)) 0 0 (0) := ⟨3, 0, (congrArg (fun l => pm_look l 38) cq_107).trans rfl⟩
theorem lk_107_41 : Lk 107 41 (.iload_n 1) 0 0 (0) := ⟨1, 0, (congrArg (fun l => pm_look l 41) cq_107).trans rfl⟩
theorem lk_107_42 : Lk 107 42 (.ireturn) 0 0 (0) := ⟨1, 0, (congrArg (fun l => pm_look l 42) cq_107).trans rfl⟩
theorem cq_108 : pm_code 108 = cd_108 := rfl
theorem lk_108_0 : Lk 108 0 (.iconst 0) 0 0 (0) := ⟨1, 0, (congrArg (fun l => pm_look l 0) cq_108).trans rfl⟩
theorem lk_108_1 : Lk 108 1 (.istore_n 1) 0 0 (0) := ⟨1, 0, (congrArg (fun l => pm_look l 1) cq_108).trans rfl⟩
theorem lk_108_2 : Lk 108 2 (.iconst 0) 0 0 (0) := ⟨1, 0, (congrArg (fun l => pm_look l 2) cq_108).trans rfl⟩
theorem lk_108_3 : Lk 108 3 (.istore_n 2) 0 0 (0) := ⟨1, 0, (congrArg (fun l => pm_look l 3) cq_108).trans rfl⟩
theorem lk_108_4 : Lk 108 4 (.iload_n 2) 0 0 (0) := ⟨1, 0, (congrArg (fun l => pm_look l 4) cq_108).trans rfl⟩
theorem lk_108_5 : Lk 108 5 (.aload_n 0) 0 0 (0) := ⟨1, 0, (congrArg (fun l => pm_look l 5) cq_108).trans rfl⟩
theorem lk_108_6 : Lk 108 6 (.getfield 14) 9 0 (2) := ⟨3, 461, (congrArg (fun l => pm_look l 6) cq_108).trans rfl⟩
theorem lk_108_9 : Lk 108 9 (.getfield 47) 4 3 (0) := ⟨3, 211, (congrArg (fun l => pm_look l 9) cq_108).trans rfl⟩
theorem lk_108_12 : Lk 108 12 (.if_icmp .ge 25) 0 0 (0) := ⟨3, 0, (congrArg (fun l => pm_look l 12) cq_108).trans rfl⟩
theorem lk_108_15 : Lk 108 15 (.iload_n 1) 0 0 (0) := ⟨1, 0, (congrArg (fun l => pm_look l 15) cq_108).trans rfl⟩
theorem lk_108_16 : Lk 108 16 (.aload_n 0) 0 0 (0) := ⟨1, 0, (congrArg (fun l => pm_look l 16) cq_108).trans rfl⟩
theorem lk_108_17 : Lk 108 17 (.iload_n 2) 0 0 (0) := ⟨1, 0, (congrArg (fun l => pm_look l 17) cq_108).trans rfl⟩
theorem lk_108_18 : Lk 108 18 (.invokevirtual 79) 101 0 (0) := ⟨3, 1180, (congrArg (fun l => pm_look l 18) cq_108).trans rfl⟩
theorem lk_108_21 : Lk 108 21 (.ifCond .eq 7) 0 0 (0) := ⟨3, 0, (congrArg (fun l => pm_look l 21) cq_108).trans rfl⟩
theorem lk_108_24 : Lk 108 24 (.iconst 1) 0 0 (0) := ⟨1, 0, (congrArg (fun l => pm_look l 24) cq_108).trans rfl⟩
theorem lk_108_25 : Lk 108 25 (.goto 4) 0 0 (0) := ⟨3, 0, (congrArg (fun l => pm_look l 25) cq_108).trans rfl⟩
theorem lk_108_28 : Lk 108 28 (.iconst 0) 0 0 (0) := ⟨1, 0, (congrArg (fun l => pm_look l 28) cq_108).trans rfl⟩
theorem lk_108_29 : Lk 108 29 (.iadd) 0 0 (0) := ⟨1, 0, (congrArg (fun l => pm_look l 29) cq_108).trans rfl⟩
theorem lk_108_30 : Lk 108 30 (.istore_n 1) 0 0 (0) := ⟨1, 0, (congrArg (fun l => pm_look l 30) cq_108).trans rfl⟩
theorem lk_108_31 : Lk 108 31 (.iinc 2 1) 0 0 (0) := ⟨3, 0, (congrArg (fun l => pm_look l 31) cq_108).trans rfl⟩
theorem lk_108_34 : Lk 108 34 (.goto (-30)) 0 0 (0) := ⟨3, 0, (congrArg (fun l => pm_look l 34) cq_108).trans rfl⟩
theorem lk_108_37 : Lk 108 37 (.iload_n 1) 0 0 (0) := ⟨1, 0, (congrArg (fun l => pm_look l 37) cq_108).trans rfl⟩
theorem lk_108_38 : Lk 108 38 (.ireturn) 0 0 (0) := ⟨1, 0, (congrArg (fun l => pm_look l 38) cq_108).trans rfl⟩
theorem cq_109 : pm_code 109 = cd_109 := rfl
theorem lk_109_0 : Lk 109 0 (.iconst 0) 0 0 (0) := ⟨1, 0, (congrArg (fun l => pm_look l 0) cq_109).trans rfl⟩
theorem lk_109_1 : Lk 109 1 (.istore_n 1) 0 0 (0) := ⟨1, 0, (congrArg (fun l => pm_look l 1) cq_109).trans rfl⟩
theorem lk_109_2 : Lk 109 2 (.iconst 0) 0 0 (0) := ⟨1, 0, (congrArg (fun l => pm_look l 2) cq_109).trans rfl⟩
theorem lk_109_3 : Lk 109 3 (.istore_n 2) 0 0 (0) := ⟨1, 0, (congrArg (fun l => pm_look l 3) cq_109).trans rfl⟩
theorem lk_109_4 : Lk 109 4 (.iload_n 2) 0 0 (0) := ⟨1, 0, (congrArg (fun l => pm_look l 4) cq_109).trans rfl⟩
theorem lk_109_5 : Lk 109 5 (.aload_n 0) 0 0 (0) := ⟨1, 0, (congrArg (fun l => pm_look l 5) cq_109).trans rfl⟩
theorem lk_109_6 : Lk 109 6 (.getfield 14) 9 0 (2) := ⟨3, 461, (congrArg (fun l => pm_look l 6) cq_109).trans rfl⟩
theorem lk_109_9 : Lk 109 9 (.getfield 47) 4 3 (0) := ⟨3, 211, (congrArg (fun l => pm_look l 9) cq_109).trans rfl⟩
theorem lk_109_12 : Lk 109 12 (.if_icmp .ge 32) 0 0 (0) := ⟨3, 0, (congrArg (fun l => pm_look l 12) cq_109).trans rfl⟩
theorem lk_109_15 : Lk 109 15 (.aload_n 0) 0 0 (0) := ⟨1, 0, (congrArg (fun l => pm_look l 15) cq_109).trans rfl⟩
theorem lk_109_16 : Lk 109 16 (.iload_n 2) 0 0 (0) := ⟨1, 0, (congrArg (fun l => pm_look l 16) cq_109).trans rfl⟩
theorem lk_109_17 : Lk 109 17 (.invokevirtual 95) 102 0 (0) := ⟨3, 1176, (congrArg (fun l => pm_look l 17) cq_109).trans rfl⟩
theorem lk_109_20 : Lk 109 20 (.ifCond .eq 16) 0 0 (0) := ⟨3, 0, (congrArg (fun l => pm_look l 20) cq_109).trans rfl⟩
theorem lk_109_23 : Lk 109 23 (.iload_n 1) 0 0 (0) := ⟨1, 0, (congrArg (fun l => pm_look l 23) cq_109).trans rfl⟩
theorem lk_109_24 : Lk 109 24 (.aload_n 0) 0 0 (0) := ⟨1, 0, (congrArg (fun l => pm_look l 24) cq_109).trans rfl⟩
theorem lk_109_25 : Lk 109 25 (.getfield 30) 9 4 (2) := ⟨3, 469, (congrArg (fun l => pm_look l 25) cq_109).trans rfl⟩
theorem lk_109_28 : Lk 109 28 (.iload_n 2) 0 0 (0) := ⟨1, 0, (congrArg (fun l => pm_look l 28) cq_109).trans rfl⟩
theorem lk_109_29 : Lk 109 29 (.iaload) 0 0 (0) := ⟨1, 0, (congrArg (fun l => pm_look l 29) cq_109).trans rfl⟩
theorem lk_109_30 : Lk 109 30 (.invokestatic 98) 1000 0 (0) := ⟨3, 1184, (congrArg (fun l => pm_look l 30) cq_109).trans rfl⟩
theorem lk_109_33 : Lk 109 33 (.goto 4) 0 0 (0) := ⟨3, 0, (congrArg (fun l => pm_look l 33) cq_109).trans rfl⟩
theorem lk_109_36 : Lk 109 36 (.iload_n 1) 0 0 (0) := ⟨1, 0, (congrArg (fun l => pm_look l 36) cq_109).trans rfl⟩
theorem lk_109_37 : Lk 109 37 (.istore_n 1) 0 0 (0) := ⟨1, 0, (congrArg (fun l => pm_look l 37) cq_109).trans rfl⟩
theorem lk_109_38 : Lk 109 38 (.iinc 2 1) 0 0 (0) := ⟨3, 0, (congrArg (fun l => pm_look l 38) cq_109).trans rfl⟩
theorem lk_109_41 : Lk 109 41 (.goto (-37)) 0 0 (0) := ⟨3, 0, (congrArg (fun l => pm_look l 41) cq_109).trans rfl⟩
theorem lk_109_44 : Lk 109 44 (.iload_n 1) 0 0 (0) := ⟨1, 0, (congrArg (fun l => pm_look l 44) cq_109).trans rfl⟩
theorem lk_109_45 : Lk 109 45 (.ireturn) 0 0 (0) := ⟨1, 0, (congrArg (fun l => pm_look l 45) cq_109).trans rfl⟩
theorem cq_110 : pm_code 110 = cd_110 := rfl
theorem lk_110_0 : Lk 110 0 (.iconst 0) 0 0 (0) := ⟨1, 0, (congrArg (fun l => pm_look l 0) cq_110).trans rfl⟩
theorem lk_110_1 : Lk 110 1 (.istore_n 1) 0 0 (0) := ⟨1, 0, (congrArg (fun l => pm_look l 1) cq_110).trans rfl⟩
theorem lk_110_2 : Lk 110 2 (.iconst 0) 0 0 (0) := ⟨1, 0, (congrArg (fun l => pm_look l 2) cq_110).trans rfl⟩
theorem lk_110_3 : Lk 110 3 (.istore_n 2) 0 0 (0) := ⟨1, 0, (congrArg (fun l => pm_look l 3) cq_110).trans rfl⟩
theorem lk_110_4 : Lk 110 4 (.iload_n 2) 0 0 (0) := ⟨1, 0, (congrArg (fun l => pm_look l 4) cq_110).trans rfl⟩
theorem lk_110_5 : Lk 110 5 (.aload_n 0) 0 0 (0) := ⟨1, 0, (congrArg (fun l => pm_look l 5) cq_110).trans rfl⟩
theorem lk_110_6 : Lk 110 6 (.getfield 14) 9 0 (2) := ⟨3, 461, (congrArg (fun l => pm_look l 6) cq_110).trans rfl⟩
theorem lk_110_9 : Lk 110 9 (.getfield 47) 4 3 (0) := ⟨3, 211, (congrArg (fun l => pm_look l 9) cq_110).trans rfl⟩
theorem lk_110_12 : Lk 110 12 (.if_icmp .ge 32) 0 0 (0) := ⟨3, 0, (congrArg (fun l => pm_look l 12) cq_110).trans rfl⟩
theorem lk_110_15 : Lk 110 15 (.aload_n 0) 0 0 (0) := ⟨1, 0, (congrArg (fun l => pm_look l 15) cq_110).trans rfl⟩
theorem lk_110_16 : Lk 110 16 (.iload_n 2) 0 0 (0) := ⟨1, 0, (congrArg (fun l => pm_look l 16) cq_110).trans rfl⟩
theorem lk_110_17 : Lk 110 17 (.invokevirtual 95) 102 0 (0) := ⟨3, 1176, (congrArg (fun l => pm_look l 17) cq_110).trans rfl⟩
theorem lk_110_20 : Lk 110 20 (.ifCond .eq 16) 0 0 (0) := ⟨3, 0, (congrArg (fun l => pm_look l 20) cq_110).trans rfl⟩
theorem lk_110_23 : Lk 110 23 (.iload_n 1) 0 0 (0) := ⟨1, 0, (congrArg (fun l => pm_look l 23) cq_110).trans rfl⟩
theorem lk_110_24 : Lk 110 24 (.aload_n 0) 0 0 (0) := ⟨1, 0, (congrArg (fun l => pm_look l 24) cq_110).trans rfl⟩
theorem lk_110_25 : Lk 110 25 (.getfield 33) 9 5 (2) := ⟨3, 471, (congrArg (fun l => pm_look l 25) cq_110).trans rfl⟩
theorem lk_110_28 : Lk 110 28 (.iload_n 2) 0 0 (0) := ⟨1, 0, (congrArg (fun l => pm_look l 28) cq_110).trans rfl⟩
theorem lk_110_29 : Lk 110 29 (.iaload) 0 0 (0) := ⟨1, 0, (congrArg (fun l => pm_look l 29) cq_110).trans rfl⟩
theorem lk_110_30 : Lk 110 30 (.invokestatic 98) 1000 0 (0) := ⟨3, 1184, (congrArg (fun l => pm_look l 30) cq_110).trans rfl⟩
theorem lk_110_33 : Lk 110 33 (.goto 4) 0 0 (0) := ⟨3, 0, (congrArg (fun l => pm_look l 33) cq_110).trans rfl⟩
theorem lk_110_36 : Lk 110 36 (.iload_n 1) 0 0 (0) := ⟨1, 0, (congrArg (fun l => pm_look l 36) cq_110).trans rfl⟩
theorem lk_110_37 : Lk 110 37 (.istore_n 1) 0 0 (0) := ⟨1, 0, (congrArg (fun l => pm_look l 37) cq_110).trans rfl⟩
theorem lk_110_38 : Lk 110 38 (.iinc 2 1) 0 0 (0) := ⟨3, 0, (congrArg (fun l => pm_look l 38) cq_110).trans rfl⟩
theorem lk_110_41 : Lk 110 41 (.goto (-37)) 0 0 (0) := ⟨3, 0, (congrArg (fun l => pm_look l 41) cq_110).trans rfl⟩
theorem lk_110_44 : Lk 110 44 (.iload_n 1) 0 0 (0) := ⟨1, 0, (congrArg (fun l => pm_look l 44) cq_110).trans rfl⟩
theorem lk_110_45 : Lk 110 45 (.ireturn) 0 0 (0) := ⟨1, 0, (congrArg (fun l => pm_look l 45) cq_110).trans rfl⟩
theorem cq_111 : pm_code 111 = cd_111 := rfl
theorem lk_111_0 : Lk 111 0 (.iconst 0) 0 0 (0) := ⟨1, 0, (congrArg (fun l => pm_look l 0) cq_111).trans rfl⟩
theorem lk_111_1 : Lk 111 1 (.istore_n 2) 0 0 (0) := ⟨1, 0, (congrArg (fun l => pm_look l 1) cq_111).trans rfl⟩
theorem lk_111_2 : Lk 111 2 (.iconst 0) 0 0 (0) := ⟨1, 0, (congrArg (fun l => pm_look l 2) cq_111).trans rfl⟩
theorem lk_111_3 : Lk 111 3 (.istore_n 3) 0 0 (0) := ⟨1, 0, (congrArg (fun l => pm_look l 3) cq_111).trans rfl⟩
theorem lk_111_4 : Lk 111 4 (.iload_n 3) 0 0 (0) := ⟨1, 0, (congrArg (fun l => pm_look l 4) cq_111).trans rfl⟩
theorem lk_111_5 : Lk 111 5 (.aload_n 0) 0 0 (0) := ⟨1, 0, (congrArg (fun l => pm_look l 5) cq_111).trans rfl⟩
theorem lk_111_6 : Lk 111 6 (.getfield 14) 9 0 (2) := ⟨3, 461, (congrArg (fun l => pm_look l 6) cq_111).trans rfl⟩
theorem lk_111_9 : Lk 111 9 (.getfield 47) 4 3 (0) := ⟨3, 211, (congrArg (fun l => pm_look l 9) cq_111).trans rfl⟩
theorem lk_111_12 : Lk 111 12 (.if_icmp .ge 43) 0 0 (0) := ⟨3, 0, (congrArg (fun l => pm_look l 12) cq_111).trans rfl⟩
theorem lk_111_15 : Lk 111 15 (.aload_n 0) 0 0 (0) := ⟨1, 0, (congrArg (fun l => pm_look l 15) cq_111).trans rfl⟩
theorem lk_111_16 : Lk 111 16 (.iload_n 3) 0 0 (0) := ⟨1, 0, (congrArg (fun l => pm_look l 16) cq_111).trans rfl⟩
theorem lk_111_17 : Lk 111 17 (.invokevirtual 95) 102 0 (0) := ⟨3, 1176, (congrArg (fun l => pm_look l 17) cq_111).trans rfl⟩
theorem lk_111_20 : Lk 111 20 (.ifCond .eq 29) 0 0 (0) := ⟨3, 0, (congrArg (fun l => pm_look l 20) cq_111).trans rfl⟩
theorem lk_111_23 : Lk 111 23 (.iload_n 2) 0 0 (0) := ⟨1, 0, (congrArg (fun l => pm_look l 23) cq_111).trans rfl⟩
theorem lk_111_24 : Lk 111 24 (.aload_n 0) 0 0 (0) := ⟨1, 0, (congrArg (fun l => pm_look l 24) cq_111).trans rfl⟩
theorem lk_111_25 : Lk 111 25 (.getfield 30) 9 4 (2) := ⟨3, 469, (congrArg (fun l => pm_look l 25) cq_111).trans rfl⟩
theorem lk_111_28 : Lk 111 28 (.iload_n 3) 0 0 (0) := ⟨1, 0, (congrArg (fun l => pm_look l 28) cq_111).trans rfl⟩
theorem lk_111_29 : Lk 111 29 (.iaload) 0 0 (0) := ⟨1, 0, (congrArg (fun l => pm_look l 29) cq_111).trans rfl⟩
theorem lk_111_30 : Lk 111 30 (.aload_n 1) 0 0 (0) := ⟨1, 0, (congrArg (fun l => pm_look l 30) cq_111).trans rfl⟩
theorem lk_111_31 : Lk 111 31 (.aload_n 0) 0 0 (0) := ⟨1, 0, (congrArg (fun l => pm_look l 31) cq_111).trans rfl⟩
theorem lk_111_32 : Lk 111 32 (.getfield 20) 9 1 (2) := ⟨3, 463, (congrArg (fun l => pm_look l 32) cq_111).trans rfl⟩
theorem lk_111_35 : Lk 111 35 (.iload_n 3) 0 0 (0) := ⟨1, 0, (congrArg (fun l => pm_look l 35) cq_111).trans rfl⟩
theorem lk_111_36 : Lk 111 36 (.iaload) 0 0 (0) := ⟨1, 0, (congrArg (fun l => pm_look l 36) cq_111).trans rfl⟩
theorem lk_111_37 : Lk 111 37 (.aload_n 0) 0 0 (0) := ⟨1, 0, (congrArg (fun l => pm_look l 37) cq_111).trans rfl⟩
theorem lk_111_38 : Lk 111 38 (.getfield 24) 9 2 (2) := ⟨3, 465, (congrArg (fun l => pm_look l 38) cq_111).trans rfl⟩
theorem lk_111_41 : Lk 111 41 (.iload_n 3) 0 0 (0) := ⟨1, 0, (congrArg (fun l => pm_look l 41) cq_111).trans rfl⟩
theorem lk_111_42 : Lk 111 42 (.iaload) 0 0 (0) := ⟨1, 0, (congrArg (fun l => pm_look l 42) cq_111).trans rfl⟩
theorem lk_111_43 : Lk 111 43 (.invokevirtual 103) 89 0 (0) := ⟨3, 1189, (congrArg (fun l => pm_look l 43) cq_111).trans rfl⟩
theorem lk_111_46 : Lk 111 46 (.imul) 0 0 (0) := ⟨1, 0, (congrArg (fun l => pm_look l 46) cq_111).trans rfl⟩
theorem lk_111_47 : Lk 111 47 (.iadd) 0 0 (0) := ⟨1, 0, (congrArg (fun l => pm_look l 47) cq_111).trans rfl⟩
theorem lk_111_48 : Lk 111 48 (.istore_n 2) 0 0 (0) := ⟨1, 0, (congrArg (fun l => pm_look l 48) cq_111).trans rfl⟩
theorem lk_111_49 : Lk 111 49 (.iinc 3 1) 0 0 (0) := ⟨3, 0, (congrArg (fun l => pm_look l 49) cq_111).trans rfl⟩
theorem lk_111_52 : Lk 111 52 (.goto (-48)) 0 0 (0) := ⟨3, 0, (congrArg (fun l => pm_look l 52) cq_111).trans rfl⟩
theorem lk_111_55 : Lk 111 55 (.iload_n 2) 0 0 (0) := ⟨1, 0, (congrArg (fun l => pm_look l 55) cq_111).trans rfl⟩
theorem lk_111_56 : Lk 111 56 (.ireturn) 0 0 (0) := ⟨1, 0, (congrArg (fun l => pm_look l 56) cq_111).trans rfl⟩
theorem cq_112 : pm_code 112 = cd_112 := rfl
theorem lk_112_0 : Lk 112 0 (.iconst 0) 0 0 (0) := ⟨1, 0, (congrArg (fun l => pm_look l 0) cq_112).trans rfl⟩
theorem lk_112_1 : Lk 112 1 (.istore_n 3) 0 0 (0) := ⟨1, 0, (congrArg (fun l => pm_look l 1) cq_112).trans rfl⟩
theorem lk_112_2 : Lk 112 2 (.iconst 0) 0 0 (0) := ⟨1, 0, (congrArg (fun l => pm_look l 2) cq_112).trans rfl⟩
theorem lk_112_3 : Lk 112 3 (.istore 4) 0 0 (0) := ⟨2, 0, (congrArg (fun l => pm_look l 3) cq_112).trans rfl⟩
theorem lk_112_5 : Lk 112 5 (.iload 4) 0 0 (0) := ⟨2, 0, (congrArg (fun l => pm_look l 5) cq_112).trans rfl⟩
theorem lk_112_7 : Lk 112 7 (.aload_n 0) 0 0 (0) := ⟨1, 0, (congrArg (fun l => pm_look l 7) cq_112).trans rfl⟩
theorem lk_112_8 : Lk 112 8 (.getfield 14) 9 0 (2) := ⟨3, 461, (congrArg (fun l => pm_look l 8) cq_112).trans rfl⟩
theorem lk_112_11 : Lk 112 11 (.getfield 47) 4 3 (0) := ⟨3, 211, (congrArg (fun l => pm_look l 11) cq_112).trans rfl⟩
theorem lk_112_14 : Lk 112 14 (.if_icmp .ge 60) 0 0 (0) := ⟨3, 0, (congrArg (fun l => pm_look l 14) cq_112).trans rfl⟩
theorem lk_112_17 : Lk 112 17 (.aload_n 0) 0 0 (0) := ⟨1, 0, (congrArg (fun l => pm_look l 17) cq_112).trans rfl⟩
theorem lk_112_18 : Lk 112 18 (.iload 4) 0 0 (0) := ⟨2, 0, (congrArg (fun l => pm_look l 18) cq_112).trans rfl⟩
theorem lk_112_20 : Lk 112 20 (.invokevirtual 95) 102 0 (0) := ⟨3, 1176, (congrArg (fun l => pm_look l 20) cq_112).trans rfl⟩
theorem lk_112_23 : Lk 112 23 (.ifCond .eq 45) 0 0 (0) := ⟨3, 0, (congrArg (fun l => pm_look l 23) cq_112).trans rfl⟩
theorem lk_112_26 : Lk 112 26 (.aload_n 0) 0 0 (0) := ⟨1, 0, (congrArg (fun l => pm_look l 26) cq_112).trans rfl⟩
theorem lk_112_27 : Lk 112 27 (.getfield 27) 9 3 (2) := ⟨3, 467, (congrArg (fun l => pm_look l 27) cq_112).trans rfl⟩
theorem lk_112_30 : Lk 112 30 (.iload 4) 0 0 (0) := ⟨2, 0, (congrArg (fun l => pm_look l 30) cq_112).trans rfl⟩
theorem lk_112_32 : Lk 112 32 (.iaload) 0 0 (0) := ⟨1, 0, (congrArg (fun l => pm_look l 32) cq_112).trans rfl⟩
theorem lk_112_33 : Lk 112 33 (.iload_n 2) 0 0 (0) := ⟨1, 0, (congrArg (fun l => pm_look l 33) cq_112).trans rfl⟩
theorem lk_112_34 : Lk 112 34 (.if_icmp .ge 34) 0 0 (0) := ⟨3, 0, (congrArg (fun l => pm_look l 34) cq_112).trans rfl⟩
theorem lk_112_37 : Lk 112 37 (.iload_n 3) 0 0 (0) := ⟨1, 0, (congrArg (fun l => pm_look l 37) cq_112).trans rfl⟩
theorem lk_112_38 : Lk 112 38 (.aload_n 1) 0 0 (0) := ⟨1, 0, (congrArg (fun l => pm_look l 38) cq_112).trans rfl⟩
theorem lk_112_39 : Lk 112 39 (.aload_n 0) 0 0 (0) := ⟨1, 0, (congrArg (fun l => pm_look l 39) cq_112).trans rfl⟩
theorem lk_112_40 : Lk 112 40 (.getfield 20) 9 1 (2) := ⟨3, 463, (congrArg (fun l => pm_look l 40) cq_112).trans rfl⟩
theorem lk_112_43 : Lk 112 43 (.iload 4) 0 0 (0) := ⟨2, 0, (congrArg (fun l => pm_look l 43) cq_112).trans rfl⟩
theorem lk_112_45 : Lk 112 45 (.iaload) 0 0 (0) := ⟨1, 0, (congrArg (fun l => pm_look l 45) cq_112).trans rfl⟩
theorem lk_112_46 : Lk 112 46 (.aload_n 0) 0 0 (0) := ⟨1, 0, (congrArg (fun l => pm_look l 46) cq_112).trans rfl⟩
theorem lk_112_47 : Lk 112 47 (.getfield 24) 9 2 (2) := ⟨3, 465, (congrArg (fun l => pm_look l 47) cq_112).trans rfl⟩
theorem lk_112_50 : Lk 112 50 (.iload 4) 0 0 (0) := ⟨2, 0, (congrArg (fun l => pm_look l 50) cq_112).trans rfl⟩
theorem lk_112_52 : Lk 112 52 (.iaload) 0 0 (0) := ⟨1, 0, (congrArg (fun l => pm_look l 52) cq_112).trans rfl⟩
theorem lk_112_53 : Lk 112 53 (.aload_n 0) 0 0 (0) := ⟨1, 0, (congrArg (fun l => pm_look l 53) cq_112).trans rfl⟩
theorem lk_112_54 : Lk 112 54 (.getfield 14) 9 0 (2) := ⟨3, 461, (congrArg (fun l => pm_look l 54) cq_112).trans rfl⟩
theorem lk_112_57 : Lk 112 57 (.getfield 63) 4 1 (2) := ⟨3, 205, (congrArg (fun l => pm_look l 57) cq_112).trans rfl⟩
theorem lk_112_60 : Lk 112 60 (.iload 4) 0 0 (0) := ⟨2, 0, (congrArg (fun l => pm_look l 60) cq_112).trans rfl⟩
theorem lk_112_62 : Lk 112 62 (.iaload) 0 0 (0) := ⟨1, 0, (congrArg (fun l => pm_look l 62) cq_112).trans rfl⟩
theorem lk_112_63 : Lk 112 63 (.invokevirtual 106) 90 0 (0) := ⟨3, 1194, (congrArg (fun l => pm_look l 63) cq_112).trans rfl⟩
theorem lk_112_66 : Lk 112 66 (.iadd) 0 0 (0) := ⟨1, 0, (congrArg (fun l => pm_look l 66) cq_112).trans rfl⟩
theorem lk_112_67 : Lk 112 67 (.istore_n 3) 0 0 (0) := ⟨1, 0, (congrArg (fun l => pm_look l 67) cq_112).trans rfl⟩
theorem lk_112_68 : Lk 112 68 (.iinc 4 1) 0 0 (0) := ⟨3, 0, (congrArg (fun l => pm_look l 68) cq_112).trans rfl⟩
theorem lk_112_71 : Lk 112 71 (.goto (-66)) 0 0 (0) := ⟨3, 0, (congrArg (fun l => pm_look l 71) cq_112).trans rfl⟩
theorem lk_112_74 : Lk 112 74 (.iload_n 3) 0 0 (0) := ⟨1, 0, (congrArg (fun l => pm_look l 74) cq_112).trans rfl⟩
theorem lk_112_75 : Lk 112 75 (.ireturn) 0 0 (0) := ⟨1, 0, (congrArg (fun l => pm_look l 75) cq_112).trans rfl⟩
theorem cq_113 : pm_code 113 = cd_113 := rfl
theorem lk_113_0 : Lk 113 0 (.iconst 0) 0 0 (0) := ⟨1, 0, (congrArg (fun l => pm_look l 0) cq_113).trans rfl⟩
theorem lk_113_1 : Lk 113 1 (.istore_n 3) 0 0 (0) := ⟨1, 0, (congrArg (fun l => pm_look l 1) cq_113).trans rfl⟩
theorem lk_113_2 : Lk 113 2 (.iconst 0) 0 0 (0) := ⟨1, 0, (congrArg (fun l => pm_look l 2) cq_113).trans rfl⟩
theorem lk_113_3 : Lk 113 3 (.istore 4) 0 0 (0) := ⟨2, 0, (congrArg (fun l => pm_look l 3) cq_113).trans rfl⟩
theorem lk_113_5 : Lk 113 5 (.iload 4) 0 0 (0) := ⟨2, 0, (congrArg (fun l => pm_look l 5) cq_113).trans rfl⟩
theorem lk_113_7 : Lk 113 7 (.aload_n 0) 0 0 (0) := ⟨1, 0, (congrArg (fun l => pm_look l 7) cq_113).trans rfl⟩
theorem lk_113_8 : Lk 113 8 (.getfield 14) 9 0 (2) := ⟨3, 461, (congrArg (fun l => pm_look l 8) cq_113).trans rfl⟩
theorem lk_113_11 : Lk 113 11 (.getfield 47) 4 3 (0) := ⟨3, 211, (congrArg (fun l => pm_look l 11) cq_113).trans rfl⟩
theorem lk_113_14 : Lk 113 14 (.if_icmp .ge 95) 0 0 (0) := ⟨3, 0, (congrArg (fun l => pm_look l 14) cq_113).trans rfl⟩
theorem lk_113_17 : Lk 113 17 (.aload_n 0) 0 0 (0) := ⟨1, 0, (congrArg (fun l => pm_look l 17) cq_113).trans rfl⟩
theorem lk_113_18 : Lk 113 18 (.iload 4) 0 0 (0) := ⟨2, 0, (congrArg (fun l => pm_look l 18) cq_113).trans rfl⟩
theorem lk_113_20 : Lk 113 20 (.invokevirtual 79) 101 0 (0) := ⟨3, 1180, (congrArg (fun l => pm_look l 20) cq_113).trans rfl⟩
theorem lk_113_23 : Lk 113 23 (.ifCond .ne 48) 0 0 (0) := ⟨3, 0, (congrArg (fun l => pm_look l 23) cq_113).trans rfl⟩
theorem lk_113_26 : Lk 113 26 (.aload_n 0) 0 0 (0) := ⟨1, 0, (congrArg (fun l => pm_look l 26) cq_113).trans rfl⟩
theorem lk_113_27 : Lk 113 27 (.getfield 27) 9 3 (2) := ⟨3, 467, (congrArg (fun l => pm_look l 27) cq_113).trans rfl⟩
theorem lk_113_30 : Lk 113 30 (.iload 4) 0 0 (0) := ⟨2, 0, (congrArg (fun l => pm_look l 30) cq_113).trans rfl⟩
theorem lk_113_32 : Lk 113 32 (.iaload) 0 0 (0) := ⟨1, 0, (congrArg (fun l => pm_look l 32) cq_113).trans rfl⟩
theorem lk_113_33 : Lk 113 33 (.iload_n 1) 0 0 (0) := ⟨1, 0, (congrArg (fun l => pm_look l 33) cq_113).trans rfl⟩
theorem lk_113_34 : Lk 113 34 (.if_icmp .ne 37) 0 0 (0) := ⟨3, 0, (congrArg (fun l => pm_look l 34) cq_113).trans rfl⟩
theorem lk_113_37 : Lk 113 37 (.iload_n 3) 0 0 (0) := ⟨1, 0, (congrArg (fun l => pm_look l 37) cq_113).trans rfl⟩
theorem lk_113_38 : Lk 113 38 (.aload_n 0) 0 0 (0) := ⟨1, 0, (congrArg (fun l => pm_look l 38) cq_113).trans rfl⟩
theorem lk_113_39 : Lk 113 39 (.getfield 30) 9 4 (2) := ⟨3, 469, (congrArg (fun l => pm_look l 39) cq_113).trans rfl⟩
theorem lk_113_42 : Lk 113 42 (.iload 4) 0 0 (0) := ⟨2, 0, (congrArg (fun l => pm_look l 42) cq_113).trans rfl⟩
theorem lk_113_44 : Lk 113 44 (.iaload) 0 0 (0) := ⟨1, 0, (congrArg (fun l => pm_look l 44) cq_113).trans rfl⟩
theorem lk_113_45 : Lk 113 45 (.aload_n 2) 0 0 (0) := ⟨1, 0, (congrArg (fun l => pm_look l 45) cq_113).trans rfl⟩
theorem lk_113_46 : Lk 113 46 (.aload_n 0) 0 0 (0) := ⟨1, 0, (congrArg (fun l => pm_look l 46) cq_113).trans rfl⟩
theorem lk_113_47 : Lk 113 47 (.getfield 20) 9 1 (2) := ⟨3, 463, (congrArg (fun l => pm_look l 47) cq_113).trans rfl⟩
theorem lk_113_50 : Lk 113 50 (.iload 4) 0 0 (0) := ⟨2, 0, (congrArg (fun l => pm_look l 50) cq_113).trans rfl⟩
theorem lk_113_52 : Lk 113 52 (.iaload) 0 0 (0) := ⟨1, 0, (congrArg (fun l => pm_look l 52) cq_113).trans rfl⟩
theorem lk_113_53 : Lk 113 53 (.aload_n 0) 0 0 (0) := ⟨1, 0, (congrArg (fun l => pm_look l 53) cq_113).trans rfl⟩
theorem lk_113_54 : Lk 113 54 (.getfield 24) 9 2 (2) := ⟨3, 465, (congrArg (fun l => pm_look l 54) cq_113).trans rfl⟩
theorem lk_113_57 : Lk 113 57 (.iload 4) 0 0 (0) := ⟨2, 0, (congrArg (fun l => pm_look l 57) cq_113).trans rfl⟩
theorem lk_113_59 : Lk 113 59 (.iaload) 0 0 (0) := ⟨1, 0, (congrArg (fun l => pm_look l 59) cq_113).trans rfl⟩
theorem lk_113_60 : Lk 113 60 (.invokevirtual 109) 11 0 (0) := ⟨3, 1216, (congrArg (fun l => pm_look l 60) cq_113).trans rfl⟩
theorem lk_113_63 : Lk 113 63 (.iadd) 0 0 (0) := ⟨1, 0, (congrArg (fun l => pm_look l 63) cq_113).trans rfl⟩
theorem lk_113_64 : Lk 113 64 (.invokestatic 98) 1000 0 (0) := ⟨3, 1184, (congrArg (fun l => pm_look l 64) cq_113).trans rfl⟩
theorem lk_113_67 : Lk 113 67 (.istore_n 3) 0 0 (0) := ⟨1, 0, (congrArg (fun l => pm_look l 67) cq_113).trans rfl⟩
theorem lk_113_68 : Lk 113 68 (.goto 35) 0 0 (0) := ⟨3, 0, (congrArg (fun l => pm_look l 68) cq_113).trans rfl⟩
theorem lk_113_71 : Lk 113 71 (.aload_n 0) 0 0 (0) := ⟨1, 0, (congrArg (fun l => pm_look l 71) cq_113).trans rfl⟩
theorem lk_113_72 : Lk 113 72 (.iload 4) 0 0 (0) := ⟨2, 0, (congrArg (fun l => pm_look l 72) cq_113).trans rfl⟩
theorem lk_113_74 : Lk 113 74 (.invokevirtual 95) 102 0 (0) := ⟨3, 1176, (congrArg (fun l => pm_look l 74) cq_113).trans rfl⟩
theorem lk_113_77 : Lk 113 77 (.ifCond .eq 26) 0 0 (0) := ⟨3, 0, (congrArg (fun l => pm_look l 77) cq_113).trans rfl⟩
theorem lk_113_80 : Lk 113 80 (.aload_n 0) 0 0 (0) := ⟨1, 0, (congrArg (fun l => pm_look l 80) cq_113).trans rfl⟩
theorem lk_113_81 : Lk 113 81 (.getfield 27) 9 3 (2) := ⟨3, 467, (congrArg (fun l => pm_look l 81) cq_113).trans rfl⟩
theorem lk_113_84 : Lk 113 84 (.iload 4) 0 0 (0) := ⟨2, 0, (congrArg (fun l => pm_look l 84) cq_113).trans rfl⟩
theorem lk_113_86 : Lk 113 86 (.iaload) 0 0 (0) := ⟨1, 0, (congrArg (fun l => pm_look l 86) cq_113).trans rfl⟩
theorem lk_113_87 : Lk 113 87 (.iload_n 1) 0 0 (0) := ⟨1, 0, (congrArg (fun l => pm_look l 87) cq_113).trans rfl⟩
theorem lk_113_88 : Lk 113 88 (.if_icmp .ge 15) 0 0 (0) := ⟨3, 0, (congrArg (fun l => pm_look l 88) cq_113).trans rfl⟩
theorem lk_113_91 : Lk 113 91 (.iload_n 3) 0 0 (0) := ⟨1, 0, (congrArg (fun l => pm_look l 91) cq_113).trans rfl⟩
theorem lk_113_92 : Lk 113 92 (.aload_n 0) 0 0 (0) := ⟨1, 0, (congrArg (fun l => pm_look l 92) cq_113).trans rfl⟩
theorem lk_113_93 : Lk 113 93 (.getfield 30) 9 4 (2) := ⟨3, 469, (congrArg (fun l => pm_look l 93) cq_113).trans rfl⟩
theorem lk_113_96 : Lk 113 96 (.iload 4) 0 0 (0) := ⟨2, 0, (congrArg (fun l => pm_look l 96) cq_113).trans rfl⟩
theorem lk_113_98 : Lk 113 98 (.iaload) 0 0 (0) := ⟨1, 0, (congrArg (fun l => pm_look l 98) cq_113).trans rfl⟩
theorem lk_113_99 : Lk 113 99 (.invokestatic 98) 1000 0 (0) := ⟨3, 1184, (congrArg (fun l => pm_look l 99) cq_113).trans rfl⟩
theorem lk_113_102 : Lk 113 102 (.istore_n 3) 0 0 (0) := ⟨1, 0, (congrArg (fun l => pm_look l 102) cq_113).trans rfl⟩
theorem lk_113_103 : Lk 113 103 (.iinc 4 1) 0 0 (0) := ⟨3, 0, (congrArg (fun l => pm_look l 103) cq_113).trans rfl⟩
theorem lk_113_106 : Lk 113 106 (.goto (-101)) 0 0 (0) := ⟨3, 0, (congrArg (fun l => pm_look l 106) cq_113).trans rfl⟩
theorem lk_113_109 : Lk 113 109 (.iload_n 3) 0 0 (0) := ⟨1, 0, (congrArg (fun l => pm_look l 109) cq_113).trans rfl⟩
theorem lk_113_110 : Lk 113 110 (.ireturn) 0 0 (0) := ⟨1, 0, (congrArg (fun l => pm_look l 110) cq_113).trans rfl⟩
theorem cq_114 : pm_code 114 = cd_114 := rfl
theorem lk_114_0 : Lk 114 0 (.aload_n 0) 0 0 (0) := ⟨1, 0, (congrArg (fun l => pm_look l 0) cq_114).trans rfl⟩
theorem lk_114_1 : Lk 114 1 (.invokespecial 3) 999 0 (0) := ⟨3, 404, (congrArg (fun l => pm_look l 1) cq_114).trans rfl⟩
theorem lk_114_4 : Lk 114 4 (.aload_n 0) 0 0 (0) := ⟨1, 0, (congrArg (fun l => pm_look l 4) cq_114).trans rfl⟩
theorem lk_114_5 : Lk 114 5 (.bipush 6) 0 0 (0) := ⟨2, 0, (congrArg (fun l => pm_look l 5) cq_114).trans rfl⟩
theorem lk_114_7 : Lk 114 7 (.newarray .int) 100 0 (0) := ⟨2, 0, (congrArg (fun l => pm_look l 7) cq_114).trans rfl⟩
theorem lk_114_9 : Lk 114 9 (.putfield 9) 10 2 (2) := ⟨3, 407, (congrArg (fun l => pm_look l 9) cq_114).trans rfl⟩
theorem lk_114_12 : Lk 114 12 (.aload_n 0) 0 0 (0) := ⟨1, 0, (congrArg (fun l => pm_look l 12) cq_114).trans rfl⟩
theorem lk_114_13 : Lk 114 13 (.iconst 0) 0 0 (0) := ⟨1, 0, (congrArg (fun l => pm_look l 13) cq_114).trans rfl⟩
theorem lk_114_14 : Lk 114 14 (.newarray .int) 100 0 (0) := ⟨2, 0, (congrArg (fun l => pm_look l 14) cq_114).trans rfl⟩
theorem lk_114_16 : Lk 114 16 (.putfield 15) 10 3 (2) := ⟨3, 408, (congrArg (fun l => pm_look l 16) cq_114).trans rfl⟩
theorem lk_114_19 : Lk 114 19 (.aload_n 0) 0 0 (0) := ⟨1, 0, (congrArg (fun l => pm_look l 19) cq_114).trans rfl⟩
theorem lk_114_20 : Lk 114 20 (.iconst 0) 0 0 (0) := ⟨1, 0, (congrArg (fun l => pm_look l 20) cq_114).trans rfl⟩
theorem lk_114_21 : Lk 114 21 (.newarray .int) 100 0 (0) := ⟨2, 0, (congrArg (fun l => pm_look l 21) cq_114).trans rfl⟩
theorem lk_114_23 : Lk 114 23 (.putfield 18) 10 4 (2) := ⟨3, 409, (congrArg (fun l => pm_look l 23) cq_114).trans rfl⟩
theorem lk_114_26 : Lk 114 26 (.aload_n 0) 0 0 (0) := ⟨1, 0, (congrArg (fun l => pm_look l 26) cq_114).trans rfl⟩
theorem lk_114_27 : Lk 114 27 (.aload_n 1) 0 0 (0) := ⟨1, 0, (congrArg (fun l => pm_look l 27) cq_114).trans rfl⟩
theorem lk_114_28 : Lk 114 28 (.putfield 21) 10 0 (2) := ⟨3, 405, (congrArg (fun l => pm_look l 28) cq_114).trans rfl⟩
theorem lk_114_31 : Lk 114 31 (.aload_n 0) 0 0 (0) := ⟨1, 0, (congrArg (fun l => pm_look l 31) cq_114).trans rfl⟩
theorem lk_114_32 : Lk 114 32 (.aload_n 1) 0 0 (0) := ⟨1, 0, (congrArg (fun l => pm_look l 32) cq_114).trans rfl⟩
theorem lk_114_33 : Lk 114 33 (.getfield 25) 0 0 (2) := ⟨3, 382, (congrArg (fun l => pm_look l 33) cq_114).trans rfl⟩
theorem lk_114_36 : Lk 114 36 (.putfield 31) 10 1 (2) := ⟨3, 406, (congrArg (fun l => pm_look l 36) cq_114).trans rfl⟩
theorem lk_114_39 : Lk 114 39 (.return_) 0 0 (0) := ⟨1, 0, (congrArg (fun l => pm_look l 39) cq_114).trans rfl⟩
theorem cq_115 : pm_code 115 = cd_115 := rfl
theorem lk_115_0 : Lk 115 0 (.aload_n 0) 0 0 (0) := ⟨1, 0, (congrArg (fun l => pm_look l 0) cq_115).trans rfl⟩
theorem lk_115_1 : Lk 115 1 (.getfield 32) 10 5 (0) := ⟨3, 410, (congrArg (fun l => pm_look l 1) cq_115).trans rfl⟩
theorem lk_115_4 : Lk 115 4 (.ifCond .ne 7) 0 0 (0) := ⟨3, 0, (congrArg (fun l => pm_look l 4) cq_115).trans rfl⟩
theorem lk_115_7 : Lk 115 7 (.aload_n 0) 0 0 (0) := ⟨1, 0, (congrArg (fun l => pm_look l 7) cq_115).trans rfl⟩
theorem lk_115_8 : Lk 115 8 (.invokevirtual 36) 116 0 (0) := ⟨3, 1016, (congrArg (fun l => pm_look l 8) cq_115).trans rfl⟩
theorem lk_115_11 : Lk 115 11 (.aload_n 0) 0 0 (0) := ⟨1, 0, (congrArg (fun l => pm_look l 11) cq_115).trans rfl⟩
theorem lk_115_12 : Lk 115 12 (.getfield 21) 10 0 (2) := ⟨3, 405, (congrArg (fun l => pm_look l 12) cq_115).trans rfl⟩
theorem lk_115_15 : Lk 115 15 (.aload_n 0) 0 0 (0) := ⟨1, 0, (congrArg (fun l => pm_look l 15) cq_115).trans rfl⟩
theorem lk_115_16 : Lk 115 16 (.getfield 31) 10 1 (2) := ⟨3, 406, (congrArg (fun l => pm_look l 16) cq_115).trans rfl⟩
theorem lk_115_19 : Lk 115 19 (.invokevirtual 39) 86 0 (0) := ⟨3, 1022, (congrArg (fun l => pm_look l 19) cq_115).trans rfl⟩
theorem lk_115_22 : Lk 115 22 (.aload_n 0) 0 0 (0) := ⟨1, 0, (congrArg (fun l => pm_look l 22) cq_115).trans rfl⟩
theorem lk_115_23 : Lk 115 23 (.getfield 31) 10 1 (2) := ⟨3, 406, (congrArg (fun l => pm_look l 23) cq_115).trans rfl⟩
theorem lk_115_26 : Lk 115 26 (.invokevirtual 45) 87 0 (0) := ⟨3, 1023, (congrArg (fun l => pm_look l 26) cq_115).trans rfl⟩
theorem lk_115_29 : Lk 115 29 (.invokevirtual 48) 2 0 (0) := ⟨3, 1024, (congrArg (fun l => pm_look l 29) cq_115).trans rfl⟩
theorem lk_115_32 : Lk 115 32 (.istore_n 2) 0 0 (0) := ⟨1, 0, (congrArg (fun l => pm_look l 32) cq_115).trans rfl⟩
theorem lk_115_33 : Lk 115 33 (.aload_n 0) 0 0 (0) := ⟨1, 0, (congrArg (fun l => pm_look l 33) cq_115).trans rfl⟩
theorem lk_115_34 : Lk 115 34 (.getfield 32) 10 5 (0) := ⟨3, 410, (congrArg (fun l => pm_look l 34) cq_115).trans rfl⟩
theorem lk_115_37 : Lk 115 37 (.iload_n 1) 0 0 (0) := ⟨1, 0, (congrArg (fun l => pm_look l 37) cq_115).trans rfl⟩
theorem lk_115_38 : Lk 115 38 (.if_icmp .gt 76) 0 0 (0) := ⟨3, 0, (congrArg (fun l => pm_look l 38) cq_115).trans rfl⟩
theorem lk_115_41 : Lk 115 41 (.aload_n 0) 0 0 (0) := ⟨1, 0, (congrArg (fun l => pm_look l 41) cq_115).trans rfl⟩
theorem lk_115_42 : Lk 115 42 (.getfield 32) 10 5 (0) := ⟨3, 410, (congrArg (fun l => pm_look l 42) cq_115).trans rfl⟩
theorem lk_115_45 : Lk 115 45 (.bipush 6) 0 0 (0) := ⟨2, 0, (congrArg (fun l => pm_look l 45) cq_115).trans rfl⟩
theorem lk_115_47 : Lk 115 47 (.if_icmp .ge 67) 0 0 (0) := ⟨3, 0, (congrArg (fun l => pm_look l 47) cq_115).trans rfl⟩
theorem lk_115_50 : Lk 115 50 (.aload_n 0) 0 0 (0) := ⟨1, 0, (congrArg (fun l => pm_look l 50) cq_115).trans rfl⟩
theorem lk_115_51 : Lk 115 51 (.aload_n 0) 0 0 (0) := ⟨1, 0, (congrArg (fun l => pm_look l 51) cq_115).trans rfl⟩
theorem lk_115_52 : Lk 115 52 (.getfield 52) 10 6 (0) := ⟨3, 412, (congrArg (fun l => pm_look l 52) cq_115).trans rfl⟩
theorem lk_115_55 : Lk 115 55 (.ifCond .eq 18) 0 0 (0) := ⟨3, 0, (congrArg (fun l => pm_look l 55) cq_115).trans rfl⟩
theorem lk_115_58 : Lk 115 58 (.aload_n 0) 0 0 (0) := ⟨1, 0, (congrArg (fun l => pm_look l 58) cq_115).trans rfl⟩
theorem lk_115_59 : Lk 115 59 (.aload_n 0) 0 0 (0) := ⟨1, 0, (congrArg (fun l => pm_look l 59) cq_115).trans rfl⟩
theorem lk_115_60 : Lk 115 60 (.getfield 32) 10 5 (0) := ⟨3, 410, (congrArg (fun l => pm_look l 60) cq_115).trans rfl⟩
theorem lk_115_63 : Lk 115 63 (.invokevirtual 56) 117 0 (0) := ⟨3, 1025, (congrArg (fun l => pm_look l 63) cq_115).trans rfl⟩
theorem lk_115_66 : Lk 115 66 (.ifCond .eq 7) 0 0 (0) := ⟨3, 0, (congrArg (fun l => pm_look l 66) cq_115).trans rfl⟩
theorem lk_115_69 : Lk 115 69 (.iconst 1) 0 0 (0) := ⟨1, 0, (congrArg (fun l => pm_look l 69) cq_115).trans rfl⟩
theorem lk_115_70 : Lk 115 70 (.goto 4) 0 0 (0) := ⟨3, 0, (congrArg (fun l => pm_look l 70) cq_115).trans rfl⟩
theorem lk_115_73 : Lk 115 73 (.iconst 0) 0 0 (0) := ⟨1, 0, (congrArg (fun l => pm_look l 73) cq_115).trans rfl⟩
theorem lk_115_74 : Lk 115 74 (.putfield 52) 10 6 (0) := ⟨3, 412, (congrArg (fun l => pm_look l 74) cq_115).trans rfl⟩
theorem lk_115_77 : Lk 115 77 (.aload_n 0) 0 0 (0) := ⟨1, 0, (congrArg (fun l => pm_look l 77) cq_115).trans rfl⟩
theorem lk_115_78 : Lk 115 78 (.getfield 9) 10 2 (2) := ⟨3, 407, (congrArg (fun l => pm_look l 78) cq_115).trans rfl⟩
theorem lk_115_81 : Lk 115 81 (.aload_n 0) 0 0 (0) := ⟨1, 0, (congrArg (fun l => pm_look l 81) cq_115).trans rfl⟩
theorem lk_115_82 : Lk 115 82 (.getfield 32) 10 5 (0) := ⟨3, 410, (congrArg (fun l => pm_look l 82) cq_115).trans rfl⟩
theorem lk_115_85 : Lk 115 85 (.aload_n 0) 0 0 (0) := ⟨1, 0, (congrArg (fun l => pm_look l 85) cq_115).trans rfl⟩
theorem lk_115_86 : Lk 115 86 (.getfield 15) 10 3 (2) := ⟨3, 408, (congrArg (fun l => pm_look l 86) cq_115).trans rfl⟩
theorem lk_115_89 : Lk 115 89 (.iload_n 2) 0 0 (0) := ⟨1, 0, (congrArg (fun l => pm_look l 89) cq_115).trans rfl⟩
theorem lk_115_90 : Lk 115 90 (.iaload) 0 0 (0) := ⟨1, 0, (congrArg (fun l => pm_look l 90) cq_115).trans rfl⟩
theorem lk_115_91 : Lk 115 91 (.aload_n 0) 0 0 (0) := ⟨1, 0, (congrArg (fun l => pm_look l 91) cq_115).trans rfl⟩
theorem lk_115_92 : Lk 115 92 (.getfield 18) 10 4 (2) := ⟨3, 409, (congrArg (fun l => pm_look l 92) cq_115).trans rfl⟩
theorem lk_115_95 : Lk 115 95 (.iload_n 2) 0 0 (0) := ⟨1, 0, (congrArg (fun l => pm_look l 95) cq_115).trans rfl⟩
theorem lk_115_96 : Lk 115 96 (.iaload) 0 0 (0) := ⟨1, 0, (congrArg (fun l => pm_look l 96) cq_115).trans rfl⟩
theorem lk_115_97 : Lk 115 97 (.invokestatic 60) 1001 0 (0) := ⟨3, 1032, (congrArg (fun l => pm_look l 97) cq_115).trans rfl⟩
theorem lk_115_100 : Lk 115 100 (.iastore) 0 0 (0) := ⟨1, 0, (congrArg (fun l => pm_look l 100) cq_115).trans rfl⟩
theorem lk_115_101 : Lk 115 101 (.aload_n 0) 0 0 (0) := ⟨1, 0, (congrArg (fun l => pm_look l 101) cq_115).trans rfl⟩
theorem lk_115_102 : Lk 115 102 (.dup) 0 0 (0) := ⟨1, 0, (congrArg (fun l => pm_look l 102) cq_115).trans rfl⟩
theorem lk_115_103 : Lk 115 103 (.getfield 32) 10 5 (0) := ⟨3, 410, (congrArg (fun l => pm_look l 103) cq_115).trans rfl⟩
theorem lk_115_106 : Lk 115 106 (.iconst 1) 0 0 (0) := ⟨1, 0, (congrArg (fun l => pm_look l 106) cq_115).trans rfl⟩
theorem lk_115_107 : Lk 115 107 (.iadd) 0 0 (0) := ⟨1, 0, (congrArg (fun l => pm_look l 107) cq_115).trans rfl⟩
theorem lk_115_108 : Lk 115 108 (.putfield 32) 10 5 (0) := ⟨3, 410, (congrArg (fun l => pm_look l 108) cq_115).trans rfl⟩
theorem lk_115_111 : Lk 115 111 (.goto (-78)) 0 0 (0) := ⟨3, 0, (congrArg (fun l => pm_look l 111) cq_115).trans rfl⟩
theorem lk_115_114 : Lk 115 114 (.iload_n 1) 0 0 (0) := ⟨1, 0, (congrArg (fun l => pm_look l 114) cq_115).trans rfl⟩
theorem lk_115_115 : Lk 115 115 (.ifCond .lt 29) 0 0 (0) := ⟨3, 0, (congrArg (fun l => pm_look l 115) cq_115).trans rfl⟩
theorem lk_115_118 : Lk 115 118 (.iload_n 1) 0 0 (0) := ⟨1, 0, (congrArg (fun l => pm_look l 118) cq_115).trans rfl⟩
theorem lk_115_119 : Lk 115 119 (.bipush 6) 0 0 (0) := ⟨2, 0, (congrArg (fun l => pm_look l 119) cq_115).trans rfl⟩
theorem lk_115_121 : Lk 115 121 (.if_icmp .ge 23) 0 0 (0) := ⟨3, 0, (congrArg (fun l => pm_look l 121) cq_115).trans rfl⟩
theorem lk_115_124 : Lk 115 124 (.aload_n 0) 0 0 (0) := ⟨1, 0, (congrArg (fun l => pm_look l 124) cq_115).trans rfl⟩
theorem lk_115_125 : Lk 115 125 (.getfield 9) 10 2 (2) := ⟨3, 407, (congrArg (fun l => pm_look l 125) cq_115).trans rfl⟩
theorem lk_115_128 : Lk 115 128 (.iload_n 1) 0 0 (0) := ⟨1, 0, (congrArg (fun l => pm_look l 128) cq_115).trans rfl⟩
theorem lk_115_129 : Lk 115 129 (.iaload) 0 0 (0) := ⟨1, 0, (congrArg (fun l => pm_look l 129) cq_115).trans rfl⟩
theorem lk_115_130 : Lk 115 130 (.ldc 65) 0 0 (1000000) := ⟨2, 1030, (congrArg (fun l => pm_look l 130) cq_115).trans rfl⟩
theorem lk_115_132 : Lk 115 132 (.if_icmp .ge 12) 0 0 (0) := ⟨3, 0, (congrArg (fun l => pm_look l 132) cq_115).trans rfl⟩
theorem lk_115_135 : Lk 115 135 (.aload_n 0) 0 0 (0) := ⟨1, 0, (congrArg (fun l => pm_look l 135) cq_115).trans rfl⟩
theorem lk_115_136 : Lk 115 136 (.getfield 9) 10 2 (2) := ⟨3, 407, (congrArg (fun l => pm_look l 136) cq_115).trans rfl⟩
theorem lk_115_139 : Lk 115 139 (.iload_n 1) 0 0 (0) := ⟨1, 0, (congrArg (fun l => pm_look l 139) cq_115).trans rfl⟩
theorem lk_115_140 : Lk 115 140 (.iaload) 0 0 (0) := ⟨1, 0, (congrArg (fun l => pm_look l 140) cq_115).trans rfl⟩
theorem lk_115_141 : Lk 115 141 (.goto 4) 0 0 (0) := ⟨3, 0, (congrArg (fun l => pm_look l 141) cq_115).trans rfl⟩
theorem lk_115_144 : Lk 115 144 (.iconst (-1)) 0 0 (0) := ⟨1, 0, (congrArg (fun l => pm_look l 144) cq_115).trans rfl⟩
theorem lk_115_145 : Lk 115 145 (.ireturn) 0 0 (0) := ⟨1, 0, (congrArg (fun l => pm_look l 145) cq_115).trans rfl⟩
theorem cq_116 : pm_code 116 = cd_116 := rfl
theorem lk_116_0 : Lk 116 0 (.aload_n 0) 0 0 (0) := ⟨1, 0, (congrArg (fun l => pm_look l 0) cq_116).trans rfl⟩
theorem lk_116_1 : Lk 116 1 (.getfield 21) 10 0 (2) := ⟨3, 405, (congrArg (fun l => pm_look l 1) cq_116).trans rfl⟩
theorem lk_116_4 : Lk 116 4 (.invokevirtual 66) 6 0 (0) := ⟨3, 1020, (congrArg (fun l => pm_look l 4) cq_116).trans rfl⟩
theorem lk_116_7 : Lk 116 7 (.aload_n 0) 0 0 (0) := ⟨1, 0, (congrArg (fun l => pm_look l 7) cq_116).trans rfl⟩
theorem lk_116_8 : Lk 116 8 (.getfield 15) 10 3 (2) := ⟨3, 408, (congrArg (fun l => pm_look l 8) cq_116).trans rfl⟩
theorem lk_116_11 : Lk 116 11 (.arraylength) 0 0 (0) := ⟨1, 0, (congrArg (fun l => pm_look l 11) cq_116).trans rfl⟩
theorem lk_116_12 : Lk 116 12 (.aload_n 0) 0 0 (0) := ⟨1, 0, (congrArg (fun l => pm_look l 12) cq_116).trans rfl⟩
theorem lk_116_13 : Lk 116 13 (.getfield 21) 10 0 (2) := ⟨3, 405, (congrArg (fun l => pm_look l 13) cq_116).trans rfl⟩
theorem lk_116_16 : Lk 116 16 (.invokevirtual 69) 1 0 (0) := ⟨3, 1021, (congrArg (fun l => pm_look l 16) cq_116).trans rfl⟩
theorem lk_116_19 : Lk 116 19 (.if_icmp .ge 29) 0 0 (0) := ⟨3, 0, (congrArg (fun l => pm_look l 19) cq_116).trans rfl⟩
theorem lk_116_22 : Lk 116 22 (.aload_n 0) 0 0 (0) := ⟨1, 0, (congrArg (fun l => pm_look l 22) cq_116).trans rfl⟩
theorem lk_116_23 : Lk 116 23 (.aload_n 0) 0 0 (0) := ⟨1, 0, (congrArg (fun l => pm_look l 23) cq_116).trans rfl⟩
theorem lk_116_24 : Lk 116 24 (.getfield 21) 10 0 (2) := ⟨3, 405, (congrArg (fun l => pm_look l 24) cq_116).trans rfl⟩
theorem lk_116_27 : Lk 116 27 (.invokevirtual 69) 1 0 (0) := ⟨3, 1021, (congrArg (fun l => pm_look l 27) cq_116).trans rfl⟩
theorem lk_116_30 : Lk 116 30 (.newarray .int) 100 0 (0) := ⟨2, 0, (congrArg (fun l => pm_look l 30) cq_116).trans rfl⟩
theorem lk_116_32 : Lk 116 32 (.putfield 15) 10 3 (2) := ⟨3, 408, (congrArg (fun l => pm_look l 32) cq_116).trans rfl⟩
theorem lk_116_35 : Lk 116 35 (.aload_n 0) 0 0 (0) := ⟨1, 0, (congrArg (fun l => pm_look l 35) cq_116).trans rfl⟩
theorem lk_116_36 : Lk 116 36 (.aload_n 0) 0 0 (0) := ⟨1, 0, (congrArg (fun l => pm_look l 36) cq_116).trans rfl⟩
theorem lk_116_37 : Lk 116 37 (.getfield 21) 10 0 (2) := ⟨3, 405, (congrArg (fun l => pm_look l 37) cq_116).trans rfl⟩
theorem lk_116_40 : Lk 116 40 (.invokevirtual 69) 1 0 (0) := ⟨3, 1021, (congrArg (fun l => pm_look l 40) cq_116).trans rfl⟩
theorem lk_116_43 : Lk 116 43 (.newarray .int) 100 0 (0) := ⟨2, 0, (congrArg (fun l => pm_look l 43) cq_116).trans rfl⟩
theorem lk_116_45 : Lk 116 45 (.putfield 18) 10 4 (2) := ⟨3, 409, (congrArg (fun l => pm_look l 45) cq_116).trans rfl⟩
theorem lk_116_48 : Lk 116 48 (.aload_n 0) 0 0 (0) := ⟨1, 0, (congrArg (fun l => pm_look l 48) cq_116).trans rfl⟩
theorem lk_116_49 : Lk 116 49 (.iconst 1) 0 0 (0) := ⟨1, 0, (congrArg (fun l => pm_look l 49) cq_116).trans rfl⟩
theorem lk_116_50 : Lk 116 50 (.putfield 52) 10 6 (0) := ⟨3, 412, (congrArg (fun l => pm_look l 50) cq_116).trans rfl⟩
theorem lk_116_53 : Lk 116 53 (.return_) 0 0 (0) := ⟨1, 0, (congrArg (fun l => pm_look l 53) cq_116).trans rfl⟩
theorem cq_117 : pm_code 117 = cd_117 := rfl
theorem lk_117_0 : Lk 117 0 (.iload_n 1) 0 0 (0) := ⟨1, 0, (congrArg (fun l => pm_look l 0) cq_117).trans rfl⟩
theorem lk_117_1 : Lk 117 1 (.ifCond .ne 7) 0 0 (0) := ⟨3, 0, (congrArg (fun l => pm_look l 1) cq_117).trans rfl⟩
theorem lk_117_4 : Lk 117 4 (.iconst 1) 0 0 (0) := ⟨1, 0, (congrArg (fun l => pm_look l 4) cq_117).trans rfl⟩
theorem lk_117_5 : Lk 117 5 (.goto 4) 0 0 (0) := ⟨3, 0, (congrArg (fun l => pm_look l 5) cq_117).trans rfl⟩
theorem lk_117_8 : Lk 117 8 (.iconst 0) 0 0 (0) := ⟨1, 0, (congrArg (fun l => pm_look l 8) cq_117).trans rfl⟩
theorem lk_117_9 : Lk 117 9 (.istore_n 2) 0 0 (0) := ⟨1, 0, (congrArg (fun l => pm_look l 9) cq_117).trans rfl⟩
theorem lk_117_10 : Lk 117 10 (.aload_n 0) 0 0 (0) := ⟨1, 0, (congrArg (fun l => pm_look l 10) cq_117).trans rfl⟩
theorem lk_117_11 : Lk 117 11 (.getfield 31) 10 1 (2) := ⟨3, 406, (congrArg (fun l => pm_look l 11) cq_117).trans rfl⟩
theorem lk_117_14 : Lk 117 14 (.invokevirtual 39) 86 0 (0) := ⟨3, 1022, (congrArg (fun l => pm_look l 14) cq_117).trans rfl⟩
theorem lk_117_17 : Lk 117 17 (.istore_n 3) 0 0 (0) := ⟨1, 0, (congrArg (fun l => pm_look l 17) cq_117).trans rfl⟩
theorem lk_117_18 : Lk 117 18 (.aload_n 0) 0 0 (0) := ⟨1, 0, (congrArg (fun l => pm_look l 18) cq_117).trans rfl⟩
theorem lk_117_19 : Lk 117 19 (.getfield 31) 10 1 (2) := ⟨3, 406, (congrArg (fun l => pm_look l 19) cq_117).trans rfl⟩
theorem lk_117_22 : Lk 117 22 (.invokevirtual 45) 87 0 (0) := ⟨3, 1023, (congrArg (fun l => pm_look l 22) cq_117).trans rfl⟩
theorem lk_117_25 : Lk 117 25 (.istore 4) 0 0 (0) := ⟨2, 0, (congrArg (fun l => pm_look l 25) cq_117).trans rfl⟩
theorem lk_117_27 : Lk 117 27 (.iconst 1) 0 0 (0) := ⟨1, 0, (congrArg (fun l => pm_look l 27) cq_117).trans rfl⟩
theorem lk_117_28 : Lk 117 28 (.istore 5) 0 0 (0) := ⟨2, 0, (congrArg (fun l => pm_look l 28) cq_117).trans rfl⟩
theorem lk_117_30 : Lk 117 30 (.iload 5) 0 0 (0) := ⟨2, 0, (congrArg (fun l => pm_look l 30) cq_117).trans rfl⟩
theorem lk_117_32 : Lk 117 32 (.iload_n 3) 0 0 (0) := ⟨1, 0, (congrArg (fun l => pm_look l 32) cq_117).trans rfl⟩
theorem lk_117_33 : Lk 117 33 (.if_icmp .gt 217) 0 0 (0) := ⟨3, 0, (congrArg (fun l => pm_look l 33) cq_117).trans rfl⟩
theorem lk_117_36 : Lk 117 36 (.iconst 1) 0 0 (0) := ⟨1, 0, (congrArg (fun l => pm_look l 36) cq_117).trans rfl⟩
theorem lk_117_37 : Lk 117 37 (.istore 6) 0 0 (0) := ⟨2, 0, (congrArg (fun l => pm_look l 37) cq_117).trans rfl⟩
theorem lk_117_39 : Lk 117 39 (.iload 6) 0 0 (0) := ⟨2, 0, (congrArg (fun l => pm_look l 39) cq_117).trans rfl⟩
theorem lk_117_41 : Lk 117 41 (.iload 4) 0 0 (0) := ⟨2, 0, (congrArg (fun l => pm_look l 41) cq_117).trans rfl⟩
theorem lk_117_43 : Lk 117 43 (.if_icmp .gt 201) 0 0 (0) := ⟨3, 0, (congrArg (fun l => pm_look l 43) cq_117).trans rfl⟩
theorem lk_117_46 : Lk 117 46 (.aload_n 0) 0 0 (0) := ⟨1, 0, (congrArg (fun l => pm_look l 46) cq_117).trans rfl⟩
theorem lk_117_47 : Lk 117 47 (.getfield 21) 10 0 (2) := ⟨3, 405, (congrArg (fun l => pm_look l 47) cq_117).trans rfl⟩
theorem lk_117_50 : Lk 117 50 (.iload 5) 0 0 (0) := ⟨2, 0, (congrArg (fun l => pm_look l 50) cq_117).trans rfl⟩
theorem lk_117_52 : Lk 117 52 (.iload 6) 0 0 (0) := ⟨2, 0, (congrArg (fun l => pm_look l 52) cq_117).trans rfl⟩
theorem lk_117_54 : Lk 117 54 (.invokevirtual 48) 2 0 (0) := ⟨3, 1024, (congrArg (fun l => pm_look l 54) cq_117).trans rfl⟩
theorem lk_117_57 : Lk 117 57 (.istore 7) 0 0 (0) := ⟨2, 0, (congrArg (fun l => pm_look l 57) cq_117).trans rfl⟩
theorem lk_117_59 : Lk 117 59 (.iconst 0) 0 0 (0) := ⟨1, 0, (congrArg (fun l => pm_look l 59) cq_117).trans rfl⟩
theorem lk_117_60 : Lk 117 60 (.istore 8) 0 0 (0) := ⟨2, 0, (congrArg (fun l => pm_look l 60) cq_117).trans rfl⟩
theorem lk_117_62 : Lk 117 62 (.iconst 0) 0 0 (0) := ⟨1, 0, (congrArg (fun l => pm_look l 62) cq_117).trans rfl⟩
theorem lk_117_63 : Lk 117 63 (.istore 9) 0 0 (0) := ⟨2, 0, (congrArg (fun l => pm_look l 63) cq_117).trans rfl⟩
theorem lk_117_65 : Lk 117 65 (.aload_n 0) 0 0 (0) := ⟨1, 0, (congrArg (fun l => pm_look l 65) cq_117).trans rfl⟩
theorem lk_117_66 : Lk 117 66 (.getfield 21) 10 0 (2) := ⟨3, 405, (congrArg (fun l => pm_look l 66) cq_117).trans rfl⟩
theorem lk_117_69 : Lk 117 69 (.iload 7) 0 0 (0) := ⟨2, 0, (congrArg (fun l => pm_look l 69) cq_117).trans rfl⟩
theorem lk_117_71 : Lk 117 71 (.invokevirtual 72) 4 0 (0) := ⟨3, 1029, (congrArg (fun l => pm_look l 71) cq_117).trans rfl⟩
theorem lk_117_74 : Lk 117 74 (.ifCond .ne 81) 0 0 (0) := ⟨3, 0, (congrArg (fun l => pm_look l 74) cq_117).trans rfl⟩
theorem lk_117_77 : Lk 117 77 (.ldc 65) 0 0 (1000000) := ⟨2, 1030, (congrArg (fun l => pm_look l 77) cq_117).trans rfl⟩
theorem lk_117_79 : Lk 117 79 (.aload_n 0) 0 0 (0) := ⟨1, 0, (congrArg (fun l => pm_look l 79) cq_117).trans rfl⟩
theorem lk_117_80 : Lk 117 80 (.getfield 31) 10 1 (2) := ⟨3, 406, (congrArg (fun l => pm_look l 80) cq_117).trans rfl⟩
theorem lk_117_83 : Lk 117 83 (.getfield 75) 8 3 (0) := ⟨3, 170, (congrArg (fun l => pm_look l 83) cq_117).trans rfl⟩
theorem lk_117_86 : Lk 117 86 (.aload_n 0) 0 0 (0) := ⟨1, 0, (congrArg (fun l => pm_look l 86) cq_117).trans rfl⟩
theorem lk_117_87 : Lk 117 87 (.getfield 21) 10 0 (2) := ⟨3, 405, (congrArg (fun l => pm_look l 87) cq_117).trans rfl⟩
theorem lk_117_90 : Lk 117 90 (.aload_n 0) 0 0 (0) := ⟨1, 0, (congrArg (fun l => pm_look l 90) cq_117).trans rfl⟩
theorem lk_117_91 : Lk 117 91 (.getfield 15) 10 3 (2) := ⟨3, 408, (congrArg (fun l => pm_look l 91) cq_117).trans rfl⟩
theorem lk_117_94 : Lk 117 94 (.iload 5) 0 0 (0) := ⟨2, 0, (congrArg (fun l => pm_look l 94) cq_117).trans rfl⟩
theorem lk_117_96 : Lk 117 96 (.aload_n 0) 0 0 (0) := ⟨1, 0, (congrArg (fun l => pm_look l 96) cq_117).trans rfl⟩
theorem lk_117_97 : Lk 117 97 (.getfield 31) 10 1 (2) := ⟨3, 406, (congrArg (fun l => pm_look l 97) cq_117).trans rfl⟩
theorem lk_117_100 : Lk 117 100 (.getfield 78) 8 2 (0) := ⟨3, 163, (congrArg (fun l => pm_look l 100) cq_117).trans rfl⟩
theorem lk_117_103 : Lk 117 103 (.iload 6) 0 0 (0) := ⟨2, 0, (congrArg (fun l => pm_look l 103) cq_117).trans rfl⟩
theorem lk_117_105 : Lk 117 105 (.iconst 0) 0 0 (0) := ⟨1, 0, (congrArg (fun l => pm_look l 105) cq_117).trans rfl⟩
theorem lk_117_106 : Lk 117 106 (.invokevirtual 81) 9 0 (0) := ⟨3, 1031, (congrArg (fun l => pm_look l 106) cq_117).trans rfl⟩
theorem lk_117_109 : Lk 117 109 (.iadd) 0 0 (0) := ⟨1, 0, (congrArg (fun l => pm_look l 109) cq_117).trans rfl⟩
theorem lk_117_110 : Lk 117 110 (.invokestatic 60) 1001 0 (0) := ⟨3, 1032, (congrArg (fun l => pm_look l 110) cq_117).trans rfl⟩
theorem lk_117_113 : Lk 117 113 (.istore 8) 0 0 (0) := ⟨2, 0, (congrArg (fun l => pm_look l 113) cq_117).trans rfl⟩
theorem lk_117_115 : Lk 117 115 (.ldc 65) 0 0 (1000000) := ⟨2, 1030, (congrArg (fun l => pm_look l 115) cq_117).trans rfl⟩
theorem lk_117_117 : Lk 117 117 (.aload_n 0) 0 0 (0) := ⟨1, 0, (congrArg (fun l => pm_look l 117) cq_117).trans rfl⟩
theorem lk_117_118 : Lk 117 118 (.getfield 31) 10 1 (2) := ⟨3, 406, (congrArg (fun l => pm_look l 118) cq_117).trans rfl⟩
theorem lk_117_121 : Lk 117 121 (.getfield 85) 8 4 (0) := ⟨3, 176, (congrArg (fun l => pm_look l 121) cq_117).trans rfl⟩
theorem lk_117_124 : Lk 117 124 (.aload_n 0) 0 0 (0) := ⟨1, 0, (congrArg (fun l => pm_look l 124) cq_117).trans rfl⟩
theorem lk_117_125 : Lk 117 125 (.getfield 21) 10 0 (2) := ⟨3, 405, (congrArg (fun l => pm_look l 125) cq_117).trans rfl⟩
theorem lk_117_128 : Lk 117 128 (.aload_n 0) 0 0 (0) := ⟨1, 0, (congrArg (fun l => pm_look l 128) cq_117).trans rfl⟩
theorem lk_117_129 : Lk 117 129 (.getfield 18) 10 4 (2) := ⟨3, 409, (congrArg (fun l => pm_look l 129) cq_117).trans rfl⟩
theorem lk_117_132 : Lk 117 132 (.iload 6) 0 0 (0) := ⟨2, 0, (congrArg (fun l => pm_look l 132) cq_117).trans rfl⟩
theorem lk_117_134 : Lk 117 134 (.iconst 0) 0 0 (0) := ⟨1, 0, (congrArg (fun l => pm_look l 134) cq_117).trans rfl⟩
theorem lk_117_135 : Lk 117 135 (.iload 5) 0 0 (0) := ⟨2, 0, (congrArg (fun l => pm_look l 135) cq_117).trans rfl⟩
theorem lk_117_137 : Lk 117 137 (.aload_n 0) 0 0 (0) := ⟨1, 0, (congrArg (fun l => pm_look l 137) cq_117).trans rfl⟩
theorem lk_117_138 : Lk 117 138 (.getfield 31) 10 1 (2) := ⟨3, 406, (congrArg (fun l => pm_look l 138) cq_117).trans rfl⟩
theorem lk_117_141 : Lk 117 141 (.getfield 78) 8 2 (0) := ⟨3, 163, (congrArg (fun l => pm_look l 141) cq_117).trans rfl⟩
theorem lk_117_144 : Lk 117 144 (.ishl) 0 0 (0) := ⟨1, 0, (congrArg (fun l => pm_look l 144) cq_117).trans rfl⟩
theorem lk_117_145 : Lk 117 145 (.iconst 0) 0 0 (0) := ⟨1, 0, (congrArg (fun l => pm_look l 145) cq_117).trans rfl⟩
theorem lk_117_146 : Lk 117 146 (.invokevirtual 81) 9 0 (0) := ⟨3, 1031, (congrArg (fun l => pm_look l 146) cq_117).trans rfl⟩
theorem lk_117_149 : Lk 117 149 (.iadd) 0 0 (0) := ⟨1, 0, (congrArg (fun l => pm_look l 149) cq_117).trans rfl⟩
theorem lk_117_150 : Lk 117 150 (.invokestatic 60) 1001 0 (0) := ⟨3, 1032, (congrArg (fun l => pm_look l 150) cq_117).trans rfl⟩
theorem lk_117_153 : Lk 117 153 (.istore 9) 0 0 (0) := ⟨2, 0, (congrArg (fun l => pm_look l 153) cq_117).trans rfl⟩
theorem lk_117_155 : Lk 117 155 (.iload_n 1) 0 0 (0) := ⟨1, 0, (congrArg (fun l => pm_look l 155) cq_117).trans rfl⟩
theorem lk_117_156 : Lk 117 156 (.ifCond .le 64) 0 0 (0) := ⟨3, 0, (congrArg (fun l => pm_look l 156) cq_117).trans rfl⟩
theorem lk_117_159 : Lk 117 159 (.aload_n 0) 0 0 (0) := ⟨1, 0, (congrArg (fun l => pm_look l 159) cq_117).trans rfl⟩
theorem lk_117_160 : Lk 117 160 (.getfield 15) 10 3 (2) := ⟨3, 408, (congrArg (fun l => pm_look l 160) cq_117).trans rfl⟩
theorem lk_117_163 : Lk 117 163 (.iload 7) 0 0 (0) := ⟨2, 0, (congrArg (fun l => pm_look l 163) cq_117).trans rfl⟩
theorem lk_117_165 : Lk 117 165 (.iaload) 0 0 (0) := ⟨1, 0, (congrArg (fun l => pm_look l 165) cq_117).trans rfl⟩
theorem lk_117_166 : Lk 117 166 (.istore 10) 0 0 (0) := ⟨2, 0, (congrArg (fun l => pm_look l 166) cq_117).trans rfl⟩
theorem lk_117_168 : Lk 117 168 (.iload 8) 0 0 (0) := ⟨2, 0, (congrArg (fun l => pm_look l 168) cq_117).trans rfl⟩
theorem lk_117_170 : Lk 117 170 (.aload_n 0) 0 0 (0) := ⟨1, 0, (congrArg (fun l => pm_look l 170) cq_117).trans rfl⟩
theorem lk_117_171 : Lk 117 171 (.getfield 18) 10 4 (2) := ⟨3, 409, (congrArg (fun l => pm_look l 171) cq_117).trans rfl⟩
theorem lk_117_174 : Lk 117 174 (.iload 7) 0 0 (0) := ⟨2, 0, (congrArg (fun l => pm_look l 174) cq_117).trans rfl⟩
theorem lk_117_176 : Lk 117 176 (.iaload) 0 0 (0) := ⟨1, 0, (congrArg (fun l => pm_look l 176) cq_117).trans rfl⟩
theorem lk_117_177 : Lk 117 177 (.invokestatic 60) 1001 0 (0) := ⟨3, 1032, (congrArg (fun l => pm_look l 177) cq_117).trans rfl⟩
theorem lk_117_180 : Lk 117 180 (.istore 8) 0 0 (0) := ⟨2, 0, (congrArg (fun l => pm_look l 180) cq_117).trans rfl⟩
theorem lk_117_182 : Lk 117 182 (.iload 9) 0 0 (0) := ⟨2, 0, (congrArg (fun l => pm_look l 182) cq_117).trans rfl⟩
theorem lk_117_184 : Lk 117 184 (.iload 10) 0 0 (0) := ⟨2, 0, (congrArg (fun l => pm_look l 184) cq_117).trans rfl⟩
theorem lk_117_186 : Lk 117 186 (.invokestatic 60) 1001 0 (0) := ⟨3, 1032, (congrArg (fun l => pm_look l 186) cq_117).trans rfl⟩
theorem lk_117_189 : Lk 117 189 (.istore 9) 0 0 (0) := ⟨2, 0, (congrArg (fun l => pm_look l 189) cq_117).trans rfl⟩
theorem lk_117_191 : Lk 117 191 (.iload_n 2) 0 0 (0) := ⟨1, 0, (congrArg (fun l => pm_look l 191) cq_117).trans rfl⟩
theorem lk_117_192 : Lk 117 192 (.ifCond .ne 22) 0 0 (0) := ⟨3, 0, (congrArg (fun l => pm_look l 192) cq_117).trans rfl⟩
theorem lk_117_195 : Lk 117 195 (.iload 8) 0 0 (0) := ⟨2, 0, (congrArg (fun l => pm_look l 195) cq_117).trans rfl⟩
theorem lk_117_197 : Lk 117 197 (.iload 10) 0 0 (0) := ⟨2, 0, (congrArg (fun l => pm_look l 197) cq_117).trans rfl⟩
theorem lk_117_199 : Lk 117 199 (.if_icmp .lt 15) 0 0 (0) := ⟨3, 0, (congrArg (fun l => pm_look l 199) cq_117).trans rfl⟩
theorem lk_117_202 : Lk 117 202 (.iload 9) 0 0 (0) := ⟨2, 0, (congrArg (fun l => pm_look l 202) cq_117).trans rfl⟩
theorem lk_117_204 : Lk 117 204 (.aload_n 0) 0 0 (0) := ⟨1, 0, (congrArg (fun l => pm_look l 204) cq_117).trans rfl⟩
theorem lk_117_205 : Lk 117 205 (.getfield 18) 10 4 (2) := ⟨3, 409, (congrArg (fun l => pm_look l 205) cq_117).trans rfl⟩
theorem lk_117_208 : Lk 117 208 (.iload 7) 0 0 (0) := ⟨2, 0, (congrArg (fun l => pm_look l 208) cq_117).trans rfl⟩
theorem lk_117_210 : Lk 117 210 (.iaload) 0 0 (0) := ⟨1, 0, (congrArg (fun l => pm_look l 210) cq_117).trans rfl⟩
theorem lk_117_211 : Lk 117 211 (.if_icmp .ge 7) 0 0 (0) := ⟨3, 0, (congrArg (fun l => pm_look l 211) cq_117).trans rfl⟩
theorem lk_117_214 : Lk 117 214 (.iconst 1) 0 0 (0) := ⟨1, 0, (congrArg (fun l => pm_look l 214) cq_117).trans rfl⟩
theorem lk_117_215 : Lk 117 215 (.goto 4) 0 0 (0) := ⟨3, 0, (congrArg (fun l => pm_look l 215) cq_117).trans rfl⟩
theorem lk_117_218 : Lk 117 218 (.iconst 0) 0 0 (0) := ⟨1, 0, (congrArg (fun l => pm_look l 218) cq_117).trans rfl⟩
theorem lk_117_219 : Lk 117 219 (.istore_n 2) 0 0 (0) := ⟨1, 0, (congrArg (fun l => pm_look l 219) cq_117).trans rfl⟩
theorem lk_117_220 : Lk 117 220 (.aload_n 0) 0 0 (0) := ⟨1, 0, (congrArg (fun l => pm_look l 220) cq_117).trans rfl⟩
theorem lk_117_221 : Lk 117 221 (.getfield 15) 10 3 (2) := ⟨3, 408, (congrArg (fun l => pm_look l 221) cq_117).trans rfl⟩
theorem lk_117_224 : Lk 117 224 (.iload 7) 0 0 (0) := ⟨2, 0, (congrArg (fun l => pm_look l 224) cq_117).trans rfl⟩
theorem lk_117_226 : Lk 117 226 (.iload 8) 0 0 (0) := ⟨2, 0, (congrArg (fun l => pm_look l 226) cq_117).trans rfl⟩
theorem lk_117_228 : Lk 117 228 (.iastore) 0 0 (0) := ⟨1, 0, (congrArg (fun l => pm_look l 228) cq_117).trans rfl⟩
theorem lk_117_229 : Lk 117 229 (.aload_n 0) 0 0 (0) := ⟨1, 0, (congrArg (fun l => pm_look l 229) cq_117).trans rfl⟩
theorem lk_117_230 : Lk 117 230 (.getfield 18) 10 4 (2) := ⟨3, 409, (congrArg (fun l => pm_look l 230) cq_117).trans rfl⟩
theorem lk_117_233 : Lk 117 233 (.iload 7) 0 0 (0) := ⟨2, 0, (congrArg (fun l => pm_look l 233) cq_117).trans rfl⟩
theorem lk_117_235 : Lk 117 235 (.iload 9) 0 0 (0) := ⟨2, 0, (congrArg (fun l => pm_look l 235) cq_117).trans rfl⟩
theorem lk_117_237 : Lk 117 237 (.iastore) 0 0 (0) := ⟨1, 0, (congrArg (fun l => pm_look l 237) cq_117).trans rfl⟩
theorem lk_117_238 : Lk 117 238 (.iinc 6 1) 0 0 (0) := ⟨3, 0, (congrArg (fun l => pm_look l 238) cq_117).trans rfl⟩
set_option maxRecDepth 100000 in
theorem lk_117_241 : Lk 117 241 (.goto (-202)) 0 0 (0) := ⟨3, 0, (congrArg (fun l => pm_look l 241) cq_117).trans rfl⟩
set_option maxRecDepth 100000 in
theorem lk_117_244 : Lk 117 244 (.iinc 5 1) 0 0 (0) := ⟨3, 0, (congrArg (fun l => pm_look l 244) cq_117).trans rfl⟩
set_option maxRecDepth 100000 in
theorem lk_117_247 : Lk 117 247 (.goto (-217)) 0 0 (0) := ⟨3, 0, (congrArg (fun l => pm_look l 247) cq_117).trans rfl⟩
set_option maxRecDepth 100000 in
theorem lk_117_250 : Lk 117 250 (.iload_n 2) 0 0 (0) := ⟨1, 0, (congrArg (fun l => pm_look l 250) cq_117).trans rfl⟩
set_option maxRecDepth 100000 in
theorem lk_117_251 : Lk 117 251 (.ireturn) 1 0 (0) := ⟨1, 0, (congrArg (fun l => pm_look l 251) cq_117).trans rfl⟩
theorem cq_118 : pm_code 118 = cd_118 := rfl
theorem lk_118_0 : Lk 118 0 (.aload_n 0) 0 0 (0) := ⟨1, 0, (congrArg (fun l => pm_look l 0) cq_118).trans rfl⟩
theorem lk_118_1 : Lk 118 1 (.invokespecial 1) 999 0 (0) := ⟨3, 129, (congrArg (fun l => pm_look l 1) cq_118).trans rfl⟩
theorem lk_118_4 : Lk 118 4 (.aload_n 0) 0 0 (0) := ⟨1, 0, (congrArg (fun l => pm_look l 4) cq_118).trans rfl⟩
theorem lk_118_5 : Lk 118 5 (.new 7) 6 0 (0) := ⟨3, 132, (congrArg (fun l => pm_look l 5) cq_118).trans rfl⟩
theorem lk_118_8 : Lk 118 8 (.dup) 0 0 (0) := ⟨1, 0, (congrArg (fun l => pm_look l 8) cq_118).trans rfl⟩
theorem lk_118_9 : Lk 118 9 (.invokespecial 9) 55 0 (0) := ⟨3, 134, (congrArg (fun l => pm_look l 9) cq_118).trans rfl⟩
theorem lk_118_12 : Lk 118 12 (.putfield 10) 11 0 (2) := ⟨3, 519, (congrArg (fun l => pm_look l 12) cq_118).trans rfl⟩
theorem lk_118_15 : Lk 118 15 (.aload_n 0) 0 0 (0) := ⟨1, 0, (congrArg (fun l => pm_look l 15) cq_118).trans rfl⟩
theorem lk_118_16 : Lk 118 16 (.new 16) 8 0 (0) := ⟨3, 273, (congrArg (fun l => pm_look l 16) cq_118).trans rfl⟩
theorem lk_118_19 : Lk 118 19 (.dup) 0 0 (0) := ⟨1, 0, (congrArg (fun l => pm_look l 19) cq_118).trans rfl⟩
theorem lk_118_20 : Lk 118 20 (.invokespecial 18) 81 0 (0) := ⟨3, 274, (congrArg (fun l => pm_look l 20) cq_118).trans rfl⟩
theorem lk_118_23 : Lk 118 23 (.putfield 19) 11 1 (2) := ⟨3, 520, (congrArg (fun l => pm_look l 23) cq_118).trans rfl⟩
theorem lk_118_26 : Lk 118 26 (.aload_n 0) 0 0 (0) := ⟨1, 0, (congrArg (fun l => pm_look l 26) cq_118).trans rfl⟩
theorem lk_118_27 : Lk 118 27 (.iconst 4) 0 0 (0) := ⟨1, 0, (congrArg (fun l => pm_look l 27) cq_118).trans rfl⟩
theorem lk_118_28 : Lk 118 28 (.anewarray 23) 103 0 (0) := ⟨3, 275, (congrArg (fun l => pm_look l 28) cq_118).trans rfl⟩
theorem lk_118_31 : Lk 118 31 (.putfield 25) 11 2 (2) := ⟨3, 521, (congrArg (fun l => pm_look l 31) cq_118).trans rfl⟩
theorem lk_118_34 : Lk 118 34 (.aload_n 0) 0 0 (0) := ⟨1, 0, (congrArg (fun l => pm_look l 34) cq_118).trans rfl⟩
theorem lk_118_35 : Lk 118 35 (.bipush 12) 0 0 (0) := ⟨2, 0, (congrArg (fun l => pm_look l 35) cq_118).trans rfl⟩
theorem lk_118_37 : Lk 118 37 (.newarray .int) 100 0 (0) := ⟨2, 0, (congrArg (fun l => pm_look l 37) cq_118).trans rfl⟩
theorem lk_118_39 : Lk 118 39 (.putfield 29) 11 3 (2) := ⟨3, 522, (congrArg (fun l => pm_look l 39) cq_118).trans rfl⟩
theorem lk_118_42 : Lk 118 42 (.aload_n 0) 0 0 (0) := ⟨1, 0, (congrArg (fun l => pm_look l 42) cq_118).trans rfl⟩
theorem lk_118_43 : Lk 118 43 (.new 33) 5 0 (0) := ⟨3, 277, (congrArg (fun l => pm_look l 43) cq_118).trans rfl⟩
theorem lk_118_46 : Lk 118 46 (.dup) 0 0 (0) := ⟨1, 0, (congrArg (fun l => pm_look l 46) cq_118).trans rfl⟩
theorem lk_118_47 : Lk 118 47 (.aload_n 0) 0 0 (0) := ⟨1, 0, (congrArg (fun l => pm_look l 47) cq_118).trans rfl⟩
theorem lk_118_48 : Lk 118 48 (.getfield 19) 11 1 (2) := ⟨3, 520, (congrArg (fun l => pm_look l 48) cq_118).trans rfl⟩
theorem lk_118_51 : Lk 118 51 (.invokespecial 35) 40 0 (0) := ⟨3, 279, (congrArg (fun l => pm_look l 51) cq_118).trans rfl⟩
theorem lk_118_54 : Lk 118 54 (.putfield 38) 11 4 (2) := ⟨3, 523, (congrArg (fun l => pm_look l 54) cq_118).trans rfl⟩
theorem lk_118_57 : Lk 118 57 (.aload_n 0) 0 0 (0) := ⟨1, 0, (congrArg (fun l => pm_look l 57) cq_118).trans rfl⟩
theorem lk_118_58 : Lk 118 58 (.new 42) 2 0 (0) := ⟨3, 321, (congrArg (fun l => pm_look l 58) cq_118).trans rfl⟩
theorem lk_118_61 : Lk 118 61 (.dup) 0 0 (0) := ⟨1, 0, (congrArg (fun l => pm_look l 61) cq_118).trans rfl⟩
theorem lk_118_62 : Lk 118 62 (.aload_n 0) 0 0 (0) := ⟨1, 0, (congrArg (fun l => pm_look l 62) cq_118).trans rfl⟩
theorem lk_118_63 : Lk 118 63 (.getfield 19) 11 1 (2) := ⟨3, 520, (congrArg (fun l => pm_look l 63) cq_118).trans rfl⟩
theorem lk_118_66 : Lk 118 66 (.invokespecial 44) 18 0 (0) := ⟨3, 323, (congrArg (fun l => pm_look l 66) cq_118).trans rfl⟩
theorem lk_118_69 : Lk 118 69 (.putfield 45) 11 5 (2) := ⟨3, 524, (congrArg (fun l => pm_look l 69) cq_118).trans rfl⟩
theorem lk_118_72 : Lk 118 72 (.aload_n 0) 0 0 (0) := ⟨1, 0, (congrArg (fun l => pm_look l 72) cq_118).trans rfl⟩
theorem lk_118_73 : Lk 118 73 (.new 49) 3 0 (0) := ⟨3, 351, (congrArg (fun l => pm_look l 73) cq_118).trans rfl⟩
theorem lk_118_76 : Lk 118 76 (.dup) 0 0 (0) := ⟨1, 0, (congrArg (fun l => pm_look l 76) cq_118).trans rfl⟩
theorem lk_118_77 : Lk 118 77 (.aload_n 0) 0 0 (0) := ⟨1, 0, (congrArg (fun l => pm_look l 77) cq_118).trans rfl⟩
theorem lk_118_78 : Lk 118 78 (.getfield 19) 11 1 (2) := ⟨3, 520, (congrArg (fun l => pm_look l 78) cq_118).trans rfl⟩
theorem lk_118_81 : Lk 118 81 (.invokespecial 51) 27 0 (0) := ⟨3, 353, (congrArg (fun l => pm_look l 81) cq_118).trans rfl⟩
theorem lk_118_84 : Lk 118 84 (.putfield 52) 11 6 (2) := ⟨3, 525, (congrArg (fun l => pm_look l 84) cq_118).trans rfl⟩
theorem lk_118_87 : Lk 118 87 (.aload_n 0) 0 0 (0) := ⟨1, 0, (congrArg (fun l => pm_look l 87) cq_118).trans rfl⟩
theorem lk_118_88 : Lk 118 88 (.new 56) 0 0 (0) := ⟨3, 373, (congrArg (fun l => pm_look l 88) cq_118).trans rfl⟩
theorem lk_118_91 : Lk 118 91 (.dup) 0 0 (0) := ⟨1, 0, (congrArg (fun l => pm_look l 91) cq_118).trans rfl⟩
theorem lk_118_92 : Lk 118 92 (.aload_n 0) 0 0 (0) := ⟨1, 0, (congrArg (fun l => pm_look l 92) cq_118).trans rfl⟩
theorem lk_118_93 : Lk 118 93 (.getfield 19) 11 1 (2) := ⟨3, 520, (congrArg (fun l => pm_look l 93) cq_118).trans rfl⟩
theorem lk_118_96 : Lk 118 96 (.invokespecial 58) 0 0 (0) := ⟨3, 375, (congrArg (fun l => pm_look l 96) cq_118).trans rfl⟩
theorem lk_118_99 : Lk 118 99 (.putfield 59) 11 7 (2) := ⟨3, 526, (congrArg (fun l => pm_look l 99) cq_118).trans rfl⟩
theorem lk_118_102 : Lk 118 102 (.aload_n 0) 0 0 (0) := ⟨1, 0, (congrArg (fun l => pm_look l 102) cq_118).trans rfl⟩
theorem lk_118_103 : Lk 118 103 (.iconst 3) 0 0 (0) := ⟨1, 0, (congrArg (fun l => pm_look l 103) cq_118).trans rfl⟩
theorem lk_118_104 : Lk 118 104 (.anewarray 63) 104 0 (0) := ⟨3, 397, (congrArg (fun l => pm_look l 104) cq_118).trans rfl⟩
theorem lk_118_107 : Lk 118 107 (.putfield 65) 11 8 (2) := ⟨3, 527, (congrArg (fun l => pm_look l 107) cq_118).trans rfl⟩
theorem lk_118_110 : Lk 118 110 (.aload_n 0) 0 0 (0) := ⟨1, 0, (congrArg (fun l => pm_look l 110) cq_118).trans rfl⟩
theorem lk_118_111 : Lk 118 111 (.new 69) 10 0 (0) := ⟨3, 399, (congrArg (fun l => pm_look l 111) cq_118).trans rfl⟩
theorem lk_118_114 : Lk 118 114 (.dup) 0 0 (0) := ⟨1, 0, (congrArg (fun l => pm_look l 114) cq_118).trans rfl⟩
theorem lk_118_115 : Lk 118 115 (.aload_n 0) 0 0 (0) := ⟨1, 0, (congrArg (fun l => pm_look l 115) cq_118).trans rfl⟩
theorem lk_118_116 : Lk 118 116 (.getfield 59) 11 7 (2) := ⟨3, 526, (congrArg (fun l => pm_look l 116) cq_118).trans rfl⟩
theorem lk_118_119 : Lk 118 119 (.invokespecial 71) 114 0 (0) := ⟨3, 401, (congrArg (fun l => pm_look l 119) cq_118).trans rfl⟩
theorem lk_118_122 : Lk 118 122 (.putfield 74) 11 9 (2) := ⟨3, 528, (congrArg (fun l => pm_look l 122) cq_118).trans rfl⟩
theorem lk_118_125 : Lk 118 125 (.aload_n 0) 0 0 (0) := ⟨1, 0, (congrArg (fun l => pm_look l 125) cq_118).trans rfl⟩
theorem lk_118_126 : Lk 118 126 (.new 78) 7 0 (0) := ⟨3, 428, (congrArg (fun l => pm_look l 126) cq_118).trans rfl⟩
theorem lk_118_129 : Lk 118 129 (.dup) 0 0 (0) := ⟨1, 0, (congrArg (fun l => pm_look l 129) cq_118).trans rfl⟩
theorem lk_118_130 : Lk 118 130 (.aload_n 0) 0 0 (0) := ⟨1, 0, (congrArg (fun l => pm_look l 130) cq_118).trans rfl⟩
theorem lk_118_131 : Lk 118 131 (.getfield 59) 11 7 (2) := ⟨3, 526, (congrArg (fun l => pm_look l 131) cq_118).trans rfl⟩
theorem lk_118_134 : Lk 118 134 (.invokespecial 80) 72 0 (0) := ⟨3, 430, (congrArg (fun l => pm_look l 134) cq_118).trans rfl⟩
theorem lk_118_137 : Lk 118 137 (.putfield 81) 11 10 (2) := ⟨3, 529, (congrArg (fun l => pm_look l 137) cq_118).trans rfl⟩
theorem lk_118_140 : Lk 118 140 (.iconst 0) 0 0 (0) := ⟨1, 0, (congrArg (fun l => pm_look l 140) cq_118).trans rfl⟩
theorem lk_118_141 : Lk 118 141 (.istore_n 1) 0 0 (0) := ⟨1, 0, (congrArg (fun l => pm_look l 141) cq_118).trans rfl⟩
theorem lk_118_142 : Lk 118 142 (.iload_n 1) 0 0 (0) := ⟨1, 0, (congrArg (fun l => pm_look l 142) cq_118).trans rfl⟩
theorem lk_118_143 : Lk 118 143 (.iconst 4) 0 0 (0) := ⟨1, 0, (congrArg (fun l => pm_look l 143) cq_118).trans rfl⟩
theorem lk_118_144 : Lk 118 144 (.if_icmp .ge 22) 0 0 (0) := ⟨3, 0, (congrArg (fun l => pm_look l 144) cq_118).trans rfl⟩
theorem lk_118_147 : Lk 118 147 (.aload_n 0) 0 0 (0) := ⟨1, 0, (congrArg (fun l => pm_look l 147) cq_118).trans rfl⟩
theorem lk_118_148 : Lk 118 148 (.getfield 25) 11 2 (2) := ⟨3, 521, (congrArg (fun l => pm_look l 148) cq_118).trans rfl⟩
theorem lk_118_151 : Lk 118 151 (.iload_n 1) 0 0 (0) := ⟨1, 0, (congrArg (fun l => pm_look l 151) cq_118).trans rfl⟩
theorem lk_118_152 : Lk 118 152 (.new 23) 9 0 (0) := ⟨3, 275, (congrArg (fun l => pm_look l 152) cq_118).trans rfl⟩
theorem lk_118_155 : Lk 118 155 (.dup) 0 0 (0) := ⟨1, 0, (congrArg (fun l => pm_look l 155) cq_118).trans rfl⟩
theorem lk_118_156 : Lk 118 156 (.invokespecial 85) 96 1 (0) := ⟨3, 455, (congrArg (fun l => pm_look l 156) cq_118).trans rfl⟩
theorem lk_118_159 : Lk 118 159 (.aastore) 0 0 (0) := ⟨1, 0, (congrArg (fun l => pm_look l 159) cq_118).trans rfl⟩
theorem lk_118_160 : Lk 118 160 (.iinc 1 1) 0 0 (0) := ⟨3, 0, (congrArg (fun l => pm_look l 160) cq_118).trans rfl⟩
theorem lk_118_163 : Lk 118 163 (.goto (-21)) 0 0 (0) := ⟨3, 0, (congrArg (fun l => pm_look l 163) cq_118).trans rfl⟩
theorem lk_118_166 : Lk 118 166 (.iconst 0) 0 0 (0) := ⟨1, 0, (congrArg (fun l => pm_look l 166) cq_118).trans rfl⟩
theorem lk_118_167 : Lk 118 167 (.istore_n 1) 0 0 (0) := ⟨1, 0, (congrArg (fun l => pm_look l 167) cq_118).trans rfl⟩
theorem lk_118_168 : Lk 118 168 (.iload_n 1) 0 0 (0) := ⟨1, 0, (congrArg (fun l => pm_look l 168) cq_118).trans rfl⟩
theorem lk_118_169 : Lk 118 169 (.iconst 3) 0 0 (0) := ⟨1, 0, (congrArg (fun l => pm_look l 169) cq_118).trans rfl⟩
theorem lk_118_170 : Lk 118 170 (.if_icmp .ge 27) 0 0 (0) := ⟨3, 0, (congrArg (fun l => pm_look l 170) cq_118).trans rfl⟩
theorem lk_118_173 : Lk 118 173 (.aload_n 0) 0 0 (0) := ⟨1, 0, (congrArg (fun l => pm_look l 173) cq_118).trans rfl⟩
theorem lk_118_174 : Lk 118 174 (.getfield 65) 11 8 (2) := ⟨3, 527, (congrArg (fun l => pm_look l 174) cq_118).trans rfl⟩
theorem lk_118_177 : Lk 118 177 (.iload_n 1) 0 0 (0) := ⟨1, 0, (congrArg (fun l => pm_look l 177) cq_118).trans rfl⟩
theorem lk_118_178 : Lk 118 178 (.new 63) 1 0 (0) := ⟨3, 397, (congrArg (fun l => pm_look l 178) cq_118).trans rfl⟩
theorem lk_118_181 : Lk 118 181 (.dup) 0 0 (0) := ⟨1, 0, (congrArg (fun l => pm_look l 181) cq_118).trans rfl⟩
theorem lk_118_182 : Lk 118 182 (.aload_n 0) 0 0 (0) := ⟨1, 0, (congrArg (fun l => pm_look l 182) cq_118).trans rfl⟩
theorem lk_118_183 : Lk 118 183 (.getfield 59) 11 7 (2) := ⟨3, 526, (congrArg (fun l => pm_look l 183) cq_118).trans rfl⟩
theorem lk_118_186 : Lk 118 186 (.iload_n 1) 0 0 (0) := ⟨1, 0, (congrArg (fun l => pm_look l 186) cq_118).trans rfl⟩
theorem lk_118_187 : Lk 118 187 (.invokespecial 86) 10 0 (0) := ⟨3, 489, (congrArg (fun l => pm_look l 187) cq_118).trans rfl⟩
theorem lk_118_190 : Lk 118 190 (.aastore) 0 0 (0) := ⟨1, 0, (congrArg (fun l => pm_look l 190) cq_118).trans rfl⟩
theorem lk_118_191 : Lk 118 191 (.iinc 1 1) 0 0 (0) := ⟨3, 0, (congrArg (fun l => pm_look l 191) cq_118).trans rfl⟩
theorem lk_118_194 : Lk 118 194 (.goto (-26)) 0 0 (0) := ⟨3, 0, (congrArg (fun l => pm_look l 194) cq_118).trans rfl⟩
theorem lk_118_197 : Lk 118 197 (.return_) 0 0 (0) := ⟨1, 0, (congrArg (fun l => pm_look l 197) cq_118).trans rfl⟩
theorem cq_119 : pm_code 119 = cd_119 := rfl
theorem lk_119_0 : Lk 119 0 (.aload_n 0) 0 0 (0) := ⟨1, 0, (congrArg (fun l => pm_look l 0) cq_119).trans rfl⟩
theorem lk_119_1 : Lk 119 1 (.getfield 10) 11 0 (2) := ⟨3, 519, (congrArg (fun l => pm_look l 1) cq_119).trans rfl⟩
theorem lk_119_4 : Lk 119 4 (.getfield 89) 6 4 (0) := ⟨3, 230, (congrArg (fun l => pm_look l 4) cq_119).trans rfl⟩
theorem lk_119_7 : Lk 119 7 (.bipush 20) 0 0 (0) := ⟨2, 0, (congrArg (fun l => pm_look l 7) cq_119).trans rfl⟩
theorem lk_119_9 : Lk 119 9 (.iadd) 0 0 (0) := ⟨1, 0, (congrArg (fun l => pm_look l 9) cq_119).trans rfl⟩
theorem lk_119_10 : Lk 119 10 (.sipush 500) 0 0 (0) := ⟨3, 0, (congrArg (fun l => pm_look l 10) cq_119).trans rfl⟩
theorem lk_119_13 : Lk 119 13 (.if_icmp .le 5) 0 0 (0) := ⟨3, 0, (congrArg (fun l => pm_look l 13) cq_119).trans rfl⟩
theorem lk_119_16 : Lk 119 16 (.iconst (-1)) 0 0 (0) := ⟨1, 0, (congrArg (fun l => pm_look l 16) cq_119).trans rfl⟩
theorem lk_119_17 : Lk 119 17 (.ireturn) 0 0 (0) := ⟨1, 0, (congrArg (fun l => pm_look l 17) cq_119).trans rfl⟩
theorem lk_119_18 : Lk 119 18 (.aload_n 0) 0 0 (0) := ⟨1, 0, (congrArg (fun l => pm_look l 18) cq_119).trans rfl⟩
theorem lk_119_19 : Lk 119 19 (.getfield 10) 11 0 (2) := ⟨3, 519, (congrArg (fun l => pm_look l 19) cq_119).trans rfl⟩
theorem lk_119_22 : Lk 119 22 (.iload_n 1) 0 0 (0) := ⟨1, 0, (congrArg (fun l => pm_look l 22) cq_119).trans rfl⟩
theorem lk_119_23 : Lk 119 23 (.invokevirtual 93) 56 0 (0) := ⟨3, 563, (congrArg (fun l => pm_look l 23) cq_119).trans rfl⟩
theorem lk_119_26 : Lk 119 26 (.aload_n 0) 0 0 (0) := ⟨1, 0, (congrArg (fun l => pm_look l 26) cq_119).trans rfl⟩
theorem lk_119_27 : Lk 119 27 (.getfield 10) 11 0 (2) := ⟨3, 519, (congrArg (fun l => pm_look l 27) cq_119).trans rfl⟩
theorem lk_119_30 : Lk 119 30 (.iload_n 2) 0 0 (0) := ⟨1, 0, (congrArg (fun l => pm_look l 30) cq_119).trans rfl⟩
theorem lk_119_31 : Lk 119 31 (.invokevirtual 93) 56 0 (0) := ⟨3, 563, (congrArg (fun l => pm_look l 31) cq_119).trans rfl⟩
theorem lk_119_34 : Lk 119 34 (.aload_n 0) 0 0 (0) := ⟨1, 0, (congrArg (fun l => pm_look l 34) cq_119).trans rfl⟩
theorem lk_119_35 : Lk 119 35 (.getfield 10) 11 0 (2) := ⟨3, 519, (congrArg (fun l => pm_look l 35) cq_119).trans rfl⟩
theorem lk_119_38 : Lk 119 38 (.iload_n 3) 0 0 (0) := ⟨1, 0, (congrArg (fun l => pm_look l 38) cq_119).trans rfl⟩
theorem lk_119_39 : Lk 119 39 (.invokevirtual 93) 56 0 (0) := ⟨3, 563, (congrArg (fun l => pm_look l 39) cq_119).trans rfl⟩
theorem lk_119_42 : Lk 119 42 (.aload_n 0) 0 0 (0) := ⟨1, 0, (congrArg (fun l => pm_look l 42) cq_119).trans rfl⟩
theorem lk_119_43 : Lk 119 43 (.getfield 10) 11 0 (2) := ⟨3, 519, (congrArg (fun l => pm_look l 43) cq_119).trans rfl⟩
theorem lk_119_46 : Lk 119 46 (.iload 4) 0 0 (0) := ⟨2, 0, (congrArg (fun l => pm_look l 46) cq_119).trans rfl⟩
theorem lk_119_48 : Lk 119 48 (.invokevirtual 93) 56 0 (0) := ⟨3, 563, (congrArg (fun l => pm_look l 48) cq_119).trans rfl⟩
theorem lk_119_51 : Lk 119 51 (.aload_n 0) 0 0 (0) := ⟨1, 0, (congrArg (fun l => pm_look l 51) cq_119).trans rfl⟩
theorem lk_119_52 : Lk 119 52 (.getfield 10) 11 0 (2) := ⟨3, 519, (congrArg (fun l => pm_look l 52) cq_119).trans rfl⟩
theorem lk_119_55 : Lk 119 55 (.iload 5) 0 0 (0) := ⟨2, 0, (congrArg (fun l => pm_look l 55) cq_119).trans rfl⟩
theorem lk_119_57 : Lk 119 57 (.invokevirtual 93) 56 0 (0) := ⟨3, 563, (congrArg (fun l => pm_look l 57) cq_119).trans rfl⟩
theorem lk_119_60 : Lk 119 60 (.aload_n 0) 0 0 (0) := ⟨1, 0, (congrArg (fun l => pm_look l 60) cq_119).trans rfl⟩
theorem lk_119_61 : Lk 119 61 (.getfield 10) 11 0 (2) := ⟨3, 519, (congrArg (fun l => pm_look l 61) cq_119).trans rfl⟩
theorem lk_119_64 : Lk 119 64 (.getfield 89) 6 4 (0) := ⟨3, 230, (congrArg (fun l => pm_look l 64) cq_119).trans rfl⟩
theorem lk_119_67 : Lk 119 67 (.ireturn) 0 0 (0) := ⟨1, 0, (congrArg (fun l => pm_look l 67) cq_119).trans rfl⟩
theorem cq_120 : pm_code 120 = cd_120 := rfl
theorem lk_120_0 : Lk 120 0 (.iload_n 1) 0 0 (0) := ⟨1, 0, (congrArg (fun l => pm_look l 0) cq_120).trans rfl⟩
theorem lk_120_1 : Lk 120 1 (.ifCond .lt 14) 0 0 (0) := ⟨3, 0, (congrArg (fun l => pm_look l 1) cq_120).trans rfl⟩
theorem lk_120_4 : Lk 120 4 (.iload_n 1) 0 0 (0) := ⟨1, 0, (congrArg (fun l => pm_look l 4) cq_120).trans rfl⟩
theorem lk_120_5 : Lk 120 5 (.aload_n 0) 0 0 (0) := ⟨1, 0, (congrArg (fun l => pm_look l 5) cq_120).trans rfl⟩
theorem lk_120_6 : Lk 120 6 (.getfield 10) 11 0 (2) := ⟨3, 519, (congrArg (fun l => pm_look l 6) cq_120).trans rfl⟩
theorem lk_120_9 : Lk 120 9 (.getfield 89) 6 4 (0) := ⟨3, 230, (congrArg (fun l => pm_look l 9) cq_120).trans rfl⟩
theorem lk_120_12 : Lk 120 12 (.if_icmp .le 5) 0 0 (0) := ⟨3, 0, (congrArg (fun l => pm_look l 12) cq_120).trans rfl⟩
theorem lk_120_15 : Lk 120 15 (.iconst (-1)) 0 0 (0) := ⟨1, 0, (congrArg (fun l => pm_look l 15) cq_120).trans rfl⟩
theorem lk_120_16 : Lk 120 16 (.ireturn) 0 0 (0) := ⟨1, 0, (congrArg (fun l => pm_look l 16) cq_120).trans rfl⟩
theorem lk_120_17 : Lk 120 17 (.aload_n 0) 0 0 (0) := ⟨1, 0, (congrArg (fun l => pm_look l 17) cq_120).trans rfl⟩
theorem lk_120_18 : Lk 120 18 (.getfield 10) 11 0 (2) := ⟨3, 519, (congrArg (fun l => pm_look l 18) cq_120).trans rfl⟩
theorem lk_120_21 : Lk 120 21 (.iload_n 1) 0 0 (0) := ⟨1, 0, (congrArg (fun l => pm_look l 21) cq_120).trans rfl⟩
theorem lk_120_22 : Lk 120 22 (.putfield 89) 6 4 (0) := ⟨3, 230, (congrArg (fun l => pm_look l 22) cq_120).trans rfl⟩
theorem lk_120_25 : Lk 120 25 (.iload_n 1) 0 0 (0) := ⟨1, 0, (congrArg (fun l => pm_look l 25) cq_120).trans rfl⟩
theorem lk_120_26 : Lk 120 26 (.ireturn) 0 0 (0) := ⟨1, 0, (congrArg (fun l => pm_look l 26) cq_120).trans rfl⟩
theorem cq_121 : pm_code 121 = cd_121 := rfl
theorem lk_121_0 : Lk 121 0 (.aload_n 0) 0 0 (0) := ⟨1, 0, (congrArg (fun l => pm_look l 0) cq_121).trans rfl⟩
theorem lk_121_1 : Lk 121 1 (.getfield 10) 11 0 (2) := ⟨3, 519, (congrArg (fun l => pm_look l 1) cq_121).trans rfl⟩
theorem lk_121_4 : Lk 121 4 (.invokevirtual 97) 57 0 (0) := ⟨3, 575, (congrArg (fun l => pm_look l 4) cq_121).trans rfl⟩
theorem lk_121_7 : Lk 121 7 (.istore_n 1) 0 0 (0) := ⟨1, 0, (congrArg (fun l => pm_look l 7) cq_121).trans rfl⟩
theorem lk_121_8 : Lk 121 8 (.aload_n 0) 0 0 (0) := ⟨1, 0, (congrArg (fun l => pm_look l 8) cq_121).trans rfl⟩
theorem lk_121_9 : Lk 121 9 (.getfield 10) 11 0 (2) := ⟨3, 519, (congrArg (fun l => pm_look l 9) cq_121).trans rfl⟩
theorem lk_121_12 : Lk 121 12 (.iconst 0) 0 0 (0) := ⟨1, 0, (congrArg (fun l => pm_look l 12) cq_121).trans rfl⟩
theorem lk_121_13 : Lk 121 13 (.putfield 89) 6 4 (0) := ⟨3, 230, (congrArg (fun l => pm_look l 13) cq_121).trans rfl⟩
theorem lk_121_16 : Lk 121 16 (.iload_n 1) 0 0 (0) := ⟨1, 0, (congrArg (fun l => pm_look l 16) cq_121).trans rfl⟩
theorem lk_121_17 : Lk 121 17 (.ifCond .ne 5) 0 0 (0) := ⟨3, 0, (congrArg (fun l => pm_look l 17) cq_121).trans rfl⟩
theorem lk_121_20 : Lk 121 20 (.iconst (-1)) 0 0 (0) := ⟨1, 0, (congrArg (fun l => pm_look l 20) cq_121).trans rfl⟩
theorem lk_121_21 : Lk 121 21 (.ireturn) 0 0 (0) := ⟨1, 0, (congrArg (fun l => pm_look l 21) cq_121).trans rfl⟩
theorem lk_121_22 : Lk 121 22 (.aload_n 0) 0 0 (0) := ⟨1, 0, (congrArg (fun l => pm_look l 22) cq_121).trans rfl⟩
theorem lk_121_23 : Lk 121 23 (.getfield 19) 11 1 (2) := ⟨3, 520, (congrArg (fun l => pm_look l 23) cq_121).trans rfl⟩
theorem lk_121_26 : Lk 121 26 (.aload_n 0) 0 0 (0) := ⟨1, 0, (congrArg (fun l => pm_look l 26) cq_121).trans rfl⟩
theorem lk_121_27 : Lk 121 27 (.getfield 10) 11 0 (2) := ⟨3, 519, (congrArg (fun l => pm_look l 27) cq_121).trans rfl⟩
theorem lk_121_30 : Lk 121 30 (.getfield 101) 6 1 (2) := ⟨3, 226, (congrArg (fun l => pm_look l 30) cq_121).trans rfl⟩
theorem lk_121_33 : Lk 121 33 (.invokevirtual 102) 83 0 (0) := ⟨3, 641, (congrArg (fun l => pm_look l 33) cq_121).trans rfl⟩
theorem lk_121_36 : Lk 121 36 (.aload_n 0) 0 0 (0) := ⟨1, 0, (congrArg (fun l => pm_look l 36) cq_121).trans rfl⟩
theorem lk_121_37 : Lk 121 37 (.aload_n 0) 0 0 (0) := ⟨1, 0, (congrArg (fun l => pm_look l 37) cq_121).trans rfl⟩
theorem lk_121_38 : Lk 121 38 (.getfield 10) 11 0 (2) := ⟨3, 519, (congrArg (fun l => pm_look l 38) cq_121).trans rfl⟩
theorem lk_121_41 : Lk 121 41 (.getfield 105) 6 5 (0) := ⟨3, 233, (congrArg (fun l => pm_look l 41) cq_121).trans rfl⟩
theorem lk_121_44 : Lk 121 44 (.putfield 108) 11 11 (0) := ⟨3, 530, (congrArg (fun l => pm_look l 44) cq_121).trans rfl⟩
theorem lk_121_47 : Lk 121 47 (.iconst 0) 0 0 (0) := ⟨1, 0, (congrArg (fun l => pm_look l 47) cq_121).trans rfl⟩
theorem lk_121_48 : Lk 121 48 (.istore_n 2) 0 0 (0) := ⟨1, 0, (congrArg (fun l => pm_look l 48) cq_121).trans rfl⟩
theorem lk_121_49 : Lk 121 49 (.iload_n 2) 0 0 (0) := ⟨1, 0, (congrArg (fun l => pm_look l 49) cq_121).trans rfl⟩
theorem lk_121_50 : Lk 121 50 (.aload_n 0) 0 0 (0) := ⟨1, 0, (congrArg (fun l => pm_look l 50) cq_121).trans rfl⟩
theorem lk_121_51 : Lk 121 51 (.getfield 108) 11 11 (0) := ⟨3, 530, (congrArg (fun l => pm_look l 51) cq_121).trans rfl⟩
theorem lk_121_54 : Lk 121 54 (.if_icmp .ge 31) 0 0 (0) := ⟨3, 0, (congrArg (fun l => pm_look l 54) cq_121).trans rfl⟩
theorem lk_121_57 : Lk 121 57 (.aload_n 0) 0 0 (0) := ⟨1, 0, (congrArg (fun l => pm_look l 57) cq_121).trans rfl⟩
theorem lk_121_58 : Lk 121 58 (.getfield 25) 11 2 (2) := ⟨3, 521, (congrArg (fun l => pm_look l 58) cq_121).trans rfl⟩
theorem lk_121_61 : Lk 121 61 (.iload_n 2) 0 0 (0) := ⟨1, 0, (congrArg (fun l => pm_look l 61) cq_121).trans rfl⟩
theorem lk_121_62 : Lk 121 62 (.aaload) 0 0 (0) := ⟨1, 0, (congrArg (fun l => pm_look l 62) cq_121).trans rfl⟩
theorem lk_121_63 : Lk 121 63 (.aload_n 0) 0 0 (0) := ⟨1, 0, (congrArg (fun l => pm_look l 63) cq_121).trans rfl⟩
theorem lk_121_64 : Lk 121 64 (.getfield 10) 11 0 (2) := ⟨3, 519, (congrArg (fun l => pm_look l 64) cq_121).trans rfl⟩
theorem lk_121_67 : Lk 121 67 (.getfield 109) 6 2 (2) := ⟨3, 228, (congrArg (fun l => pm_look l 67) cq_121).trans rfl⟩
theorem lk_121_70 : Lk 121 70 (.iload_n 2) 0 0 (0) := ⟨1, 0, (congrArg (fun l => pm_look l 70) cq_121).trans rfl⟩
theorem lk_121_71 : Lk 121 71 (.aaload) 0 0 (0) := ⟨1, 0, (congrArg (fun l => pm_look l 71) cq_121).trans rfl⟩
theorem lk_121_72 : Lk 121 72 (.aload_n 0) 0 0 (0) := ⟨1, 0, (congrArg (fun l => pm_look l 72) cq_121).trans rfl⟩
theorem lk_121_73 : Lk 121 73 (.getfield 19) 11 1 (2) := ⟨3, 520, (congrArg (fun l => pm_look l 73) cq_121).trans rfl⟩
theorem lk_121_76 : Lk 121 76 (.invokevirtual 112) 97 0 (0) := ⟨3, 645, (congrArg (fun l => pm_look l 76) cq_121).trans rfl⟩
theorem lk_121_79 : Lk 121 79 (.iinc 2 1) 0 0 (0) := ⟨3, 0, (congrArg (fun l => pm_look l 79) cq_121).trans rfl⟩
theorem lk_121_82 : Lk 121 82 (.goto (-33)) 0 0 (0) := ⟨3, 0, (congrArg (fun l => pm_look l 82) cq_121).trans rfl⟩
theorem lk_121_85 : Lk 121 85 (.aload_n 0) 0 0 (0) := ⟨1, 0, (congrArg (fun l => pm_look l 85) cq_121).trans rfl⟩
theorem lk_121_86 : Lk 121 86 (.iconst 0) 0 0 (0) := ⟨1, 0, (congrArg (fun l => pm_look l 86) cq_121).trans rfl⟩
theorem lk_121_87 : Lk 121 87 (.putfield 116) 11 12 (0) := ⟨3, 531, (congrArg (fun l => pm_look l 87) cq_121).trans rfl⟩
theorem lk_121_90 : Lk 121 90 (.aload_n 0) 0 0 (0) := ⟨1, 0, (congrArg (fun l => pm_look l 90) cq_121).trans rfl⟩
theorem lk_121_91 : Lk 121 91 (.invokevirtual 119) 154 0 (0) := ⟨3, 672, (congrArg (fun l => pm_look l 91) cq_121).trans rfl⟩
theorem lk_121_94 : Lk 121 94 (.aload_n 0) 0 0 (0) := ⟨1, 0, (congrArg (fun l => pm_look l 94) cq_121).trans rfl⟩
theorem lk_121_95 : Lk 121 95 (.getfield 108) 11 11 (0) := ⟨3, 530, (congrArg (fun l => pm_look l 95) cq_121).trans rfl⟩
theorem lk_121_98 : Lk 121 98 (.ireturn) 0 0 (0) := ⟨1, 0, (congrArg (fun l => pm_look l 98) cq_121).trans rfl⟩
theorem cq_122 : pm_code 122 = cd_122 := rfl
theorem lk_122_0 : Lk 122 0 (.iload_n 1) 0 0 (0) := ⟨1, 0, (congrArg (fun l => pm_look l 0) cq_122).trans rfl⟩
theorem lk_122_1 : Lk 122 1 (.lookupswitch 43 #[(0, 27), (1, 35)]) 0 0 (0) := ⟨27, 0, (congrArg (fun l => pm_look l 1) cq_122).trans rfl⟩
theorem lk_122_28 : Lk 122 28 (.aload_n 0) 0 0 (0) := ⟨1, 0, (congrArg (fun l => pm_look l 28) cq_122).trans rfl⟩
theorem lk_122_29 : Lk 122 29 (.getfield 10) 11 0 (2) := ⟨3, 519, (congrArg (fun l => pm_look l 29) cq_122).trans rfl⟩
theorem lk_122_32 : Lk 122 32 (.getfield 122) 6 6 (0) := ⟨3, 235, (congrArg (fun l => pm_look l 32) cq_122).trans rfl⟩
theorem lk_122_35 : Lk 122 35 (.ireturn) 0 0 (0) := ⟨1, 0, (congrArg (fun l => pm_look l 35) cq_122).trans rfl⟩
theorem lk_122_36 : Lk 122 36 (.aload_n 0) 0 0 (0) := ⟨1, 0, (congrArg (fun l => pm_look l 36) cq_122).trans rfl⟩
theorem lk_122_37 : Lk 122 37 (.getfield 10) 11 0 (2) := ⟨3, 519, (congrArg (fun l => pm_look l 37) cq_122).trans rfl⟩
theorem lk_122_40 : Lk 122 40 (.getfield 125) 6 7 (0) := ⟨3, 237, (congrArg (fun l => pm_look l 40) cq_122).trans rfl⟩
theorem lk_122_43 : Lk 122 43 (.ireturn) 0 0 (0) := ⟨1, 0, (congrArg (fun l => pm_look l 43) cq_122).trans rfl⟩
theorem lk_122_44 : Lk 122 44 (.iconst (-1)) 0 0 (0) := ⟨1, 0, (congrArg (fun l => pm_look l 44) cq_122).trans rfl⟩
theorem lk_122_45 : Lk 122 45 (.ireturn) 0 0 (0) := ⟨1, 0, (congrArg (fun l => pm_look l 45) cq_122).trans rfl⟩
theorem cq_123 : pm_code 123 = cd_123 := rfl
theorem lk_123_0 : Lk 123 0 (.iload_n 1) 0 0 (0) := ⟨1, 0, (congrArg (fun l => pm_look l 0) cq_123).trans rfl⟩
theorem lk_123_1 : Lk 123 1 (.tableswitch 161 0 8 #[51, 59, 67, 72, 77, 85, 93, 101, 123]) 0 0 (0) := ⟨51, 0, (congrArg (fun l => pm_look l 1) cq_123).trans rfl⟩
theorem lk_123_52 : Lk 123 52 (.aload_n 0) 0 0 (0) := ⟨1, 0, (congrArg (fun l => pm_look l 52) cq_123).trans rfl⟩
theorem lk_123_53 : Lk 123 53 (.getfield 19) 11 1 (2) := ⟨3, 520, (congrArg (fun l => pm_look l 53) cq_123).trans rfl⟩
theorem lk_123_56 : Lk 123 56 (.getfield 128) 8 1 (0) := ⟨3, 156, (congrArg (fun l => pm_look l 56) cq_123).trans rfl⟩
theorem lk_123_59 : Lk 123 59 (.ireturn) 0 0 (0) := ⟨1, 0, (congrArg (fun l => pm_look l 59) cq_123).trans rfl⟩
theorem lk_123_60 : Lk 123 60 (.aload_n 0) 0 0 (0) := ⟨1, 0, (congrArg (fun l => pm_look l 60) cq_123).trans rfl⟩
theorem lk_123_61 : Lk 123 61 (.getfield 19) 11 1 (2) := ⟨3, 520, (congrArg (fun l => pm_look l 61) cq_123).trans rfl⟩
theorem lk_123_64 : Lk 123 64 (.getfield 131) 8 2 (0) := ⟨3, 165, (congrArg (fun l => pm_look l 64) cq_123).trans rfl⟩
theorem lk_123_67 : Lk 123 67 (.ireturn) 0 0 (0) := ⟨1, 0, (congrArg (fun l => pm_look l 67) cq_123).trans rfl⟩
theorem lk_123_68 : Lk 123 68 (.aload_n 0) 0 0 (0) := ⟨1, 0, (congrArg (fun l => pm_look l 68) cq_123).trans rfl⟩
theorem lk_123_69 : Lk 123 69 (.getfield 108) 11 11 (0) := ⟨3, 530, (congrArg (fun l => pm_look l 69) cq_123).trans rfl⟩
theorem lk_123_72 : Lk 123 72 (.ireturn) 0 0 (0) := ⟨1, 0, (congrArg (fun l => pm_look l 72) cq_123).trans rfl⟩
theorem lk_123_73 : Lk 123 73 (.aload_n 0) 0 0 (0) := ⟨1, 0, (congrArg (fun l => pm_look l 73) cq_123).trans rfl⟩
theorem lk_123_74 : Lk 123 74 (.getfield 116) 11 12 (0) := ⟨3, 531, (congrArg (fun l => pm_look l 74) cq_123).trans rfl⟩
theorem lk_123_77 : Lk 123 77 (.ireturn) 0 0 (0) := ⟨1, 0, (congrArg (fun l => pm_look l 77) cq_123).trans rfl⟩
theorem lk_123_78 : Lk 123 78 (.aload_n 0) 0 0 (0) := ⟨1, 0, (congrArg (fun l => pm_look l 78) cq_123).trans rfl⟩
theorem lk_123_79 : Lk 123 79 (.getfield 10) 11 0 (2) := ⟨3, 519, (congrArg (fun l => pm_look l 79) cq_123).trans rfl⟩
theorem lk_123_82 : Lk 123 82 (.getfield 89) 6 4 (0) := ⟨3, 230, (congrArg (fun l => pm_look l 82) cq_123).trans rfl⟩
theorem lk_123_85 : Lk 123 85 (.ireturn) 0 0 (0) := ⟨1, 0, (congrArg (fun l => pm_look l 85) cq_123).trans rfl⟩
theorem lk_123_86 : Lk 123 86 (.aload_n 0) 0 0 (0) := ⟨1, 0, (congrArg (fun l => pm_look l 86) cq_123).trans rfl⟩
theorem lk_123_87 : Lk 123 87 (.getfield 19) 11 1 (2) := ⟨3, 520, (congrArg (fun l => pm_look l 87) cq_123).trans rfl⟩
theorem lk_123_90 : Lk 123 90 (.getfield 134) 8 3 (0) := ⟨3, 172, (congrArg (fun l => pm_look l 90) cq_123).trans rfl⟩
theorem lk_123_93 : Lk 123 93 (.ireturn) 0 0 (0) := ⟨1, 0, (congrArg (fun l => pm_look l 93) cq_123).trans rfl⟩
theorem lk_123_94 : Lk 123 94 (.aload_n 0) 0 0 (0) := ⟨1, 0, (congrArg (fun l => pm_look l 94) cq_123).trans rfl⟩
theorem lk_123_95 : Lk 123 95 (.getfield 19) 11 1 (2) := ⟨3, 520, (congrArg (fun l => pm_look l 95) cq_123).trans rfl⟩
theorem lk_123_98 : Lk 123 98 (.getfield 137) 8 4 (0) := ⟨3, 179, (congrArg (fun l => pm_look l 98) cq_123).trans rfl⟩
theorem lk_123_101 : Lk 123 101 (.ireturn) 0 0 (0) := ⟨1, 0, (congrArg (fun l => pm_look l 101) cq_123).trans rfl⟩
theorem lk_123_102 : Lk 123 102 (.aload_n 0) 0 0 (0) := ⟨1, 0, (congrArg (fun l => pm_look l 102) cq_123).trans rfl⟩
theorem lk_123_103 : Lk 123 103 (.getfield 19) 11 1 (2) := ⟨3, 520, (congrArg (fun l => pm_look l 103) cq_123).trans rfl⟩
theorem lk_123_106 : Lk 123 106 (.aload_n 0) 0 0 (0) := ⟨1, 0, (congrArg (fun l => pm_look l 106) cq_123).trans rfl⟩
theorem lk_123_107 : Lk 123 107 (.getfield 19) 11 1 (2) := ⟨3, 520, (congrArg (fun l => pm_look l 107) cq_123).trans rfl⟩
theorem lk_123_110 : Lk 123 110 (.invokevirtual 140) 86 0 (0) := ⟨3, 684, (congrArg (fun l => pm_look l 110) cq_123).trans rfl⟩
theorem lk_123_113 : Lk 123 113 (.aload_n 0) 0 0 (0) := ⟨1, 0, (congrArg (fun l => pm_look l 113) cq_123).trans rfl⟩
theorem lk_123_114 : Lk 123 114 (.getfield 19) 11 1 (2) := ⟨3, 520, (congrArg (fun l => pm_look l 114) cq_123).trans rfl⟩
theorem lk_123_117 : Lk 123 117 (.invokevirtual 144) 87 0 (0) := ⟨3, 685, (congrArg (fun l => pm_look l 117) cq_123).trans rfl⟩
theorem lk_123_120 : Lk 123 120 (.invokevirtual 147) 88 0 (0) := ⟨3, 686, (congrArg (fun l => pm_look l 120) cq_123).trans rfl⟩
theorem lk_123_123 : Lk 123 123 (.ireturn) 0 0 (0) := ⟨1, 0, (congrArg (fun l => pm_look l 123) cq_123).trans rfl⟩
theorem lk_123_124 : Lk 123 124 (.aload_n 0) 0 0 (0) := ⟨1, 0, (congrArg (fun l => pm_look l 124) cq_123).trans rfl⟩
theorem lk_123_125 : Lk 123 125 (.getfield 19) 11 1 (2) := ⟨3, 520, (congrArg (fun l => pm_look l 125) cq_123).trans rfl⟩
theorem lk_123_128 : Lk 123 128 (.getfield 128) 8 1 (0) := ⟨3, 156, (congrArg (fun l => pm_look l 128) cq_123).trans rfl⟩
theorem lk_123_131 : Lk 123 131 (.aload_n 0) 0 0 (0) := ⟨1, 0, (congrArg (fun l => pm_look l 131) cq_123).trans rfl⟩
theorem lk_123_132 : Lk 123 132 (.getfield 19) 11 1 (2) := ⟨3, 520, (congrArg (fun l => pm_look l 132) cq_123).trans rfl⟩
theorem lk_123_135 : Lk 123 135 (.getfield 131) 8 2 (0) := ⟨3, 165, (congrArg (fun l => pm_look l 135) cq_123).trans rfl⟩
theorem lk_123_138 : Lk 123 138 (.imul) 0 0 (0) := ⟨1, 0, (congrArg (fun l => pm_look l 138) cq_123).trans rfl⟩
theorem lk_123_139 : Lk 123 139 (.aload_n 0) 0 0 (0) := ⟨1, 0, (congrArg (fun l => pm_look l 139) cq_123).trans rfl⟩
theorem lk_123_140 : Lk 123 140 (.getfield 19) 11 1 (2) := ⟨3, 520, (congrArg (fun l => pm_look l 140) cq_123).trans rfl⟩
theorem lk_123_143 : Lk 123 143 (.aload_n 0) 0 0 (0) := ⟨1, 0, (congrArg (fun l => pm_look l 143) cq_123).trans rfl⟩
theorem lk_123_144 : Lk 123 144 (.getfield 19) 11 1 (2) := ⟨3, 520, (congrArg (fun l => pm_look l 144) cq_123).trans rfl⟩
theorem lk_123_147 : Lk 123 147 (.invokevirtual 140) 86 0 (0) := ⟨3, 684, (congrArg (fun l => pm_look l 147) cq_123).trans rfl⟩
theorem lk_123_150 : Lk 123 150 (.aload_n 0) 0 0 (0) := ⟨1, 0, (congrArg (fun l => pm_look l 150) cq_123).trans rfl⟩
theorem lk_123_151 : Lk 123 151 (.getfield 19) 11 1 (2) := ⟨3, 520, (congrArg (fun l => pm_look l 151) cq_123).trans rfl⟩
theorem lk_123_154 : Lk 123 154 (.invokevirtual 144) 87 0 (0) := ⟨3, 685, (congrArg (fun l => pm_look l 154) cq_123).trans rfl⟩
theorem lk_123_157 : Lk 123 157 (.invokevirtual 151) 89 0 (0) := ⟨3, 697, (congrArg (fun l => pm_look l 157) cq_123).trans rfl⟩
theorem lk_123_160 : Lk 123 160 (.isub) 0 0 (0) := ⟨1, 0, (congrArg (fun l => pm_look l 160) cq_123).trans rfl⟩
theorem lk_123_161 : Lk 123 161 (.ireturn) 0 0 (0) := ⟨1, 0, (congrArg (fun l => pm_look l 161) cq_123).trans rfl⟩
theorem lk_123_162 : Lk 123 162 (.iconst (-1)) 0 0 (0) := ⟨1, 0, (congrArg (fun l => pm_look l 162) cq_123).trans rfl⟩
theorem lk_123_163 : Lk 123 163 (.ireturn) 0 0 (0) := ⟨1, 0, (congrArg (fun l => pm_look l 163) cq_123).trans rfl⟩
theorem cq_124 : pm_code 124 = cd_124 := rfl
theorem lk_124_0 : Lk 124 0 (.aload_n 0) 0 0 (0) := ⟨1, 0, (congrArg (fun l => pm_look l 0) cq_124).trans rfl⟩
theorem lk_124_1 : Lk 124 1 (.getfield 19) 11 1 (2) := ⟨3, 520, (congrArg (fun l => pm_look l 1) cq_124).trans rfl⟩
theorem lk_124_4 : Lk 124 4 (.iload_n 1) 0 0 (0) := ⟨1, 0, (congrArg (fun l => pm_look l 4) cq_124).trans rfl⟩
theorem lk_124_5 : Lk 124 5 (.iload_n 2) 0 0 (0) := ⟨1, 0, (congrArg (fun l => pm_look l 5) cq_124).trans rfl⟩
theorem lk_124_6 : Lk 124 6 (.invokevirtual 154) 84 0 (0) := ⟨3, 724, (congrArg (fun l => pm_look l 6) cq_124).trans rfl⟩
theorem lk_124_9 : Lk 124 9 (.ifCond .eq 15) 0 0 (0) := ⟨3, 0, (congrArg (fun l => pm_look l 9) cq_124).trans rfl⟩
theorem lk_124_12 : Lk 124 12 (.aload_n 0) 0 0 (0) := ⟨1, 0, (congrArg (fun l => pm_look l 12) cq_124).trans rfl⟩
theorem lk_124_13 : Lk 124 13 (.getfield 19) 11 1 (2) := ⟨3, 520, (congrArg (fun l => pm_look l 13) cq_124).trans rfl⟩
theorem lk_124_16 : Lk 124 16 (.iload_n 1) 0 0 (0) := ⟨1, 0, (congrArg (fun l => pm_look l 16) cq_124).trans rfl⟩
theorem lk_124_17 : Lk 124 17 (.iload_n 2) 0 0 (0) := ⟨1, 0, (congrArg (fun l => pm_look l 17) cq_124).trans rfl⟩
theorem lk_124_18 : Lk 124 18 (.invokevirtual 158) 85 0 (0) := ⟨3, 728, (congrArg (fun l => pm_look l 18) cq_124).trans rfl⟩
theorem lk_124_21 : Lk 124 21 (.goto 4) 0 0 (0) := ⟨3, 0, (congrArg (fun l => pm_look l 21) cq_124).trans rfl⟩
theorem lk_124_24 : Lk 124 24 (.iconst (-1)) 0 0 (0) := ⟨1, 0, (congrArg (fun l => pm_look l 24) cq_124).trans rfl⟩
theorem lk_124_25 : Lk 124 25 (.ireturn) 0 0 (0) := ⟨1, 0, (congrArg (fun l => pm_look l 25) cq_124).trans rfl⟩
theorem cq_125 : pm_code 125 = cd_125 := rfl
theorem lk_125_0 : Lk 125 0 (.iload_n 1) 0 0 (0) := ⟨1, 0, (congrArg (fun l => pm_look l 0) cq_125).trans rfl⟩
theorem lk_125_1 : Lk 125 1 (.ifCond .le 29) 0 0 (0) := ⟨3, 0, (congrArg (fun l => pm_look l 1) cq_125).trans rfl⟩
theorem lk_125_4 : Lk 125 4 (.iload_n 1) 0 0 (0) := ⟨1, 0, (congrArg (fun l => pm_look l 4) cq_125).trans rfl⟩
theorem lk_125_5 : Lk 125 5 (.aload_n 0) 0 0 (0) := ⟨1, 0, (congrArg (fun l => pm_look l 5) cq_125).trans rfl⟩
theorem lk_125_6 : Lk 125 6 (.getfield 19) 11 1 (2) := ⟨3, 520, (congrArg (fun l => pm_look l 6) cq_125).trans rfl⟩
theorem lk_125_9 : Lk 125 9 (.invokevirtual 140) 86 0 (0) := ⟨3, 684, (congrArg (fun l => pm_look l 9) cq_125).trans rfl⟩
theorem lk_125_12 : Lk 125 12 (.if_icmp .gt 18) 0 0 (0) := ⟨3, 0, (congrArg (fun l => pm_look l 12) cq_125).trans rfl⟩
theorem lk_125_15 : Lk 125 15 (.iload_n 2) 0 0 (0) := ⟨1, 0, (congrArg (fun l => pm_look l 15) cq_125).trans rfl⟩
theorem lk_125_16 : Lk 125 16 (.ifCond .le 14) 0 0 (0) := ⟨3, 0, (congrArg (fun l => pm_look l 16) cq_125).trans rfl⟩
theorem lk_125_19 : Lk 125 19 (.iload_n 2) 0 0 (0) := ⟨1, 0, (congrArg (fun l => pm_look l 19) cq_125).trans rfl⟩
theorem lk_125_20 : Lk 125 20 (.aload_n 0) 0 0 (0) := ⟨1, 0, (congrArg (fun l => pm_look l 20) cq_125).trans rfl⟩
theorem lk_125_21 : Lk 125 21 (.getfield 19) 11 1 (2) := ⟨3, 520, (congrArg (fun l => pm_look l 21) cq_125).trans rfl⟩
theorem lk_125_24 : Lk 125 24 (.invokevirtual 144) 87 0 (0) := ⟨3, 685, (congrArg (fun l => pm_look l 24) cq_125).trans rfl⟩
theorem lk_125_27 : Lk 125 27 (.if_icmp .le 5) 0 0 (0) := ⟨3, 0, (congrArg (fun l => pm_look l 27) cq_125).trans rfl⟩
theorem lk_125_30 : Lk 125 30 (.iconst (-1)) 0 0 (0) := ⟨1, 0, (congrArg (fun l => pm_look l 30) cq_125).trans rfl⟩
theorem lk_125_31 : Lk 125 31 (.ireturn) 0 0 (0) := ⟨1, 0, (congrArg (fun l => pm_look l 31) cq_125).trans rfl⟩
theorem lk_125_32 : Lk 125 32 (.aload_n 0) 0 0 (0) := ⟨1, 0, (congrArg (fun l => pm_look l 32) cq_125).trans rfl⟩
theorem lk_125_33 : Lk 125 33 (.getfield 19) 11 1 (2) := ⟨3, 520, (congrArg (fun l => pm_look l 33) cq_125).trans rfl⟩
theorem lk_125_36 : Lk 125 36 (.iload_n 1) 0 0 (0) := ⟨1, 0, (congrArg (fun l => pm_look l 36) cq_125).trans rfl⟩
theorem lk_125_37 : Lk 125 37 (.iload_n 2) 0 0 (0) := ⟨1, 0, (congrArg (fun l => pm_look l 37) cq_125).trans rfl⟩
theorem lk_125_38 : Lk 125 38 (.invokevirtual 147) 88 0 (0) := ⟨3, 686, (congrArg (fun l => pm_look l 38) cq_125).trans rfl⟩
theorem lk_125_41 : Lk 125 41 (.istore 4) 0 0 (0) := ⟨2, 0, (congrArg (fun l => pm_look l 41) cq_125).trans rfl⟩
theorem lk_125_43 : Lk 125 43 (.iload_n 3) 0 0 (0) := ⟨1, 0, (congrArg (fun l => pm_look l 43) cq_125).trans rfl⟩
theorem lk_125_44 : Lk 125 44 (.tableswitch 80 0 3 #[32, 46, 64, 74]) 0 0 (0) := ⟨32, 0, (congrArg (fun l => pm_look l 44) cq_125).trans rfl⟩
theorem lk_125_76 : Lk 125 76 (.iload 4) 0 0 (0) := ⟨2, 0, (congrArg (fun l => pm_look l 76) cq_125).trans rfl⟩
theorem lk_125_78 : Lk 125 78 (.invokestatic 161) 163 0 (0) := ⟨3, 733, (congrArg (fun l => pm_look l 78) cq_125).trans rfl⟩
theorem lk_125_81 : Lk 125 81 (.ifCond .eq 7) 0 0 (0) := ⟨3, 0, (congrArg (fun l => pm_look l 81) cq_125).trans rfl⟩
theorem lk_125_84 : Lk 125 84 (.iconst 1) 0 0 (0) := ⟨1, 0, (congrArg (fun l => pm_look l 84) cq_125).trans rfl⟩
theorem lk_125_85 : Lk 125 85 (.goto 4) 0 0 (0) := ⟨3, 0, (congrArg (fun l => pm_look l 85) cq_125).trans rfl⟩
theorem lk_125_88 : Lk 125 88 (.iconst 0) 0 0 (0) := ⟨1, 0, (congrArg (fun l => pm_look l 88) cq_125).trans rfl⟩
theorem lk_125_89 : Lk 125 89 (.ireturn) 0 0 (0) := ⟨1, 0, (congrArg (fun l => pm_look l 89) cq_125).trans rfl⟩
theorem lk_125_90 : Lk 125 90 (.iload 4) 0 0 (0) := ⟨2, 0, (congrArg (fun l => pm_look l 90) cq_125).trans rfl⟩
theorem lk_125_92 : Lk 125 92 (.invokestatic 161) 163 0 (0) := ⟨3, 733, (congrArg (fun l => pm_look l 92) cq_125).trans rfl⟩
theorem lk_125_95 : Lk 125 95 (.ifCond .eq 11) 0 0 (0) := ⟨3, 0, (congrArg (fun l => pm_look l 95) cq_125).trans rfl⟩
theorem lk_125_98 : Lk 125 98 (.iload 4) 0 0 (0) := ⟨2, 0, (congrArg (fun l => pm_look l 98) cq_125).trans rfl⟩
theorem lk_125_100 : Lk 125 100 (.invokestatic 165) 164 0 (0) := ⟨3, 736, (congrArg (fun l => pm_look l 100) cq_125).trans rfl⟩
theorem lk_125_103 : Lk 125 103 (.goto 4) 0 0 (0) := ⟨3, 0, (congrArg (fun l => pm_look l 103) cq_125).trans rfl⟩
theorem lk_125_106 : Lk 125 106 (.iconst (-1)) 0 0 (0) := ⟨1, 0, (congrArg (fun l => pm_look l 106) cq_125).trans rfl⟩
theorem lk_125_107 : Lk 125 107 (.ireturn) 0 0 (0) := ⟨1, 0, (congrArg (fun l => pm_look l 107) cq_125).trans rfl⟩
theorem lk_125_108 : Lk 125 108 (.aload_n 0) 0 0 (0) := ⟨1, 0, (congrArg (fun l => pm_look l 108) cq_125).trans rfl⟩
theorem lk_125_109 : Lk 125 109 (.getfield 19) 11 1 (2) := ⟨3, 520, (congrArg (fun l => pm_look l 109) cq_125).trans rfl⟩
theorem lk_125_112 : Lk 125 112 (.iload_n 1) 0 0 (0) := ⟨1, 0, (congrArg (fun l => pm_look l 112) cq_125).trans rfl⟩
theorem lk_125_113 : Lk 125 113 (.iload_n 2) 0 0 (0) := ⟨1, 0, (congrArg (fun l => pm_look l 113) cq_125).trans rfl⟩
theorem lk_125_114 : Lk 125 114 (.invokevirtual 151) 89 0 (0) := ⟨3, 697, (congrArg (fun l => pm_look l 114) cq_125).trans rfl⟩
theorem lk_125_117 : Lk 125 117 (.ireturn) 0 0 (0) := ⟨1, 0, (congrArg (fun l => pm_look l 117) cq_125).trans rfl⟩
theorem lk_125_118 : Lk 125 118 (.iload 4) 0 0 (0) := ⟨2, 0, (congrArg (fun l => pm_look l 118) cq_125).trans rfl⟩
theorem lk_125_120 : Lk 125 120 (.invokestatic 169) 265 0 (0) := ⟨3, 742, (congrArg (fun l => pm_look l 120) cq_125).trans rfl⟩
theorem lk_125_123 : Lk 125 123 (.ireturn) 0 0 (0) := ⟨1, 0, (congrArg (fun l => pm_look l 123) cq_125).trans rfl⟩
theorem lk_125_124 : Lk 125 124 (.iconst (-1)) 0 0 (0) := ⟨1, 0, (congrArg (fun l => pm_look l 124) cq_125).trans rfl⟩
theorem lk_125_125 : Lk 125 125 (.ireturn) 0 0 (0) := ⟨1, 0, (congrArg (fun l => pm_look l 125) cq_125).trans rfl⟩
theorem cq_126 : pm_code 126 = cd_126 := rfl
theorem lk_126_0 : Lk 126 0 (.iload_n 1) 0 0 (0) := ⟨1, 0, (congrArg (fun l => pm_look l 0) cq_126).trans rfl⟩
theorem lk_126_1 : Lk 126 1 (.invokestatic 174) 159 0 (0) := ⟨3, 747, (congrArg (fun l => pm_look l 1) cq_126).trans rfl⟩
theorem lk_126_4 : Lk 126 4 (.ifCond .ne 5) 0 0 (0) := ⟨3, 0, (congrArg (fun l => pm_look l 4) cq_126).trans rfl⟩
theorem lk_126_7 : Lk 126 7 (.iconst (-1)) 0 0 (0) := ⟨1, 0, (congrArg (fun l => pm_look l 7) cq_126).trans rfl⟩
theorem lk_126_8 : Lk 126 8 (.ireturn) 0 0 (0) := ⟨1, 0, (congrArg (fun l => pm_look l 8) cq_126).trans rfl⟩
theorem lk_126_9 : Lk 126 9 (.aload_n 0) 0 0 (0) := ⟨1, 0, (congrArg (fun l => pm_look l 9) cq_126).trans rfl⟩
theorem lk_126_10 : Lk 126 10 (.getfield 38) 11 4 (2) := ⟨3, 523, (congrArg (fun l => pm_look l 10) cq_126).trans rfl⟩
theorem lk_126_13 : Lk 126 13 (.iload_n 1) 0 0 (0) := ⟨1, 0, (congrArg (fun l => pm_look l 13) cq_126).trans rfl⟩
theorem lk_126_14 : Lk 126 14 (.invokevirtual 177) 41 0 (0) := ⟨3, 750, (congrArg (fun l => pm_look l 14) cq_126).trans rfl⟩
theorem lk_126_17 : Lk 126 17 (.aload_n 0) 0 0 (0) := ⟨1, 0, (congrArg (fun l => pm_look l 17) cq_126).trans rfl⟩
theorem lk_126_18 : Lk 126 18 (.getfield 38) 11 4 (2) := ⟨3, 523, (congrArg (fun l => pm_look l 18) cq_126).trans rfl⟩
theorem lk_126_21 : Lk 126 21 (.invokevirtual 179) 46 0 (0) := ⟨3, 756, (congrArg (fun l => pm_look l 21) cq_126).trans rfl⟩
theorem lk_126_24 : Lk 126 24 (.aload_n 0) 0 0 (0) := ⟨1, 0, (congrArg (fun l => pm_look l 24) cq_126).trans rfl⟩
theorem lk_126_25 : Lk 126 25 (.getfield 38) 11 4 (2) := ⟨3, 523, (congrArg (fun l => pm_look l 25) cq_126).trans rfl⟩
theorem lk_126_28 : Lk 126 28 (.getfield 182) 5 7 (0) := ⟨3, 294, (congrArg (fun l => pm_look l 28) cq_126).trans rfl⟩
theorem lk_126_31 : Lk 126 31 (.ifCond .ne 5) 0 0 (0) := ⟨3, 0, (congrArg (fun l => pm_look l 31) cq_126).trans rfl⟩
theorem lk_126_34 : Lk 126 34 (.iconst (-1)) 0 0 (0) := ⟨1, 0, (congrArg (fun l => pm_look l 34) cq_126).trans rfl⟩
theorem lk_126_35 : Lk 126 35 (.ireturn) 0 0 (0) := ⟨1, 0, (congrArg (fun l => pm_look l 35) cq_126).trans rfl⟩
theorem lk_126_36 : Lk 126 36 (.iload_n 2) 0 0 (0) := ⟨1, 0, (congrArg (fun l => pm_look l 36) cq_126).trans rfl⟩
theorem lk_126_37 : Lk 126 37 (.tableswitch 51 0 2 #[27, 35, 43]) 0 0 (0) := ⟨27, 0, (congrArg (fun l => pm_look l 37) cq_126).trans rfl⟩
theorem lk_126_64 : Lk 126 64 (.aload_n 0) 0 0 (0) := ⟨1, 0, (congrArg (fun l => pm_look l 64) cq_126).trans rfl⟩
theorem lk_126_65 : Lk 126 65 (.getfield 38) 11 4 (2) := ⟨3, 523, (congrArg (fun l => pm_look l 65) cq_126).trans rfl⟩
theorem lk_126_68 : Lk 126 68 (.getfield 182) 5 7 (0) := ⟨3, 294, (congrArg (fun l => pm_look l 68) cq_126).trans rfl⟩
theorem lk_126_71 : Lk 126 71 (.ireturn) 0 0 (0) := ⟨1, 0, (congrArg (fun l => pm_look l 71) cq_126).trans rfl⟩
theorem lk_126_72 : Lk 126 72 (.aload_n 0) 0 0 (0) := ⟨1, 0, (congrArg (fun l => pm_look l 72) cq_126).trans rfl⟩
theorem lk_126_73 : Lk 126 73 (.getfield 38) 11 4 (2) := ⟨3, 523, (congrArg (fun l => pm_look l 73) cq_126).trans rfl⟩
theorem lk_126_76 : Lk 126 76 (.getfield 185) 5 8 (0) := ⟨3, 296, (congrArg (fun l => pm_look l 76) cq_126).trans rfl⟩
theorem lk_126_79 : Lk 126 79 (.ireturn) 0 0 (0) := ⟨1, 0, (congrArg (fun l => pm_look l 79) cq_126).trans rfl⟩
theorem lk_126_80 : Lk 126 80 (.aload_n 0) 0 0 (0) := ⟨1, 0, (congrArg (fun l => pm_look l 80) cq_126).trans rfl⟩
theorem lk_126_81 : Lk 126 81 (.getfield 38) 11 4 (2) := ⟨3, 523, (congrArg (fun l => pm_look l 81) cq_126).trans rfl⟩
theorem lk_126_84 : Lk 126 84 (.getfield 188) 5 9 (0) := ⟨3, 298, (congrArg (fun l => pm_look l 84) cq_126).trans rfl⟩
theorem lk_126_87 : Lk 126 87 (.ireturn) 0 0 (0) := ⟨1, 0, (congrArg (fun l => pm_look l 87) cq_126).trans rfl⟩
theorem lk_126_88 : Lk 126 88 (.iconst (-1)) 0 0 (0) := ⟨1, 0, (congrArg (fun l => pm_look l 88) cq_126).trans rfl⟩
theorem lk_126_89 : Lk 126 89 (.ireturn) 0 0 (0) := ⟨1, 0, (congrArg (fun l => pm_look l 89) cq_126).trans rfl⟩
theorem cq_127 : pm_code 127 = cd_127 := rfl
theorem lk_127_0 : Lk 127 0 (.iload_n 1) 0 0 (0) := ⟨1, 0, (congrArg (fun l => pm_look l 0) cq_127).trans rfl⟩
theorem lk_127_1 : Lk 127 1 (.invokestatic 174) 159 0 (0) := ⟨3, 747, (congrArg (fun l => pm_look l 1) cq_127).trans rfl⟩
theorem lk_127_4 : Lk 127 4 (.ifCond .eq 11) 0 0 (0) := ⟨3, 0, (congrArg (fun l => pm_look l 4) cq_127).trans rfl⟩
theorem lk_127_7 : Lk 127 7 (.aload_n 0) 0 0 (0) := ⟨1, 0, (congrArg (fun l => pm_look l 7) cq_127).trans rfl⟩
theorem lk_127_8 : Lk 127 8 (.iload_n 1) 0 0 (0) := ⟨1, 0, (congrArg (fun l => pm_look l 8) cq_127).trans rfl⟩
theorem lk_127_9 : Lk 127 9 (.invokevirtual 191) 155 0 (0) := ⟨3, 785, (congrArg (fun l => pm_look l 9) cq_127).trans rfl⟩
theorem lk_127_12 : Lk 127 12 (.goto 4) 0 0 (0) := ⟨3, 0, (congrArg (fun l => pm_look l 12) cq_127).trans rfl⟩
theorem lk_127_15 : Lk 127 15 (.iconst (-1)) 0 0 (0) := ⟨1, 0, (congrArg (fun l => pm_look l 15) cq_127).trans rfl⟩
theorem lk_127_16 : Lk 127 16 (.ireturn) 0 0 (0) := ⟨1, 0, (congrArg (fun l => pm_look l 16) cq_127).trans rfl⟩
theorem cq_128 : pm_code 128 = cd_128 := rfl
theorem lk_128_0 : Lk 128 0 (.iload_n 1) 0 0 (0) := ⟨1, 0, (congrArg (fun l => pm_look l 0) cq_128).trans rfl⟩
theorem lk_128_1 : Lk 128 1 (.invokestatic 174) 159 0 (0) := ⟨3, 747, (congrArg (fun l => pm_look l 1) cq_128).trans rfl⟩
theorem lk_128_4 : Lk 128 4 (.ifCond .ne 5) 0 0 (0) := ⟨3, 0, (congrArg (fun l => pm_look l 4) cq_128).trans rfl⟩
theorem lk_128_7 : Lk 128 7 (.iconst (-1)) 0 0 (0) := ⟨1, 0, (congrArg (fun l => pm_look l 7) cq_128).trans rfl⟩
theorem lk_128_8 : Lk 128 8 (.ireturn) 0 0 (0) := ⟨1, 0, (congrArg (fun l => pm_look l 8) cq_128).trans rfl⟩
theorem lk_128_9 : Lk 128 9 (.aload_n 0) 0 0 (0) := ⟨1, 0, (congrArg (fun l => pm_look l 9) cq_128).trans rfl⟩
theorem lk_128_10 : Lk 128 10 (.getfield 38) 11 4 (2) := ⟨3, 523, (congrArg (fun l => pm_look l 10) cq_128).trans rfl⟩
theorem lk_128_13 : Lk 128 13 (.iload_n 1) 0 0 (0) := ⟨1, 0, (congrArg (fun l => pm_look l 13) cq_128).trans rfl⟩
theorem lk_128_14 : Lk 128 14 (.invokevirtual 177) 41 0 (0) := ⟨3, 750, (congrArg (fun l => pm_look l 14) cq_128).trans rfl⟩
theorem lk_128_17 : Lk 128 17 (.aload_n 0) 0 0 (0) := ⟨1, 0, (congrArg (fun l => pm_look l 17) cq_128).trans rfl⟩
theorem lk_128_18 : Lk 128 18 (.getfield 38) 11 4 (2) := ⟨3, 523, (congrArg (fun l => pm_look l 18) cq_128).trans rfl⟩
theorem lk_128_21 : Lk 128 21 (.invokevirtual 194) 48 0 (0) := ⟨3, 789, (congrArg (fun l => pm_look l 21) cq_128).trans rfl⟩
theorem lk_128_24 : Lk 128 24 (.iload_n 2) 0 0 (0) := ⟨1, 0, (congrArg (fun l => pm_look l 24) cq_128).trans rfl⟩
theorem lk_128_25 : Lk 128 25 (.iconst (-1)) 0 0 (0) := ⟨1, 0, (congrArg (fun l => pm_look l 25) cq_128).trans rfl⟩
theorem lk_128_26 : Lk 128 26 (.if_icmp .ne 11) 0 0 (0) := ⟨3, 0, (congrArg (fun l => pm_look l 26) cq_128).trans rfl⟩
theorem lk_128_29 : Lk 128 29 (.aload_n 0) 0 0 (0) := ⟨1, 0, (congrArg (fun l => pm_look l 29) cq_128).trans rfl⟩
theorem lk_128_30 : Lk 128 30 (.getfield 38) 11 4 (2) := ⟨3, 523, (congrArg (fun l => pm_look l 30) cq_128).trans rfl⟩
theorem lk_128_33 : Lk 128 33 (.getfield 197) 5 6 (0) := ⟨3, 292, (congrArg (fun l => pm_look l 33) cq_128).trans rfl⟩
theorem lk_128_36 : Lk 128 36 (.ireturn) 0 0 (0) := ⟨1, 0, (congrArg (fun l => pm_look l 36) cq_128).trans rfl⟩
theorem lk_128_37 : Lk 128 37 (.iload_n 2) 0 0 (0) := ⟨1, 0, (congrArg (fun l => pm_look l 37) cq_128).trans rfl⟩
theorem lk_128_38 : Lk 128 38 (.ifCond .lt 14) 0 0 (0) := ⟨3, 0, (congrArg (fun l => pm_look l 38) cq_128).trans rfl⟩
theorem lk_128_41 : Lk 128 41 (.iload_n 2) 0 0 (0) := ⟨1, 0, (congrArg (fun l => pm_look l 41) cq_128).trans rfl⟩
theorem lk_128_42 : Lk 128 42 (.aload_n 0) 0 0 (0) := ⟨1, 0, (congrArg (fun l => pm_look l 42) cq_128).trans rfl⟩
theorem lk_128_43 : Lk 128 43 (.getfield 38) 11 4 (2) := ⟨3, 523, (congrArg (fun l => pm_look l 43) cq_128).trans rfl⟩
theorem lk_128_46 : Lk 128 46 (.getfield 197) 5 6 (0) := ⟨3, 292, (congrArg (fun l => pm_look l 46) cq_128).trans rfl⟩
theorem lk_128_49 : Lk 128 49 (.if_icmp .lt 5) 0 0 (0) := ⟨3, 0, (congrArg (fun l => pm_look l 49) cq_128).trans rfl⟩
theorem lk_128_52 : Lk 128 52 (.iconst (-1)) 0 0 (0) := ⟨1, 0, (congrArg (fun l => pm_look l 52) cq_128).trans rfl⟩
theorem lk_128_53 : Lk 128 53 (.ireturn) 0 0 (0) := ⟨1, 0, (congrArg (fun l => pm_look l 53) cq_128).trans rfl⟩
theorem lk_128_54 : Lk 128 54 (.iload_n 3) 0 0 (0) := ⟨1, 0, (congrArg (fun l => pm_look l 54) cq_128).trans rfl⟩
theorem lk_128_55 : Lk 128 55 (.lookupswitch 45 #[(0, 25), (1, 35)]) 0 0 (0) := ⟨25, 0, (congrArg (fun l => pm_look l 55) cq_128).trans rfl⟩
theorem lk_128_80 : Lk 128 80 (.aload_n 0) 0 0 (0) := ⟨1, 0, (congrArg (fun l => pm_look l 80) cq_128).trans rfl⟩
theorem lk_128_81 : Lk 128 81 (.getfield 38) 11 4 (2) := ⟨3, 523, (congrArg (fun l => pm_look l 81) cq_128).trans rfl⟩
theorem lk_128_84 : Lk 128 84 (.getfield 200) 5 3 (2) := ⟨3, 287, (congrArg (fun l => pm_look l 84) cq_128).trans rfl⟩
theorem lk_128_87 : Lk 128 87 (.iload_n 2) 0 0 (0) := ⟨1, 0, (congrArg (fun l => pm_look l 87) cq_128).trans rfl⟩
theorem lk_128_88 : Lk 128 88 (.iaload) 0 0 (0) := ⟨1, 0, (congrArg (fun l => pm_look l 88) cq_128).trans rfl⟩
theorem lk_128_89 : Lk 128 89 (.ireturn) 0 0 (0) := ⟨1, 0, (congrArg (fun l => pm_look l 89) cq_128).trans rfl⟩
theorem lk_128_90 : Lk 128 90 (.aload_n 0) 0 0 (0) := ⟨1, 0, (congrArg (fun l => pm_look l 90) cq_128).trans rfl⟩
theorem lk_128_91 : Lk 128 91 (.getfield 38) 11 4 (2) := ⟨3, 523, (congrArg (fun l => pm_look l 91) cq_128).trans rfl⟩
theorem lk_128_94 : Lk 128 94 (.getfield 203) 5 4 (2) := ⟨3, 289, (congrArg (fun l => pm_look l 94) cq_128).trans rfl⟩
theorem lk_128_97 : Lk 128 97 (.iload_n 2) 0 0 (0) := ⟨1, 0, (congrArg (fun l => pm_look l 97) cq_128).trans rfl⟩
theorem lk_128_98 : Lk 128 98 (.iaload) 0 0 (0) := ⟨1, 0, (congrArg (fun l => pm_look l 98) cq_128).trans rfl⟩
theorem lk_128_99 : Lk 128 99 (.ireturn) 0 0 (0) := ⟨1, 0, (congrArg (fun l => pm_look l 99) cq_128).trans rfl⟩
theorem lk_128_100 : Lk 128 100 (.iconst (-1)) 0 0 (0) := ⟨1, 0, (congrArg (fun l => pm_look l 100) cq_128).trans rfl⟩
theorem lk_128_101 : Lk 128 101 (.ireturn) 0 0 (0) := ⟨1, 0, (congrArg (fun l => pm_look l 101) cq_128).trans rfl⟩
theorem cq_129 : pm_code 129 = cd_129 := rfl
theorem lk_129_0 : Lk 129 0 (.aload_n 0) 0 0 (0) := ⟨1, 0, (congrArg (fun l => pm_look l 0) cq_129).trans rfl⟩
theorem lk_129_1 : Lk 129 1 (.getfield 19) 11 1 (2) := ⟨3, 520, (congrArg (fun l => pm_look l 1) cq_129).trans rfl⟩
theorem lk_129_4 : Lk 129 4 (.iload_n 1) 0 0 (0) := ⟨1, 0, (congrArg (fun l => pm_look l 4) cq_129).trans rfl⟩
theorem lk_129_5 : Lk 129 5 (.iload_n 2) 0 0 (0) := ⟨1, 0, (congrArg (fun l => pm_look l 5) cq_129).trans rfl⟩
theorem lk_129_6 : Lk 129 6 (.iload_n 3) 0 0 (0) := ⟨1, 0, (congrArg (fun l => pm_look l 6) cq_129).trans rfl⟩
theorem lk_129_7 : Lk 129 7 (.invokevirtual 206) 93 0 (0) := ⟨3, 850, (congrArg (fun l => pm_look l 7) cq_129).trans rfl⟩
theorem lk_129_10 : Lk 129 10 (.ireturn) 0 0 (0) := ⟨1, 0, (congrArg (fun l => pm_look l 10) cq_129).trans rfl⟩
theorem cq_130 : pm_code 130 = cd_130 := rfl
theorem lk_130_0 : Lk 130 0 (.aload_n 0) 0 0 (0) := ⟨1, 0, (congrArg (fun l => pm_look l 0) cq_130).trans rfl⟩
theorem lk_130_1 : Lk 130 1 (.getfield 19) 11 1 (2) := ⟨3, 520, (congrArg (fun l => pm_look l 1) cq_130).trans rfl⟩
theorem lk_130_4 : Lk 130 4 (.iload_n 1) 0 0 (0) := ⟨1, 0, (congrArg (fun l => pm_look l 4) cq_130).trans rfl⟩
theorem lk_130_5 : Lk 130 5 (.iload_n 2) 0 0 (0) := ⟨1, 0, (congrArg (fun l => pm_look l 5) cq_130).trans rfl⟩
theorem lk_130_6 : Lk 130 6 (.invokevirtual 154) 84 0 (0) := ⟨3, 724, (congrArg (fun l => pm_look l 6) cq_130).trans rfl⟩
theorem lk_130_9 : Lk 130 9 (.ifCond .eq 17) 0 0 (0) := ⟨3, 0, (congrArg (fun l => pm_look l 9) cq_130).trans rfl⟩
theorem lk_130_12 : Lk 130 12 (.aload_n 0) 0 0 (0) := ⟨1, 0, (congrArg (fun l => pm_look l 12) cq_130).trans rfl⟩
theorem lk_130_13 : Lk 130 13 (.getfield 19) 11 1 (2) := ⟨3, 520, (congrArg (fun l => pm_look l 13) cq_130).trans rfl⟩
theorem lk_130_16 : Lk 130 16 (.iload_n 1) 0 0 (0) := ⟨1, 0, (congrArg (fun l => pm_look l 16) cq_130).trans rfl⟩
theorem lk_130_17 : Lk 130 17 (.iload_n 2) 0 0 (0) := ⟨1, 0, (congrArg (fun l => pm_look l 17) cq_130).trans rfl⟩
theorem lk_130_18 : Lk 130 18 (.invokevirtual 158) 85 0 (0) := ⟨3, 728, (congrArg (fun l => pm_look l 18) cq_130).trans rfl⟩
theorem lk_130_21 : Lk 130 21 (.bipush 10) 0 0 (0) := ⟨2, 0, (congrArg (fun l => pm_look l 21) cq_130).trans rfl⟩
theorem lk_130_23 : Lk 130 23 (.if_icmp .ne 5) 0 0 (0) := ⟨3, 0, (congrArg (fun l => pm_look l 23) cq_130).trans rfl⟩
theorem lk_130_26 : Lk 130 26 (.iconst (-1)) 0 0 (0) := ⟨1, 0, (congrArg (fun l => pm_look l 26) cq_130).trans rfl⟩
theorem lk_130_27 : Lk 130 27 (.ireturn) 0 0 (0) := ⟨1, 0, (congrArg (fun l => pm_look l 27) cq_130).trans rfl⟩
theorem lk_130_28 : Lk 130 28 (.aload_n 0) 0 0 (0) := ⟨1, 0, (congrArg (fun l => pm_look l 28) cq_130).trans rfl⟩
theorem lk_130_29 : Lk 130 29 (.getfield 38) 11 4 (2) := ⟨3, 523, (congrArg (fun l => pm_look l 29) cq_130).trans rfl⟩
theorem lk_130_32 : Lk 130 32 (.aload_n 0) 0 0 (0) := ⟨1, 0, (congrArg (fun l => pm_look l 32) cq_130).trans rfl⟩
theorem lk_130_33 : Lk 130 33 (.getfield 19) 11 1 (2) := ⟨3, 520, (congrArg (fun l => pm_look l 33) cq_130).trans rfl⟩
theorem lk_130_36 : Lk 130 36 (.iload_n 1) 0 0 (0) := ⟨1, 0, (congrArg (fun l => pm_look l 36) cq_130).trans rfl⟩
theorem lk_130_37 : Lk 130 37 (.iload_n 2) 0 0 (0) := ⟨1, 0, (congrArg (fun l => pm_look l 37) cq_130).trans rfl⟩
theorem lk_130_38 : Lk 130 38 (.invokevirtual 158) 85 0 (0) := ⟨3, 728, (congrArg (fun l => pm_look l 38) cq_130).trans rfl⟩
theorem lk_130_41 : Lk 130 41 (.invokevirtual 177) 41 0 (0) := ⟨3, 750, (congrArg (fun l => pm_look l 41) cq_130).trans rfl⟩
theorem lk_130_44 : Lk 130 44 (.aload_n 0) 0 0 (0) := ⟨1, 0, (congrArg (fun l => pm_look l 44) cq_130).trans rfl⟩
theorem lk_130_45 : Lk 130 45 (.getfield 38) 11 4 (2) := ⟨3, 523, (congrArg (fun l => pm_look l 45) cq_130).trans rfl⟩
theorem lk_130_48 : Lk 130 48 (.iload_n 1) 0 0 (0) := ⟨1, 0, (congrArg (fun l => pm_look l 48) cq_130).trans rfl⟩
theorem lk_130_49 : Lk 130 49 (.iload_n 2) 0 0 (0) := ⟨1, 0, (congrArg (fun l => pm_look l 49) cq_130).trans rfl⟩
theorem lk_130_50 : Lk 130 50 (.invokevirtual 210) 47 0 (0) := ⟨3, 858, (congrArg (fun l => pm_look l 50) cq_130).trans rfl⟩
theorem lk_130_53 : Lk 130 53 (.ireturn) 0 0 (0) := ⟨1, 0, (congrArg (fun l => pm_look l 53) cq_130).trans rfl⟩
theorem cq_131 : pm_code 131 = cd_131 := rfl
theorem lk_131_0 : Lk 131 0 (.iload_n 1) 0 0 (0) := ⟨1, 0, (congrArg (fun l => pm_look l 0) cq_131).trans rfl⟩
theorem lk_131_1 : Lk 131 1 (.invokestatic 174) 159 0 (0) := ⟨3, 747, (congrArg (fun l => pm_look l 1) cq_131).trans rfl⟩
theorem lk_131_4 : Lk 131 4 (.ifCond .ne 5) 0 0 (0) := ⟨3, 0, (congrArg (fun l => pm_look l 4) cq_131).trans rfl⟩
theorem lk_131_7 : Lk 131 7 (.iconst (-1)) 0 0 (0) := ⟨1, 0, (congrArg (fun l => pm_look l 7) cq_131).trans rfl⟩
theorem lk_131_8 : Lk 131 8 (.ireturn) 0 0 (0) := ⟨1, 0, (congrArg (fun l => pm_look l 8) cq_131).trans rfl⟩
theorem lk_131_9 : Lk 131 9 (.aload_n 0) 0 0 (0) := ⟨1, 0, (congrArg (fun l => pm_look l 9) cq_131).trans rfl⟩
theorem lk_131_10 : Lk 131 10 (.getfield 45) 11 5 (2) := ⟨3, 524, (congrArg (fun l => pm_look l 10) cq_131).trans rfl⟩
theorem lk_131_13 : Lk 131 13 (.iload_n 1) 0 0 (0) := ⟨1, 0, (congrArg (fun l => pm_look l 13) cq_131).trans rfl⟩
theorem lk_131_14 : Lk 131 14 (.invokevirtual 213) 19 0 (0) := ⟨3, 797, (congrArg (fun l => pm_look l 14) cq_131).trans rfl⟩
theorem lk_131_17 : Lk 131 17 (.aload_n 0) 0 0 (0) := ⟨1, 0, (congrArg (fun l => pm_look l 17) cq_131).trans rfl⟩
theorem lk_131_18 : Lk 131 18 (.getfield 45) 11 5 (2) := ⟨3, 524, (congrArg (fun l => pm_look l 18) cq_131).trans rfl⟩
theorem lk_131_21 : Lk 131 21 (.invokevirtual 214) 23 0 (0) := ⟨3, 806, (congrArg (fun l => pm_look l 21) cq_131).trans rfl⟩
theorem lk_131_24 : Lk 131 24 (.iload_n 2) 0 0 (0) := ⟨1, 0, (congrArg (fun l => pm_look l 24) cq_131).trans rfl⟩
theorem lk_131_25 : Lk 131 25 (.iconst (-1)) 0 0 (0) := ⟨1, 0, (congrArg (fun l => pm_look l 25) cq_131).trans rfl⟩
theorem lk_131_26 : Lk 131 26 (.if_icmp .ne 11) 0 0 (0) := ⟨3, 0, (congrArg (fun l => pm_look l 26) cq_131).trans rfl⟩
theorem lk_131_29 : Lk 131 29 (.aload_n 0) 0 0 (0) := ⟨1, 0, (congrArg (fun l => pm_look l 29) cq_131).trans rfl⟩
theorem lk_131_30 : Lk 131 30 (.getfield 45) 11 5 (2) := ⟨3, 524, (congrArg (fun l => pm_look l 30) cq_131).trans rfl⟩
theorem lk_131_33 : Lk 131 33 (.getfield 215) 2 6 (0) := ⟨3, 335, (congrArg (fun l => pm_look l 33) cq_131).trans rfl⟩
theorem lk_131_36 : Lk 131 36 (.ireturn) 0 0 (0) := ⟨1, 0, (congrArg (fun l => pm_look l 36) cq_131).trans rfl⟩
theorem lk_131_37 : Lk 131 37 (.iload_n 2) 0 0 (0) := ⟨1, 0, (congrArg (fun l => pm_look l 37) cq_131).trans rfl⟩
theorem lk_131_38 : Lk 131 38 (.ifCond .lt 14) 0 0 (0) := ⟨3, 0, (congrArg (fun l => pm_look l 38) cq_131).trans rfl⟩
theorem lk_131_41 : Lk 131 41 (.iload_n 2) 0 0 (0) := ⟨1, 0, (congrArg (fun l => pm_look l 41) cq_131).trans rfl⟩
theorem lk_131_42 : Lk 131 42 (.aload_n 0) 0 0 (0) := ⟨1, 0, (congrArg (fun l => pm_look l 42) cq_131).trans rfl⟩
theorem lk_131_43 : Lk 131 43 (.getfield 45) 11 5 (2) := ⟨3, 524, (congrArg (fun l => pm_look l 43) cq_131).trans rfl⟩
theorem lk_131_46 : Lk 131 46 (.getfield 215) 2 6 (0) := ⟨3, 335, (congrArg (fun l => pm_look l 46) cq_131).trans rfl⟩
theorem lk_131_49 : Lk 131 49 (.if_icmp .lt 7) 0 0 (0) := ⟨3, 0, (congrArg (fun l => pm_look l 49) cq_131).trans rfl⟩
theorem lk_131_52 : Lk 131 52 (.iconst (-1)) 0 0 (0) := ⟨1, 0, (congrArg (fun l => pm_look l 52) cq_131).trans rfl⟩
theorem lk_131_53 : Lk 131 53 (.goto 19) 0 0 (0) := ⟨3, 0, (congrArg (fun l => pm_look l 53) cq_131).trans rfl⟩
theorem lk_131_56 : Lk 131 56 (.aload_n 0) 0 0 (0) := ⟨1, 0, (congrArg (fun l => pm_look l 56) cq_131).trans rfl⟩
theorem lk_131_57 : Lk 131 57 (.getfield 45) 11 5 (2) := ⟨3, 524, (congrArg (fun l => pm_look l 57) cq_131).trans rfl⟩
theorem lk_131_60 : Lk 131 60 (.aload_n 0) 0 0 (0) := ⟨1, 0, (congrArg (fun l => pm_look l 60) cq_131).trans rfl⟩
theorem lk_131_61 : Lk 131 61 (.getfield 45) 11 5 (2) := ⟨3, 524, (congrArg (fun l => pm_look l 61) cq_131).trans rfl⟩
theorem lk_131_64 : Lk 131 64 (.getfield 218) 2 4 (2) := ⟨3, 332, (congrArg (fun l => pm_look l 64) cq_131).trans rfl⟩
theorem lk_131_67 : Lk 131 67 (.iload_n 2) 0 0 (0) := ⟨1, 0, (congrArg (fun l => pm_look l 67) cq_131).trans rfl⟩
theorem lk_131_68 : Lk 131 68 (.iaload) 0 0 (0) := ⟨1, 0, (congrArg (fun l => pm_look l 68) cq_131).trans rfl⟩
theorem lk_131_69 : Lk 131 69 (.invokevirtual 221) 21 0 (0) := ⟨3, 866, (congrArg (fun l => pm_look l 69) cq_131).trans rfl⟩
theorem lk_131_72 : Lk 131 72 (.ireturn) 0 0 (0) := ⟨1, 0, (congrArg (fun l => pm_look l 72) cq_131).trans rfl⟩
theorem cq_132 : pm_code 132 = cd_132 := rfl
theorem lk_132_0 : Lk 132 0 (.iload_n 1) 0 0 (0) := ⟨1, 0, (congrArg (fun l => pm_look l 0) cq_132).trans rfl⟩
theorem lk_132_1 : Lk 132 1 (.invokestatic 174) 159 0 (0) := ⟨3, 747, (congrArg (fun l => pm_look l 1) cq_132).trans rfl⟩
theorem lk_132_4 : Lk 132 4 (.ifCond .eq 13) 0 0 (0) := ⟨3, 0, (congrArg (fun l => pm_look l 4) cq_132).trans rfl⟩
theorem lk_132_7 : Lk 132 7 (.iload_n 2) 0 0 (0) := ⟨1, 0, (congrArg (fun l => pm_look l 7) cq_132).trans rfl⟩
theorem lk_132_8 : Lk 132 8 (.ifCond .lt 9) 0 0 (0) := ⟨3, 0, (congrArg (fun l => pm_look l 8) cq_132).trans rfl⟩
theorem lk_132_11 : Lk 132 11 (.iload_n 2) 0 0 (0) := ⟨1, 0, (congrArg (fun l => pm_look l 11) cq_132).trans rfl⟩
theorem lk_132_12 : Lk 132 12 (.bipush 6) 0 0 (0) := ⟨2, 0, (congrArg (fun l => pm_look l 12) cq_132).trans rfl⟩
theorem lk_132_14 : Lk 132 14 (.if_icmp .le 5) 0 0 (0) := ⟨3, 0, (congrArg (fun l => pm_look l 14) cq_132).trans rfl⟩
theorem lk_132_17 : Lk 132 17 (.iconst (-1)) 0 0 (0) := ⟨1, 0, (congrArg (fun l => pm_look l 17) cq_132).trans rfl⟩
theorem lk_132_18 : Lk 132 18 (.ireturn) 0 0 (0) := ⟨1, 0, (congrArg (fun l => pm_look l 18) cq_132).trans rfl⟩
theorem lk_132_19 : Lk 132 19 (.aload_n 0) 0 0 (0) := ⟨1, 0, (congrArg (fun l => pm_look l 19) cq_132).trans rfl⟩
theorem lk_132_20 : Lk 132 20 (.getfield 45) 11 5 (2) := ⟨3, 524, (congrArg (fun l => pm_look l 20) cq_132).trans rfl⟩
theorem lk_132_23 : Lk 132 23 (.iload_n 1) 0 0 (0) := ⟨1, 0, (congrArg (fun l => pm_look l 23) cq_132).trans rfl⟩
theorem lk_132_24 : Lk 132 24 (.invokevirtual 213) 19 0 (0) := ⟨3, 797, (congrArg (fun l => pm_look l 24) cq_132).trans rfl⟩
theorem lk_132_27 : Lk 132 27 (.aload_n 0) 0 0 (0) := ⟨1, 0, (congrArg (fun l => pm_look l 27) cq_132).trans rfl⟩
theorem lk_132_28 : Lk 132 28 (.getfield 45) 11 5 (2) := ⟨3, 524, (congrArg (fun l => pm_look l 28) cq_132).trans rfl⟩
theorem lk_132_31 : Lk 132 31 (.iload_n 2) 0 0 (0) := ⟨1, 0, (congrArg (fun l => pm_look l 31) cq_132).trans rfl⟩
theorem lk_132_32 : Lk 132 32 (.invokevirtual 224) 25 0 (0) := ⟨3, 874, (congrArg (fun l => pm_look l 32) cq_132).trans rfl⟩
theorem lk_132_35 : Lk 132 35 (.ireturn) 0 0 (0) := ⟨1, 0, (congrArg (fun l => pm_look l 35) cq_132).trans rfl⟩
theorem cq_133 : pm_code 133 = cd_133 := rfl
theorem lk_133_0 : Lk 133 0 (.iload_n 1) 0 0 (0) := ⟨1, 0, (congrArg (fun l => pm_look l 0) cq_133).trans rfl⟩
theorem lk_133_1 : Lk 133 1 (.ifCond .eq 10) 0 0 (0) := ⟨3, 0, (congrArg (fun l => pm_look l 1) cq_133).trans rfl⟩
theorem lk_133_4 : Lk 133 4 (.iload_n 1) 0 0 (0) := ⟨1, 0, (congrArg (fun l => pm_look l 4) cq_133).trans rfl⟩
theorem lk_133_5 : Lk 133 5 (.invokestatic 227) 161 0 (0) := ⟨3, 886, (congrArg (fun l => pm_look l 5) cq_133).trans rfl⟩
theorem lk_133_8 : Lk 133 8 (.ifCond .eq 14) 0 0 (0) := ⟨3, 0, (congrArg (fun l => pm_look l 8) cq_133).trans rfl⟩
theorem lk_133_11 : Lk 133 11 (.aload_n 0) 0 0 (0) := ⟨1, 0, (congrArg (fun l => pm_look l 11) cq_133).trans rfl⟩
theorem lk_133_12 : Lk 133 12 (.getfield 52) 11 6 (2) := ⟨3, 525, (congrArg (fun l => pm_look l 12) cq_133).trans rfl⟩
theorem lk_133_15 : Lk 133 15 (.iload_n 1) 0 0 (0) := ⟨1, 0, (congrArg (fun l => pm_look l 15) cq_133).trans rfl⟩
theorem lk_133_16 : Lk 133 16 (.invokevirtual 230) 28 0 (0) := ⟨3, 889, (congrArg (fun l => pm_look l 16) cq_133).trans rfl⟩
theorem lk_133_19 : Lk 133 19 (.goto 4) 0 0 (0) := ⟨3, 0, (congrArg (fun l => pm_look l 19) cq_133).trans rfl⟩
theorem lk_133_22 : Lk 133 22 (.iconst (-1)) 0 0 (0) := ⟨1, 0, (congrArg (fun l => pm_look l 22) cq_133).trans rfl⟩
theorem lk_133_23 : Lk 133 23 (.ireturn) 0 0 (0) := ⟨1, 0, (congrArg (fun l => pm_look l 23) cq_133).trans rfl⟩
theorem cq_134 : pm_code 134 = cd_134 := rfl
theorem lk_134_0 : Lk 134 0 (.aload_n 0) 0 0 (0) := ⟨1, 0, (congrArg (fun l => pm_look l 0) cq_134).trans rfl⟩
theorem lk_134_1 : Lk 134 1 (.getfield 52) 11 6 (2) := ⟨3, 525, (congrArg (fun l => pm_look l 1) cq_134).trans rfl⟩
theorem lk_134_4 : Lk 134 4 (.iload_n 1) 0 0 (0) := ⟨1, 0, (congrArg (fun l => pm_look l 4) cq_134).trans rfl⟩
theorem lk_134_5 : Lk 134 5 (.invokevirtual 233) 32 0 (0) := ⟨3, 910, (congrArg (fun l => pm_look l 5) cq_134).trans rfl⟩
theorem lk_134_8 : Lk 134 8 (.ireturn) 0 0 (0) := ⟨1, 0, (congrArg (fun l => pm_look l 8) cq_134).trans rfl⟩
theorem cq_135 : pm_code 135 = cd_135 := rfl
theorem lk_135_0 : Lk 135 0 (.iload_n 1) 0 0 (0) := ⟨1, 0, (congrArg (fun l => pm_look l 0) cq_135).trans rfl⟩
theorem lk_135_1 : Lk 135 1 (.invokestatic 174) 159 0 (0) := ⟨3, 747, (congrArg (fun l => pm_look l 1) cq_135).trans rfl⟩
theorem lk_135_4 : Lk 135 4 (.ifCond .ne 5) 0 0 (0) := ⟨3, 0, (congrArg (fun l => pm_look l 4) cq_135).trans rfl⟩
theorem lk_135_7 : Lk 135 7 (.iconst (-1)) 0 0 (0) := ⟨1, 0, (congrArg (fun l => pm_look l 7) cq_135).trans rfl⟩
theorem lk_135_8 : Lk 135 8 (.ireturn) 0 0 (0) := ⟨1, 0, (congrArg (fun l => pm_look l 8) cq_135).trans rfl⟩
theorem lk_135_9 : Lk 135 9 (.aload_n 0) 0 0 (0) := ⟨1, 0, (congrArg (fun l => pm_look l 9) cq_135).trans rfl⟩
theorem lk_135_10 : Lk 135 10 (.getfield 38) 11 4 (2) := ⟨3, 523, (congrArg (fun l => pm_look l 10) cq_135).trans rfl⟩
theorem lk_135_13 : Lk 135 13 (.iload_n 1) 0 0 (0) := ⟨1, 0, (congrArg (fun l => pm_look l 13) cq_135).trans rfl⟩
theorem lk_135_14 : Lk 135 14 (.invokevirtual 177) 41 0 (0) := ⟨3, 750, (congrArg (fun l => pm_look l 14) cq_135).trans rfl⟩
theorem lk_135_17 : Lk 135 17 (.aload_n 0) 0 0 (0) := ⟨1, 0, (congrArg (fun l => pm_look l 17) cq_135).trans rfl⟩
theorem lk_135_18 : Lk 135 18 (.getfield 38) 11 4 (2) := ⟨3, 523, (congrArg (fun l => pm_look l 18) cq_135).trans rfl⟩
theorem lk_135_21 : Lk 135 21 (.invokevirtual 237) 53 0 (0) := ⟨3, 930, (congrArg (fun l => pm_look l 21) cq_135).trans rfl⟩
theorem lk_135_24 : Lk 135 24 (.ireturn) 0 0 (0) := ⟨1, 0, (congrArg (fun l => pm_look l 24) cq_135).trans rfl⟩
theorem cq_136 : pm_code 136 = cd_136 := rfl
theorem lk_136_0 : Lk 136 0 (.iload_n 1) 0 0 (0) := ⟨1, 0, (congrArg (fun l => pm_look l 0) cq_136).trans rfl⟩
theorem lk_136_1 : Lk 136 1 (.invokestatic 240) 160 0 (0) := ⟨3, 942, (congrArg (fun l => pm_look l 1) cq_136).trans rfl⟩
theorem lk_136_4 : Lk 136 4 (.ifCond .eq 29) 0 0 (0) := ⟨3, 0, (congrArg (fun l => pm_look l 4) cq_136).trans rfl⟩
theorem lk_136_7 : Lk 136 7 (.aload_n 0) 0 0 (0) := ⟨1, 0, (congrArg (fun l => pm_look l 7) cq_136).trans rfl⟩
theorem lk_136_8 : Lk 136 8 (.getfield 65) 11 8 (2) := ⟨3, 527, (congrArg (fun l => pm_look l 8) cq_136).trans rfl⟩
theorem lk_136_11 : Lk 136 11 (.iload_n 1) 0 0 (0) := ⟨1, 0, (congrArg (fun l => pm_look l 11) cq_136).trans rfl⟩
theorem lk_136_12 : Lk 136 12 (.aaload) 0 0 (0) := ⟨1, 0, (congrArg (fun l => pm_look l 12) cq_136).trans rfl⟩
theorem lk_136_13 : Lk 136 13 (.aload_n 0) 0 0 (0) := ⟨1, 0, (congrArg (fun l => pm_look l 13) cq_136).trans rfl⟩
theorem lk_136_14 : Lk 136 14 (.getfield 19) 11 1 (2) := ⟨3, 520, (congrArg (fun l => pm_look l 14) cq_136).trans rfl⟩
theorem lk_136_17 : Lk 136 17 (.invokevirtual 140) 86 0 (0) := ⟨3, 684, (congrArg (fun l => pm_look l 17) cq_136).trans rfl⟩
theorem lk_136_20 : Lk 136 20 (.aload_n 0) 0 0 (0) := ⟨1, 0, (congrArg (fun l => pm_look l 20) cq_136).trans rfl⟩
theorem lk_136_21 : Lk 136 21 (.getfield 19) 11 1 (2) := ⟨3, 520, (congrArg (fun l => pm_look l 21) cq_136).trans rfl⟩
theorem lk_136_24 : Lk 136 24 (.invokevirtual 144) 87 0 (0) := ⟨3, 685, (congrArg (fun l => pm_look l 24) cq_136).trans rfl⟩
theorem lk_136_27 : Lk 136 27 (.invokevirtual 243) 11 0 (0) := ⟨3, 945, (congrArg (fun l => pm_look l 27) cq_136).trans rfl⟩
theorem lk_136_30 : Lk 136 30 (.goto 4) 0 0 (0) := ⟨3, 0, (congrArg (fun l => pm_look l 30) cq_136).trans rfl⟩
theorem lk_136_33 : Lk 136 33 (.iconst (-1)) 0 0 (0) := ⟨1, 0, (congrArg (fun l => pm_look l 33) cq_136).trans rfl⟩
theorem lk_136_34 : Lk 136 34 (.ireturn) 0 0 (0) := ⟨1, 0, (congrArg (fun l => pm_look l 34) cq_136).trans rfl⟩
theorem cq_137 : pm_code 137 = cd_137 := rfl
theorem lk_137_0 : Lk 137 0 (.iload_n 1) 0 0 (0) := ⟨1, 0, (congrArg (fun l => pm_look l 0) cq_137).trans rfl⟩
theorem lk_137_1 : Lk 137 1 (.ifCond .lt 9) 0 0 (0) := ⟨3, 0, (congrArg (fun l => pm_look l 1) cq_137).trans rfl⟩
theorem lk_137_4 : Lk 137 4 (.iload_n 1) 0 0 (0) := ⟨1, 0, (congrArg (fun l => pm_look l 4) cq_137).trans rfl⟩
theorem lk_137_5 : Lk 137 5 (.bipush 6) 0 0 (0) := ⟨2, 0, (congrArg (fun l => pm_look l 5) cq_137).trans rfl⟩
theorem lk_137_7 : Lk 137 7 (.if_icmp .lt 7) 0 0 (0) := ⟨3, 0, (congrArg (fun l => pm_look l 7) cq_137).trans rfl⟩
theorem lk_137_10 : Lk 137 10 (.iconst (-1)) 0 0 (0) := ⟨1, 0, (congrArg (fun l => pm_look l 10) cq_137).trans rfl⟩
theorem lk_137_11 : Lk 137 11 (.goto 11) 0 0 (0) := ⟨3, 0, (congrArg (fun l => pm_look l 11) cq_137).trans rfl⟩
theorem lk_137_14 : Lk 137 14 (.aload_n 0) 0 0 (0) := ⟨1, 0, (congrArg (fun l => pm_look l 14) cq_137).trans rfl⟩
theorem lk_137_15 : Lk 137 15 (.getfield 74) 11 9 (2) := ⟨3, 528, (congrArg (fun l => pm_look l 15) cq_137).trans rfl⟩
theorem lk_137_18 : Lk 137 18 (.iload_n 1) 0 0 (0) := ⟨1, 0, (congrArg (fun l => pm_look l 18) cq_137).trans rfl⟩
theorem lk_137_19 : Lk 137 19 (.invokevirtual 246) 115 0 (0) := ⟨3, 1012, (congrArg (fun l => pm_look l 19) cq_137).trans rfl⟩
theorem lk_137_22 : Lk 137 22 (.ireturn) 0 0 (0) := ⟨1, 0, (congrArg (fun l => pm_look l 22) cq_137).trans rfl⟩
theorem cq_138 : pm_code 138 = cd_138 := rfl
theorem lk_138_0 : Lk 138 0 (.iload_n 1) 0 0 (0) := ⟨1, 0, (congrArg (fun l => pm_look l 0) cq_138).trans rfl⟩
theorem lk_138_1 : Lk 138 1 (.invokestatic 240) 160 0 (0) := ⟨3, 942, (congrArg (fun l => pm_look l 1) cq_138).trans rfl⟩
theorem lk_138_4 : Lk 138 4 (.ifCond .ne 5) 0 0 (0) := ⟨3, 0, (congrArg (fun l => pm_look l 4) cq_138).trans rfl⟩
theorem lk_138_7 : Lk 138 7 (.iconst (-1)) 0 0 (0) := ⟨1, 0, (congrArg (fun l => pm_look l 7) cq_138).trans rfl⟩
theorem lk_138_8 : Lk 138 8 (.ireturn) 0 0 (0) := ⟨1, 0, (congrArg (fun l => pm_look l 8) cq_138).trans rfl⟩
theorem lk_138_9 : Lk 138 9 (.aload_n 0) 0 0 (0) := ⟨1, 0, (congrArg (fun l => pm_look l 9) cq_138).trans rfl⟩
theorem lk_138_10 : Lk 138 10 (.getfield 65) 11 8 (2) := ⟨3, 527, (congrArg (fun l => pm_look l 10) cq_138).trans rfl⟩
theorem lk_138_13 : Lk 138 13 (.iload_n 1) 0 0 (0) := ⟨1, 0, (congrArg (fun l => pm_look l 13) cq_138).trans rfl⟩
theorem lk_138_14 : Lk 138 14 (.aaload) 0 0 (0) := ⟨1, 0, (congrArg (fun l => pm_look l 14) cq_138).trans rfl⟩
theorem lk_138_15 : Lk 138 15 (.invokevirtual 249) 16 0 (0) := ⟨3, 1037, (congrArg (fun l => pm_look l 15) cq_138).trans rfl⟩
theorem lk_138_18 : Lk 138 18 (.astore 4) 0 0 (0) := ⟨2, 0, (congrArg (fun l => pm_look l 18) cq_138).trans rfl⟩
theorem lk_138_20 : Lk 138 20 (.iload_n 2) 0 0 (0) := ⟨1, 0, (congrArg (fun l => pm_look l 20) cq_138).trans rfl⟩
theorem lk_138_21 : Lk 138 21 (.iconst (-1)) 0 0 (0) := ⟨1, 0, (congrArg (fun l => pm_look l 21) cq_138).trans rfl⟩
theorem lk_138_22 : Lk 138 22 (.if_icmp .ne 11) 0 0 (0) := ⟨3, 0, (congrArg (fun l => pm_look l 22) cq_138).trans rfl⟩
theorem lk_138_25 : Lk 138 25 (.aload 4) 0 0 (0) := ⟨2, 0, (congrArg (fun l => pm_look l 25) cq_138).trans rfl⟩
theorem lk_138_27 : Lk 138 27 (.getfield 253) 4 3 (0) := ⟨3, 214, (congrArg (fun l => pm_look l 27) cq_138).trans rfl⟩
theorem lk_138_30 : Lk 138 30 (.goto 10) 0 0 (0) := ⟨3, 0, (congrArg (fun l => pm_look l 30) cq_138).trans rfl⟩
theorem lk_138_33 : Lk 138 33 (.aload 4) 0 0 (0) := ⟨2, 0, (congrArg (fun l => pm_look l 33) cq_138).trans rfl⟩
theorem lk_138_35 : Lk 138 35 (.iload_n 2) 0 0 (0) := ⟨1, 0, (congrArg (fun l => pm_look l 35) cq_138).trans rfl⟩
theorem lk_138_36 : Lk 138 36 (.iload_n 3) 0 0 (0) := ⟨1, 0, (congrArg (fun l => pm_look l 36) cq_138).trans rfl⟩
theorem lk_138_37 : Lk 138 37 (.invokevirtual 258) 38 0 (0) := ⟨3, 1051, (congrArg (fun l => pm_look l 37) cq_138).trans rfl⟩
theorem lk_138_40 : Lk 138 40 (.ireturn) 0 0 (0) := ⟨1, 0, (congrArg (fun l => pm_look l 40) cq_138).trans rfl⟩
theorem cq_139 : pm_code 139 = cd_139 := rfl
theorem lk_139_0 : Lk 139 0 (.iload_n 1) 0 0 (0) := ⟨1, 0, (congrArg (fun l => pm_look l 0) cq_139).trans rfl⟩
theorem lk_139_1 : Lk 139 1 (.ifCond .lt 9) 0 0 (0) := ⟨3, 0, (congrArg (fun l => pm_look l 1) cq_139).trans rfl⟩
theorem lk_139_4 : Lk 139 4 (.iload_n 1) 0 0 (0) := ⟨1, 0, (congrArg (fun l => pm_look l 4) cq_139).trans rfl⟩
theorem lk_139_5 : Lk 139 5 (.bipush 21) 0 0 (0) := ⟨2, 0, (congrArg (fun l => pm_look l 5) cq_139).trans rfl⟩
theorem lk_139_7 : Lk 139 7 (.if_icmp .lt 7) 0 0 (0) := ⟨3, 0, (congrArg (fun l => pm_look l 7) cq_139).trans rfl⟩
theorem lk_139_10 : Lk 139 10 (.iconst (-1)) 0 0 (0) := ⟨1, 0, (congrArg (fun l => pm_look l 10) cq_139).trans rfl⟩
theorem lk_139_11 : Lk 139 11 (.goto 11) 0 0 (0) := ⟨3, 0, (congrArg (fun l => pm_look l 11) cq_139).trans rfl⟩
theorem lk_139_14 : Lk 139 14 (.aload_n 0) 0 0 (0) := ⟨1, 0, (congrArg (fun l => pm_look l 14) cq_139).trans rfl⟩
theorem lk_139_15 : Lk 139 15 (.getfield 81) 11 10 (2) := ⟨3, 529, (congrArg (fun l => pm_look l 15) cq_139).trans rfl⟩
theorem lk_139_18 : Lk 139 18 (.iload_n 1) 0 0 (0) := ⟨1, 0, (congrArg (fun l => pm_look l 18) cq_139).trans rfl⟩
theorem lk_139_19 : Lk 139 19 (.invokevirtual 261) 73 0 (0) := ⟨3, 1059, (congrArg (fun l => pm_look l 19) cq_139).trans rfl⟩
theorem lk_139_22 : Lk 139 22 (.ireturn) 0 0 (0) := ⟨1, 0, (congrArg (fun l => pm_look l 22) cq_139).trans rfl⟩
theorem cq_140 : pm_code 140 = cd_140 := rfl
theorem lk_140_0 : Lk 140 0 (.iload_n 1) 0 0 (0) := ⟨1, 0, (congrArg (fun l => pm_look l 0) cq_140).trans rfl⟩
theorem lk_140_1 : Lk 140 1 (.tableswitch 63 0 2 #[27, 35, 43]) 0 0 (0) := ⟨27, 0, (congrArg (fun l => pm_look l 1) cq_140).trans rfl⟩
theorem lk_140_28 : Lk 140 28 (.aload_n 0) 0 0 (0) := ⟨1, 0, (congrArg (fun l => pm_look l 28) cq_140).trans rfl⟩
theorem lk_140_29 : Lk 140 29 (.invokevirtual 264) 156 0 (0) := ⟨3, 1110, (congrArg (fun l => pm_look l 29) cq_140).trans rfl⟩
theorem lk_140_32 : Lk 140 32 (.invokestatic 267) 162 0 (0) := ⟨3, 1114, (congrArg (fun l => pm_look l 32) cq_140).trans rfl⟩
theorem lk_140_35 : Lk 140 35 (.ireturn) 0 0 (0) := ⟨1, 0, (congrArg (fun l => pm_look l 35) cq_140).trans rfl⟩
theorem lk_140_36 : Lk 140 36 (.aload_n 0) 0 0 (0) := ⟨1, 0, (congrArg (fun l => pm_look l 36) cq_140).trans rfl⟩
theorem lk_140_37 : Lk 140 37 (.invokevirtual 270) 157 0 (0) := ⟨3, 1117, (congrArg (fun l => pm_look l 37) cq_140).trans rfl⟩
theorem lk_140_40 : Lk 140 40 (.invokestatic 267) 162 0 (0) := ⟨3, 1114, (congrArg (fun l => pm_look l 40) cq_140).trans rfl⟩
theorem lk_140_43 : Lk 140 43 (.ireturn) 0 0 (0) := ⟨1, 0, (congrArg (fun l => pm_look l 43) cq_140).trans rfl⟩
theorem lk_140_44 : Lk 140 44 (.aload_n 0) 0 0 (0) := ⟨1, 0, (congrArg (fun l => pm_look l 44) cq_140).trans rfl⟩
theorem lk_140_45 : Lk 140 45 (.getfield 52) 11 6 (2) := ⟨3, 525, (congrArg (fun l => pm_look l 45) cq_140).trans rfl⟩
theorem lk_140_48 : Lk 140 48 (.iconst 0) 0 0 (0) := ⟨1, 0, (congrArg (fun l => pm_look l 48) cq_140).trans rfl⟩
theorem lk_140_49 : Lk 140 49 (.invokevirtual 230) 28 0 (0) := ⟨3, 889, (congrArg (fun l => pm_look l 49) cq_140).trans rfl⟩
theorem lk_140_52 : Lk 140 52 (.iconst 1) 0 0 (0) := ⟨1, 0, (congrArg (fun l => pm_look l 52) cq_140).trans rfl⟩
theorem lk_140_53 : Lk 140 53 (.isub) 0 0 (0) := ⟨1, 0, (congrArg (fun l => pm_look l 53) cq_140).trans rfl⟩
theorem lk_140_54 : Lk 140 54 (.iconst 0) 0 0 (0) := ⟨1, 0, (congrArg (fun l => pm_look l 54) cq_140).trans rfl⟩
theorem lk_140_55 : Lk 140 55 (.invokestatic 273) 1000 0 (0) := ⟨3, 1121, (congrArg (fun l => pm_look l 55) cq_140).trans rfl⟩
theorem lk_140_58 : Lk 140 58 (.iconst 1) 0 0 (0) := ⟨1, 0, (congrArg (fun l => pm_look l 58) cq_140).trans rfl⟩
theorem lk_140_59 : Lk 140 59 (.iadd) 0 0 (0) := ⟨1, 0, (congrArg (fun l => pm_look l 59) cq_140).trans rfl⟩
theorem lk_140_60 : Lk 140 60 (.invokestatic 267) 162 0 (0) := ⟨3, 1114, (congrArg (fun l => pm_look l 60) cq_140).trans rfl⟩
theorem lk_140_63 : Lk 140 63 (.ireturn) 0 0 (0) := ⟨1, 0, (congrArg (fun l => pm_look l 63) cq_140).trans rfl⟩
theorem lk_140_64 : Lk 140 64 (.iconst (-1)) 0 0 (0) := ⟨1, 0, (congrArg (fun l => pm_look l 64) cq_140).trans rfl⟩
theorem lk_140_65 : Lk 140 65 (.ireturn) 0 0 (0) := ⟨1, 0, (congrArg (fun l => pm_look l 65) cq_140).trans rfl⟩
theorem cq_141 : pm_code 141 = cd_141 := rfl
theorem lk_141_0 : Lk 141 0 (.aload_n 0) 0 0 (0) := ⟨1, 0, (congrArg (fun l => pm_look l 0) cq_141).trans rfl⟩
theorem lk_141_1 : Lk 141 1 (.iload_n 1) 0 0 (0) := ⟨1, 0, (congrArg (fun l => pm_look l 1) cq_141).trans rfl⟩
theorem lk_141_2 : Lk 141 2 (.invokevirtual 278) 158 0 (0) := ⟨3, 1126, (congrArg (fun l => pm_look l 2) cq_141).trans rfl⟩
theorem lk_141_5 : Lk 141 5 (.ifCond .eq 15) 0 0 (0) := ⟨3, 0, (congrArg (fun l => pm_look l 5) cq_141).trans rfl⟩
theorem lk_141_8 : Lk 141 8 (.aload_n 0) 0 0 (0) := ⟨1, 0, (congrArg (fun l => pm_look l 8) cq_141).trans rfl⟩
theorem lk_141_9 : Lk 141 9 (.getfield 19) 11 1 (2) := ⟨3, 520, (congrArg (fun l => pm_look l 9) cq_141).trans rfl⟩
theorem lk_141_12 : Lk 141 12 (.iload_n 2) 0 0 (0) := ⟨1, 0, (congrArg (fun l => pm_look l 12) cq_141).trans rfl⟩
theorem lk_141_13 : Lk 141 13 (.iload_n 3) 0 0 (0) := ⟨1, 0, (congrArg (fun l => pm_look l 13) cq_141).trans rfl⟩
theorem lk_141_14 : Lk 141 14 (.invokevirtual 154) 84 0 (0) := ⟨3, 724, (congrArg (fun l => pm_look l 14) cq_141).trans rfl⟩
theorem lk_141_17 : Lk 141 17 (.ifCond .ne 5) 0 0 (0) := ⟨3, 0, (congrArg (fun l => pm_look l 17) cq_141).trans rfl⟩
theorem lk_141_20 : Lk 141 20 (.iconst (-1)) 0 0 (0) := ⟨1, 0, (congrArg (fun l => pm_look l 20) cq_141).trans rfl⟩
theorem lk_141_21 : Lk 141 21 (.ireturn) 0 0 (0) := ⟨1, 0, (congrArg (fun l => pm_look l 21) cq_141).trans rfl⟩
theorem lk_141_22 : Lk 141 22 (.aload_n 0) 0 0 (0) := ⟨1, 0, (congrArg (fun l => pm_look l 22) cq_141).trans rfl⟩
theorem lk_141_23 : Lk 141 23 (.getfield 25) 11 2 (2) := ⟨3, 521, (congrArg (fun l => pm_look l 23) cq_141).trans rfl⟩
theorem lk_141_26 : Lk 141 26 (.iload_n 1) 0 0 (0) := ⟨1, 0, (congrArg (fun l => pm_look l 26) cq_141).trans rfl⟩
theorem lk_141_27 : Lk 141 27 (.aaload) 0 0 (0) := ⟨1, 0, (congrArg (fun l => pm_look l 27) cq_141).trans rfl⟩
theorem lk_141_28 : Lk 141 28 (.iload_n 2) 0 0 (0) := ⟨1, 0, (congrArg (fun l => pm_look l 28) cq_141).trans rfl⟩
theorem lk_141_29 : Lk 141 29 (.iload_n 3) 0 0 (0) := ⟨1, 0, (congrArg (fun l => pm_look l 29) cq_141).trans rfl⟩
theorem lk_141_30 : Lk 141 30 (.invokevirtual 281) 105 0 (0) := ⟨3, 1130, (congrArg (fun l => pm_look l 30) cq_141).trans rfl⟩
theorem lk_141_33 : Lk 141 33 (.ireturn) 0 0 (0) := ⟨1, 0, (congrArg (fun l => pm_look l 33) cq_141).trans rfl⟩
theorem cq_142 : pm_code 142 = cd_142 := rfl
theorem lk_142_0 : Lk 142 0 (.aload_n 0) 0 0 (0) := ⟨1, 0, (congrArg (fun l => pm_look l 0) cq_142).trans rfl⟩
theorem lk_142_1 : Lk 142 1 (.iload_n 1) 0 0 (0) := ⟨1, 0, (congrArg (fun l => pm_look l 1) cq_142).trans rfl⟩
theorem lk_142_2 : Lk 142 2 (.invokevirtual 278) 158 0 (0) := ⟨3, 1126, (congrArg (fun l => pm_look l 2) cq_142).trans rfl⟩
theorem lk_142_5 : Lk 142 5 (.ifCond .eq 15) 0 0 (0) := ⟨3, 0, (congrArg (fun l => pm_look l 5) cq_142).trans rfl⟩
theorem lk_142_8 : Lk 142 8 (.aload_n 0) 0 0 (0) := ⟨1, 0, (congrArg (fun l => pm_look l 8) cq_142).trans rfl⟩
theorem lk_142_9 : Lk 142 9 (.getfield 19) 11 1 (2) := ⟨3, 520, (congrArg (fun l => pm_look l 9) cq_142).trans rfl⟩
theorem lk_142_12 : Lk 142 12 (.iload_n 2) 0 0 (0) := ⟨1, 0, (congrArg (fun l => pm_look l 12) cq_142).trans rfl⟩
theorem lk_142_13 : Lk 142 13 (.iload_n 3) 0 0 (0) := ⟨1, 0, (congrArg (fun l => pm_look l 13) cq_142).trans rfl⟩
theorem lk_142_14 : Lk 142 14 (.invokevirtual 154) 84 0 (0) := ⟨3, 724, (congrArg (fun l => pm_look l 14) cq_142).trans rfl⟩
theorem lk_142_17 : Lk 142 17 (.ifCond .ne 5) 0 0 (0) := ⟨3, 0, (congrArg (fun l => pm_look l 17) cq_142).trans rfl⟩
theorem lk_142_20 : Lk 142 20 (.iconst (-1)) 0 0 (0) := ⟨1, 0, (congrArg (fun l => pm_look l 20) cq_142).trans rfl⟩
theorem lk_142_21 : Lk 142 21 (.ireturn) 0 0 (0) := ⟨1, 0, (congrArg (fun l => pm_look l 21) cq_142).trans rfl⟩
theorem lk_142_22 : Lk 142 22 (.aload_n 0) 0 0 (0) := ⟨1, 0, (congrArg (fun l => pm_look l 22) cq_142).trans rfl⟩
theorem lk_142_23 : Lk 142 23 (.getfield 25) 11 2 (2) := ⟨3, 521, (congrArg (fun l => pm_look l 23) cq_142).trans rfl⟩
theorem lk_142_26 : Lk 142 26 (.iload_n 1) 0 0 (0) := ⟨1, 0, (congrArg (fun l => pm_look l 26) cq_142).trans rfl⟩
theorem lk_142_27 : Lk 142 27 (.aaload) 0 0 (0) := ⟨1, 0, (congrArg (fun l => pm_look l 27) cq_142).trans rfl⟩
theorem lk_142_28 : Lk 142 28 (.getfield 284) 9 4 (2) := ⟨3, 470, (congrArg (fun l => pm_look l 28) cq_142).trans rfl⟩
theorem lk_142_31 : Lk 142 31 (.aload_n 0) 0 0 (0) := ⟨1, 0, (congrArg (fun l => pm_look l 31) cq_142).trans rfl⟩
theorem lk_142_32 : Lk 142 32 (.getfield 25) 11 2 (2) := ⟨3, 521, (congrArg (fun l => pm_look l 32) cq_142).trans rfl⟩
theorem lk_142_35 : Lk 142 35 (.iload_n 1) 0 0 (0) := ⟨1, 0, (congrArg (fun l => pm_look l 35) cq_142).trans rfl⟩
theorem lk_142_36 : Lk 142 36 (.aaload) 0 0 (0) := ⟨1, 0, (congrArg (fun l => pm_look l 36) cq_142).trans rfl⟩
theorem lk_142_37 : Lk 142 37 (.iload_n 2) 0 0 (0) := ⟨1, 0, (congrArg (fun l => pm_look l 37) cq_142).trans rfl⟩
theorem lk_142_38 : Lk 142 38 (.iload_n 3) 0 0 (0) := ⟨1, 0, (congrArg (fun l => pm_look l 38) cq_142).trans rfl⟩
theorem lk_142_39 : Lk 142 39 (.invokevirtual 287) 104 0 (0) := ⟨3, 1151, (congrArg (fun l => pm_look l 39) cq_142).trans rfl⟩
theorem lk_142_42 : Lk 142 42 (.iaload) 0 0 (0) := ⟨1, 0, (congrArg (fun l => pm_look l 42) cq_142).trans rfl⟩
theorem lk_142_43 : Lk 142 43 (.ireturn) 0 0 (0) := ⟨1, 0, (congrArg (fun l => pm_look l 43) cq_142).trans rfl⟩
theorem cq_143 : pm_code 143 = cd_143 := rfl
theorem lk_143_0 : Lk 143 0 (.aload_n 0) 0 0 (0) := ⟨1, 0, (congrArg (fun l => pm_look l 0) cq_143).trans rfl⟩
theorem lk_143_1 : Lk 143 1 (.iload_n 1) 0 0 (0) := ⟨1, 0, (congrArg (fun l => pm_look l 1) cq_143).trans rfl⟩
theorem lk_143_2 : Lk 143 2 (.invokevirtual 278) 158 0 (0) := ⟨3, 1126, (congrArg (fun l => pm_look l 2) cq_143).trans rfl⟩
theorem lk_143_5 : Lk 143 5 (.ifCond .eq 29) 0 0 (0) := ⟨3, 0, (congrArg (fun l => pm_look l 5) cq_143).trans rfl⟩
theorem lk_143_8 : Lk 143 8 (.aload_n 0) 0 0 (0) := ⟨1, 0, (congrArg (fun l => pm_look l 8) cq_143).trans rfl⟩
theorem lk_143_9 : Lk 143 9 (.getfield 19) 11 1 (2) := ⟨3, 520, (congrArg (fun l => pm_look l 9) cq_143).trans rfl⟩
theorem lk_143_12 : Lk 143 12 (.iload_n 2) 0 0 (0) := ⟨1, 0, (congrArg (fun l => pm_look l 12) cq_143).trans rfl⟩
theorem lk_143_13 : Lk 143 13 (.iload_n 3) 0 0 (0) := ⟨1, 0, (congrArg (fun l => pm_look l 13) cq_143).trans rfl⟩
theorem lk_143_14 : Lk 143 14 (.invokevirtual 154) 84 0 (0) := ⟨3, 724, (congrArg (fun l => pm_look l 14) cq_143).trans rfl⟩
theorem lk_143_17 : Lk 143 17 (.ifCond .eq 17) 0 0 (0) := ⟨3, 0, (congrArg (fun l => pm_look l 17) cq_143).trans rfl⟩
theorem lk_143_20 : Lk 143 20 (.aload_n 0) 0 0 (0) := ⟨1, 0, (congrArg (fun l => pm_look l 20) cq_143).trans rfl⟩
theorem lk_143_21 : Lk 143 21 (.getfield 25) 11 2 (2) := ⟨3, 521, (congrArg (fun l => pm_look l 21) cq_143).trans rfl⟩
theorem lk_143_24 : Lk 143 24 (.iload_n 1) 0 0 (0) := ⟨1, 0, (congrArg (fun l => pm_look l 24) cq_143).trans rfl⟩
theorem lk_143_25 : Lk 143 25 (.aaload) 0 0 (0) := ⟨1, 0, (congrArg (fun l => pm_look l 25) cq_143).trans rfl⟩
theorem lk_143_26 : Lk 143 26 (.iload_n 2) 0 0 (0) := ⟨1, 0, (congrArg (fun l => pm_look l 26) cq_143).trans rfl⟩
theorem lk_143_27 : Lk 143 27 (.iload_n 3) 0 0 (0) := ⟨1, 0, (congrArg (fun l => pm_look l 27) cq_143).trans rfl⟩
theorem lk_143_28 : Lk 143 28 (.invokevirtual 287) 104 0 (0) := ⟨3, 1151, (congrArg (fun l => pm_look l 28) cq_143).trans rfl⟩
theorem lk_143_31 : Lk 143 31 (.goto 4) 0 0 (0) := ⟨3, 0, (congrArg (fun l => pm_look l 31) cq_143).trans rfl⟩
theorem lk_143_34 : Lk 143 34 (.iconst (-1)) 0 0 (0) := ⟨1, 0, (congrArg (fun l => pm_look l 34) cq_143).trans rfl⟩
theorem lk_143_35 : Lk 143 35 (.ireturn) 0 0 (0) := ⟨1, 0, (congrArg (fun l => pm_look l 35) cq_143).trans rfl⟩
theorem cq_144 : pm_code 144 = cd_144 := rfl
theorem lk_144_0 : Lk 144 0 (.aload_n 0) 0 0 (0) := ⟨1, 0, (congrArg (fun l => pm_look l 0) cq_144).trans rfl⟩
theorem lk_144_1 : Lk 144 1 (.iload_n 1) 0 0 (0) := ⟨1, 0, (congrArg (fun l => pm_look l 1) cq_144).trans rfl⟩
theorem lk_144_2 : Lk 144 2 (.invokevirtual 278) 158 0 (0) := ⟨3, 1126, (congrArg (fun l => pm_look l 2) cq_144).trans rfl⟩
theorem lk_144_5 : Lk 144 5 (.ifCond .eq 15) 0 0 (0) := ⟨3, 0, (congrArg (fun l => pm_look l 5) cq_144).trans rfl⟩
theorem lk_144_8 : Lk 144 8 (.aload_n 0) 0 0 (0) := ⟨1, 0, (congrArg (fun l => pm_look l 8) cq_144).trans rfl⟩
theorem lk_144_9 : Lk 144 9 (.getfield 19) 11 1 (2) := ⟨3, 520, (congrArg (fun l => pm_look l 9) cq_144).trans rfl⟩
theorem lk_144_12 : Lk 144 12 (.iload_n 2) 0 0 (0) := ⟨1, 0, (congrArg (fun l => pm_look l 12) cq_144).trans rfl⟩
theorem lk_144_13 : Lk 144 13 (.iload_n 3) 0 0 (0) := ⟨1, 0, (congrArg (fun l => pm_look l 13) cq_144).trans rfl⟩
theorem lk_144_14 : Lk 144 14 (.invokevirtual 154) 84 0 (0) := ⟨3, 724, (congrArg (fun l => pm_look l 14) cq_144).trans rfl⟩
theorem lk_144_17 : Lk 144 17 (.ifCond .ne 5) 0 0 (0) := ⟨3, 0, (congrArg (fun l => pm_look l 17) cq_144).trans rfl⟩
theorem lk_144_20 : Lk 144 20 (.iconst (-1)) 0 0 (0) := ⟨1, 0, (congrArg (fun l => pm_look l 20) cq_144).trans rfl⟩
theorem lk_144_21 : Lk 144 21 (.ireturn) 0 0 (0) := ⟨1, 0, (congrArg (fun l => pm_look l 21) cq_144).trans rfl⟩
theorem lk_144_22 : Lk 144 22 (.aload_n 0) 0 0 (0) := ⟨1, 0, (congrArg (fun l => pm_look l 22) cq_144).trans rfl⟩
theorem lk_144_23 : Lk 144 23 (.getfield 25) 11 2 (2) := ⟨3, 521, (congrArg (fun l => pm_look l 23) cq_144).trans rfl⟩
theorem lk_144_26 : Lk 144 26 (.iload_n 1) 0 0 (0) := ⟨1, 0, (congrArg (fun l => pm_look l 26) cq_144).trans rfl⟩
theorem lk_144_27 : Lk 144 27 (.aaload) 0 0 (0) := ⟨1, 0, (congrArg (fun l => pm_look l 27) cq_144).trans rfl⟩
theorem lk_144_28 : Lk 144 28 (.getfield 290) 9 3 (2) := ⟨3, 468, (congrArg (fun l => pm_look l 28) cq_144).trans rfl⟩
theorem lk_144_31 : Lk 144 31 (.aload_n 0) 0 0 (0) := ⟨1, 0, (congrArg (fun l => pm_look l 31) cq_144).trans rfl⟩
theorem lk_144_32 : Lk 144 32 (.getfield 25) 11 2 (2) := ⟨3, 521, (congrArg (fun l => pm_look l 32) cq_144).trans rfl⟩
theorem lk_144_35 : Lk 144 35 (.iload_n 1) 0 0 (0) := ⟨1, 0, (congrArg (fun l => pm_look l 35) cq_144).trans rfl⟩
theorem lk_144_36 : Lk 144 36 (.aaload) 0 0 (0) := ⟨1, 0, (congrArg (fun l => pm_look l 36) cq_144).trans rfl⟩
theorem lk_144_37 : Lk 144 37 (.iload_n 2) 0 0 (0) := ⟨1, 0, (congrArg (fun l => pm_look l 37) cq_144).trans rfl⟩
theorem lk_144_38 : Lk 144 38 (.iload_n 3) 0 0 (0) := ⟨1, 0, (congrArg (fun l => pm_look l 38) cq_144).trans rfl⟩
theorem lk_144_39 : Lk 144 39 (.invokevirtual 287) 104 0 (0) := ⟨3, 1151, (congrArg (fun l => pm_look l 39) cq_144).trans rfl⟩
theorem lk_144_42 : Lk 144 42 (.iaload) 0 0 (0) := ⟨1, 0, (congrArg (fun l => pm_look l 42) cq_144).trans rfl⟩
theorem lk_144_43 : Lk 144 43 (.istore 5) 0 0 (0) := ⟨2, 0, (congrArg (fun l => pm_look l 43) cq_144).trans rfl⟩
theorem lk_144_45 : Lk 144 45 (.iload 4) 0 0 (0) := ⟨2, 0, (congrArg (fun l => pm_look l 45) cq_144).trans rfl⟩
theorem lk_144_47 : Lk 144 47 (.iconst (-1)) 0 0 (0) := ⟨1, 0, (congrArg (fun l => pm_look l 47) cq_144).trans rfl⟩
theorem lk_144_48 : Lk 144 48 (.if_icmp .ne 6) 0 0 (0) := ⟨3, 0, (congrArg (fun l => pm_look l 48) cq_144).trans rfl⟩
theorem lk_144_51 : Lk 144 51 (.iload 5) 0 0 (0) := ⟨2, 0, (congrArg (fun l => pm_look l 51) cq_144).trans rfl⟩
theorem lk_144_53 : Lk 144 53 (.ireturn) 0 0 (0) := ⟨1, 0, (congrArg (fun l => pm_look l 53) cq_144).trans rfl⟩
theorem lk_144_54 : Lk 144 54 (.iload 4) 0 0 (0) := ⟨2, 0, (congrArg (fun l => pm_look l 54) cq_144).trans rfl⟩
theorem lk_144_56 : Lk 144 56 (.ifCond .lt 10) 0 0 (0) := ⟨3, 0, (congrArg (fun l => pm_look l 56) cq_144).trans rfl⟩
theorem lk_144_59 : Lk 144 59 (.iload 4) 0 0 (0) := ⟨2, 0, (congrArg (fun l => pm_look l 59) cq_144).trans rfl⟩
theorem lk_144_61 : Lk 144 61 (.iload 5) 0 0 (0) := ⟨2, 0, (congrArg (fun l => pm_look l 61) cq_144).trans rfl⟩
theorem lk_144_63 : Lk 144 63 (.if_icmp .lt 7) 0 0 (0) := ⟨3, 0, (congrArg (fun l => pm_look l 63) cq_144).trans rfl⟩
theorem lk_144_66 : Lk 144 66 (.iconst (-1)) 0 0 (0) := ⟨1, 0, (congrArg (fun l => pm_look l 66) cq_144).trans rfl⟩
theorem lk_144_67 : Lk 144 67 (.goto 16) 0 0 (0) := ⟨3, 0, (congrArg (fun l => pm_look l 67) cq_144).trans rfl⟩
theorem lk_144_70 : Lk 144 70 (.aload_n 0) 0 0 (0) := ⟨1, 0, (congrArg (fun l => pm_look l 70) cq_144).trans rfl⟩
theorem lk_144_71 : Lk 144 71 (.getfield 25) 11 2 (2) := ⟨3, 521, (congrArg (fun l => pm_look l 71) cq_144).trans rfl⟩
theorem lk_144_74 : Lk 144 74 (.iload_n 1) 0 0 (0) := ⟨1, 0, (congrArg (fun l => pm_look l 74) cq_144).trans rfl⟩
theorem lk_144_75 : Lk 144 75 (.aaload) 0 0 (0) := ⟨1, 0, (congrArg (fun l => pm_look l 75) cq_144).trans rfl⟩
theorem lk_144_76 : Lk 144 76 (.iload_n 2) 0 0 (0) := ⟨1, 0, (congrArg (fun l => pm_look l 76) cq_144).trans rfl⟩
theorem lk_144_77 : Lk 144 77 (.iload_n 3) 0 0 (0) := ⟨1, 0, (congrArg (fun l => pm_look l 77) cq_144).trans rfl⟩
theorem lk_144_78 : Lk 144 78 (.iload 4) 0 0 (0) := ⟨2, 0, (congrArg (fun l => pm_look l 78) cq_144).trans rfl⟩
theorem lk_144_80 : Lk 144 80 (.invokevirtual 293) 106 0 (0) := ⟨3, 1160, (congrArg (fun l => pm_look l 80) cq_144).trans rfl⟩
theorem lk_144_83 : Lk 144 83 (.ireturn) 0 0 (0) := ⟨1, 0, (congrArg (fun l => pm_look l 83) cq_144).trans rfl⟩
theorem cq_145 : pm_code 145 = cd_145 := rfl
theorem lk_145_0 : Lk 145 0 (.aload_n 0) 0 0 (0) := ⟨1, 0, (congrArg (fun l => pm_look l 0) cq_145).trans rfl⟩
theorem lk_145_1 : Lk 145 1 (.iload_n 1) 0 0 (0) := ⟨1, 0, (congrArg (fun l => pm_look l 1) cq_145).trans rfl⟩
theorem lk_145_2 : Lk 145 2 (.invokevirtual 278) 158 0 (0) := ⟨3, 1126, (congrArg (fun l => pm_look l 2) cq_145).trans rfl⟩
theorem lk_145_5 : Lk 145 5 (.ifCond .ne 5) 0 0 (0) := ⟨3, 0, (congrArg (fun l => pm_look l 5) cq_145).trans rfl⟩
theorem lk_145_8 : Lk 145 8 (.iconst (-1)) 0 0 (0) := ⟨1, 0, (congrArg (fun l => pm_look l 8) cq_145).trans rfl⟩
theorem lk_145_9 : Lk 145 9 (.ireturn) 0 0 (0) := ⟨1, 0, (congrArg (fun l => pm_look l 9) cq_145).trans rfl⟩
theorem lk_145_10 : Lk 145 10 (.iload_n 2) 0 0 (0) := ⟨1, 0, (congrArg (fun l => pm_look l 10) cq_145).trans rfl⟩
theorem lk_145_11 : Lk 145 11 (.tableswitch 124 0 6 #[41, 54, 64, 74, 88, 104, 114]) 0 0 (0) := ⟨41, 0, (congrArg (fun l => pm_look l 11) cq_145).trans rfl⟩
theorem lk_145_52 : Lk 145 52 (.aload_n 0) 0 0 (0) := ⟨1, 0, (congrArg (fun l => pm_look l 52) cq_145).trans rfl⟩
theorem lk_145_53 : Lk 145 53 (.getfield 25) 11 2 (2) := ⟨3, 521, (congrArg (fun l => pm_look l 53) cq_145).trans rfl⟩
theorem lk_145_56 : Lk 145 56 (.iload_n 1) 0 0 (0) := ⟨1, 0, (congrArg (fun l => pm_look l 56) cq_145).trans rfl⟩
theorem lk_145_57 : Lk 145 57 (.aaload) 0 0 (0) := ⟨1, 0, (congrArg (fun l => pm_look l 57) cq_145).trans rfl⟩
theorem lk_145_58 : Lk 145 58 (.getfield 297) 9 0 (2) := ⟨3, 462, (congrArg (fun l => pm_look l 58) cq_145).trans rfl⟩
theorem lk_145_61 : Lk 145 61 (.getfield 253) 4 3 (0) := ⟨3, 214, (congrArg (fun l => pm_look l 61) cq_145).trans rfl⟩
theorem lk_145_64 : Lk 145 64 (.ireturn) 0 0 (0) := ⟨1, 0, (congrArg (fun l => pm_look l 64) cq_145).trans rfl⟩
theorem lk_145_65 : Lk 145 65 (.aload_n 0) 0 0 (0) := ⟨1, 0, (congrArg (fun l => pm_look l 65) cq_145).trans rfl⟩
theorem lk_145_66 : Lk 145 66 (.getfield 25) 11 2 (2) := ⟨3, 521, (congrArg (fun l => pm_look l 66) cq_145).trans rfl⟩
theorem lk_145_69 : Lk 145 69 (.iload_n 1) 0 0 (0) := ⟨1, 0, (congrArg (fun l => pm_look l 69) cq_145).trans rfl⟩
theorem lk_145_70 : Lk 145 70 (.aaload) 0 0 (0) := ⟨1, 0, (congrArg (fun l => pm_look l 70) cq_145).trans rfl⟩
theorem lk_145_71 : Lk 145 71 (.invokevirtual 301) 107 0 (0) := ⟨3, 1168, (congrArg (fun l => pm_look l 71) cq_145).trans rfl⟩
theorem lk_145_74 : Lk 145 74 (.ireturn) 0 0 (0) := ⟨1, 0, (congrArg (fun l => pm_look l 74) cq_145).trans rfl⟩
theorem lk_145_75 : Lk 145 75 (.aload_n 0) 0 0 (0) := ⟨1, 0, (congrArg (fun l => pm_look l 75) cq_145).trans rfl⟩
theorem lk_145_76 : Lk 145 76 (.getfield 25) 11 2 (2) := ⟨3, 521, (congrArg (fun l => pm_look l 76) cq_145).trans rfl⟩
theorem lk_145_79 : Lk 145 79 (.iload_n 1) 0 0 (0) := ⟨1, 0, (congrArg (fun l => pm_look l 79) cq_145).trans rfl⟩
theorem lk_145_80 : Lk 145 80 (.aaload) 0 0 (0) := ⟨1, 0, (congrArg (fun l => pm_look l 80) cq_145).trans rfl⟩
theorem lk_145_81 : Lk 145 81 (.invokevirtual 304) 109 0 (0) := ⟨3, 1172, (congrArg (fun l => pm_look l 81) cq_145).trans rfl⟩
theorem lk_145_84 : Lk 145 84 (.ireturn) 0 0 (0) := ⟨1, 0, (congrArg (fun l => pm_look l 84) cq_145).trans rfl⟩
theorem lk_145_85 : Lk 145 85 (.aload_n 0) 0 0 (0) := ⟨1, 0, (congrArg (fun l => pm_look l 85) cq_145).trans rfl⟩
theorem lk_145_86 : Lk 145 86 (.getfield 25) 11 2 (2) := ⟨3, 521, (congrArg (fun l => pm_look l 86) cq_145).trans rfl⟩
theorem lk_145_89 : Lk 145 89 (.iload_n 1) 0 0 (0) := ⟨1, 0, (congrArg (fun l => pm_look l 89) cq_145).trans rfl⟩
theorem lk_145_90 : Lk 145 90 (.aaload) 0 0 (0) := ⟨1, 0, (congrArg (fun l => pm_look l 90) cq_145).trans rfl⟩
theorem lk_145_91 : Lk 145 91 (.aload_n 0) 0 0 (0) := ⟨1, 0, (congrArg (fun l => pm_look l 91) cq_145).trans rfl⟩
theorem lk_145_92 : Lk 145 92 (.getfield 19) 11 1 (2) := ⟨3, 520, (congrArg (fun l => pm_look l 92) cq_145).trans rfl⟩
theorem lk_145_95 : Lk 145 95 (.invokevirtual 307) 111 0 (0) := ⟨3, 1185, (congrArg (fun l => pm_look l 95) cq_145).trans rfl⟩
theorem lk_145_98 : Lk 145 98 (.ireturn) 0 0 (0) := ⟨1, 0, (congrArg (fun l => pm_look l 98) cq_145).trans rfl⟩
theorem lk_145_99 : Lk 145 99 (.aload_n 0) 0 0 (0) := ⟨1, 0, (congrArg (fun l => pm_look l 99) cq_145).trans rfl⟩
theorem lk_145_100 : Lk 145 100 (.getfield 25) 11 2 (2) := ⟨3, 521, (congrArg (fun l => pm_look l 100) cq_145).trans rfl⟩
theorem lk_145_103 : Lk 145 103 (.iload_n 1) 0 0 (0) := ⟨1, 0, (congrArg (fun l => pm_look l 103) cq_145).trans rfl⟩
theorem lk_145_104 : Lk 145 104 (.aaload) 0 0 (0) := ⟨1, 0, (congrArg (fun l => pm_look l 104) cq_145).trans rfl⟩
theorem lk_145_105 : Lk 145 105 (.aload_n 0) 0 0 (0) := ⟨1, 0, (congrArg (fun l => pm_look l 105) cq_145).trans rfl⟩
theorem lk_145_106 : Lk 145 106 (.getfield 19) 11 1 (2) := ⟨3, 520, (congrArg (fun l => pm_look l 106) cq_145).trans rfl⟩
theorem lk_145_109 : Lk 145 109 (.bipush 9) 0 0 (0) := ⟨2, 0, (congrArg (fun l => pm_look l 109) cq_145).trans rfl⟩
theorem lk_145_111 : Lk 145 111 (.invokevirtual 311) 112 0 (0) := ⟨3, 1190, (congrArg (fun l => pm_look l 111) cq_145).trans rfl⟩
theorem lk_145_114 : Lk 145 114 (.ireturn) 0 0 (0) := ⟨1, 0, (congrArg (fun l => pm_look l 114) cq_145).trans rfl⟩
theorem lk_145_115 : Lk 145 115 (.aload_n 0) 0 0 (0) := ⟨1, 0, (congrArg (fun l => pm_look l 115) cq_145).trans rfl⟩
theorem lk_145_116 : Lk 145 116 (.getfield 25) 11 2 (2) := ⟨3, 521, (congrArg (fun l => pm_look l 116) cq_145).trans rfl⟩
theorem lk_145_119 : Lk 145 119 (.iload_n 1) 0 0 (0) := ⟨1, 0, (congrArg (fun l => pm_look l 119) cq_145).trans rfl⟩
theorem lk_145_120 : Lk 145 120 (.aaload) 0 0 (0) := ⟨1, 0, (congrArg (fun l => pm_look l 120) cq_145).trans rfl⟩
theorem lk_145_121 : Lk 145 121 (.invokevirtual 315) 108 0 (0) := ⟨3, 1195, (congrArg (fun l => pm_look l 121) cq_145).trans rfl⟩
theorem lk_145_124 : Lk 145 124 (.ireturn) 0 0 (0) := ⟨1, 0, (congrArg (fun l => pm_look l 124) cq_145).trans rfl⟩
theorem lk_145_125 : Lk 145 125 (.aload_n 0) 0 0 (0) := ⟨1, 0, (congrArg (fun l => pm_look l 125) cq_145).trans rfl⟩
theorem lk_145_126 : Lk 145 126 (.getfield 25) 11 2 (2) := ⟨3, 521, (congrArg (fun l => pm_look l 126) cq_145).trans rfl⟩
theorem lk_145_129 : Lk 145 129 (.iload_n 1) 0 0 (0) := ⟨1, 0, (congrArg (fun l => pm_look l 129) cq_145).trans rfl⟩
theorem lk_145_130 : Lk 145 130 (.aaload) 0 0 (0) := ⟨1, 0, (congrArg (fun l => pm_look l 130) cq_145).trans rfl⟩
theorem lk_145_131 : Lk 145 131 (.invokevirtual 318) 110 0 (0) := ⟨3, 1199, (congrArg (fun l => pm_look l 131) cq_145).trans rfl⟩
theorem lk_145_134 : Lk 145 134 (.ireturn) 0 0 (0) := ⟨1, 0, (congrArg (fun l => pm_look l 134) cq_145).trans rfl⟩
theorem lk_145_135 : Lk 145 135 (.iconst (-1)) 0 0 (0) := ⟨1, 0, (congrArg (fun l => pm_look l 135) cq_145).trans rfl⟩
theorem lk_145_136 : Lk 145 136 (.ireturn) 0 0 (0) := ⟨1, 0, (congrArg (fun l => pm_look l 136) cq_145).trans rfl⟩
theorem cq_146 : pm_code 146 = cd_146 := rfl
theorem lk_146_0 : Lk 146 0 (.aload_n 0) 0 0 (0) := ⟨1, 0, (congrArg (fun l => pm_look l 0) cq_146).trans rfl⟩
theorem lk_146_1 : Lk 146 1 (.iload_n 1) 0 0 (0) := ⟨1, 0, (congrArg (fun l => pm_look l 1) cq_146).trans rfl⟩
theorem lk_146_2 : Lk 146 2 (.invokevirtual 278) 158 0 (0) := ⟨3, 1126, (congrArg (fun l => pm_look l 2) cq_146).trans rfl⟩
theorem lk_146_5 : Lk 146 5 (.ifCond .eq 23) 0 0 (0) := ⟨3, 0, (congrArg (fun l => pm_look l 5) cq_146).trans rfl⟩
theorem lk_146_8 : Lk 146 8 (.iload_n 2) 0 0 (0) := ⟨1, 0, (congrArg (fun l => pm_look l 8) cq_146).trans rfl⟩
theorem lk_146_9 : Lk 146 9 (.ifCond .lt 19) 0 0 (0) := ⟨3, 0, (congrArg (fun l => pm_look l 9) cq_146).trans rfl⟩
theorem lk_146_12 : Lk 146 12 (.iload_n 2) 0 0 (0) := ⟨1, 0, (congrArg (fun l => pm_look l 12) cq_146).trans rfl⟩
theorem lk_146_13 : Lk 146 13 (.aload_n 0) 0 0 (0) := ⟨1, 0, (congrArg (fun l => pm_look l 13) cq_146).trans rfl⟩
theorem lk_146_14 : Lk 146 14 (.getfield 25) 11 2 (2) := ⟨3, 521, (congrArg (fun l => pm_look l 14) cq_146).trans rfl⟩
theorem lk_146_17 : Lk 146 17 (.iload_n 1) 0 0 (0) := ⟨1, 0, (congrArg (fun l => pm_look l 17) cq_146).trans rfl⟩
theorem lk_146_18 : Lk 146 18 (.aaload) 0 0 (0) := ⟨1, 0, (congrArg (fun l => pm_look l 18) cq_146).trans rfl⟩
theorem lk_146_19 : Lk 146 19 (.getfield 297) 9 0 (2) := ⟨3, 462, (congrArg (fun l => pm_look l 19) cq_146).trans rfl⟩
theorem lk_146_22 : Lk 146 22 (.getfield 253) 4 3 (0) := ⟨3, 214, (congrArg (fun l => pm_look l 22) cq_146).trans rfl⟩
theorem lk_146_25 : Lk 146 25 (.if_icmp .lt 5) 0 0 (0) := ⟨3, 0, (congrArg (fun l => pm_look l 25) cq_146).trans rfl⟩
theorem lk_146_28 : Lk 146 28 (.iconst (-1)) 0 0 (0) := ⟨1, 0, (congrArg (fun l => pm_look l 28) cq_146).trans rfl⟩
theorem lk_146_29 : Lk 146 29 (.ireturn) 0 0 (0) := ⟨1, 0, (congrArg (fun l => pm_look l 29) cq_146).trans rfl⟩
theorem lk_146_30 : Lk 146 30 (.iload_n 3) 0 0 (0) := ⟨1, 0, (congrArg (fun l => pm_look l 30) cq_146).trans rfl⟩
theorem lk_146_31 : Lk 146 31 (.lookupswitch 83 #[(3, 25), (4, 54)]) 0 0 (0) := ⟨25, 0, (congrArg (fun l => pm_look l 31) cq_146).trans rfl⟩
theorem lk_146_56 : Lk 146 56 (.aload_n 0) 0 0 (0) := ⟨1, 0, (congrArg (fun l => pm_look l 56) cq_146).trans rfl⟩
theorem lk_146_57 : Lk 146 57 (.getfield 25) 11 2 (2) := ⟨3, 521, (congrArg (fun l => pm_look l 57) cq_146).trans rfl⟩
theorem lk_146_60 : Lk 146 60 (.iload_n 1) 0 0 (0) := ⟨1, 0, (congrArg (fun l => pm_look l 60) cq_146).trans rfl⟩
theorem lk_146_61 : Lk 146 61 (.aaload) 0 0 (0) := ⟨1, 0, (congrArg (fun l => pm_look l 61) cq_146).trans rfl⟩
theorem lk_146_62 : Lk 146 62 (.iload_n 2) 0 0 (0) := ⟨1, 0, (congrArg (fun l => pm_look l 62) cq_146).trans rfl⟩
theorem lk_146_63 : Lk 146 63 (.invokevirtual 321) 101 0 (0) := ⟨3, 1207, (congrArg (fun l => pm_look l 63) cq_146).trans rfl⟩
theorem lk_146_66 : Lk 146 66 (.ifCond .eq 7) 0 0 (0) := ⟨3, 0, (congrArg (fun l => pm_look l 66) cq_146).trans rfl⟩
theorem lk_146_69 : Lk 146 69 (.iconst 0) 0 0 (0) := ⟨1, 0, (congrArg (fun l => pm_look l 69) cq_146).trans rfl⟩
theorem lk_146_70 : Lk 146 70 (.goto 14) 0 0 (0) := ⟨3, 0, (congrArg (fun l => pm_look l 70) cq_146).trans rfl⟩
theorem lk_146_73 : Lk 146 73 (.aload_n 0) 0 0 (0) := ⟨1, 0, (congrArg (fun l => pm_look l 73) cq_146).trans rfl⟩
theorem lk_146_74 : Lk 146 74 (.getfield 25) 11 2 (2) := ⟨3, 521, (congrArg (fun l => pm_look l 74) cq_146).trans rfl⟩
theorem lk_146_77 : Lk 146 77 (.iload_n 1) 0 0 (0) := ⟨1, 0, (congrArg (fun l => pm_look l 77) cq_146).trans rfl⟩
theorem lk_146_78 : Lk 146 78 (.aaload) 0 0 (0) := ⟨1, 0, (congrArg (fun l => pm_look l 78) cq_146).trans rfl⟩
theorem lk_146_79 : Lk 146 79 (.getfield 324) 9 1 (2) := ⟨3, 464, (congrArg (fun l => pm_look l 79) cq_146).trans rfl⟩
theorem lk_146_82 : Lk 146 82 (.iload_n 2) 0 0 (0) := ⟨1, 0, (congrArg (fun l => pm_look l 82) cq_146).trans rfl⟩
theorem lk_146_83 : Lk 146 83 (.iaload) 0 0 (0) := ⟨1, 0, (congrArg (fun l => pm_look l 83) cq_146).trans rfl⟩
theorem lk_146_84 : Lk 146 84 (.ireturn) 0 0 (0) := ⟨1, 0, (congrArg (fun l => pm_look l 84) cq_146).trans rfl⟩
theorem lk_146_85 : Lk 146 85 (.aload_n 0) 0 0 (0) := ⟨1, 0, (congrArg (fun l => pm_look l 85) cq_146).trans rfl⟩
theorem lk_146_86 : Lk 146 86 (.getfield 25) 11 2 (2) := ⟨3, 521, (congrArg (fun l => pm_look l 86) cq_146).trans rfl⟩
theorem lk_146_89 : Lk 146 89 (.iload_n 1) 0 0 (0) := ⟨1, 0, (congrArg (fun l => pm_look l 89) cq_146).trans rfl⟩
theorem lk_146_90 : Lk 146 90 (.aaload) 0 0 (0) := ⟨1, 0, (congrArg (fun l => pm_look l 90) cq_146).trans rfl⟩
theorem lk_146_91 : Lk 146 91 (.iload_n 2) 0 0 (0) := ⟨1, 0, (congrArg (fun l => pm_look l 91) cq_146).trans rfl⟩
theorem lk_146_92 : Lk 146 92 (.invokevirtual 321) 101 0 (0) := ⟨3, 1207, (congrArg (fun l => pm_look l 92) cq_146).trans rfl⟩
theorem lk_146_95 : Lk 146 95 (.ifCond .eq 7) 0 0 (0) := ⟨3, 0, (congrArg (fun l => pm_look l 95) cq_146).trans rfl⟩
theorem lk_146_98 : Lk 146 98 (.iconst 0) 0 0 (0) := ⟨1, 0, (congrArg (fun l => pm_look l 98) cq_146).trans rfl⟩
theorem lk_146_99 : Lk 146 99 (.goto 14) 0 0 (0) := ⟨3, 0, (congrArg (fun l => pm_look l 99) cq_146).trans rfl⟩
theorem lk_146_102 : Lk 146 102 (.aload_n 0) 0 0 (0) := ⟨1, 0, (congrArg (fun l => pm_look l 102) cq_146).trans rfl⟩
theorem lk_146_103 : Lk 146 103 (.getfield 25) 11 2 (2) := ⟨3, 521, (congrArg (fun l => pm_look l 103) cq_146).trans rfl⟩
theorem lk_146_106 : Lk 146 106 (.iload_n 1) 0 0 (0) := ⟨1, 0, (congrArg (fun l => pm_look l 106) cq_146).trans rfl⟩
theorem lk_146_107 : Lk 146 107 (.aaload) 0 0 (0) := ⟨1, 0, (congrArg (fun l => pm_look l 107) cq_146).trans rfl⟩
theorem lk_146_108 : Lk 146 108 (.getfield 326) 9 2 (2) := ⟨3, 466, (congrArg (fun l => pm_look l 108) cq_146).trans rfl⟩
theorem lk_146_111 : Lk 146 111 (.iload_n 2) 0 0 (0) := ⟨1, 0, (congrArg (fun l => pm_look l 111) cq_146).trans rfl⟩
theorem lk_146_112 : Lk 146 112 (.iaload) 0 0 (0) := ⟨1, 0, (congrArg (fun l => pm_look l 112) cq_146).trans rfl⟩
theorem lk_146_113 : Lk 146 113 (.ireturn) 0 0 (0) := ⟨1, 0, (congrArg (fun l => pm_look l 113) cq_146).trans rfl⟩
theorem lk_146_114 : Lk 146 114 (.aload_n 0) 0 0 (0) := ⟨1, 0, (congrArg (fun l => pm_look l 114) cq_146).trans rfl⟩
theorem lk_146_115 : Lk 146 115 (.getfield 25) 11 2 (2) := ⟨3, 521, (congrArg (fun l => pm_look l 115) cq_146).trans rfl⟩
theorem lk_146_118 : Lk 146 118 (.iload_n 1) 0 0 (0) := ⟨1, 0, (congrArg (fun l => pm_look l 118) cq_146).trans rfl⟩
theorem lk_146_119 : Lk 146 119 (.aaload) 0 0 (0) := ⟨1, 0, (congrArg (fun l => pm_look l 119) cq_146).trans rfl⟩
theorem lk_146_120 : Lk 146 120 (.getfield 297) 9 0 (2) := ⟨3, 462, (congrArg (fun l => pm_look l 120) cq_146).trans rfl⟩
theorem lk_146_123 : Lk 146 123 (.iload_n 2) 0 0 (0) := ⟨1, 0, (congrArg (fun l => pm_look l 123) cq_146).trans rfl⟩
theorem lk_146_124 : Lk 146 124 (.iload_n 3) 0 0 (0) := ⟨1, 0, (congrArg (fun l => pm_look l 124) cq_146).trans rfl⟩
theorem lk_146_125 : Lk 146 125 (.invokevirtual 258) 38 0 (0) := ⟨3, 1051, (congrArg (fun l => pm_look l 125) cq_146).trans rfl⟩
theorem lk_146_128 : Lk 146 128 (.ireturn) 0 0 (0) := ⟨1, 0, (congrArg (fun l => pm_look l 128) cq_146).trans rfl⟩
theorem cq_147 : pm_code 147 = cd_147 := rfl
theorem lk_147_0 : Lk 147 0 (.aload_n 0) 0 0 (0) := ⟨1, 0, (congrArg (fun l => pm_look l 0) cq_147).trans rfl⟩
theorem lk_147_1 : Lk 147 1 (.iload_n 1) 0 0 (0) := ⟨1, 0, (congrArg (fun l => pm_look l 1) cq_147).trans rfl⟩
theorem lk_147_2 : Lk 147 2 (.invokevirtual 278) 158 0 (0) := ⟨3, 1126, (congrArg (fun l => pm_look l 2) cq_147).trans rfl⟩
theorem lk_147_5 : Lk 147 5 (.ifCond .eq 13) 0 0 (0) := ⟨3, 0, (congrArg (fun l => pm_look l 5) cq_147).trans rfl⟩
theorem lk_147_8 : Lk 147 8 (.iload_n 2) 0 0 (0) := ⟨1, 0, (congrArg (fun l => pm_look l 8) cq_147).trans rfl⟩
theorem lk_147_9 : Lk 147 9 (.ifCond .lt 9) 0 0 (0) := ⟨3, 0, (congrArg (fun l => pm_look l 9) cq_147).trans rfl⟩
theorem lk_147_12 : Lk 147 12 (.iload_n 2) 0 0 (0) := ⟨1, 0, (congrArg (fun l => pm_look l 12) cq_147).trans rfl⟩
theorem lk_147_13 : Lk 147 13 (.bipush 9) 0 0 (0) := ⟨2, 0, (congrArg (fun l => pm_look l 13) cq_147).trans rfl⟩
theorem lk_147_15 : Lk 147 15 (.if_icmp .le 5) 0 0 (0) := ⟨3, 0, (congrArg (fun l => pm_look l 15) cq_147).trans rfl⟩
theorem lk_147_18 : Lk 147 18 (.iconst (-1)) 0 0 (0) := ⟨1, 0, (congrArg (fun l => pm_look l 18) cq_147).trans rfl⟩
theorem lk_147_19 : Lk 147 19 (.ireturn) 0 0 (0) := ⟨1, 0, (congrArg (fun l => pm_look l 19) cq_147).trans rfl⟩
theorem lk_147_20 : Lk 147 20 (.iload_n 3) 0 0 (0) := ⟨1, 0, (congrArg (fun l => pm_look l 20) cq_147).trans rfl⟩
theorem lk_147_21 : Lk 147 21 (.lookupswitch 59 #[(0, 27), (1, 44)]) 0 0 (0) := ⟨27, 0, (congrArg (fun l => pm_look l 21) cq_147).trans rfl⟩
theorem lk_147_48 : Lk 147 48 (.aload_n 0) 0 0 (0) := ⟨1, 0, (congrArg (fun l => pm_look l 48) cq_147).trans rfl⟩
theorem lk_147_49 : Lk 147 49 (.getfield 25) 11 2 (2) := ⟨3, 521, (congrArg (fun l => pm_look l 49) cq_147).trans rfl⟩
theorem lk_147_52 : Lk 147 52 (.iload_n 1) 0 0 (0) := ⟨1, 0, (congrArg (fun l => pm_look l 52) cq_147).trans rfl⟩
theorem lk_147_53 : Lk 147 53 (.aaload) 0 0 (0) := ⟨1, 0, (congrArg (fun l => pm_look l 53) cq_147).trans rfl⟩
theorem lk_147_54 : Lk 147 54 (.iload_n 2) 0 0 (0) := ⟨1, 0, (congrArg (fun l => pm_look l 54) cq_147).trans rfl⟩
theorem lk_147_55 : Lk 147 55 (.aload_n 0) 0 0 (0) := ⟨1, 0, (congrArg (fun l => pm_look l 55) cq_147).trans rfl⟩
theorem lk_147_56 : Lk 147 56 (.getfield 65) 11 8 (2) := ⟨3, 527, (congrArg (fun l => pm_look l 56) cq_147).trans rfl⟩
theorem lk_147_59 : Lk 147 59 (.iconst 0) 0 0 (0) := ⟨1, 0, (congrArg (fun l => pm_look l 59) cq_147).trans rfl⟩
theorem lk_147_60 : Lk 147 60 (.aaload) 0 0 (0) := ⟨1, 0, (congrArg (fun l => pm_look l 60) cq_147).trans rfl⟩
theorem lk_147_61 : Lk 147 61 (.invokevirtual 328) 113 0 (0) := ⟨3, 1212, (congrArg (fun l => pm_look l 61) cq_147).trans rfl⟩
theorem lk_147_64 : Lk 147 64 (.ireturn) 0 0 (0) := ⟨1, 0, (congrArg (fun l => pm_look l 64) cq_147).trans rfl⟩
theorem lk_147_65 : Lk 147 65 (.aload_n 0) 0 0 (0) := ⟨1, 0, (congrArg (fun l => pm_look l 65) cq_147).trans rfl⟩
theorem lk_147_66 : Lk 147 66 (.getfield 25) 11 2 (2) := ⟨3, 521, (congrArg (fun l => pm_look l 66) cq_147).trans rfl⟩
theorem lk_147_69 : Lk 147 69 (.iload_n 1) 0 0 (0) := ⟨1, 0, (congrArg (fun l => pm_look l 69) cq_147).trans rfl⟩
theorem lk_147_70 : Lk 147 70 (.aaload) 0 0 (0) := ⟨1, 0, (congrArg (fun l => pm_look l 70) cq_147).trans rfl⟩
theorem lk_147_71 : Lk 147 71 (.aload_n 0) 0 0 (0) := ⟨1, 0, (congrArg (fun l => pm_look l 71) cq_147).trans rfl⟩
theorem lk_147_72 : Lk 147 72 (.getfield 19) 11 1 (2) := ⟨3, 520, (congrArg (fun l => pm_look l 72) cq_147).trans rfl⟩
theorem lk_147_75 : Lk 147 75 (.iload_n 2) 0 0 (0) := ⟨1, 0, (congrArg (fun l => pm_look l 75) cq_147).trans rfl⟩
theorem lk_147_76 : Lk 147 76 (.invokevirtual 311) 112 0 (0) := ⟨3, 1190, (congrArg (fun l => pm_look l 76) cq_147).trans rfl⟩
theorem lk_147_79 : Lk 147 79 (.ireturn) 0 0 (0) := ⟨1, 0, (congrArg (fun l => pm_look l 79) cq_147).trans rfl⟩
theorem lk_147_80 : Lk 147 80 (.iconst (-1)) 0 0 (0) := ⟨1, 0, (congrArg (fun l => pm_look l 80) cq_147).trans rfl⟩
theorem lk_147_81 : Lk 147 81 (.ireturn) 0 0 (0) := ⟨1, 0, (congrArg (fun l => pm_look l 81) cq_147).trans rfl⟩
theorem cq_148 : pm_code 148 = cd_148 := rfl
theorem lk_148_0 : Lk 148 0 (.aload_n 0) 0 0 (0) := ⟨1, 0, (congrArg (fun l => pm_look l 0) cq_148).trans rfl⟩
theorem lk_148_1 : Lk 148 1 (.iload_n 1) 0 0 (0) := ⟨1, 0, (congrArg (fun l => pm_look l 1) cq_148).trans rfl⟩
theorem lk_148_2 : Lk 148 2 (.invokevirtual 278) 158 0 (0) := ⟨3, 1126, (congrArg (fun l => pm_look l 2) cq_148).trans rfl⟩
theorem lk_148_5 : Lk 148 5 (.ifCond .eq 11) 0 0 (0) := ⟨3, 0, (congrArg (fun l => pm_look l 5) cq_148).trans rfl⟩
theorem lk_148_8 : Lk 148 8 (.aload_n 0) 0 0 (0) := ⟨1, 0, (congrArg (fun l => pm_look l 8) cq_148).trans rfl⟩
theorem lk_148_9 : Lk 148 9 (.iload_n 2) 0 0 (0) := ⟨1, 0, (congrArg (fun l => pm_look l 9) cq_148).trans rfl⟩
theorem lk_148_10 : Lk 148 10 (.invokevirtual 278) 158 0 (0) := ⟨3, 1126, (congrArg (fun l => pm_look l 10) cq_148).trans rfl⟩
theorem lk_148_13 : Lk 148 13 (.ifCond .ne 5) 0 0 (0) := ⟨3, 0, (congrArg (fun l => pm_look l 13) cq_148).trans rfl⟩
theorem lk_148_16 : Lk 148 16 (.iconst (-1)) 0 0 (0) := ⟨1, 0, (congrArg (fun l => pm_look l 16) cq_148).trans rfl⟩
theorem lk_148_17 : Lk 148 17 (.ireturn) 0 0 (0) := ⟨1, 0, (congrArg (fun l => pm_look l 17) cq_148).trans rfl⟩
theorem lk_148_18 : Lk 148 18 (.iconst 0) 0 0 (0) := ⟨1, 0, (congrArg (fun l => pm_look l 18) cq_148).trans rfl⟩
theorem lk_148_19 : Lk 148 19 (.istore_n 3) 0 0 (0) := ⟨1, 0, (congrArg (fun l => pm_look l 19) cq_148).trans rfl⟩
theorem lk_148_20 : Lk 148 20 (.iconst 0) 0 0 (0) := ⟨1, 0, (congrArg (fun l => pm_look l 20) cq_148).trans rfl⟩
theorem lk_148_21 : Lk 148 21 (.istore 4) 0 0 (0) := ⟨2, 0, (congrArg (fun l => pm_look l 21) cq_148).trans rfl⟩
theorem lk_148_23 : Lk 148 23 (.iload 4) 0 0 (0) := ⟨2, 0, (congrArg (fun l => pm_look l 23) cq_148).trans rfl⟩
theorem lk_148_25 : Lk 148 25 (.aload_n 0) 0 0 (0) := ⟨1, 0, (congrArg (fun l => pm_look l 25) cq_148).trans rfl⟩
theorem lk_148_26 : Lk 148 26 (.getfield 19) 11 1 (2) := ⟨3, 520, (congrArg (fun l => pm_look l 26) cq_148).trans rfl⟩
theorem lk_148_29 : Lk 148 29 (.getfield 128) 8 1 (0) := ⟨3, 156, (congrArg (fun l => pm_look l 29) cq_148).trans rfl⟩
theorem lk_148_32 : Lk 148 32 (.if_icmp .ge 62) 0 0 (0) := ⟨3, 0, (congrArg (fun l => pm_look l 32) cq_148).trans rfl⟩
theorem lk_148_35 : Lk 148 35 (.iconst 0) 0 0 (0) := ⟨1, 0, (congrArg (fun l => pm_look l 35) cq_148).trans rfl⟩
theorem lk_148_36 : Lk 148 36 (.istore 5) 0 0 (0) := ⟨2, 0, (congrArg (fun l => pm_look l 36) cq_148).trans rfl⟩
theorem lk_148_38 : Lk 148 38 (.iload 5) 0 0 (0) := ⟨2, 0, (congrArg (fun l => pm_look l 38) cq_148).trans rfl⟩
theorem lk_148_40 : Lk 148 40 (.aload_n 0) 0 0 (0) := ⟨1, 0, (congrArg (fun l => pm_look l 40) cq_148).trans rfl⟩
theorem lk_148_41 : Lk 148 41 (.getfield 19) 11 1 (2) := ⟨3, 520, (congrArg (fun l => pm_look l 41) cq_148).trans rfl⟩
theorem lk_148_44 : Lk 148 44 (.getfield 131) 8 2 (0) := ⟨3, 165, (congrArg (fun l => pm_look l 44) cq_148).trans rfl⟩
theorem lk_148_47 : Lk 148 47 (.if_icmp .ge 41) 0 0 (0) := ⟨3, 0, (congrArg (fun l => pm_look l 47) cq_148).trans rfl⟩
theorem lk_148_50 : Lk 148 50 (.aload_n 0) 0 0 (0) := ⟨1, 0, (congrArg (fun l => pm_look l 50) cq_148).trans rfl⟩
theorem lk_148_51 : Lk 148 51 (.getfield 25) 11 2 (2) := ⟨3, 521, (congrArg (fun l => pm_look l 51) cq_148).trans rfl⟩
theorem lk_148_54 : Lk 148 54 (.iload_n 1) 0 0 (0) := ⟨1, 0, (congrArg (fun l => pm_look l 54) cq_148).trans rfl⟩
theorem lk_148_55 : Lk 148 55 (.aaload) 0 0 (0) := ⟨1, 0, (congrArg (fun l => pm_look l 55) cq_148).trans rfl⟩
theorem lk_148_56 : Lk 148 56 (.iload 4) 0 0 (0) := ⟨2, 0, (congrArg (fun l => pm_look l 56) cq_148).trans rfl⟩
theorem lk_148_58 : Lk 148 58 (.iload 5) 0 0 (0) := ⟨2, 0, (congrArg (fun l => pm_look l 58) cq_148).trans rfl⟩
theorem lk_148_60 : Lk 148 60 (.invokevirtual 281) 105 0 (0) := ⟨3, 1130, (congrArg (fun l => pm_look l 60) cq_148).trans rfl⟩
theorem lk_148_63 : Lk 148 63 (.aload_n 0) 0 0 (0) := ⟨1, 0, (congrArg (fun l => pm_look l 63) cq_148).trans rfl⟩
theorem lk_148_64 : Lk 148 64 (.getfield 25) 11 2 (2) := ⟨3, 521, (congrArg (fun l => pm_look l 64) cq_148).trans rfl⟩
theorem lk_148_67 : Lk 148 67 (.iload_n 2) 0 0 (0) := ⟨1, 0, (congrArg (fun l => pm_look l 67) cq_148).trans rfl⟩
theorem lk_148_68 : Lk 148 68 (.aaload) 0 0 (0) := ⟨1, 0, (congrArg (fun l => pm_look l 68) cq_148).trans rfl⟩
theorem lk_148_69 : Lk 148 69 (.iload 4) 0 0 (0) := ⟨2, 0, (congrArg (fun l => pm_look l 69) cq_148).trans rfl⟩
theorem lk_148_71 : Lk 148 71 (.iload 5) 0 0 (0) := ⟨2, 0, (congrArg (fun l => pm_look l 71) cq_148).trans rfl⟩
theorem lk_148_73 : Lk 148 73 (.invokevirtual 281) 105 0 (0) := ⟨3, 1130, (congrArg (fun l => pm_look l 73) cq_148).trans rfl⟩
theorem lk_148_76 : Lk 148 76 (.if_icmp .eq 6) 0 0 (0) := ⟨3, 0, (congrArg (fun l => pm_look l 76) cq_148).trans rfl⟩
theorem lk_148_79 : Lk 148 79 (.iinc 3 1) 0 0 (0) := ⟨3, 0, (congrArg (fun l => pm_look l 79) cq_148).trans rfl⟩
theorem lk_148_82 : Lk 148 82 (.iinc 5 1) 0 0 (0) := ⟨3, 0, (congrArg (fun l => pm_look l 82) cq_148).trans rfl⟩
theorem lk_148_85 : Lk 148 85 (.goto (-47)) 0 0 (0) := ⟨3, 0, (congrArg (fun l => pm_look l 85) cq_148).trans rfl⟩
theorem lk_148_88 : Lk 148 88 (.iinc 4 1) 0 0 (0) := ⟨3, 0, (congrArg (fun l => pm_look l 88) cq_148).trans rfl⟩
theorem lk_148_91 : Lk 148 91 (.goto (-68)) 0 0 (0) := ⟨3, 0, (congrArg (fun l => pm_look l 91) cq_148).trans rfl⟩
theorem lk_148_94 : Lk 148 94 (.iload_n 3) 0 0 (0) := ⟨1, 0, (congrArg (fun l => pm_look l 94) cq_148).trans rfl⟩
theorem lk_148_95 : Lk 148 95 (.ireturn) 0 0 (0) := ⟨1, 0, (congrArg (fun l => pm_look l 95) cq_148).trans rfl⟩
theorem cq_149 : pm_code 149 = cd_149 := rfl
theorem lk_149_0 : Lk 149 0 (.aload_n 0) 0 0 (0) := ⟨1, 0, (congrArg (fun l => pm_look l 0) cq_149).trans rfl⟩
theorem lk_149_1 : Lk 149 1 (.getfield 19) 11 1 (2) := ⟨3, 520, (congrArg (fun l => pm_look l 1) cq_149).trans rfl⟩
theorem lk_149_4 : Lk 149 4 (.iload_n 1) 0 0 (0) := ⟨1, 0, (congrArg (fun l => pm_look l 4) cq_149).trans rfl⟩
theorem lk_149_5 : Lk 149 5 (.iload_n 2) 0 0 (0) := ⟨1, 0, (congrArg (fun l => pm_look l 5) cq_149).trans rfl⟩
theorem lk_149_6 : Lk 149 6 (.invokevirtual 154) 84 0 (0) := ⟨3, 724, (congrArg (fun l => pm_look l 6) cq_149).trans rfl⟩
theorem lk_149_9 : Lk 149 9 (.ifCond .eq 13) 0 0 (0) := ⟨3, 0, (congrArg (fun l => pm_look l 9) cq_149).trans rfl⟩
theorem lk_149_12 : Lk 149 12 (.iload_n 3) 0 0 (0) := ⟨1, 0, (congrArg (fun l => pm_look l 12) cq_149).trans rfl⟩
theorem lk_149_13 : Lk 149 13 (.ifCond .lt 9) 0 0 (0) := ⟨3, 0, (congrArg (fun l => pm_look l 13) cq_149).trans rfl⟩
theorem lk_149_16 : Lk 149 16 (.iload_n 3) 0 0 (0) := ⟨1, 0, (congrArg (fun l => pm_look l 16) cq_149).trans rfl⟩
theorem lk_149_17 : Lk 149 17 (.bipush 10) 0 0 (0) := ⟨2, 0, (congrArg (fun l => pm_look l 17) cq_149).trans rfl⟩
theorem lk_149_19 : Lk 149 19 (.if_icmp .le 5) 0 0 (0) := ⟨3, 0, (congrArg (fun l => pm_look l 19) cq_149).trans rfl⟩
theorem lk_149_22 : Lk 149 22 (.iconst (-1)) 0 0 (0) := ⟨1, 0, (congrArg (fun l => pm_look l 22) cq_149).trans rfl⟩
theorem lk_149_23 : Lk 149 23 (.ireturn) 0 0 (0) := ⟨1, 0, (congrArg (fun l => pm_look l 23) cq_149).trans rfl⟩
theorem lk_149_24 : Lk 149 24 (.aload_n 0) 0 0 (0) := ⟨1, 0, (congrArg (fun l => pm_look l 24) cq_149).trans rfl⟩
theorem lk_149_25 : Lk 149 25 (.getfield 19) 11 1 (2) := ⟨3, 520, (congrArg (fun l => pm_look l 25) cq_149).trans rfl⟩
theorem lk_149_28 : Lk 149 28 (.iload_n 1) 0 0 (0) := ⟨1, 0, (congrArg (fun l => pm_look l 28) cq_149).trans rfl⟩
theorem lk_149_29 : Lk 149 29 (.iload_n 2) 0 0 (0) := ⟨1, 0, (congrArg (fun l => pm_look l 29) cq_149).trans rfl⟩
theorem lk_149_30 : Lk 149 30 (.invokevirtual 158) 85 0 (0) := ⟨3, 728, (congrArg (fun l => pm_look l 30) cq_149).trans rfl⟩
theorem lk_149_33 : Lk 149 33 (.istore 4) 0 0 (0) := ⟨2, 0, (congrArg (fun l => pm_look l 33) cq_149).trans rfl⟩
theorem lk_149_35 : Lk 149 35 (.iload 4) 0 0 (0) := ⟨2, 0, (congrArg (fun l => pm_look l 35) cq_149).trans rfl⟩
theorem lk_149_37 : Lk 149 37 (.iload_n 3) 0 0 (0) := ⟨1, 0, (congrArg (fun l => pm_look l 37) cq_149).trans rfl⟩
theorem lk_149_38 : Lk 149 38 (.if_icmp .ne 5) 0 0 (0) := ⟨3, 0, (congrArg (fun l => pm_look l 38) cq_149).trans rfl⟩
theorem lk_149_41 : Lk 149 41 (.iconst (-1)) 0 0 (0) := ⟨1, 0, (congrArg (fun l => pm_look l 41) cq_149).trans rfl⟩
theorem lk_149_42 : Lk 149 42 (.ireturn) 0 0 (0) := ⟨1, 0, (congrArg (fun l => pm_look l 42) cq_149).trans rfl⟩
theorem lk_149_43 : Lk 149 43 (.aload_n 0) 0 0 (0) := ⟨1, 0, (congrArg (fun l => pm_look l 43) cq_149).trans rfl⟩
theorem lk_149_44 : Lk 149 44 (.iload_n 1) 0 0 (0) := ⟨1, 0, (congrArg (fun l => pm_look l 44) cq_149).trans rfl⟩
theorem lk_149_45 : Lk 149 45 (.bipush 6) 0 0 (0) := ⟨2, 0, (congrArg (fun l => pm_look l 45) cq_149).trans rfl⟩
theorem lk_149_47 : Lk 149 47 (.imul) 0 0 (0) := ⟨1, 0, (congrArg (fun l => pm_look l 47) cq_149).trans rfl⟩
theorem lk_149_48 : Lk 149 48 (.iload_n 2) 0 0 (0) := ⟨1, 0, (congrArg (fun l => pm_look l 48) cq_149).trans rfl⟩
theorem lk_149_49 : Lk 149 49 (.iadd) 0 0 (0) := ⟨1, 0, (congrArg (fun l => pm_look l 49) cq_149).trans rfl⟩
theorem lk_149_50 : Lk 149 50 (.bipush 11) 0 0 (0) := ⟨2, 0, (congrArg (fun l => pm_look l 50) cq_149).trans rfl⟩
theorem lk_149_52 : Lk 149 52 (.imul) 0 0 (0) := ⟨1, 0, (congrArg (fun l => pm_look l 52) cq_149).trans rfl⟩
theorem lk_149_53 : Lk 149 53 (.iload 4) 0 0 (0) := ⟨2, 0, (congrArg (fun l => pm_look l 53) cq_149).trans rfl⟩
theorem lk_149_55 : Lk 149 55 (.iadd) 0 0 (0) := ⟨1, 0, (congrArg (fun l => pm_look l 55) cq_149).trans rfl⟩
theorem lk_149_56 : Lk 149 56 (.invokevirtual 332) 152 0 (0) := ⟨3, 1225, (congrArg (fun l => pm_look l 56) cq_149).trans rfl⟩
theorem lk_149_59 : Lk 149 59 (.aload_n 0) 0 0 (0) := ⟨1, 0, (congrArg (fun l => pm_look l 59) cq_149).trans rfl⟩
theorem lk_149_60 : Lk 149 60 (.getfield 19) 11 1 (2) := ⟨3, 520, (congrArg (fun l => pm_look l 60) cq_149).trans rfl⟩
theorem lk_149_63 : Lk 149 63 (.getfield 335) 8 0 (2) := ⟨3, 150, (congrArg (fun l => pm_look l 63) cq_149).trans rfl⟩
theorem lk_149_66 : Lk 149 66 (.iload_n 1) 0 0 (0) := ⟨1, 0, (congrArg (fun l => pm_look l 66) cq_149).trans rfl⟩
theorem lk_149_67 : Lk 149 67 (.bipush 6) 0 0 (0) := ⟨2, 0, (congrArg (fun l => pm_look l 67) cq_149).trans rfl⟩
theorem lk_149_69 : Lk 149 69 (.imul) 0 0 (0) := ⟨1, 0, (congrArg (fun l => pm_look l 69) cq_149).trans rfl⟩
theorem lk_149_70 : Lk 149 70 (.iload_n 2) 0 0 (0) := ⟨1, 0, (congrArg (fun l => pm_look l 70) cq_149).trans rfl⟩
theorem lk_149_71 : Lk 149 71 (.iadd) 0 0 (0) := ⟨1, 0, (congrArg (fun l => pm_look l 71) cq_149).trans rfl⟩
theorem lk_149_72 : Lk 149 72 (.iload_n 3) 0 0 (0) := ⟨1, 0, (congrArg (fun l => pm_look l 72) cq_149).trans rfl⟩
theorem lk_149_73 : Lk 149 73 (.iastore) 0 0 (0) := ⟨1, 0, (congrArg (fun l => pm_look l 73) cq_149).trans rfl⟩
theorem lk_149_74 : Lk 149 74 (.aload_n 0) 0 0 (0) := ⟨1, 0, (congrArg (fun l => pm_look l 74) cq_149).trans rfl⟩
theorem lk_149_75 : Lk 149 75 (.invokevirtual 119) 154 0 (0) := ⟨3, 672, (congrArg (fun l => pm_look l 75) cq_149).trans rfl⟩
theorem lk_149_78 : Lk 149 78 (.iload 4) 0 0 (0) := ⟨2, 0, (congrArg (fun l => pm_look l 78) cq_149).trans rfl⟩
theorem lk_149_80 : Lk 149 80 (.ireturn) 0 0 (0) := ⟨1, 0, (congrArg (fun l => pm_look l 80) cq_149).trans rfl⟩
theorem cq_150 : pm_code 150 = cd_150 := rfl
theorem lk_150_0 : Lk 150 0 (.aload_n 0) 0 0 (0) := ⟨1, 0, (congrArg (fun l => pm_look l 0) cq_150).trans rfl⟩
theorem lk_150_1 : Lk 150 1 (.iconst (-1)) 0 0 (0) := ⟨1, 0, (congrArg (fun l => pm_look l 1) cq_150).trans rfl⟩
theorem lk_150_2 : Lk 150 2 (.invokevirtual 332) 152 0 (0) := ⟨3, 1225, (congrArg (fun l => pm_look l 2) cq_150).trans rfl⟩
theorem lk_150_5 : Lk 150 5 (.aload_n 0) 0 0 (0) := ⟨1, 0, (congrArg (fun l => pm_look l 5) cq_150).trans rfl⟩
theorem lk_150_6 : Lk 150 6 (.invokevirtual 338) 153 0 (0) := ⟨3, 1233, (congrArg (fun l => pm_look l 6) cq_150).trans rfl⟩
theorem lk_150_9 : Lk 150 9 (.aload_n 0) 0 0 (0) := ⟨1, 0, (congrArg (fun l => pm_look l 9) cq_150).trans rfl⟩
theorem lk_150_10 : Lk 150 10 (.getfield 19) 11 1 (2) := ⟨3, 520, (congrArg (fun l => pm_look l 10) cq_150).trans rfl⟩
theorem lk_150_13 : Lk 150 13 (.getfield 128) 8 1 (0) := ⟨3, 156, (congrArg (fun l => pm_look l 13) cq_150).trans rfl⟩
theorem lk_150_16 : Lk 150 16 (.ireturn) 0 0 (0) := ⟨1, 0, (congrArg (fun l => pm_look l 16) cq_150).trans rfl⟩
theorem cq_151 : pm_code 151 = cd_151 := rfl
theorem lk_151_0 : Lk 151 0 (.aload_n 0) 0 0 (0) := ⟨1, 0, (congrArg (fun l => pm_look l 0) cq_151).trans rfl⟩
theorem lk_151_1 : Lk 151 1 (.getfield 116) 11 12 (0) := ⟨3, 531, (congrArg (fun l => pm_look l 1) cq_151).trans rfl⟩
theorem lk_151_4 : Lk 151 4 (.ifCond .gt 5) 0 0 (0) := ⟨3, 0, (congrArg (fun l => pm_look l 4) cq_151).trans rfl⟩
theorem lk_151_7 : Lk 151 7 (.iconst 0) 0 0 (0) := ⟨1, 0, (congrArg (fun l => pm_look l 7) cq_151).trans rfl⟩
theorem lk_151_8 : Lk 151 8 (.ireturn) 1 0 (0) := ⟨1, 0, (congrArg (fun l => pm_look l 8) cq_151).trans rfl⟩
theorem lk_151_9 : Lk 151 9 (.aload_n 0) 0 0 (0) := ⟨1, 0, (congrArg (fun l => pm_look l 9) cq_151).trans rfl⟩
theorem lk_151_10 : Lk 151 10 (.dup) 0 0 (0) := ⟨1, 0, (congrArg (fun l => pm_look l 10) cq_151).trans rfl⟩
theorem lk_151_11 : Lk 151 11 (.getfield 116) 11 12 (0) := ⟨3, 531, (congrArg (fun l => pm_look l 11) cq_151).trans rfl⟩
theorem lk_151_14 : Lk 151 14 (.iconst 1) 0 0 (0) := ⟨1, 0, (congrArg (fun l => pm_look l 14) cq_151).trans rfl⟩
theorem lk_151_15 : Lk 151 15 (.isub) 0 0 (0) := ⟨1, 0, (congrArg (fun l => pm_look l 15) cq_151).trans rfl⟩
theorem lk_151_16 : Lk 151 16 (.putfield 116) 11 12 (0) := ⟨3, 531, (congrArg (fun l => pm_look l 16) cq_151).trans rfl⟩
theorem lk_151_19 : Lk 151 19 (.aload_n 0) 0 0 (0) := ⟨1, 0, (congrArg (fun l => pm_look l 19) cq_151).trans rfl⟩
theorem lk_151_20 : Lk 151 20 (.getfield 29) 11 3 (2) := ⟨3, 522, (congrArg (fun l => pm_look l 20) cq_151).trans rfl⟩
theorem lk_151_23 : Lk 151 23 (.aload_n 0) 0 0 (0) := ⟨1, 0, (congrArg (fun l => pm_look l 23) cq_151).trans rfl⟩
theorem lk_151_24 : Lk 151 24 (.getfield 116) 11 12 (0) := ⟨3, 531, (congrArg (fun l => pm_look l 24) cq_151).trans rfl⟩
theorem lk_151_27 : Lk 151 27 (.iaload) 0 0 (0) := ⟨1, 0, (congrArg (fun l => pm_look l 27) cq_151).trans rfl⟩
theorem lk_151_28 : Lk 151 28 (.istore_n 1) 0 0 (0) := ⟨1, 0, (congrArg (fun l => pm_look l 28) cq_151).trans rfl⟩
theorem lk_151_29 : Lk 151 29 (.iload_n 1) 0 0 (0) := ⟨1, 0, (congrArg (fun l => pm_look l 29) cq_151).trans rfl⟩
theorem lk_151_30 : Lk 151 30 (.iconst (-1)) 0 0 (0) := ⟨1, 0, (congrArg (fun l => pm_look l 30) cq_151).trans rfl⟩
theorem lk_151_31 : Lk 151 31 (.if_icmp .ne 10) 0 0 (0) := ⟨3, 0, (congrArg (fun l => pm_look l 31) cq_151).trans rfl⟩
theorem lk_151_34 : Lk 151 34 (.aload_n 0) 0 0 (0) := ⟨1, 0, (congrArg (fun l => pm_look l 34) cq_151).trans rfl⟩
theorem lk_151_35 : Lk 151 35 (.invokevirtual 338) 153 0 (0) := ⟨3, 1233, (congrArg (fun l => pm_look l 35) cq_151).trans rfl⟩
theorem lk_151_38 : Lk 151 38 (.goto 23) 0 0 (0) := ⟨3, 0, (congrArg (fun l => pm_look l 38) cq_151).trans rfl⟩
theorem lk_151_41 : Lk 151 41 (.aload_n 0) 0 0 (0) := ⟨1, 0, (congrArg (fun l => pm_look l 41) cq_151).trans rfl⟩
theorem lk_151_42 : Lk 151 42 (.getfield 19) 11 1 (2) := ⟨3, 520, (congrArg (fun l => pm_look l 42) cq_151).trans rfl⟩
theorem lk_151_45 : Lk 151 45 (.getfield 335) 8 0 (2) := ⟨3, 150, (congrArg (fun l => pm_look l 45) cq_151).trans rfl⟩
theorem lk_151_48 : Lk 151 48 (.iload_n 1) 0 0 (0) := ⟨1, 0, (congrArg (fun l => pm_look l 48) cq_151).trans rfl⟩
theorem lk_151_49 : Lk 151 49 (.bipush 11) 0 0 (0) := ⟨2, 0, (congrArg (fun l => pm_look l 49) cq_151).trans rfl⟩
theorem lk_151_51 : Lk 151 51 (.idiv) 0 0 (0) := ⟨1, 0, (congrArg (fun l => pm_look l 51) cq_151).trans rfl⟩
theorem lk_151_52 : Lk 151 52 (.iload_n 1) 0 0 (0) := ⟨1, 0, (congrArg (fun l => pm_look l 52) cq_151).trans rfl⟩
theorem lk_151_53 : Lk 151 53 (.bipush 11) 0 0 (0) := ⟨2, 0, (congrArg (fun l => pm_look l 53) cq_151).trans rfl⟩
theorem lk_151_55 : Lk 151 55 (.irem) 0 0 (0) := ⟨1, 0, (congrArg (fun l => pm_look l 55) cq_151).trans rfl⟩
theorem lk_151_56 : Lk 151 56 (.iastore) 0 0 (0) := ⟨1, 0, (congrArg (fun l => pm_look l 56) cq_151).trans rfl⟩
theorem lk_151_57 : Lk 151 57 (.aload_n 0) 0 0 (0) := ⟨1, 0, (congrArg (fun l => pm_look l 57) cq_151).trans rfl⟩
theorem lk_151_58 : Lk 151 58 (.invokevirtual 119) 154 0 (0) := ⟨3, 672, (congrArg (fun l => pm_look l 58) cq_151).trans rfl⟩
theorem lk_151_61 : Lk 151 61 (.iconst 1) 0 0 (0) := ⟨1, 0, (congrArg (fun l => pm_look l 61) cq_151).trans rfl⟩
theorem lk_151_62 : Lk 151 62 (.ireturn) 1 0 (0) := ⟨1, 0, (congrArg (fun l => pm_look l 62) cq_151).trans rfl⟩
theorem cq_152 : pm_code 152 = cd_152 := rfl
theorem lk_152_0 : Lk 152 0 (.aload_n 0) 0 0 (0) := ⟨1, 0, (congrArg (fun l => pm_look l 0) cq_152).trans rfl⟩
theorem lk_152_1 : Lk 152 1 (.getfield 116) 11 12 (0) := ⟨3, 531, (congrArg (fun l => pm_look l 1) cq_152).trans rfl⟩
theorem lk_152_4 : Lk 152 4 (.bipush 12) 0 0 (0) := ⟨2, 0, (congrArg (fun l => pm_look l 4) cq_152).trans rfl⟩
theorem lk_152_6 : Lk 152 6 (.if_icmp .lt 37) 0 0 (0) := ⟨3, 0, (congrArg (fun l => pm_look l 6) cq_152).trans rfl⟩
theorem lk_152_9 : Lk 152 9 (.iconst 1) 0 0 (0) := ⟨1, 0, (congrArg (fun l => pm_look l 9) cq_152).trans rfl⟩
theorem lk_152_10 : Lk 152 10 (.istore_n 2) 0 0 (0) := ⟨1, 0, (congrArg (fun l => pm_look l 10) cq_152).trans rfl⟩
theorem lk_152_11 : Lk 152 11 (.iload_n 2) 0 0 (0) := ⟨1, 0, (congrArg (fun l => pm_look l 11) cq_152).trans rfl⟩
theorem lk_152_12 : Lk 152 12 (.bipush 12) 0 0 (0) := ⟨2, 0, (congrArg (fun l => pm_look l 12) cq_152).trans rfl⟩
theorem lk_152_14 : Lk 152 14 (.if_icmp .ge 23) 0 0 (0) := ⟨3, 0, (congrArg (fun l => pm_look l 14) cq_152).trans rfl⟩
theorem lk_152_17 : Lk 152 17 (.aload_n 0) 0 0 (0) := ⟨1, 0, (congrArg (fun l => pm_look l 17) cq_152).trans rfl⟩
theorem lk_152_18 : Lk 152 18 (.getfield 29) 11 3 (2) := ⟨3, 522, (congrArg (fun l => pm_look l 18) cq_152).trans rfl⟩
theorem lk_152_21 : Lk 152 21 (.iload_n 2) 0 0 (0) := ⟨1, 0, (congrArg (fun l => pm_look l 21) cq_152).trans rfl⟩
theorem lk_152_22 : Lk 152 22 (.iconst 1) 0 0 (0) := ⟨1, 0, (congrArg (fun l => pm_look l 22) cq_152).trans rfl⟩
theorem lk_152_23 : Lk 152 23 (.isub) 0 0 (0) := ⟨1, 0, (congrArg (fun l => pm_look l 23) cq_152).trans rfl⟩
theorem lk_152_24 : Lk 152 24 (.aload_n 0) 0 0 (0) := ⟨1, 0, (congrArg (fun l => pm_look l 24) cq_152).trans rfl⟩
theorem lk_152_25 : Lk 152 25 (.getfield 29) 11 3 (2) := ⟨3, 522, (congrArg (fun l => pm_look l 25) cq_152).trans rfl⟩
theorem lk_152_28 : Lk 152 28 (.iload_n 2) 0 0 (0) := ⟨1, 0, (congrArg (fun l => pm_look l 28) cq_152).trans rfl⟩
theorem lk_152_29 : Lk 152 29 (.iaload) 0 0 (0) := ⟨1, 0, (congrArg (fun l => pm_look l 29) cq_152).trans rfl⟩
theorem lk_152_30 : Lk 152 30 (.iastore) 0 0 (0) := ⟨1, 0, (congrArg (fun l => pm_look l 30) cq_152).trans rfl⟩
theorem lk_152_31 : Lk 152 31 (.iinc 2 1) 0 0 (0) := ⟨3, 0, (congrArg (fun l => pm_look l 31) cq_152).trans rfl⟩
theorem lk_152_34 : Lk 152 34 (.goto (-23)) 0 0 (0) := ⟨3, 0, (congrArg (fun l => pm_look l 34) cq_152).trans rfl⟩
theorem lk_152_37 : Lk 152 37 (.aload_n 0) 0 0 (0) := ⟨1, 0, (congrArg (fun l => pm_look l 37) cq_152).trans rfl⟩
theorem lk_152_38 : Lk 152 38 (.bipush 11) 0 0 (0) := ⟨2, 0, (congrArg (fun l => pm_look l 38) cq_152).trans rfl⟩
theorem lk_152_40 : Lk 152 40 (.putfield 116) 11 12 (0) := ⟨3, 531, (congrArg (fun l => pm_look l 40) cq_152).trans rfl⟩
theorem lk_152_43 : Lk 152 43 (.aload_n 0) 0 0 (0) := ⟨1, 0, (congrArg (fun l => pm_look l 43) cq_152).trans rfl⟩
theorem lk_152_44 : Lk 152 44 (.getfield 29) 11 3 (2) := ⟨3, 522, (congrArg (fun l => pm_look l 44) cq_152).trans rfl⟩
theorem lk_152_47 : Lk 152 47 (.aload_n 0) 0 0 (0) := ⟨1, 0, (congrArg (fun l => pm_look l 47) cq_152).trans rfl⟩
theorem lk_152_48 : Lk 152 48 (.getfield 116) 11 12 (0) := ⟨3, 531, (congrArg (fun l => pm_look l 48) cq_152).trans rfl⟩
theorem lk_152_51 : Lk 152 51 (.iload_n 1) 0 0 (0) := ⟨1, 0, (congrArg (fun l => pm_look l 51) cq_152).trans rfl⟩
theorem lk_152_52 : Lk 152 52 (.iastore) 0 0 (0) := ⟨1, 0, (congrArg (fun l => pm_look l 52) cq_152).trans rfl⟩
theorem lk_152_53 : Lk 152 53 (.aload_n 0) 0 0 (0) := ⟨1, 0, (congrArg (fun l => pm_look l 53) cq_152).trans rfl⟩
theorem lk_152_54 : Lk 152 54 (.dup) 0 0 (0) := ⟨1, 0, (congrArg (fun l => pm_look l 54) cq_152).trans rfl⟩
theorem lk_152_55 : Lk 152 55 (.getfield 116) 11 12 (0) := ⟨3, 531, (congrArg (fun l => pm_look l 55) cq_152).trans rfl⟩
theorem lk_152_58 : Lk 152 58 (.iconst 1) 0 0 (0) := ⟨1, 0, (congrArg (fun l => pm_look l 58) cq_152).trans rfl⟩
theorem lk_152_59 : Lk 152 59 (.iadd) 0 0 (0) := ⟨1, 0, (congrArg (fun l => pm_look l 59) cq_152).trans rfl⟩
theorem lk_152_60 : Lk 152 60 (.putfield 116) 11 12 (0) := ⟨3, 531, (congrArg (fun l => pm_look l 60) cq_152).trans rfl⟩
theorem lk_152_63 : Lk 152 63 (.return_) 0 0 (0) := ⟨1, 0, (congrArg (fun l => pm_look l 63) cq_152).trans rfl⟩
theorem cq_153 : pm_code 153 = cd_153 := rfl
theorem lk_153_0 : Lk 153 0 (.aload_n 0) 0 0 (0) := ⟨1, 0, (congrArg (fun l => pm_look l 0) cq_153).trans rfl⟩
theorem lk_153_1 : Lk 153 1 (.getfield 19) 11 1 (2) := ⟨3, 520, (congrArg (fun l => pm_look l 1) cq_153).trans rfl⟩
theorem lk_153_4 : Lk 153 4 (.invokevirtual 341) 94 0 (0) := ⟨3, 1237, (congrArg (fun l => pm_look l 4) cq_153).trans rfl⟩
theorem lk_153_7 : Lk 153 7 (.iconst 0) 0 0 (0) := ⟨1, 0, (congrArg (fun l => pm_look l 7) cq_153).trans rfl⟩
theorem lk_153_8 : Lk 153 8 (.istore_n 1) 0 0 (0) := ⟨1, 0, (congrArg (fun l => pm_look l 8) cq_153).trans rfl⟩
theorem lk_153_9 : Lk 153 9 (.iload_n 1) 0 0 (0) := ⟨1, 0, (congrArg (fun l => pm_look l 9) cq_153).trans rfl⟩
theorem lk_153_10 : Lk 153 10 (.aload_n 0) 0 0 (0) := ⟨1, 0, (congrArg (fun l => pm_look l 10) cq_153).trans rfl⟩
theorem lk_153_11 : Lk 153 11 (.getfield 108) 11 11 (0) := ⟨3, 530, (congrArg (fun l => pm_look l 11) cq_153).trans rfl⟩
theorem lk_153_14 : Lk 153 14 (.if_icmp .ge 22) 0 0 (0) := ⟨3, 0, (congrArg (fun l => pm_look l 14) cq_153).trans rfl⟩
theorem lk_153_17 : Lk 153 17 (.aload_n 0) 0 0 (0) := ⟨1, 0, (congrArg (fun l => pm_look l 17) cq_153).trans rfl⟩
theorem lk_153_18 : Lk 153 18 (.getfield 25) 11 2 (2) := ⟨3, 521, (congrArg (fun l => pm_look l 18) cq_153).trans rfl⟩
theorem lk_153_21 : Lk 153 21 (.iload_n 1) 0 0 (0) := ⟨1, 0, (congrArg (fun l => pm_look l 21) cq_153).trans rfl⟩
theorem lk_153_22 : Lk 153 22 (.aaload) 0 0 (0) := ⟨1, 0, (congrArg (fun l => pm_look l 22) cq_153).trans rfl⟩
theorem lk_153_23 : Lk 153 23 (.aload_n 0) 0 0 (0) := ⟨1, 0, (congrArg (fun l => pm_look l 23) cq_153).trans rfl⟩
theorem lk_153_24 : Lk 153 24 (.getfield 19) 11 1 (2) := ⟨3, 520, (congrArg (fun l => pm_look l 24) cq_153).trans rfl⟩
theorem lk_153_27 : Lk 153 27 (.invokevirtual 344) 98 0 (0) := ⟨3, 1241, (congrArg (fun l => pm_look l 27) cq_153).trans rfl⟩
theorem lk_153_30 : Lk 153 30 (.iinc 1 1) 0 0 (0) := ⟨3, 0, (congrArg (fun l => pm_look l 30) cq_153).trans rfl⟩
theorem lk_153_33 : Lk 153 33 (.goto (-24)) 0 0 (0) := ⟨3, 0, (congrArg (fun l => pm_look l 33) cq_153).trans rfl⟩
theorem lk_153_36 : Lk 153 36 (.aload_n 0) 0 0 (0) := ⟨1, 0, (congrArg (fun l => pm_look l 36) cq_153).trans rfl⟩
theorem lk_153_37 : Lk 153 37 (.invokevirtual 119) 154 0 (0) := ⟨3, 672, (congrArg (fun l => pm_look l 37) cq_153).trans rfl⟩
theorem lk_153_40 : Lk 153 40 (.return_) 0 0 (0) := ⟨1, 0, (congrArg (fun l => pm_look l 40) cq_153).trans rfl⟩
theorem cq_154 : pm_code 154 = cd_154 := rfl
theorem lk_154_0 : Lk 154 0 (.aload_n 0) 0 0 (0) := ⟨1, 0, (congrArg (fun l => pm_look l 0) cq_154).trans rfl⟩
theorem lk_154_1 : Lk 154 1 (.getfield 59) 11 7 (2) := ⟨3, 526, (congrArg (fun l => pm_look l 1) cq_154).trans rfl⟩
theorem lk_154_4 : Lk 154 4 (.iconst 0) 0 0 (0) := ⟨1, 0, (congrArg (fun l => pm_look l 4) cq_154).trans rfl⟩
theorem lk_154_5 : Lk 154 5 (.putfield 346) 0 2 (0) := ⟨3, 385, (congrArg (fun l => pm_look l 5) cq_154).trans rfl⟩
theorem lk_154_8 : Lk 154 8 (.aload_n 0) 0 0 (0) := ⟨1, 0, (congrArg (fun l => pm_look l 8) cq_154).trans rfl⟩
theorem lk_154_9 : Lk 154 9 (.getfield 74) 11 9 (2) := ⟨3, 528, (congrArg (fun l => pm_look l 9) cq_154).trans rfl⟩
theorem lk_154_12 : Lk 154 12 (.iconst 0) 0 0 (0) := ⟨1, 0, (congrArg (fun l => pm_look l 12) cq_154).trans rfl⟩
theorem lk_154_13 : Lk 154 13 (.putfield 350) 10 5 (0) := ⟨3, 411, (congrArg (fun l => pm_look l 13) cq_154).trans rfl⟩
theorem lk_154_16 : Lk 154 16 (.aload_n 0) 0 0 (0) := ⟨1, 0, (congrArg (fun l => pm_look l 16) cq_154).trans rfl⟩
theorem lk_154_17 : Lk 154 17 (.getfield 81) 11 10 (2) := ⟨3, 529, (congrArg (fun l => pm_look l 17) cq_154).trans rfl⟩
theorem lk_154_20 : Lk 154 20 (.iconst 0) 0 0 (0) := ⟨1, 0, (congrArg (fun l => pm_look l 20) cq_154).trans rfl⟩
theorem lk_154_21 : Lk 154 21 (.putfield 353) 7 4 (0) := ⟨3, 439, (congrArg (fun l => pm_look l 21) cq_154).trans rfl⟩
theorem lk_154_24 : Lk 154 24 (.iconst 0) 0 0 (0) := ⟨1, 0, (congrArg (fun l => pm_look l 24) cq_154).trans rfl⟩
theorem lk_154_25 : Lk 154 25 (.istore_n 1) 0 0 (0) := ⟨1, 0, (congrArg (fun l => pm_look l 25) cq_154).trans rfl⟩
theorem lk_154_26 : Lk 154 26 (.iload_n 1) 0 0 (0) := ⟨1, 0, (congrArg (fun l => pm_look l 26) cq_154).trans rfl⟩
theorem lk_154_27 : Lk 154 27 (.iconst 3) 0 0 (0) := ⟨1, 0, (congrArg (fun l => pm_look l 27) cq_154).trans rfl⟩
theorem lk_154_28 : Lk 154 28 (.if_icmp .ge 29) 0 0 (0) := ⟨3, 0, (congrArg (fun l => pm_look l 28) cq_154).trans rfl⟩
theorem lk_154_31 : Lk 154 31 (.aload_n 0) 0 0 (0) := ⟨1, 0, (congrArg (fun l => pm_look l 31) cq_154).trans rfl⟩
theorem lk_154_32 : Lk 154 32 (.getfield 65) 11 8 (2) := ⟨3, 527, (congrArg (fun l => pm_look l 32) cq_154).trans rfl⟩
theorem lk_154_35 : Lk 154 35 (.iload_n 1) 0 0 (0) := ⟨1, 0, (congrArg (fun l => pm_look l 35) cq_154).trans rfl⟩
theorem lk_154_36 : Lk 154 36 (.aaload) 0 0 (0) := ⟨1, 0, (congrArg (fun l => pm_look l 36) cq_154).trans rfl⟩
theorem lk_154_37 : Lk 154 37 (.iconst 0) 0 0 (0) := ⟨1, 0, (congrArg (fun l => pm_look l 37) cq_154).trans rfl⟩
theorem lk_154_38 : Lk 154 38 (.putfield 354) 1 5 (0) := ⟨3, 501, (congrArg (fun l => pm_look l 38) cq_154).trans rfl⟩
theorem lk_154_41 : Lk 154 41 (.aload_n 0) 0 0 (0) := ⟨1, 0, (congrArg (fun l => pm_look l 41) cq_154).trans rfl⟩
theorem lk_154_42 : Lk 154 42 (.getfield 65) 11 8 (2) := ⟨3, 527, (congrArg (fun l => pm_look l 42) cq_154).trans rfl⟩
theorem lk_154_45 : Lk 154 45 (.iload_n 1) 0 0 (0) := ⟨1, 0, (congrArg (fun l => pm_look l 45) cq_154).trans rfl⟩
theorem lk_154_46 : Lk 154 46 (.aaload) 0 0 (0) := ⟨1, 0, (congrArg (fun l => pm_look l 46) cq_154).trans rfl⟩
theorem lk_154_47 : Lk 154 47 (.iconst 0) 0 0 (0) := ⟨1, 0, (congrArg (fun l => pm_look l 47) cq_154).trans rfl⟩
theorem lk_154_48 : Lk 154 48 (.putfield 357) 1 6 (0) := ⟨3, 503, (congrArg (fun l => pm_look l 48) cq_154).trans rfl⟩
theorem lk_154_51 : Lk 154 51 (.iinc 1 1) 0 0 (0) := ⟨3, 0, (congrArg (fun l => pm_look l 51) cq_154).trans rfl⟩
theorem lk_154_54 : Lk 154 54 (.goto (-28)) 0 0 (0) := ⟨3, 0, (congrArg (fun l => pm_look l 54) cq_154).trans rfl⟩
theorem lk_154_57 : Lk 154 57 (.return_) 0 0 (0) := ⟨1, 0, (congrArg (fun l => pm_look l 57) cq_154).trans rfl⟩
theorem cq_155 : pm_code 155 = cd_155 := rfl
theorem lk_155_0 : Lk 155 0 (.aload_n 0) 0 0 (0) := ⟨1, 0, (congrArg (fun l => pm_look l 0) cq_155).trans rfl⟩
theorem lk_155_1 : Lk 155 1 (.getfield 38) 11 4 (2) := ⟨3, 523, (congrArg (fun l => pm_look l 1) cq_155).trans rfl⟩
theorem lk_155_4 : Lk 155 4 (.iload_n 1) 0 0 (0) := ⟨1, 0, (congrArg (fun l => pm_look l 4) cq_155).trans rfl⟩
theorem lk_155_5 : Lk 155 5 (.invokevirtual 177) 41 0 (0) := ⟨3, 750, (congrArg (fun l => pm_look l 5) cq_155).trans rfl⟩
theorem lk_155_8 : Lk 155 8 (.aload_n 0) 0 0 (0) := ⟨1, 0, (congrArg (fun l => pm_look l 8) cq_155).trans rfl⟩
theorem lk_155_9 : Lk 155 9 (.getfield 38) 11 4 (2) := ⟨3, 523, (congrArg (fun l => pm_look l 9) cq_155).trans rfl⟩
theorem lk_155_12 : Lk 155 12 (.invokevirtual 194) 48 0 (0) := ⟨3, 789, (congrArg (fun l => pm_look l 12) cq_155).trans rfl⟩
theorem lk_155_15 : Lk 155 15 (.aload_n 0) 0 0 (0) := ⟨1, 0, (congrArg (fun l => pm_look l 15) cq_155).trans rfl⟩
theorem lk_155_16 : Lk 155 16 (.getfield 45) 11 5 (2) := ⟨3, 524, (congrArg (fun l => pm_look l 16) cq_155).trans rfl⟩
theorem lk_155_19 : Lk 155 19 (.iload_n 1) 0 0 (0) := ⟨1, 0, (congrArg (fun l => pm_look l 19) cq_155).trans rfl⟩
theorem lk_155_20 : Lk 155 20 (.invokevirtual 213) 19 0 (0) := ⟨3, 797, (congrArg (fun l => pm_look l 20) cq_155).trans rfl⟩
theorem lk_155_23 : Lk 155 23 (.aload_n 0) 0 0 (0) := ⟨1, 0, (congrArg (fun l => pm_look l 23) cq_155).trans rfl⟩
theorem lk_155_24 : Lk 155 24 (.getfield 45) 11 5 (2) := ⟨3, 524, (congrArg (fun l => pm_look l 24) cq_155).trans rfl⟩
theorem lk_155_27 : Lk 155 27 (.invokevirtual 214) 23 0 (0) := ⟨3, 806, (congrArg (fun l => pm_look l 27) cq_155).trans rfl⟩
theorem lk_155_30 : Lk 155 30 (.aload_n 0) 0 0 (0) := ⟨1, 0, (congrArg (fun l => pm_look l 30) cq_155).trans rfl⟩
theorem lk_155_31 : Lk 155 31 (.getfield 38) 11 4 (2) := ⟨3, 523, (congrArg (fun l => pm_look l 31) cq_155).trans rfl⟩
theorem lk_155_34 : Lk 155 34 (.aload_n 0) 0 0 (0) := ⟨1, 0, (congrArg (fun l => pm_look l 34) cq_155).trans rfl⟩
theorem lk_155_35 : Lk 155 35 (.getfield 45) 11 5 (2) := ⟨3, 524, (congrArg (fun l => pm_look l 35) cq_155).trans rfl⟩
theorem lk_155_38 : Lk 155 38 (.getfield 215) 2 6 (0) := ⟨3, 335, (congrArg (fun l => pm_look l 38) cq_155).trans rfl⟩
theorem lk_155_41 : Lk 155 41 (.invokevirtual 360) 49 0 (0) := ⟨3, 819, (congrArg (fun l => pm_look l 41) cq_155).trans rfl⟩
theorem lk_155_44 : Lk 155 44 (.ireturn) 0 0 (0) := ⟨1, 0, (congrArg (fun l => pm_look l 44) cq_155).trans rfl⟩
theorem cq_156 : pm_code 156 = cd_156 := rfl
theorem lk_156_0 : Lk 156 0 (.iconst 0) 0 0 (0) := ⟨1, 0, (congrArg (fun l => pm_look l 0) cq_156).trans rfl⟩
theorem lk_156_1 : Lk 156 1 (.istore_n 1) 0 0 (0) := ⟨1, 0, (congrArg (fun l => pm_look l 1) cq_156).trans rfl⟩
theorem lk_156_2 : Lk 156 2 (.iconst 0) 0 0 (0) := ⟨1, 0, (congrArg (fun l => pm_look l 2) cq_156).trans rfl⟩
theorem lk_156_3 : Lk 156 3 (.istore_n 2) 0 0 (0) := ⟨1, 0, (congrArg (fun l => pm_look l 3) cq_156).trans rfl⟩
theorem lk_156_4 : Lk 156 4 (.iload_n 2) 0 0 (0) := ⟨1, 0, (congrArg (fun l => pm_look l 4) cq_156).trans rfl⟩
theorem lk_156_5 : Lk 156 5 (.bipush 10) 0 0 (0) := ⟨2, 0, (congrArg (fun l => pm_look l 5) cq_156).trans rfl⟩
theorem lk_156_7 : Lk 156 7 (.if_icmp .ge 17) 0 0 (0) := ⟨3, 0, (congrArg (fun l => pm_look l 7) cq_156).trans rfl⟩
theorem lk_156_10 : Lk 156 10 (.iload_n 1) 0 0 (0) := ⟨1, 0, (congrArg (fun l => pm_look l 10) cq_156).trans rfl⟩
theorem lk_156_11 : Lk 156 11 (.aload_n 0) 0 0 (0) := ⟨1, 0, (congrArg (fun l => pm_look l 11) cq_156).trans rfl⟩
theorem lk_156_12 : Lk 156 12 (.iload_n 2) 0 0 (0) := ⟨1, 0, (congrArg (fun l => pm_look l 12) cq_156).trans rfl⟩
theorem lk_156_13 : Lk 156 13 (.invokevirtual 191) 155 0 (0) := ⟨3, 785, (congrArg (fun l => pm_look l 13) cq_156).trans rfl⟩
theorem lk_156_16 : Lk 156 16 (.iadd) 0 0 (0) := ⟨1, 0, (congrArg (fun l => pm_look l 16) cq_156).trans rfl⟩
theorem lk_156_17 : Lk 156 17 (.istore_n 1) 0 0 (0) := ⟨1, 0, (congrArg (fun l => pm_look l 17) cq_156).trans rfl⟩
theorem lk_156_18 : Lk 156 18 (.iinc 2 1) 0 0 (0) := ⟨3, 0, (congrArg (fun l => pm_look l 18) cq_156).trans rfl⟩
theorem lk_156_21 : Lk 156 21 (.goto (-17)) 0 0 (0) := ⟨3, 0, (congrArg (fun l => pm_look l 21) cq_156).trans rfl⟩
theorem lk_156_24 : Lk 156 24 (.iload_n 1) 0 0 (0) := ⟨1, 0, (congrArg (fun l => pm_look l 24) cq_156).trans rfl⟩
theorem lk_156_25 : Lk 156 25 (.ireturn) 0 0 (0) := ⟨1, 0, (congrArg (fun l => pm_look l 25) cq_156).trans rfl⟩
theorem cq_157 : pm_code 157 = cd_157 := rfl
theorem lk_157_0 : Lk 157 0 (.iconst 0) 0 0 (0) := ⟨1, 0, (congrArg (fun l => pm_look l 0) cq_157).trans rfl⟩
theorem lk_157_1 : Lk 157 1 (.istore_n 1) 0 0 (0) := ⟨1, 0, (congrArg (fun l => pm_look l 1) cq_157).trans rfl⟩
theorem lk_157_2 : Lk 157 2 (.iconst 0) 0 0 (0) := ⟨1, 0, (congrArg (fun l => pm_look l 2) cq_157).trans rfl⟩
theorem lk_157_3 : Lk 157 3 (.istore_n 2) 0 0 (0) := ⟨1, 0, (congrArg (fun l => pm_look l 3) cq_157).trans rfl⟩
theorem lk_157_4 : Lk 157 4 (.iload_n 2) 0 0 (0) := ⟨1, 0, (congrArg (fun l => pm_look l 4) cq_157).trans rfl⟩
theorem lk_157_5 : Lk 157 5 (.bipush 10) 0 0 (0) := ⟨2, 0, (congrArg (fun l => pm_look l 5) cq_157).trans rfl⟩
theorem lk_157_7 : Lk 157 7 (.if_icmp .ge 34) 0 0 (0) := ⟨3, 0, (congrArg (fun l => pm_look l 7) cq_157).trans rfl⟩
theorem lk_157_10 : Lk 157 10 (.aload_n 0) 0 0 (0) := ⟨1, 0, (congrArg (fun l => pm_look l 10) cq_157).trans rfl⟩
theorem lk_157_11 : Lk 157 11 (.getfield 45) 11 5 (2) := ⟨3, 524, (congrArg (fun l => pm_look l 11) cq_157).trans rfl⟩
theorem lk_157_14 : Lk 157 14 (.iload_n 2) 0 0 (0) := ⟨1, 0, (congrArg (fun l => pm_look l 14) cq_157).trans rfl⟩
theorem lk_157_15 : Lk 157 15 (.invokevirtual 213) 19 0 (0) := ⟨3, 797, (congrArg (fun l => pm_look l 15) cq_157).trans rfl⟩
theorem lk_157_18 : Lk 157 18 (.aload_n 0) 0 0 (0) := ⟨1, 0, (congrArg (fun l => pm_look l 18) cq_157).trans rfl⟩
theorem lk_157_19 : Lk 157 19 (.getfield 45) 11 5 (2) := ⟨3, 524, (congrArg (fun l => pm_look l 19) cq_157).trans rfl⟩
theorem lk_157_22 : Lk 157 22 (.invokevirtual 214) 23 0 (0) := ⟨3, 806, (congrArg (fun l => pm_look l 22) cq_157).trans rfl⟩
theorem lk_157_25 : Lk 157 25 (.iload_n 1) 0 0 (0) := ⟨1, 0, (congrArg (fun l => pm_look l 25) cq_157).trans rfl⟩
theorem lk_157_26 : Lk 157 26 (.aload_n 0) 0 0 (0) := ⟨1, 0, (congrArg (fun l => pm_look l 26) cq_157).trans rfl⟩
theorem lk_157_27 : Lk 157 27 (.getfield 45) 11 5 (2) := ⟨3, 524, (congrArg (fun l => pm_look l 27) cq_157).trans rfl⟩
theorem lk_157_30 : Lk 157 30 (.getfield 215) 2 6 (0) := ⟨3, 335, (congrArg (fun l => pm_look l 30) cq_157).trans rfl⟩
theorem lk_157_33 : Lk 157 33 (.iadd) 0 0 (0) := ⟨1, 0, (congrArg (fun l => pm_look l 33) cq_157).trans rfl⟩
theorem lk_157_34 : Lk 157 34 (.istore_n 1) 0 0 (0) := ⟨1, 0, (congrArg (fun l => pm_look l 34) cq_157).trans rfl⟩
theorem lk_157_35 : Lk 157 35 (.iinc 2 1) 0 0 (0) := ⟨3, 0, (congrArg (fun l => pm_look l 35) cq_157).trans rfl⟩
theorem lk_157_38 : Lk 157 38 (.goto (-34)) 0 0 (0) := ⟨3, 0, (congrArg (fun l => pm_look l 38) cq_157).trans rfl⟩
theorem lk_157_41 : Lk 157 41 (.iload_n 1) 0 0 (0) := ⟨1, 0, (congrArg (fun l => pm_look l 41) cq_157).trans rfl⟩
theorem lk_157_42 : Lk 157 42 (.ireturn) 0 0 (0) := ⟨1, 0, (congrArg (fun l => pm_look l 42) cq_157).trans rfl⟩
theorem cq_158 : pm_code 158 = cd_158 := rfl
theorem lk_158_0 : Lk 158 0 (.iload_n 1) 0 0 (0) := ⟨1, 0, (congrArg (fun l => pm_look l 0) cq_158).trans rfl⟩
theorem lk_158_1 : Lk 158 1 (.ifCond .lt 15) 0 0 (0) := ⟨3, 0, (congrArg (fun l => pm_look l 1) cq_158).trans rfl⟩
theorem lk_158_4 : Lk 158 4 (.iload_n 1) 0 0 (0) := ⟨1, 0, (congrArg (fun l => pm_look l 4) cq_158).trans rfl⟩
theorem lk_158_5 : Lk 158 5 (.aload_n 0) 0 0 (0) := ⟨1, 0, (congrArg (fun l => pm_look l 5) cq_158).trans rfl⟩
theorem lk_158_6 : Lk 158 6 (.getfield 108) 11 11 (0) := ⟨3, 530, (congrArg (fun l => pm_look l 6) cq_158).trans rfl⟩
theorem lk_158_9 : Lk 158 9 (.if_icmp .ge 7) 0 0 (0) := ⟨3, 0, (congrArg (fun l => pm_look l 9) cq_158).trans rfl⟩
theorem lk_158_12 : Lk 158 12 (.iconst 1) 0 0 (0) := ⟨1, 0, (congrArg (fun l => pm_look l 12) cq_158).trans rfl⟩
theorem lk_158_13 : Lk 158 13 (.goto 4) 0 0 (0) := ⟨3, 0, (congrArg (fun l => pm_look l 13) cq_158).trans rfl⟩
theorem lk_158_16 : Lk 158 16 (.iconst 0) 0 0 (0) := ⟨1, 0, (congrArg (fun l => pm_look l 16) cq_158).trans rfl⟩
theorem lk_158_17 : Lk 158 17 (.ireturn) 1 0 (0) := ⟨1, 0, (congrArg (fun l => pm_look l 17) cq_158).trans rfl⟩
theorem cq_159 : pm_code 159 = cd_159 := rfl
theorem lk_159_0 : Lk 159 0 (.iload_n 0) 0 0 (0) := ⟨1, 0, (congrArg (fun l => pm_look l 0) cq_159).trans rfl⟩
theorem lk_159_1 : Lk 159 1 (.ifCond .lt 13) 0 0 (0) := ⟨3, 0, (congrArg (fun l => pm_look l 1) cq_159).trans rfl⟩
theorem lk_159_4 : Lk 159 4 (.iload_n 0) 0 0 (0) := ⟨1, 0, (congrArg (fun l => pm_look l 4) cq_159).trans rfl⟩
theorem lk_159_5 : Lk 159 5 (.bipush 10) 0 0 (0) := ⟨2, 0, (congrArg (fun l => pm_look l 5) cq_159).trans rfl⟩
theorem lk_159_7 : Lk 159 7 (.if_icmp .ge 7) 0 0 (0) := ⟨3, 0, (congrArg (fun l => pm_look l 7) cq_159).trans rfl⟩
theorem lk_159_10 : Lk 159 10 (.iconst 1) 0 0 (0) := ⟨1, 0, (congrArg (fun l => pm_look l 10) cq_159).trans rfl⟩
theorem lk_159_11 : Lk 159 11 (.goto 4) 0 0 (0) := ⟨3, 0, (congrArg (fun l => pm_look l 11) cq_159).trans rfl⟩
theorem lk_159_14 : Lk 159 14 (.iconst 0) 0 0 (0) := ⟨1, 0, (congrArg (fun l => pm_look l 14) cq_159).trans rfl⟩
theorem lk_159_15 : Lk 159 15 (.ireturn) 1 0 (0) := ⟨1, 0, (congrArg (fun l => pm_look l 15) cq_159).trans rfl⟩
theorem cq_160 : pm_code 160 = cd_160 := rfl
theorem lk_160_0 : Lk 160 0 (.iload_n 0) 0 0 (0) := ⟨1, 0, (congrArg (fun l => pm_look l 0) cq_160).trans rfl⟩
theorem lk_160_1 : Lk 160 1 (.ifCond .lt 12) 0 0 (0) := ⟨3, 0, (congrArg (fun l => pm_look l 1) cq_160).trans rfl⟩
theorem lk_160_4 : Lk 160 4 (.iload_n 0) 0 0 (0) := ⟨1, 0, (congrArg (fun l => pm_look l 4) cq_160).trans rfl⟩
theorem lk_160_5 : Lk 160 5 (.iconst 3) 0 0 (0) := ⟨1, 0, (congrArg (fun l => pm_look l 5) cq_160).trans rfl⟩
theorem lk_160_6 : Lk 160 6 (.if_icmp .ge 7) 0 0 (0) := ⟨3, 0, (congrArg (fun l => pm_look l 6) cq_160).trans rfl⟩
theorem lk_160_9 : Lk 160 9 (.iconst 1) 0 0 (0) := ⟨1, 0, (congrArg (fun l => pm_look l 9) cq_160).trans rfl⟩
theorem lk_160_10 : Lk 160 10 (.goto 4) 0 0 (0) := ⟨3, 0, (congrArg (fun l => pm_look l 10) cq_160).trans rfl⟩
theorem lk_160_13 : Lk 160 13 (.iconst 0) 0 0 (0) := ⟨1, 0, (congrArg (fun l => pm_look l 13) cq_160).trans rfl⟩
theorem lk_160_14 : Lk 160 14 (.ireturn) 1 0 (0) := ⟨1, 0, (congrArg (fun l => pm_look l 14) cq_160).trans rfl⟩
theorem cq_161 : pm_code 161 = cd_161 := rfl
theorem lk_161_0 : Lk 161 0 (.iload_n 0) 0 0 (0) := ⟨1, 0, (congrArg (fun l => pm_look l 0) cq_161).trans rfl⟩
theorem lk_161_1 : Lk 161 1 (.iconst 2) 0 0 (0) := ⟨1, 0, (congrArg (fun l => pm_look l 1) cq_161).trans rfl⟩
theorem lk_161_2 : Lk 161 2 (.if_icmp .lt 9) 0 0 (0) := ⟨3, 0, (congrArg (fun l => pm_look l 2) cq_161).trans rfl⟩
theorem lk_161_5 : Lk 161 5 (.iload_n 0) 0 0 (0) := ⟨1, 0, (congrArg (fun l => pm_look l 5) cq_161).trans rfl⟩
theorem lk_161_6 : Lk 161 6 (.bipush 97) 0 0 (0) := ⟨2, 0, (congrArg (fun l => pm_look l 6) cq_161).trans rfl⟩
theorem lk_161_8 : Lk 161 8 (.if_icmp .le 5) 0 0 (0) := ⟨3, 0, (congrArg (fun l => pm_look l 8) cq_161).trans rfl⟩
theorem lk_161_11 : Lk 161 11 (.iconst 0) 0 0 (0) := ⟨1, 0, (congrArg (fun l => pm_look l 11) cq_161).trans rfl⟩
theorem lk_161_12 : Lk 161 12 (.ireturn) 1 0 (0) := ⟨1, 0, (congrArg (fun l => pm_look l 12) cq_161).trans rfl⟩
theorem lk_161_13 : Lk 161 13 (.iconst 2) 0 0 (0) := ⟨1, 0, (congrArg (fun l => pm_look l 13) cq_161).trans rfl⟩
theorem lk_161_14 : Lk 161 14 (.istore_n 1) 0 0 (0) := ⟨1, 0, (congrArg (fun l => pm_look l 14) cq_161).trans rfl⟩
theorem lk_161_15 : Lk 161 15 (.iload_n 1) 0 0 (0) := ⟨1, 0, (congrArg (fun l => pm_look l 15) cq_161).trans rfl⟩
theorem lk_161_16 : Lk 161 16 (.iload_n 1) 0 0 (0) := ⟨1, 0, (congrArg (fun l => pm_look l 16) cq_161).trans rfl⟩
theorem lk_161_17 : Lk 161 17 (.imul) 0 0 (0) := ⟨1, 0, (congrArg (fun l => pm_look l 17) cq_161).trans rfl⟩
theorem lk_161_18 : Lk 161 18 (.iload_n 0) 0 0 (0) := ⟨1, 0, (congrArg (fun l => pm_look l 18) cq_161).trans rfl⟩
theorem lk_161_19 : Lk 161 19 (.if_icmp .gt 17) 0 0 (0) := ⟨3, 0, (congrArg (fun l => pm_look l 19) cq_161).trans rfl⟩
theorem lk_161_22 : Lk 161 22 (.iload_n 0) 0 0 (0) := ⟨1, 0, (congrArg (fun l => pm_look l 22) cq_161).trans rfl⟩
theorem lk_161_23 : Lk 161 23 (.iload_n 1) 0 0 (0) := ⟨1, 0, (congrArg (fun l => pm_look l 23) cq_161).trans rfl⟩
theorem lk_161_24 : Lk 161 24 (.irem) 0 0 (0) := ⟨1, 0, (congrArg (fun l => pm_look l 24) cq_161).trans rfl⟩
theorem lk_161_25 : Lk 161 25 (.ifCond .ne 5) 0 0 (0) := ⟨3, 0, (congrArg (fun l => pm_look l 25) cq_161).trans rfl⟩
theorem lk_161_28 : Lk 161 28 (.iconst 0) 0 0 (0) := ⟨1, 0, (congrArg (fun l => pm_look l 28) cq_161).trans rfl⟩
theorem lk_161_29 : Lk 161 29 (.ireturn) 1 0 (0) := ⟨1, 0, (congrArg (fun l => pm_look l 29) cq_161).trans rfl⟩
theorem lk_161_30 : Lk 161 30 (.iinc 1 1) 0 0 (0) := ⟨3, 0, (congrArg (fun l => pm_look l 30) cq_161).trans rfl⟩
theorem lk_161_33 : Lk 161 33 (.goto (-18)) 0 0 (0) := ⟨3, 0, (congrArg (fun l => pm_look l 33) cq_161).trans rfl⟩
theorem lk_161_36 : Lk 161 36 (.iconst 1) 0 0 (0) := ⟨1, 0, (congrArg (fun l => pm_look l 36) cq_161).trans rfl⟩
theorem lk_161_37 : Lk 161 37 (.ireturn) 1 0 (0) := ⟨1, 0, (congrArg (fun l => pm_look l 37) cq_161).trans rfl⟩
theorem cq_162 : pm_code 162 = cd_162 := rfl
theorem lk_162_0 : Lk 162 0 (.iconst 0) 0 0 (0) := ⟨1, 0, (congrArg (fun l => pm_look l 0) cq_162).trans rfl⟩
theorem lk_162_1 : Lk 162 1 (.istore_n 1) 0 0 (0) := ⟨1, 0, (congrArg (fun l => pm_look l 1) cq_162).trans rfl⟩
theorem lk_162_2 : Lk 162 2 (.iload_n 1) 0 0 (0) := ⟨1, 0, (congrArg (fun l => pm_look l 2) cq_162).trans rfl⟩
theorem lk_162_3 : Lk 162 3 (.bipush 30) 0 0 (0) := ⟨2, 0, (congrArg (fun l => pm_look l 3) cq_162).trans rfl⟩
theorem lk_162_5 : Lk 162 5 (.if_icmp .ge 16) 0 0 (0) := ⟨3, 0, (congrArg (fun l => pm_look l 5) cq_162).trans rfl⟩
theorem lk_162_8 : Lk 162 8 (.iconst 1) 0 0 (0) := ⟨1, 0, (congrArg (fun l => pm_look l 8) cq_162).trans rfl⟩
theorem lk_162_9 : Lk 162 9 (.iload_n 1) 0 0 (0) := ⟨1, 0, (congrArg (fun l => pm_look l 9) cq_162).trans rfl⟩
theorem lk_162_10 : Lk 162 10 (.ishl) 0 0 (0) := ⟨1, 0, (congrArg (fun l => pm_look l 10) cq_162).trans rfl⟩
theorem lk_162_11 : Lk 162 11 (.iload_n 0) 0 0 (0) := ⟨1, 0, (congrArg (fun l => pm_look l 11) cq_162).trans rfl⟩
theorem lk_162_12 : Lk 162 12 (.if_icmp .ge 9) 0 0 (0) := ⟨3, 0, (congrArg (fun l => pm_look l 12) cq_162).trans rfl⟩
theorem lk_162_15 : Lk 162 15 (.iinc 1 1) 0 0 (0) := ⟨3, 0, (congrArg (fun l => pm_look l 15) cq_162).trans rfl⟩
theorem lk_162_18 : Lk 162 18 (.goto (-16)) 0 0 (0) := ⟨3, 0, (congrArg (fun l => pm_look l 18) cq_162).trans rfl⟩
theorem lk_162_21 : Lk 162 21 (.iload_n 1) 0 0 (0) := ⟨1, 0, (congrArg (fun l => pm_look l 21) cq_162).trans rfl⟩
theorem lk_162_22 : Lk 162 22 (.ireturn) 0 0 (0) := ⟨1, 0, (congrArg (fun l => pm_look l 22) cq_162).trans rfl⟩
theorem cq_163 : pm_code 163 = cd_163 := rfl
theorem lk_163_0 : Lk 163 0 (.iload_n 0) 0 0 (0) := ⟨1, 0, (congrArg (fun l => pm_look l 0) cq_163).trans rfl⟩
theorem lk_163_1 : Lk 163 1 (.iload_n 0) 0 0 (0) := ⟨1, 0, (congrArg (fun l => pm_look l 1) cq_163).trans rfl⟩
theorem lk_163_2 : Lk 163 2 (.iconst 1) 0 0 (0) := ⟨1, 0, (congrArg (fun l => pm_look l 2) cq_163).trans rfl⟩
theorem lk_163_3 : Lk 163 3 (.isub) 0 0 (0) := ⟨1, 0, (congrArg (fun l => pm_look l 3) cq_163).trans rfl⟩
theorem lk_163_4 : Lk 163 4 (.iand) 0 0 (0) := ⟨1, 0, (congrArg (fun l => pm_look l 4) cq_163).trans rfl⟩
theorem lk_163_5 : Lk 163 5 (.ifCond .ne 7) 0 0 (0) := ⟨3, 0, (congrArg (fun l => pm_look l 5) cq_163).trans rfl⟩
theorem lk_163_8 : Lk 163 8 (.iconst 1) 0 0 (0) := ⟨1, 0, (congrArg (fun l => pm_look l 8) cq_163).trans rfl⟩
theorem lk_163_9 : Lk 163 9 (.goto 4) 0 0 (0) := ⟨3, 0, (congrArg (fun l => pm_look l 9) cq_163).trans rfl⟩
theorem lk_163_12 : Lk 163 12 (.iconst 0) 0 0 (0) := ⟨1, 0, (congrArg (fun l => pm_look l 12) cq_163).trans rfl⟩
theorem lk_163_13 : Lk 163 13 (.ireturn) 1 0 (0) := ⟨1, 0, (congrArg (fun l => pm_look l 13) cq_163).trans rfl⟩
theorem cq_164 : pm_code 164 = cd_164 := rfl
theorem lk_164_0 : Lk 164 0 (.iload_n 0) 0 0 (0) := ⟨1, 0, (congrArg (fun l => pm_look l 0) cq_164).trans rfl⟩
theorem lk_164_1 : Lk 164 1 (.ifCond .ne 8) 0 0 (0) := ⟨3, 0, (congrArg (fun l => pm_look l 1) cq_164).trans rfl⟩
theorem lk_164_4 : Lk 164 4 (.bipush 10) 0 0 (0) := ⟨2, 0, (congrArg (fun l => pm_look l 4) cq_164).trans rfl⟩
theorem lk_164_6 : Lk 164 6 (.goto 7) 0 0 (0) := ⟨3, 0, (congrArg (fun l => pm_look l 6) cq_164).trans rfl⟩
theorem lk_164_9 : Lk 164 9 (.iload_n 0) 0 0 (0) := ⟨1, 0, (congrArg (fun l => pm_look l 9) cq_164).trans rfl⟩
theorem lk_164_10 : Lk 164 10 (.invokestatic 363) 165 0 (0) := ⟨3, 739, (congrArg (fun l => pm_look l 10) cq_164).trans rfl⟩
theorem lk_164_13 : Lk 164 13 (.ireturn) 0 0 (0) := ⟨1, 0, (congrArg (fun l => pm_look l 13) cq_164).trans rfl⟩
theorem cq_165 : pm_code 165 = cd_165 := rfl
theorem lk_165_0 : Lk 165 0 (.iload_n 0) 0 0 (0) := ⟨1, 0, (congrArg (fun l => pm_look l 0) cq_165).trans rfl⟩
theorem lk_165_1 : Lk 165 1 (.iconst 1) 0 0 (0) := ⟨1, 0, (congrArg (fun l => pm_look l 1) cq_165).trans rfl⟩
theorem lk_165_2 : Lk 165 2 (.isub) 0 0 (0) := ⟨1, 0, (congrArg (fun l => pm_look l 2) cq_165).trans rfl⟩
theorem lk_165_3 : Lk 165 3 (.invokestatic 169) 265 0 (0) := ⟨3, 742, (congrArg (fun l => pm_look l 3) cq_165).trans rfl⟩
theorem lk_165_6 : Lk 165 6 (.ireturn) 0 0 (0) := ⟨1, 0, (congrArg (fun l => pm_look l 6) cq_165).trans rfl⟩
theorem cq_166 : pm_code 166 = cd_166 := rfl
theorem lk_166_0 : Lk 166 0 (.aload_n 0) 0 0 (0) := ⟨1, 0, (congrArg (fun l => pm_look l 0) cq_166).trans rfl⟩
theorem lk_166_1 : Lk 166 1 (.invokespecial 1) 999 0 (0) := ⟨3, 1254, (congrArg (fun l => pm_look l 1) cq_166).trans rfl⟩
theorem lk_166_4 : Lk 166 4 (.aload_n 0) 0 0 (0) := ⟨1, 0, (congrArg (fun l => pm_look l 4) cq_166).trans rfl⟩
theorem lk_166_5 : Lk 166 5 (.iconst 1) 0 0 (0) := ⟨1, 0, (congrArg (fun l => pm_look l 5) cq_166).trans rfl⟩
theorem lk_166_6 : Lk 166 6 (.putfield 7) 12 1 (0) := ⟨3, 1258, (congrArg (fun l => pm_look l 6) cq_166).trans rfl⟩
theorem lk_166_9 : Lk 166 9 (.aload_n 0) 0 0 (0) := ⟨1, 0, (congrArg (fun l => pm_look l 9) cq_166).trans rfl⟩
theorem lk_166_10 : Lk 166 10 (.iconst 1) 0 0 (0) := ⟨1, 0, (congrArg (fun l => pm_look l 10) cq_166).trans rfl⟩
theorem lk_166_11 : Lk 166 11 (.putfield 13) 12 2 (0) := ⟨3, 1259, (congrArg (fun l => pm_look l 11) cq_166).trans rfl⟩
theorem lk_166_14 : Lk 166 14 (.aload_n 0) 0 0 (0) := ⟨1, 0, (congrArg (fun l => pm_look l 14) cq_166).trans rfl⟩
theorem lk_166_15 : Lk 166 15 (.bipush 36) 0 0 (0) := ⟨2, 0, (congrArg (fun l => pm_look l 15) cq_166).trans rfl⟩
theorem lk_166_17 : Lk 166 17 (.newarray .int) 100 0 (0) := ⟨2, 0, (congrArg (fun l => pm_look l 17) cq_166).trans rfl⟩
theorem lk_166_19 : Lk 166 19 (.dup) 0 0 (0) := ⟨1, 0, (congrArg (fun l => pm_look l 19) cq_166).trans rfl⟩
theorem lk_166_20 : Lk 166 20 (.iconst 0) 0 0 (0) := ⟨1, 0, (congrArg (fun l => pm_look l 20) cq_166).trans rfl⟩
theorem lk_166_21 : Lk 166 21 (.bipush 10) 0 0 (0) := ⟨2, 0, (congrArg (fun l => pm_look l 21) cq_166).trans rfl⟩
theorem lk_166_23 : Lk 166 23 (.iastore) 0 0 (0) := ⟨1, 0, (congrArg (fun l => pm_look l 23) cq_166).trans rfl⟩
theorem lk_166_24 : Lk 166 24 (.dup) 0 0 (0) := ⟨1, 0, (congrArg (fun l => pm_look l 24) cq_166).trans rfl⟩
theorem lk_166_25 : Lk 166 25 (.iconst 1) 0 0 (0) := ⟨1, 0, (congrArg (fun l => pm_look l 25) cq_166).trans rfl⟩
theorem lk_166_26 : Lk 166 26 (.bipush 10) 0 0 (0) := ⟨2, 0, (congrArg (fun l => pm_look l 26) cq_166).trans rfl⟩
theorem lk_166_28 : Lk 166 28 (.iastore) 0 0 (0) := ⟨1, 0, (congrArg (fun l => pm_look l 28) cq_166).trans rfl⟩
theorem lk_166_29 : Lk 166 29 (.dup) 0 0 (0) := ⟨1, 0, (congrArg (fun l => pm_look l 29) cq_166).trans rfl⟩
theorem lk_166_30 : Lk 166 30 (.iconst 2) 0 0 (0) := ⟨1, 0, (congrArg (fun l => pm_look l 30) cq_166).trans rfl⟩
theorem lk_166_31 : Lk 166 31 (.bipush 10) 0 0 (0) := ⟨2, 0, (congrArg (fun l => pm_look l 31) cq_166).trans rfl⟩
theorem lk_166_33 : Lk 166 33 (.iastore) 0 0 (0) := ⟨1, 0, (congrArg (fun l => pm_look l 33) cq_166).trans rfl⟩
theorem lk_166_34 : Lk 166 34 (.dup) 0 0 (0) := ⟨1, 0, (congrArg (fun l => pm_look l 34) cq_166).trans rfl⟩
theorem lk_166_35 : Lk 166 35 (.iconst 3) 0 0 (0) := ⟨1, 0, (congrArg (fun l => pm_look l 35) cq_166).trans rfl⟩
theorem lk_166_36 : Lk 166 36 (.bipush 10) 0 0 (0) := ⟨2, 0, (congrArg (fun l => pm_look l 36) cq_166).trans rfl⟩
theorem lk_166_38 : Lk 166 38 (.iastore) 0 0 (0) := ⟨1, 0, (congrArg (fun l => pm_look l 38) cq_166).trans rfl⟩
theorem lk_166_39 : Lk 166 39 (.dup) 0 0 (0) := ⟨1, 0, (congrArg (fun l => pm_look l 39) cq_166).trans rfl⟩
theorem lk_166_40 : Lk 166 40 (.iconst 4) 0 0 (0) := ⟨1, 0, (congrArg (fun l => pm_look l 40) cq_166).trans rfl⟩
theorem lk_166_41 : Lk 166 41 (.bipush 10) 0 0 (0) := ⟨2, 0, (congrArg (fun l => pm_look l 41) cq_166).trans rfl⟩
theorem lk_166_43 : Lk 166 43 (.iastore) 0 0 (0) := ⟨1, 0, (congrArg (fun l => pm_look l 43) cq_166).trans rfl⟩
theorem lk_166_44 : Lk 166 44 (.dup) 0 0 (0) := ⟨1, 0, (congrArg (fun l => pm_look l 44) cq_166).trans rfl⟩
theorem lk_166_45 : Lk 166 45 (.iconst 5) 0 0 (0) := ⟨1, 0, (congrArg (fun l => pm_look l 45) cq_166).trans rfl⟩
theorem lk_166_46 : Lk 166 46 (.bipush 10) 0 0 (0) := ⟨2, 0, (congrArg (fun l => pm_look l 46) cq_166).trans rfl⟩
theorem lk_166_48 : Lk 166 48 (.iastore) 0 0 (0) := ⟨1, 0, (congrArg (fun l => pm_look l 48) cq_166).trans rfl⟩
theorem lk_166_49 : Lk 166 49 (.dup) 0 0 (0) := ⟨1, 0, (congrArg (fun l => pm_look l 49) cq_166).trans rfl⟩
theorem lk_166_50 : Lk 166 50 (.bipush 6) 0 0 (0) := ⟨2, 0, (congrArg (fun l => pm_look l 50) cq_166).trans rfl⟩
theorem lk_166_52 : Lk 166 52 (.bipush 10) 0 0 (0) := ⟨2, 0, (congrArg (fun l => pm_look l 52) cq_166).trans rfl⟩
theorem lk_166_54 : Lk 166 54 (.iastore) 0 0 (0) := ⟨1, 0, (congrArg (fun l => pm_look l 54) cq_166).trans rfl⟩
theorem lk_166_55 : Lk 166 55 (.dup) 0 0 (0) := ⟨1, 0, (congrArg (fun l => pm_look l 55) cq_166).trans rfl⟩
theorem lk_166_56 : Lk 166 56 (.bipush 7) 0 0 (0) := ⟨2, 0, (congrArg (fun l => pm_look l 56) cq_166).trans rfl⟩
theorem lk_166_58 : Lk 166 58 (.bipush 10) 0 0 (0) := ⟨2, 0, (congrArg (fun l => pm_look l 58) cq_166).trans rfl⟩
theorem lk_166_60 : Lk 166 60 (.iastore) 0 0 (0) := ⟨1, 0, (congrArg (fun l => pm_look l 60) cq_166).trans rfl⟩
theorem lk_166_61 : Lk 166 61 (.dup) 0 0 (0) := ⟨1, 0, (congrArg (fun l => pm_look l 61) cq_166).trans rfl⟩
theorem lk_166_62 : Lk 166 62 (.bipush 8) 0 0 (0) := ⟨2, 0, (congrArg (fun l => pm_look l 62) cq_166).trans rfl⟩
theorem lk_166_64 : Lk 166 64 (.bipush 10) 0 0 (0) := ⟨2, 0, (congrArg (fun l => pm_look l 64) cq_166).trans rfl⟩
theorem lk_166_66 : Lk 166 66 (.iastore) 0 0 (0) := ⟨1, 0, (congrArg (fun l => pm_look l 66) cq_166).trans rfl⟩
theorem lk_166_67 : Lk 166 67 (.dup) 0 0 (0) := ⟨1, 0, (congrArg (fun l => pm_look l 67) cq_166).trans rfl⟩
theorem lk_166_68 : Lk 166 68 (.bipush 9) 0 0 (0) := ⟨2, 0, (congrArg (fun l => pm_look l 68) cq_166).trans rfl⟩
theorem lk_166_70 : Lk 166 70 (.bipush 10) 0 0 (0) := ⟨2, 0, (congrArg (fun l => pm_look l 70) cq_166).trans rfl⟩
theorem lk_166_72 : Lk 166 72 (.iastore) 0 0 (0) := ⟨1, 0, (congrArg (fun l => pm_look l 72) cq_166).trans rfl⟩
theorem lk_166_73 : Lk 166 73 (.dup) 0 0 (0) := ⟨1, 0, (congrArg (fun l => pm_look l 73) cq_166).trans rfl⟩
theorem lk_166_74 : Lk 166 74 (.bipush 10) 0 0 (0) := ⟨2, 0, (congrArg (fun l => pm_look l 74) cq_166).trans rfl⟩
theorem lk_166_76 : Lk 166 76 (.bipush 10) 0 0 (0) := ⟨2, 0, (congrArg (fun l => pm_look l 76) cq_166).trans rfl⟩
theorem lk_166_78 : Lk 166 78 (.iastore) 0 0 (0) := ⟨1, 0, (congrArg (fun l => pm_look l 78) cq_166).trans rfl⟩
theorem lk_166_79 : Lk 166 79 (.dup) 0 0 (0) := ⟨1, 0, (congrArg (fun l => pm_look l 79) cq_166).trans rfl⟩
theorem lk_166_80 : Lk 166 80 (.bipush 11) 0 0 (0) := ⟨2, 0, (congrArg (fun l => pm_look l 80) cq_166).trans rfl⟩
theorem lk_166_82 : Lk 166 82 (.bipush 10) 0 0 (0) := ⟨2, 0, (congrArg (fun l => pm_look l 82) cq_166).trans rfl⟩
theorem lk_166_84 : Lk 166 84 (.iastore) 0 0 (0) := ⟨1, 0, (congrArg (fun l => pm_look l 84) cq_166).trans rfl⟩
theorem lk_166_85 : Lk 166 85 (.dup) 0 0 (0) := ⟨1, 0, (congrArg (fun l => pm_look l 85) cq_166).trans rfl⟩
theorem lk_166_86 : Lk 166 86 (.bipush 12) 0 0 (0) := ⟨2, 0, (congrArg (fun l => pm_look l 86) cq_166).trans rfl⟩
theorem lk_166_88 : Lk 166 88 (.bipush 10) 0 0 (0) := ⟨2, 0, (congrArg (fun l => pm_look l 88) cq_166).trans rfl⟩
theorem lk_166_90 : Lk 166 90 (.iastore) 0 0 (0) := ⟨1, 0, (congrArg (fun l => pm_look l 90) cq_166).trans rfl⟩
theorem lk_166_91 : Lk 166 91 (.dup) 0 0 (0) := ⟨1, 0, (congrArg (fun l => pm_look l 91) cq_166).trans rfl⟩
theorem lk_166_92 : Lk 166 92 (.bipush 13) 0 0 (0) := ⟨2, 0, (congrArg (fun l => pm_look l 92) cq_166).trans rfl⟩
theorem lk_166_94 : Lk 166 94 (.bipush 10) 0 0 (0) := ⟨2, 0, (congrArg (fun l => pm_look l 94) cq_166).trans rfl⟩
theorem lk_166_96 : Lk 166 96 (.iastore) 0 0 (0) := ⟨1, 0, (congrArg (fun l => pm_look l 96) cq_166).trans rfl⟩
theorem lk_166_97 : Lk 166 97 (.dup) 0 0 (0) := ⟨1, 0, (congrArg (fun l => pm_look l 97) cq_166).trans rfl⟩
theorem lk_166_98 : Lk 166 98 (.bipush 14) 0 0 (0) := ⟨2, 0, (congrArg (fun l => pm_look l 98) cq_166).trans rfl⟩
theorem lk_166_100 : Lk 166 100 (.bipush 10) 0 0 (0) := ⟨2, 0, (congrArg (fun l => pm_look l 100) cq_166).trans rfl⟩
theorem lk_166_102 : Lk 166 102 (.iastore) 0 0 (0) := ⟨1, 0, (congrArg (fun l => pm_look l 102) cq_166).trans rfl⟩
theorem lk_166_103 : Lk 166 103 (.dup) 0 0 (0) := ⟨1, 0, (congrArg (fun l => pm_look l 103) cq_166).trans rfl⟩
theorem lk_166_104 : Lk 166 104 (.bipush 15) 0 0 (0) := ⟨2, 0, (congrArg (fun l => pm_look l 104) cq_166).trans rfl⟩
theorem lk_166_106 : Lk 166 106 (.bipush 10) 0 0 (0) := ⟨2, 0, (congrArg (fun l => pm_look l 106) cq_166).trans rfl⟩
theorem lk_166_108 : Lk 166 108 (.iastore) 0 0 (0) := ⟨1, 0, (congrArg (fun l => pm_look l 108) cq_166).trans rfl⟩
theorem lk_166_109 : Lk 166 109 (.dup) 0 0 (0) := ⟨1, 0, (congrArg (fun l => pm_look l 109) cq_166).trans rfl⟩
theorem lk_166_110 : Lk 166 110 (.bipush 16) 0 0 (0) := ⟨2, 0, (congrArg (fun l => pm_look l 110) cq_166).trans rfl⟩
theorem lk_166_112 : Lk 166 112 (.bipush 10) 0 0 (0) := ⟨2, 0, (congrArg (fun l => pm_look l 112) cq_166).trans rfl⟩
theorem lk_166_114 : Lk 166 114 (.iastore) 0 0 (0) := ⟨1, 0, (congrArg (fun l => pm_look l 114) cq_166).trans rfl⟩
theorem lk_166_115 : Lk 166 115 (.dup) 0 0 (0) := ⟨1, 0, (congrArg (fun l => pm_look l 115) cq_166).trans rfl⟩
theorem lk_166_116 : Lk 166 116 (.bipush 17) 0 0 (0) := ⟨2, 0, (congrArg (fun l => pm_look l 116) cq_166).trans rfl⟩
theorem lk_166_118 : Lk 166 118 (.bipush 10) 0 0 (0) := ⟨2, 0, (congrArg (fun l => pm_look l 118) cq_166).trans rfl⟩
theorem lk_166_120 : Lk 166 120 (.iastore) 0 0 (0) := ⟨1, 0, (congrArg (fun l => pm_look l 120) cq_166).trans rfl⟩
theorem lk_166_121 : Lk 166 121 (.dup) 0 0 (0) := ⟨1, 0, (congrArg (fun l => pm_look l 121) cq_166).trans rfl⟩
theorem lk_166_122 : Lk 166 122 (.bipush 18) 0 0 (0) := ⟨2, 0, (congrArg (fun l => pm_look l 122) cq_166).trans rfl⟩
theorem lk_166_124 : Lk 166 124 (.bipush 10) 0 0 (0) := ⟨2, 0, (congrArg (fun l => pm_look l 124) cq_166).trans rfl⟩
theorem lk_166_126 : Lk 166 126 (.iastore) 0 0 (0) := ⟨1, 0, (congrArg (fun l => pm_look l 126) cq_166).trans rfl⟩
theorem lk_166_127 : Lk 166 127 (.dup) 0 0 (0) := ⟨1, 0, (congrArg (fun l => pm_look l 127) cq_166).trans rfl⟩
theorem lk_166_128 : Lk 166 128 (.bipush 19) 0 0 (0) := ⟨2, 0, (congrArg (fun l => pm_look l 128) cq_166).trans rfl⟩
theorem lk_166_130 : Lk 166 130 (.bipush 10) 0 0 (0) := ⟨2, 0, (congrArg (fun l => pm_look l 130) cq_166).trans rfl⟩
theorem lk_166_132 : Lk 166 132 (.iastore) 0 0 (0) := ⟨1, 0, (congrArg (fun l => pm_look l 132) cq_166).trans rfl⟩
theorem lk_166_133 : Lk 166 133 (.dup) 0 0 (0) := ⟨1, 0, (congrArg (fun l => pm_look l 133) cq_166).trans rfl⟩
theorem lk_166_134 : Lk 166 134 (.bipush 20) 0 0 (0) := ⟨2, 0, (congrArg (fun l => pm_look l 134) cq_166).trans rfl⟩
theorem lk_166_136 : Lk 166 136 (.bipush 10) 0 0 (0) := ⟨2, 0, (congrArg (fun l => pm_look l 136) cq_166).trans rfl⟩
theorem lk_166_138 : Lk 166 138 (.iastore) 0 0 (0) := ⟨1, 0, (congrArg (fun l => pm_look l 138) cq_166).trans rfl⟩
theorem lk_166_139 : Lk 166 139 (.dup) 0 0 (0) := ⟨1, 0, (congrArg (fun l => pm_look l 139) cq_166).trans rfl⟩
theorem lk_166_140 : Lk 166 140 (.bipush 21) 0 0 (0) := ⟨2, 0, (congrArg (fun l => pm_look l 140) cq_166).trans rfl⟩
theorem lk_166_142 : Lk 166 142 (.bipush 10) 0 0 (0) := ⟨2, 0, (congrArg (fun l => pm_look l 142) cq_166).trans rfl⟩
theorem lk_166_144 : Lk 166 144 (.iastore) 0 0 (0) := ⟨1, 0, (congrArg (fun l => pm_look l 144) cq_166).trans rfl⟩
theorem lk_166_145 : Lk 166 145 (.dup) 0 0 (0) := ⟨1, 0, (congrArg (fun l => pm_look l 145) cq_166).trans rfl⟩
theorem lk_166_146 : Lk 166 146 (.bipush 22) 0 0 (0) := ⟨2, 0, (congrArg (fun l => pm_look l 146) cq_166).trans rfl⟩
theorem lk_166_148 : Lk 166 148 (.bipush 10) 0 0 (0) := ⟨2, 0, (congrArg (fun l => pm_look l 148) cq_166).trans rfl⟩
theorem lk_166_150 : Lk 166 150 (.iastore) 0 0 (0) := ⟨1, 0, (congrArg (fun l => pm_look l 150) cq_166).trans rfl⟩
theorem lk_166_151 : Lk 166 151 (.dup) 0 0 (0) := ⟨1, 0, (congrArg (fun l => pm_look l 151) cq_166).trans rfl⟩
theorem lk_166_152 : Lk 166 152 (.bipush 23) 0 0 (0) := ⟨2, 0, (congrArg (fun l => pm_look l 152) cq_166).trans rfl⟩
theorem lk_166_154 : Lk 166 154 (.bipush 10) 0 0 (0) := ⟨2, 0, (congrArg (fun l => pm_look l 154) cq_166).trans rfl⟩
theorem lk_166_156 : Lk 166 156 (.iastore) 0 0 (0) := ⟨1, 0, (congrArg (fun l => pm_look l 156) cq_166).trans rfl⟩
theorem lk_166_157 : Lk 166 157 (.dup) 0 0 (0) := ⟨1, 0, (congrArg (fun l => pm_look l 157) cq_166).trans rfl⟩
theorem lk_166_158 : Lk 166 158 (.bipush 24) 0 0 (0) := ⟨2, 0, (congrArg (fun l => pm_look l 158) cq_166).trans rfl⟩
theorem lk_166_160 : Lk 166 160 (.bipush 10) 0 0 (0) := ⟨2, 0, (congrArg (fun l => pm_look l 160) cq_166).trans rfl⟩
theorem lk_166_162 : Lk 166 162 (.iastore) 0 0 (0) := ⟨1, 0, (congrArg (fun l => pm_look l 162) cq_166).trans rfl⟩
theorem lk_166_163 : Lk 166 163 (.dup) 0 0 (0) := ⟨1, 0, (congrArg (fun l => pm_look l 163) cq_166).trans rfl⟩
theorem lk_166_164 : Lk 166 164 (.bipush 25) 0 0 (0) := ⟨2, 0, (congrArg (fun l => pm_look l 164) cq_166).trans rfl⟩
theorem lk_166_166 : Lk 166 166 (.bipush 10) 0 0 (0) := ⟨2, 0, (congrArg (fun l => pm_look l 166) cq_166).trans rfl⟩
theorem lk_166_168 : Lk 166 168 (.iastore) 0 0 (0) := ⟨1, 0, (congrArg (fun l => pm_look l 168) cq_166).trans rfl⟩
theorem lk_166_169 : Lk 166 169 (.dup) 0 0 (0) := ⟨1, 0, (congrArg (fun l => pm_look l 169) cq_166).trans rfl⟩
theorem lk_166_170 : Lk 166 170 (.bipush 26) 0 0 (0) := ⟨2, 0, (congrArg (fun l => pm_look l 170) cq_166).trans rfl⟩
theorem lk_166_172 : Lk 166 172 (.bipush 10) 0 0 (0) := ⟨2, 0, (congrArg (fun l => pm_look l 172) cq_166).trans rfl⟩
theorem lk_166_174 : Lk 166 174 (.iastore) 0 0 (0) := ⟨1, 0, (congrArg (fun l => pm_look l 174) cq_166).trans rfl⟩
theorem lk_166_175 : Lk 166 175 (.dup) 0 0 (0) := ⟨1, 0, (congrArg (fun l => pm_look l 175) cq_166).trans rfl⟩
theorem lk_166_176 : Lk 166 176 (.bipush 27) 0 0 (0) := ⟨2, 0, (congrArg (fun l => pm_look l 176) cq_166).trans rfl⟩
set_option maxRecDepth 100000 in
theorem lk_166_178 : Lk 166 178 (.bipush 10) 0 0 (0) := ⟨2, 0, (congrArg (fun l => pm_look l 178) cq_166).trans rfl⟩
set_option maxRecDepth 100000 in
theorem lk_166_180 : Lk 166 180 (.iastore) 0 0 (0) := ⟨1, 0, (congrArg (fun l => pm_look l 180) cq_166).trans rfl⟩
set_option maxRecDepth 100000 in
theorem lk_166_181 : Lk 166 181 (.dup) 0 0 (0) := ⟨1, 0, (congrArg (fun l => pm_look l 181) cq_166).trans rfl⟩
set_option maxRecDepth 100000 in
theorem lk_166_182 : Lk 166 182 (.bipush 28) 0 0 (0) := ⟨2, 0, (congrArg (fun l => pm_look l 182) cq_166).trans rfl⟩
set_option maxRecDepth 100000 in
theorem lk_166_184 : Lk 166 184 (.bipush 10) 0 0 (0) := ⟨2, 0, (congrArg (fun l => pm_look l 184) cq_166).trans rfl⟩
set_option maxRecDepth 100000 in
theorem lk_166_186 : Lk 166 186 (.iastore) 0 0 (0) := ⟨1, 0, (congrArg (fun l => pm_look l 186) cq_166).trans rfl⟩
set_option maxRecDepth 100000 in
theorem lk_166_187 : Lk 166 187 (.dup) 0 0 (0) := ⟨1, 0, (congrArg (fun l => pm_look l 187) cq_166).trans rfl⟩
set_option maxRecDepth 100000 in
theorem lk_166_188 : Lk 166 188 (.bipush 29) 0 0 (0) := ⟨2, 0, (congrArg (fun l => pm_look l 188) cq_166).trans rfl⟩
set_option maxRecDepth 100000 in
theorem lk_166_190 : Lk 166 190 (.bipush 10) 0 0 (0) := ⟨2, 0, (congrArg (fun l => pm_look l 190) cq_166).trans rfl⟩
set_option maxRecDepth 100000 in
theorem lk_166_192 : Lk 166 192 (.iastore) 0 0 (0) := ⟨1, 0, (congrArg (fun l => pm_look l 192) cq_166).trans rfl⟩
set_option maxRecDepth 100000 in
theorem lk_166_193 : Lk 166 193 (.dup) 0 0 (0) := ⟨1, 0, (congrArg (fun l => pm_look l 193) cq_166).trans rfl⟩
set_option maxRecDepth 100000 in
theorem lk_166_194 : Lk 166 194 (.bipush 30) 0 0 (0) := ⟨2, 0, (congrArg (fun l => pm_look l 194) cq_166).trans rfl⟩
set_option maxRecDepth 100000 in
theorem lk_166_196 : Lk 166 196 (.bipush 10) 0 0 (0) := ⟨2, 0, (congrArg (fun l => pm_look l 196) cq_166).trans rfl⟩
set_option maxRecDepth 100000 in
theorem lk_166_198 : Lk 166 198 (.iastore) 0 0 (0) := ⟨1, 0, (congrArg (fun l => pm_look l 198) cq_166).trans rfl⟩
set_option maxRecDepth 100000 in
theorem lk_166_199 : Lk 166 199 (.dup) 0 0 (0) := ⟨1, 0, (congrArg (fun l => pm_look l 199) cq_166).trans rfl⟩
set_option maxRecDepth 100000 in
theorem lk_166_200 : Lk 166 200 (.bipush 31) 0 0 (0) := ⟨2, 0, (congrArg (fun l => pm_look l 200) cq_166).trans rfl⟩
set_option maxRecDepth 100000 in
theorem lk_166_202 : Lk 166 202 (.bipush 10) 0 0 (0) := ⟨2, 0, (congrArg (fun l => pm_look l 202) cq_166).trans rfl⟩
set_option maxRecDepth 100000 in
theorem lk_166_204 : Lk 166 204 (.iastore) 0 0 (0) := ⟨1, 0, (congrArg (fun l => pm_look l 204) cq_166).trans rfl⟩
set_option maxRecDepth 100000 in
theorem lk_166_205 : Lk 166 205 (.dup) 0 0 (0) := ⟨1, 0, (congrArg (fun l => pm_look l 205) cq_166).trans rfl⟩
set_option maxRecDepth 100000 in
theorem lk_166_206 : Lk 166 206 (.bipush 32) 0 0 (0) := ⟨2, 0, (congrArg (fun l => pm_look l 206) cq_166).trans rfl⟩
set_option maxRecDepth 100000 in
theorem lk_166_208 : Lk 166 208 (.bipush 10) 0 0 (0) := ⟨2, 0, (congrArg (fun l => pm_look l 208) cq_166).trans rfl⟩
set_option maxRecDepth 100000 in
theorem lk_166_210 : Lk 166 210 (.iastore) 0 0 (0) := ⟨1, 0, (congrArg (fun l => pm_look l 210) cq_166).trans rfl⟩
set_option maxRecDepth 100000 in
theorem lk_166_211 : Lk 166 211 (.dup) 0 0 (0) := ⟨1, 0, (congrArg (fun l => pm_look l 211) cq_166).trans rfl⟩
set_option maxRecDepth 100000 in
theorem lk_166_212 : Lk 166 212 (.bipush 33) 0 0 (0) := ⟨2, 0, (congrArg (fun l => pm_look l 212) cq_166).trans rfl⟩
set_option maxRecDepth 100000 in
theorem lk_166_214 : Lk 166 214 (.bipush 10) 0 0 (0) := ⟨2, 0, (congrArg (fun l => pm_look l 214) cq_166).trans rfl⟩
set_option maxRecDepth 100000 in
theorem lk_166_216 : Lk 166 216 (.iastore) 0 0 (0) := ⟨1, 0, (congrArg (fun l => pm_look l 216) cq_166).trans rfl⟩
set_option maxRecDepth 100000 in
theorem lk_166_217 : Lk 166 217 (.dup) 0 0 (0) := ⟨1, 0, (congrArg (fun l => pm_look l 217) cq_166).trans rfl⟩
set_option maxRecDepth 100000 in
theorem lk_166_218 : Lk 166 218 (.bipush 34) 0 0 (0) := ⟨2, 0, (congrArg (fun l => pm_look l 218) cq_166).trans rfl⟩
set_option maxRecDepth 100000 in
theorem lk_166_220 : Lk 166 220 (.bipush 10) 0 0 (0) := ⟨2, 0, (congrArg (fun l => pm_look l 220) cq_166).trans rfl⟩
set_option maxRecDepth 100000 in
theorem lk_166_222 : Lk 166 222 (.iastore) 0 0 (0) := ⟨1, 0, (congrArg (fun l => pm_look l 222) cq_166).trans rfl⟩
set_option maxRecDepth 100000 in
theorem lk_166_223 : Lk 166 223 (.dup) 0 0 (0) := ⟨1, 0, (congrArg (fun l => pm_look l 223) cq_166).trans rfl⟩
set_option maxRecDepth 100000 in
theorem lk_166_224 : Lk 166 224 (.bipush 35) 0 0 (0) := ⟨2, 0, (congrArg (fun l => pm_look l 224) cq_166).trans rfl⟩
set_option maxRecDepth 100000 in
theorem lk_166_226 : Lk 166 226 (.bipush 10) 0 0 (0) := ⟨2, 0, (congrArg (fun l => pm_look l 226) cq_166).trans rfl⟩
set_option maxRecDepth 100000 in
theorem lk_166_228 : Lk 166 228 (.iastore) 0 0 (0) := ⟨1, 0, (congrArg (fun l => pm_look l 228) cq_166).trans rfl⟩
set_option maxRecDepth 100000 in
theorem lk_166_229 : Lk 166 229 (.putfield 16) 12 7 (2) := ⟨3, 1264, (congrArg (fun l => pm_look l 229) cq_166).trans rfl⟩
set_option maxRecDepth 100000 in
theorem lk_166_232 : Lk 166 232 (.aload_n 0) 0 0 (0) := ⟨1, 0, (congrArg (fun l => pm_look l 232) cq_166).trans rfl⟩
set_option maxRecDepth 100000 in
theorem lk_166_233 : Lk 166 233 (.bipush 36) 0 0 (0) := ⟨2, 0, (congrArg (fun l => pm_look l 233) cq_166).trans rfl⟩
set_option maxRecDepth 100000 in
theorem lk_166_235 : Lk 166 235 (.newarray .int) 100 0 (0) := ⟨2, 0, (congrArg (fun l => pm_look l 235) cq_166).trans rfl⟩
set_option maxRecDepth 100000 in
theorem lk_166_237 : Lk 166 237 (.putfield 20) 12 8 (2) := ⟨3, 1265, (congrArg (fun l => pm_look l 237) cq_166).trans rfl⟩
set_option maxRecDepth 100000 in
theorem lk_166_240 : Lk 166 240 (.aload_n 0) 0 0 (0) := ⟨1, 0, (congrArg (fun l => pm_look l 240) cq_166).trans rfl⟩
set_option maxRecDepth 100000 in
theorem lk_166_241 : Lk 166 241 (.iconst 4) 0 0 (0) := ⟨1, 0, (congrArg (fun l => pm_look l 241) cq_166).trans rfl⟩
set_option maxRecDepth 100000 in
theorem lk_166_242 : Lk 166 242 (.newarray .int) 100 0 (0) := ⟨2, 0, (congrArg (fun l => pm_look l 242) cq_166).trans rfl⟩
set_option maxRecDepth 100000 in
theorem lk_166_244 : Lk 166 244 (.putfield 23) 12 9 (2) := ⟨3, 1266, (congrArg (fun l => pm_look l 244) cq_166).trans rfl⟩
set_option maxRecDepth 100000 in
theorem lk_166_247 : Lk 166 247 (.aload_n 0) 0 0 (0) := ⟨1, 0, (congrArg (fun l => pm_look l 247) cq_166).trans rfl⟩
set_option maxRecDepth 100000 in
theorem lk_166_248 : Lk 166 248 (.iconst 3) 0 0 (0) := ⟨1, 0, (congrArg (fun l => pm_look l 248) cq_166).trans rfl⟩
set_option maxRecDepth 100000 in
theorem lk_166_249 : Lk 166 249 (.newarray .int) 100 0 (0) := ⟨2, 0, (congrArg (fun l => pm_look l 249) cq_166).trans rfl⟩
set_option maxRecDepth 100000 in
theorem lk_166_251 : Lk 166 251 (.dup) 0 0 (0) := ⟨1, 0, (congrArg (fun l => pm_look l 251) cq_166).trans rfl⟩
set_option maxRecDepth 100000 in
theorem lk_166_252 : Lk 166 252 (.iconst 0) 0 0 (0) := ⟨1, 0, (congrArg (fun l => pm_look l 252) cq_166).trans rfl⟩
set_option maxRecDepth 100000 in
theorem lk_166_253 : Lk 166 253 (.iconst 0) 0 0 (0) := ⟨1, 0, (congrArg (fun l => pm_look l 253) cq_166).trans rfl⟩
set_option maxRecDepth 100000 in
theorem lk_166_254 : Lk 166 254 (.iastore) 0 0 (0) := ⟨1, 0, (congrArg (fun l => pm_look l 254) cq_166).trans rfl⟩
set_option maxRecDepth 100000 in
theorem lk_166_255 : Lk 166 255 (.dup) 0 0 (0) := ⟨1, 0, (congrArg (fun l => pm_look l 255) cq_166).trans rfl⟩
set_option maxRecDepth 100000 in
theorem lk_166_256 : Lk 166 256 (.iconst 1) 0 0 (0) := ⟨1, 0, (congrArg (fun l => pm_look l 256) cq_166).trans rfl⟩
set_option maxRecDepth 100000 in
theorem lk_166_257 : Lk 166 257 (.iconst 1) 0 0 (0) := ⟨1, 0, (congrArg (fun l => pm_look l 257) cq_166).trans rfl⟩
set_option maxRecDepth 100000 in
theorem lk_166_258 : Lk 166 258 (.iastore) 0 0 (0) := ⟨1, 0, (congrArg (fun l => pm_look l 258) cq_166).trans rfl⟩
set_option maxRecDepth 100000 in
theorem lk_166_259 : Lk 166 259 (.dup) 0 0 (0) := ⟨1, 0, (congrArg (fun l => pm_look l 259) cq_166).trans rfl⟩
set_option maxRecDepth 100000 in
theorem lk_166_260 : Lk 166 260 (.iconst 2) 0 0 (0) := ⟨1, 0, (congrArg (fun l => pm_look l 260) cq_166).trans rfl⟩
set_option maxRecDepth 100000 in
theorem lk_166_261 : Lk 166 261 (.iconst 1) 0 0 (0) := ⟨1, 0, (congrArg (fun l => pm_look l 261) cq_166).trans rfl⟩
set_option maxRecDepth 100000 in
theorem lk_166_262 : Lk 166 262 (.iastore) 0 0 (0) := ⟨1, 0, (congrArg (fun l => pm_look l 262) cq_166).trans rfl⟩
set_option maxRecDepth 100000 in
theorem lk_166_263 : Lk 166 263 (.putfield 26) 12 10 (2) := ⟨3, 1267, (congrArg (fun l => pm_look l 263) cq_166).trans rfl⟩
set_option maxRecDepth 100000 in
theorem lk_166_266 : Lk 166 266 (.aload_n 0) 0 0 (0) := ⟨1, 0, (congrArg (fun l => pm_look l 266) cq_166).trans rfl⟩
set_option maxRecDepth 100000 in
theorem lk_166_267 : Lk 166 267 (.iconst 3) 0 0 (0) := ⟨1, 0, (congrArg (fun l => pm_look l 267) cq_166).trans rfl⟩
set_option maxRecDepth 100000 in
theorem lk_166_268 : Lk 166 268 (.newarray .int) 100 0 (0) := ⟨2, 0, (congrArg (fun l => pm_look l 268) cq_166).trans rfl⟩
set_option maxRecDepth 100000 in
theorem lk_166_270 : Lk 166 270 (.putfield 29) 12 11 (2) := ⟨3, 1268, (congrArg (fun l => pm_look l 270) cq_166).trans rfl⟩
set_option maxRecDepth 100000 in
theorem lk_166_273 : Lk 166 273 (.aload_n 0) 0 0 (0) := ⟨1, 0, (congrArg (fun l => pm_look l 273) cq_166).trans rfl⟩
set_option maxRecDepth 100000 in
theorem lk_166_274 : Lk 166 274 (.iconst 4) 0 0 (0) := ⟨1, 0, (congrArg (fun l => pm_look l 274) cq_166).trans rfl⟩
set_option maxRecDepth 100000 in
theorem lk_166_275 : Lk 166 275 (.newarray .int) 100 0 (0) := ⟨2, 0, (congrArg (fun l => pm_look l 275) cq_166).trans rfl⟩
set_option maxRecDepth 100000 in
theorem lk_166_277 : Lk 166 277 (.putfield 32) 12 12 (2) := ⟨3, 1269, (congrArg (fun l => pm_look l 277) cq_166).trans rfl⟩
set_option maxRecDepth 100000 in
theorem lk_166_280 : Lk 166 280 (.aload_n 0) 0 0 (0) := ⟨1, 0, (congrArg (fun l => pm_look l 280) cq_166).trans rfl⟩
set_option maxRecDepth 100000 in
theorem lk_166_281 : Lk 166 281 (.bipush 124) 0 0 (0) := ⟨2, 0, (congrArg (fun l => pm_look l 281) cq_166).trans rfl⟩
set_option maxRecDepth 100000 in
theorem lk_166_283 : Lk 166 283 (.newarray .int) 100 0 (0) := ⟨2, 0, (congrArg (fun l => pm_look l 283) cq_166).trans rfl⟩
set_option maxRecDepth 100000 in
theorem lk_166_285 : Lk 166 285 (.putfield 35) 12 13 (2) := ⟨3, 1270, (congrArg (fun l => pm_look l 285) cq_166).trans rfl⟩
set_option maxRecDepth 100000 in
theorem lk_166_288 : Lk 166 288 (.aload_n 0) 0 0 (0) := ⟨1, 0, (congrArg (fun l => pm_look l 288) cq_166).trans rfl⟩
set_option maxRecDepth 100000 in
theorem lk_166_289 : Lk 166 289 (.bipush 124) 0 0 (0) := ⟨2, 0, (congrArg (fun l => pm_look l 289) cq_166).trans rfl⟩
set_option maxRecDepth 100000 in
theorem lk_166_291 : Lk 166 291 (.newarray .int) 100 0 (0) := ⟨2, 0, (congrArg (fun l => pm_look l 291) cq_166).trans rfl⟩
set_option maxRecDepth 100000 in
theorem lk_166_293 : Lk 166 293 (.putfield 38) 12 14 (2) := ⟨3, 1271, (congrArg (fun l => pm_look l 293) cq_166).trans rfl⟩
set_option maxRecDepth 100000 in
theorem lk_166_296 : Lk 166 296 (.aload_n 0) 0 0 (0) := ⟨1, 0, (congrArg (fun l => pm_look l 296) cq_166).trans rfl⟩
set_option maxRecDepth 100000 in
theorem lk_166_297 : Lk 166 297 (.bipush 124) 0 0 (0) := ⟨2, 0, (congrArg (fun l => pm_look l 297) cq_166).trans rfl⟩
set_option maxRecDepth 100000 in
theorem lk_166_299 : Lk 166 299 (.newarray .int) 100 0 (0) := ⟨2, 0, (congrArg (fun l => pm_look l 299) cq_166).trans rfl⟩
set_option maxRecDepth 100000 in
theorem lk_166_301 : Lk 166 301 (.putfield 41) 12 15 (2) := ⟨3, 1272, (congrArg (fun l => pm_look l 301) cq_166).trans rfl⟩
set_option maxRecDepth 100000 in
theorem lk_166_304 : Lk 166 304 (.aload_n 0) 0 0 (0) := ⟨1, 0, (congrArg (fun l => pm_look l 304) cq_166).trans rfl⟩
set_option maxRecDepth 100000 in
theorem lk_166_305 : Lk 166 305 (.bipush 124) 0 0 (0) := ⟨2, 0, (congrArg (fun l => pm_look l 305) cq_166).trans rfl⟩
set_option maxRecDepth 100000 in
theorem lk_166_307 : Lk 166 307 (.newarray .int) 100 0 (0) := ⟨2, 0, (congrArg (fun l => pm_look l 307) cq_166).trans rfl⟩
set_option maxRecDepth 100000 in
theorem lk_166_309 : Lk 166 309 (.putfield 44) 12 16 (2) := ⟨3, 1273, (congrArg (fun l => pm_look l 309) cq_166).trans rfl⟩
set_option maxRecDepth 100000 in
theorem lk_166_312 : Lk 166 312 (.aload_n 0) 0 0 (0) := ⟨1, 0, (congrArg (fun l => pm_look l 312) cq_166).trans rfl⟩
set_option maxRecDepth 100000 in
theorem lk_166_313 : Lk 166 313 (.iconst 4) 0 0 (0) := ⟨1, 0, (congrArg (fun l => pm_look l 313) cq_166).trans rfl⟩
set_option maxRecDepth 100000 in
theorem lk_166_314 : Lk 166 314 (.newarray .int) 100 0 (0) := ⟨2, 0, (congrArg (fun l => pm_look l 314) cq_166).trans rfl⟩
set_option maxRecDepth 100000 in
theorem lk_166_316 : Lk 166 316 (.putfield 47) 12 17 (2) := ⟨3, 1274, (congrArg (fun l => pm_look l 316) cq_166).trans rfl⟩
set_option maxRecDepth 100000 in
theorem lk_166_319 : Lk 166 319 (.aload_n 0) 0 0 (0) := ⟨1, 0, (congrArg (fun l => pm_look l 319) cq_166).trans rfl⟩
set_option maxRecDepth 100000 in
theorem lk_166_320 : Lk 166 320 (.bipush 124) 0 0 (0) := ⟨2, 0, (congrArg (fun l => pm_look l 320) cq_166).trans rfl⟩
set_option maxRecDepth 100000 in
theorem lk_166_322 : Lk 166 322 (.newarray .int) 100 0 (0) := ⟨2, 0, (congrArg (fun l => pm_look l 322) cq_166).trans rfl⟩
set_option maxRecDepth 100000 in
theorem lk_166_324 : Lk 166 324 (.putfield 50) 12 18 (2) := ⟨3, 1275, (congrArg (fun l => pm_look l 324) cq_166).trans rfl⟩
set_option maxRecDepth 100000 in
theorem lk_166_327 : Lk 166 327 (.aload_n 0) 0 0 (0) := ⟨1, 0, (congrArg (fun l => pm_look l 327) cq_166).trans rfl⟩
set_option maxRecDepth 100000 in
theorem lk_166_328 : Lk 166 328 (.bipush 124) 0 0 (0) := ⟨2, 0, (congrArg (fun l => pm_look l 328) cq_166).trans rfl⟩
set_option maxRecDepth 100000 in
theorem lk_166_330 : Lk 166 330 (.newarray .int) 100 0 (0) := ⟨2, 0, (congrArg (fun l => pm_look l 330) cq_166).trans rfl⟩
set_option maxRecDepth 100000 in
theorem lk_166_332 : Lk 166 332 (.putfield 53) 12 19 (2) := ⟨3, 1276, (congrArg (fun l => pm_look l 332) cq_166).trans rfl⟩
set_option maxRecDepth 100000 in
theorem lk_166_335 : Lk 166 335 (.aload_n 0) 0 0 (0) := ⟨1, 0, (congrArg (fun l => pm_look l 335) cq_166).trans rfl⟩
set_option maxRecDepth 100000 in
theorem lk_166_336 : Lk 166 336 (.bipush 124) 0 0 (0) := ⟨2, 0, (congrArg (fun l => pm_look l 336) cq_166).trans rfl⟩
set_option maxRecDepth 100000 in
theorem lk_166_338 : Lk 166 338 (.newarray .int) 100 0 (0) := ⟨2, 0, (congrArg (fun l => pm_look l 338) cq_166).trans rfl⟩
set_option maxRecDepth 100000 in
theorem lk_166_340 : Lk 166 340 (.putfield 56) 12 20 (2) := ⟨3, 1277, (congrArg (fun l => pm_look l 340) cq_166).trans rfl⟩
set_option maxRecDepth 100000 in
theorem lk_166_343 : Lk 166 343 (.aload_n 0) 0 0 (0) := ⟨1, 0, (congrArg (fun l => pm_look l 343) cq_166).trans rfl⟩
set_option maxRecDepth 100000 in
theorem lk_166_344 : Lk 166 344 (.bipush 124) 0 0 (0) := ⟨2, 0, (congrArg (fun l => pm_look l 344) cq_166).trans rfl⟩
set_option maxRecDepth 100000 in
theorem lk_166_346 : Lk 166 346 (.newarray .int) 100 0 (0) := ⟨2, 0, (congrArg (fun l => pm_look l 346) cq_166).trans rfl⟩
set_option maxRecDepth 100000 in
theorem lk_166_348 : Lk 166 348 (.putfield 59) 12 21 (2) := ⟨3, 1278, (congrArg (fun l => pm_look l 348) cq_166).trans rfl⟩
set_option maxRecDepth 100000 in
theorem lk_166_351 : Lk 166 351 (.aload_n 0) 0 0 (0) := ⟨1, 0, (congrArg (fun l => pm_look l 351) cq_166).trans rfl⟩
set_option maxRecDepth 100000 in
theorem lk_166_352 : Lk 166 352 (.sipush 500) 0 0 (0) := ⟨3, 0, (congrArg (fun l => pm_look l 352) cq_166).trans rfl⟩
set_option maxRecDepth 100000 in
theorem lk_166_355 : Lk 166 355 (.newarray .int) 100 0 (0) := ⟨2, 0, (congrArg (fun l => pm_look l 355) cq_166).trans rfl⟩
set_option maxRecDepth 100000 in
theorem lk_166_357 : Lk 166 357 (.putfield 62) 12 22 (2) := ⟨3, 1279, (congrArg (fun l => pm_look l 357) cq_166).trans rfl⟩
set_option maxRecDepth 100000 in
theorem lk_166_360 : Lk 166 360 (.aload_n 0) 0 0 (0) := ⟨1, 0, (congrArg (fun l => pm_look l 360) cq_166).trans rfl⟩
set_option maxRecDepth 100000 in
theorem lk_166_361 : Lk 166 361 (.iconst (-1)) 0 0 (0) := ⟨1, 0, (congrArg (fun l => pm_look l 361) cq_166).trans rfl⟩
set_option maxRecDepth 100000 in
theorem lk_166_362 : Lk 166 362 (.putfield 65) 12 30 (0) := ⟨3, 1287, (congrArg (fun l => pm_look l 362) cq_166).trans rfl⟩
set_option maxRecDepth 100000 in
theorem lk_166_365 : Lk 166 365 (.aload_n 0) 0 0 (0) := ⟨1, 0, (congrArg (fun l => pm_look l 365) cq_166).trans rfl⟩
set_option maxRecDepth 100000 in
theorem lk_166_366 : Lk 166 366 (.bipush 12) 0 0 (0) := ⟨2, 0, (congrArg (fun l => pm_look l 366) cq_166).trans rfl⟩
set_option maxRecDepth 100000 in
theorem lk_166_368 : Lk 166 368 (.newarray .int) 100 0 (0) := ⟨2, 0, (congrArg (fun l => pm_look l 368) cq_166).trans rfl⟩
set_option maxRecDepth 100000 in
theorem lk_166_370 : Lk 166 370 (.putfield 68) 12 34 (2) := ⟨3, 1291, (congrArg (fun l => pm_look l 370) cq_166).trans rfl⟩
set_option maxRecDepth 100000 in
theorem lk_166_373 : Lk 166 373 (.aload_n 0) 0 0 (0) := ⟨1, 0, (congrArg (fun l => pm_look l 373) cq_166).trans rfl⟩
set_option maxRecDepth 100000 in
theorem lk_166_374 : Lk 166 374 (.bipush 64) 0 0 (0) := ⟨2, 0, (congrArg (fun l => pm_look l 374) cq_166).trans rfl⟩
set_option maxRecDepth 100000 in
theorem lk_166_376 : Lk 166 376 (.newarray .int) 100 0 (0) := ⟨2, 0, (congrArg (fun l => pm_look l 376) cq_166).trans rfl⟩
set_option maxRecDepth 100000 in
theorem lk_166_378 : Lk 166 378 (.putfield 71) 12 36 (2) := ⟨3, 1293, (congrArg (fun l => pm_look l 378) cq_166).trans rfl⟩
set_option maxRecDepth 100000 in
theorem lk_166_381 : Lk 166 381 (.aload_n 0) 0 0 (0) := ⟨1, 0, (congrArg (fun l => pm_look l 381) cq_166).trans rfl⟩
set_option maxRecDepth 100000 in
theorem lk_166_382 : Lk 166 382 (.bipush 64) 0 0 (0) := ⟨2, 0, (congrArg (fun l => pm_look l 382) cq_166).trans rfl⟩
set_option maxRecDepth 100000 in
theorem lk_166_384 : Lk 166 384 (.newarray .int) 100 0 (0) := ⟨2, 0, (congrArg (fun l => pm_look l 384) cq_166).trans rfl⟩
set_option maxRecDepth 100000 in
theorem lk_166_386 : Lk 166 386 (.putfield 74) 12 37 (2) := ⟨3, 1294, (congrArg (fun l => pm_look l 386) cq_166).trans rfl⟩
set_option maxRecDepth 100000 in
theorem lk_166_389 : Lk 166 389 (.aload_n 0) 0 0 (0) := ⟨1, 0, (congrArg (fun l => pm_look l 389) cq_166).trans rfl⟩
set_option maxRecDepth 100000 in
theorem lk_166_390 : Lk 166 390 (.bipush 8) 0 0 (0) := ⟨2, 0, (congrArg (fun l => pm_look l 390) cq_166).trans rfl⟩
set_option maxRecDepth 100000 in
theorem lk_166_392 : Lk 166 392 (.newarray .int) 100 0 (0) := ⟨2, 0, (congrArg (fun l => pm_look l 392) cq_166).trans rfl⟩
set_option maxRecDepth 100000 in
theorem lk_166_394 : Lk 166 394 (.putfield 77) 12 39 (2) := ⟨3, 1296, (congrArg (fun l => pm_look l 394) cq_166).trans rfl⟩
set_option maxRecDepth 100000 in
theorem lk_166_397 : Lk 166 397 (.aload_n 0) 0 0 (0) := ⟨1, 0, (congrArg (fun l => pm_look l 397) cq_166).trans rfl⟩
set_option maxRecDepth 100000 in
theorem lk_166_398 : Lk 166 398 (.bipush 6) 0 0 (0) := ⟨2, 0, (congrArg (fun l => pm_look l 398) cq_166).trans rfl⟩
set_option maxRecDepth 100000 in
theorem lk_166_400 : Lk 166 400 (.newarray .int) 100 0 (0) := ⟨2, 0, (congrArg (fun l => pm_look l 400) cq_166).trans rfl⟩
set_option maxRecDepth 100000 in
theorem lk_166_402 : Lk 166 402 (.putfield 80) 12 40 (2) := ⟨3, 1297, (congrArg (fun l => pm_look l 402) cq_166).trans rfl⟩
set_option maxRecDepth 100000 in
theorem lk_166_405 : Lk 166 405 (.aload_n 0) 0 0 (0) := ⟨1, 0, (congrArg (fun l => pm_look l 405) cq_166).trans rfl⟩
set_option maxRecDepth 100000 in
theorem lk_166_406 : Lk 166 406 (.bipush 6) 0 0 (0) := ⟨2, 0, (congrArg (fun l => pm_look l 406) cq_166).trans rfl⟩
set_option maxRecDepth 100000 in
theorem lk_166_408 : Lk 166 408 (.newarray .int) 100 0 (0) := ⟨2, 0, (congrArg (fun l => pm_look l 408) cq_166).trans rfl⟩
set_option maxRecDepth 100000 in
theorem lk_166_410 : Lk 166 410 (.putfield 83) 12 41 (2) := ⟨3, 1298, (congrArg (fun l => pm_look l 410) cq_166).trans rfl⟩
set_option maxRecDepth 100000 in
theorem lk_166_413 : Lk 166 413 (.aload_n 0) 0 0 (0) := ⟨1, 0, (congrArg (fun l => pm_look l 413) cq_166).trans rfl⟩
set_option maxRecDepth 100000 in
theorem lk_166_414 : Lk 166 414 (.bipush 7) 0 0 (0) := ⟨2, 0, (congrArg (fun l => pm_look l 414) cq_166).trans rfl⟩
set_option maxRecDepth 100000 in
theorem lk_166_416 : Lk 166 416 (.newarray .int) 100 0 (0) := ⟨2, 0, (congrArg (fun l => pm_look l 416) cq_166).trans rfl⟩
set_option maxRecDepth 100000 in
theorem lk_166_418 : Lk 166 418 (.putfield 86) 12 42 (2) := ⟨3, 1299, (congrArg (fun l => pm_look l 418) cq_166).trans rfl⟩
set_option maxRecDepth 100000 in
theorem lk_166_421 : Lk 166 421 (.aload_n 0) 0 0 (0) := ⟨1, 0, (congrArg (fun l => pm_look l 421) cq_166).trans rfl⟩
set_option maxRecDepth 100000 in
theorem lk_166_422 : Lk 166 422 (.bipush 36) 0 0 (0) := ⟨2, 0, (congrArg (fun l => pm_look l 422) cq_166).trans rfl⟩
set_option maxRecDepth 100000 in
theorem lk_166_424 : Lk 166 424 (.newarray .long) 101 0 (0) := ⟨2, 0, (congrArg (fun l => pm_look l 424) cq_166).trans rfl⟩
set_option maxRecDepth 100000 in
theorem lk_166_426 : Lk 166 426 (.putfield 89) 12 44 (2) := ⟨3, 1301, (congrArg (fun l => pm_look l 426) cq_166).trans rfl⟩
set_option maxRecDepth 100000 in
theorem lk_166_429 : Lk 166 429 (.aload_n 0) 0 0 (0) := ⟨1, 0, (congrArg (fun l => pm_look l 429) cq_166).trans rfl⟩
set_option maxRecDepth 100000 in
theorem lk_166_430 : Lk 166 430 (.bipush 64) 0 0 (0) := ⟨2, 0, (congrArg (fun l => pm_look l 430) cq_166).trans rfl⟩
set_option maxRecDepth 100000 in
theorem lk_166_432 : Lk 166 432 (.newarray .int) 100 0 (0) := ⟨2, 0, (congrArg (fun l => pm_look l 432) cq_166).trans rfl⟩
set_option maxRecDepth 100000 in
theorem lk_166_434 : Lk 166 434 (.putfield 93) 12 45 (2) := ⟨3, 1302, (congrArg (fun l => pm_look l 434) cq_166).trans rfl⟩
set_option maxRecDepth 100000 in
theorem lk_166_437 : Lk 166 437 (.aload_n 0) 0 0 (0) := ⟨1, 0, (congrArg (fun l => pm_look l 437) cq_166).trans rfl⟩
set_option maxRecDepth 100000 in
theorem lk_166_438 : Lk 166 438 (.sipush 12288) 0 0 (0) := ⟨3, 0, (congrArg (fun l => pm_look l 438) cq_166).trans rfl⟩
set_option maxRecDepth 100000 in
theorem lk_166_441 : Lk 166 441 (.newarray .int) 100 0 (0) := ⟨2, 0, (congrArg (fun l => pm_look l 441) cq_166).trans rfl⟩
set_option maxRecDepth 100000 in
theorem lk_166_443 : Lk 166 443 (.putfield 96) 12 46 (2) := ⟨3, 1303, (congrArg (fun l => pm_look l 443) cq_166).trans rfl⟩
set_option maxRecDepth 100000 in
theorem lk_166_446 : Lk 166 446 (.aload_n 0) 0 0 (0) := ⟨1, 0, (congrArg (fun l => pm_look l 446) cq_166).trans rfl⟩
set_option maxRecDepth 100000 in
theorem lk_166_447 : Lk 166 447 (.ldc 99) 0 0 (49152) := ⟨2, 1255, (congrArg (fun l => pm_look l 447) cq_166).trans rfl⟩
set_option maxRecDepth 100000 in
theorem lk_166_449 : Lk 166 449 (.newarray .int) 100 0 (0) := ⟨2, 0, (congrArg (fun l => pm_look l 449) cq_166).trans rfl⟩
set_option maxRecDepth 100000 in
theorem lk_166_451 : Lk 166 451 (.putfield 100) 12 47 (2) := ⟨3, 1304, (congrArg (fun l => pm_look l 451) cq_166).trans rfl⟩
set_option maxRecDepth 100000 in
theorem lk_166_454 : Lk 166 454 (.aload_n 0) 0 0 (0) := ⟨1, 0, (congrArg (fun l => pm_look l 454) cq_166).trans rfl⟩
set_option maxRecDepth 100000 in
theorem lk_166_455 : Lk 166 455 (.ldc 103) 0 0 (86016) := ⟨2, 1256, (congrArg (fun l => pm_look l 455) cq_166).trans rfl⟩
set_option maxRecDepth 100000 in
theorem lk_166_457 : Lk 166 457 (.newarray .int) 100 0 (0) := ⟨2, 0, (congrArg (fun l => pm_look l 457) cq_166).trans rfl⟩
set_option maxRecDepth 100000 in
theorem lk_166_459 : Lk 166 459 (.putfield 104) 12 48 (2) := ⟨3, 1305, (congrArg (fun l => pm_look l 459) cq_166).trans rfl⟩
set_option maxRecDepth 100000 in
theorem lk_166_462 : Lk 166 462 (.aload_n 0) 0 0 (0) := ⟨1, 0, (congrArg (fun l => pm_look l 462) cq_166).trans rfl⟩
set_option maxRecDepth 100000 in
theorem lk_166_463 : Lk 166 463 (.bipush 80) 0 0 (0) := ⟨2, 0, (congrArg (fun l => pm_look l 463) cq_166).trans rfl⟩
set_option maxRecDepth 100000 in
theorem lk_166_465 : Lk 166 465 (.newarray .int) 100 0 (0) := ⟨2, 0, (congrArg (fun l => pm_look l 465) cq_166).trans rfl⟩
set_option maxRecDepth 100000 in
theorem lk_166_467 : Lk 166 467 (.putfield 107) 12 50 (2) := ⟨3, 1307, (congrArg (fun l => pm_look l 467) cq_166).trans rfl⟩
set_option maxRecDepth 100000 in
theorem lk_166_470 : Lk 166 470 (.aload_n 0) 0 0 (0) := ⟨1, 0, (congrArg (fun l => pm_look l 470) cq_166).trans rfl⟩
set_option maxRecDepth 100000 in
theorem lk_166_471 : Lk 166 471 (.bipush 80) 0 0 (0) := ⟨2, 0, (congrArg (fun l => pm_look l 471) cq_166).trans rfl⟩
set_option maxRecDepth 100000 in
theorem lk_166_473 : Lk 166 473 (.newarray .int) 100 0 (0) := ⟨2, 0, (congrArg (fun l => pm_look l 473) cq_166).trans rfl⟩
set_option maxRecDepth 100000 in
theorem lk_166_475 : Lk 166 475 (.putfield 110) 12 51 (2) := ⟨3, 1308, (congrArg (fun l => pm_look l 475) cq_166).trans rfl⟩
set_option maxRecDepth 100000 in
theorem lk_166_478 : Lk 166 478 (.aload_n 0) 0 0 (0) := ⟨1, 0, (congrArg (fun l => pm_look l 478) cq_166).trans rfl⟩
set_option maxRecDepth 100000 in
theorem lk_166_479 : Lk 166 479 (.bipush 80) 0 0 (0) := ⟨2, 0, (congrArg (fun l => pm_look l 479) cq_166).trans rfl⟩
set_option maxRecDepth 100000 in
theorem lk_166_481 : Lk 166 481 (.newarray .int) 100 0 (0) := ⟨2, 0, (congrArg (fun l => pm_look l 481) cq_166).trans rfl⟩
set_option maxRecDepth 100000 in
theorem lk_166_483 : Lk 166 483 (.putfield 113) 12 52 (2) := ⟨3, 1309, (congrArg (fun l => pm_look l 483) cq_166).trans rfl⟩
set_option maxRecDepth 100000 in
theorem lk_166_486 : Lk 166 486 (.aload_n 0) 0 0 (0) := ⟨1, 0, (congrArg (fun l => pm_look l 486) cq_166).trans rfl⟩
set_option maxRecDepth 100000 in
theorem lk_166_487 : Lk 166 487 (.bipush 80) 0 0 (0) := ⟨2, 0, (congrArg (fun l => pm_look l 487) cq_166).trans rfl⟩
set_option maxRecDepth 100000 in
theorem lk_166_489 : Lk 166 489 (.newarray .int) 100 0 (0) := ⟨2, 0, (congrArg (fun l => pm_look l 489) cq_166).trans rfl⟩
set_option maxRecDepth 100000 in
theorem lk_166_491 : Lk 166 491 (.putfield 116) 12 53 (2) := ⟨3, 1310, (congrArg (fun l => pm_look l 491) cq_166).trans rfl⟩
set_option maxRecDepth 100000 in
theorem lk_166_494 : Lk 166 494 (.aload_n 0) 0 0 (0) := ⟨1, 0, (congrArg (fun l => pm_look l 494) cq_166).trans rfl⟩
set_option maxRecDepth 100000 in
theorem lk_166_495 : Lk 166 495 (.bipush 80) 0 0 (0) := ⟨2, 0, (congrArg (fun l => pm_look l 495) cq_166).trans rfl⟩
set_option maxRecDepth 100000 in
theorem lk_166_497 : Lk 166 497 (.newarray .int) 100 0 (0) := ⟨2, 0, (congrArg (fun l => pm_look l 497) cq_166).trans rfl⟩
set_option maxRecDepth 100000 in
theorem lk_166_499 : Lk 166 499 (.putfield 119) 12 54 (2) := ⟨3, 1311, (congrArg (fun l => pm_look l 499) cq_166).trans rfl⟩
set_option maxRecDepth 100000 in
theorem lk_166_502 : Lk 166 502 (.aload_n 0) 0 0 (0) := ⟨1, 0, (congrArg (fun l => pm_look l 502) cq_166).trans rfl⟩
set_option maxRecDepth 100000 in
theorem lk_166_503 : Lk 166 503 (.bipush 80) 0 0 (0) := ⟨2, 0, (congrArg (fun l => pm_look l 503) cq_166).trans rfl⟩
set_option maxRecDepth 100000 in
theorem lk_166_505 : Lk 166 505 (.newarray .int) 100 0 (0) := ⟨2, 0, (congrArg (fun l => pm_look l 505) cq_166).trans rfl⟩
set_option maxRecDepth 100000 in
theorem lk_166_507 : Lk 166 507 (.putfield 122) 12 55 (2) := ⟨3, 1312, (congrArg (fun l => pm_look l 507) cq_166).trans rfl⟩
set_option maxRecDepth 100000 in
theorem lk_166_510 : Lk 166 510 (.aload_n 0) 0 0 (0) := ⟨1, 0, (congrArg (fun l => pm_look l 510) cq_166).trans rfl⟩
set_option maxRecDepth 100000 in
theorem lk_166_511 : Lk 166 511 (.bipush 12) 0 0 (0) := ⟨2, 0, (congrArg (fun l => pm_look l 511) cq_166).trans rfl⟩
set_option maxRecDepth 100000 in
theorem lk_166_513 : Lk 166 513 (.newarray .int) 100 0 (0) := ⟨2, 0, (congrArg (fun l => pm_look l 513) cq_166).trans rfl⟩
set_option maxRecDepth 100000 in
theorem lk_166_515 : Lk 166 515 (.putfield 125) 12 57 (2) := ⟨3, 1314, (congrArg (fun l => pm_look l 515) cq_166).trans rfl⟩
set_option maxRecDepth 100000 in
theorem lk_166_518 : Lk 166 518 (.aload_n 0) 0 0 (0) := ⟨1, 0, (congrArg (fun l => pm_look l 518) cq_166).trans rfl⟩
set_option maxRecDepth 100000 in
theorem lk_166_519 : Lk 166 519 (.bipush 12) 0 0 (0) := ⟨2, 0, (congrArg (fun l => pm_look l 519) cq_166).trans rfl⟩
set_option maxRecDepth 100000 in
theorem lk_166_521 : Lk 166 521 (.newarray .int) 100 0 (0) := ⟨2, 0, (congrArg (fun l => pm_look l 521) cq_166).trans rfl⟩
set_option maxRecDepth 100000 in
theorem lk_166_523 : Lk 166 523 (.putfield 128) 12 58 (2) := ⟨3, 1315, (congrArg (fun l => pm_look l 523) cq_166).trans rfl⟩
set_option maxRecDepth 100000 in
theorem lk_166_526 : Lk 166 526 (.aload_n 0) 0 0 (0) := ⟨1, 0, (congrArg (fun l => pm_look l 526) cq_166).trans rfl⟩
set_option maxRecDepth 100000 in
theorem lk_166_527 : Lk 166 527 (.bipush 31) 0 0 (0) := ⟨2, 0, (congrArg (fun l => pm_look l 527) cq_166).trans rfl⟩
set_option maxRecDepth 100000 in
theorem lk_166_529 : Lk 166 529 (.newarray .int) 100 0 (0) := ⟨2, 0, (congrArg (fun l => pm_look l 529) cq_166).trans rfl⟩
set_option maxRecDepth 100000 in
theorem lk_166_531 : Lk 166 531 (.putfield 131) 12 62 (2) := ⟨3, 1319, (congrArg (fun l => pm_look l 531) cq_166).trans rfl⟩
set_option maxRecDepth 100000 in
theorem lk_166_534 : Lk 166 534 (.aload_n 0) 0 0 (0) := ⟨1, 0, (congrArg (fun l => pm_look l 534) cq_166).trans rfl⟩
set_option maxRecDepth 100000 in
theorem lk_166_535 : Lk 166 535 (.bipush 31) 0 0 (0) := ⟨2, 0, (congrArg (fun l => pm_look l 535) cq_166).trans rfl⟩
set_option maxRecDepth 100000 in
theorem lk_166_537 : Lk 166 537 (.newarray .int) 100 0 (0) := ⟨2, 0, (congrArg (fun l => pm_look l 537) cq_166).trans rfl⟩
set_option maxRecDepth 100000 in
theorem lk_166_539 : Lk 166 539 (.putfield 134) 12 63 (2) := ⟨3, 1320, (congrArg (fun l => pm_look l 539) cq_166).trans rfl⟩
set_option maxRecDepth 100000 in
theorem lk_166_542 : Lk 166 542 (.aload_n 0) 0 0 (0) := ⟨1, 0, (congrArg (fun l => pm_look l 542) cq_166).trans rfl⟩
set_option maxRecDepth 100000 in
theorem lk_166_543 : Lk 166 543 (.bipush 12) 0 0 (0) := ⟨2, 0, (congrArg (fun l => pm_look l 543) cq_166).trans rfl⟩
set_option maxRecDepth 100000 in
theorem lk_166_545 : Lk 166 545 (.newarray .int) 100 0 (0) := ⟨2, 0, (congrArg (fun l => pm_look l 545) cq_166).trans rfl⟩
set_option maxRecDepth 100000 in
theorem lk_166_547 : Lk 166 547 (.putfield 137) 12 68 (2) := ⟨3, 1325, (congrArg (fun l => pm_look l 547) cq_166).trans rfl⟩
set_option maxRecDepth 100000 in
theorem lk_166_550 : Lk 166 550 (.aload_n 0) 0 0 (0) := ⟨1, 0, (congrArg (fun l => pm_look l 550) cq_166).trans rfl⟩
set_option maxRecDepth 100000 in
theorem lk_166_551 : Lk 166 551 (.bipush 12) 0 0 (0) := ⟨2, 0, (congrArg (fun l => pm_look l 551) cq_166).trans rfl⟩
set_option maxRecDepth 100000 in
theorem lk_166_553 : Lk 166 553 (.newarray .int) 100 0 (0) := ⟨2, 0, (congrArg (fun l => pm_look l 553) cq_166).trans rfl⟩
set_option maxRecDepth 100000 in
theorem lk_166_555 : Lk 166 555 (.putfield 140) 12 69 (2) := ⟨3, 1326, (congrArg (fun l => pm_look l 555) cq_166).trans rfl⟩
set_option maxRecDepth 100000 in
theorem lk_166_558 : Lk 166 558 (.return_) 0 0 (0) := ⟨1, 0, (congrArg (fun l => pm_look l 558) cq_166).trans rfl⟩
