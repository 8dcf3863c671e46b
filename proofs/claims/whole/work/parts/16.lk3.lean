theorem cq_238 : pm_code 238 = cd_238 := rfl
theorem lk_238_0 : Lk 238 0 (.aload_n 0) 0 0 (0) := ⟨1, 0, (congrArg (fun l => pm_look l 0) cq_238).trans rfl⟩
theorem lk_238_1 : Lk 238 1 (.invokevirtual 281) 175 0 (0) := ⟨3, 1571, (congrArg (fun l => pm_look l 1) cq_238).trans rfl⟩
theorem lk_238_4 : Lk 238 4 (.aload_n 0) 0 0 (0) := ⟨1, 0, (congrArg (fun l => pm_look l 4) cq_238).trans rfl⟩
theorem lk_238_5 : Lk 238 5 (.invokevirtual 285) 176 0 (0) := ⟨3, 1575, (congrArg (fun l => pm_look l 5) cq_238).trans rfl⟩
theorem lk_238_8 : Lk 238 8 (.invokestatic 366) 233 0 (0) := ⟨3, 1733, (congrArg (fun l => pm_look l 8) cq_238).trans rfl⟩
theorem lk_238_11 : Lk 238 11 (.ireturn) 0 0 (0) := ⟨1, 0, (congrArg (fun l => pm_look l 11) cq_238).trans rfl⟩
theorem cq_239 : pm_code 239 = cd_239 := rfl
theorem lk_239_0 : Lk 239 0 (.aload_n 0) 0 0 (0) := ⟨1, 0, (congrArg (fun l => pm_look l 0) cq_239).trans rfl⟩
theorem lk_239_1 : Lk 239 1 (.iconst 0) 0 0 (0) := ⟨1, 0, (congrArg (fun l => pm_look l 1) cq_239).trans rfl⟩
theorem lk_239_2 : Lk 239 2 (.putfield 143) 12 0 (0) := ⟨3, 1257, (congrArg (fun l => pm_look l 2) cq_239).trans rfl⟩
theorem lk_239_5 : Lk 239 5 (.iload_n 1) 0 0 (0) := ⟨1, 0, (congrArg (fun l => pm_look l 5) cq_239).trans rfl⟩
theorem lk_239_6 : Lk 239 6 (.iconst 0) 0 0 (0) := ⟨1, 0, (congrArg (fun l => pm_look l 6) cq_239).trans rfl⟩
theorem lk_239_7 : Lk 239 7 (.iconst 2) 0 0 (0) := ⟨1, 0, (congrArg (fun l => pm_look l 7) cq_239).trans rfl⟩
theorem lk_239_8 : Lk 239 8 (.invokestatic 146) 167 0 (0) := ⟨3, 1483, (congrArg (fun l => pm_look l 8) cq_239).trans rfl⟩
theorem lk_239_11 : Lk 239 11 (.ifCond .ne 5) 0 0 (0) := ⟨3, 0, (congrArg (fun l => pm_look l 11) cq_239).trans rfl⟩
theorem lk_239_14 : Lk 239 14 (.iconst (-1)) 0 0 (0) := ⟨1, 0, (congrArg (fun l => pm_look l 14) cq_239).trans rfl⟩
theorem lk_239_15 : Lk 239 15 (.ireturn) 0 0 (0) := ⟨1, 0, (congrArg (fun l => pm_look l 15) cq_239).trans rfl⟩
theorem lk_239_16 : Lk 239 16 (.aload_n 0) 0 0 (0) := ⟨1, 0, (congrArg (fun l => pm_look l 16) cq_239).trans rfl⟩
theorem lk_239_17 : Lk 239 17 (.invokevirtual 379) 235 0 (0) := ⟨3, 1725, (congrArg (fun l => pm_look l 17) cq_239).trans rfl⟩
theorem lk_239_20 : Lk 239 20 (.aload_n 0) 0 0 (0) := ⟨1, 0, (congrArg (fun l => pm_look l 20) cq_239).trans rfl⟩
theorem lk_239_21 : Lk 239 21 (.getfield 96) 12 46 (2) := ⟨3, 1303, (congrArg (fun l => pm_look l 21) cq_239).trans rfl⟩
theorem lk_239_24 : Lk 239 24 (.sipush 4096) 0 0 (0) := ⟨3, 0, (congrArg (fun l => pm_look l 24) cq_239).trans rfl⟩
theorem lk_239_27 : Lk 239 27 (.iload_n 1) 0 0 (0) := ⟨1, 0, (congrArg (fun l => pm_look l 27) cq_239).trans rfl⟩
theorem lk_239_28 : Lk 239 28 (.imul) 0 0 (0) := ⟨1, 0, (congrArg (fun l => pm_look l 28) cq_239).trans rfl⟩
theorem lk_239_29 : Lk 239 29 (.aload_n 0) 0 0 (0) := ⟨1, 0, (congrArg (fun l => pm_look l 29) cq_239).trans rfl⟩
theorem lk_239_30 : Lk 239 30 (.invokevirtual 382) 238 0 (0) := ⟨3, 1747, (congrArg (fun l => pm_look l 30) cq_239).trans rfl⟩
theorem lk_239_33 : Lk 239 33 (.iadd) 0 0 (0) := ⟨1, 0, (congrArg (fun l => pm_look l 33) cq_239).trans rfl⟩
theorem lk_239_34 : Lk 239 34 (.iaload) 0 0 (0) := ⟨1, 0, (congrArg (fun l => pm_look l 34) cq_239).trans rfl⟩
theorem lk_239_35 : Lk 239 35 (.ireturn) 0 0 (0) := ⟨1, 0, (congrArg (fun l => pm_look l 35) cq_239).trans rfl⟩
theorem cq_240 : pm_code 240 = cd_240 := rfl
theorem lk_240_0 : Lk 240 0 (.aload_n 0) 0 0 (0) := ⟨1, 0, (congrArg (fun l => pm_look l 0) cq_240).trans rfl⟩
theorem lk_240_1 : Lk 240 1 (.iconst 0) 0 0 (0) := ⟨1, 0, (congrArg (fun l => pm_look l 1) cq_240).trans rfl⟩
theorem lk_240_2 : Lk 240 2 (.putfield 143) 12 0 (0) := ⟨3, 1257, (congrArg (fun l => pm_look l 2) cq_240).trans rfl⟩
theorem lk_240_5 : Lk 240 5 (.iload_n 1) 0 0 (0) := ⟨1, 0, (congrArg (fun l => pm_look l 5) cq_240).trans rfl⟩
theorem lk_240_6 : Lk 240 6 (.iconst 0) 0 0 (0) := ⟨1, 0, (congrArg (fun l => pm_look l 6) cq_240).trans rfl⟩
theorem lk_240_7 : Lk 240 7 (.iconst 5) 0 0 (0) := ⟨1, 0, (congrArg (fun l => pm_look l 7) cq_240).trans rfl⟩
theorem lk_240_8 : Lk 240 8 (.invokestatic 146) 167 0 (0) := ⟨3, 1483, (congrArg (fun l => pm_look l 8) cq_240).trans rfl⟩
theorem lk_240_11 : Lk 240 11 (.ifCond .ne 5) 0 0 (0) := ⟨3, 0, (congrArg (fun l => pm_look l 11) cq_240).trans rfl⟩
theorem lk_240_14 : Lk 240 14 (.iconst (-1)) 0 0 (0) := ⟨1, 0, (congrArg (fun l => pm_look l 14) cq_240).trans rfl⟩
theorem lk_240_15 : Lk 240 15 (.ireturn) 0 0 (0) := ⟨1, 0, (congrArg (fun l => pm_look l 15) cq_240).trans rfl⟩
theorem lk_240_16 : Lk 240 16 (.aload_n 0) 0 0 (0) := ⟨1, 0, (congrArg (fun l => pm_look l 16) cq_240).trans rfl⟩
theorem lk_240_17 : Lk 240 17 (.invokevirtual 379) 235 0 (0) := ⟨3, 1725, (congrArg (fun l => pm_look l 17) cq_240).trans rfl⟩
theorem lk_240_20 : Lk 240 20 (.aload_n 0) 0 0 (0) := ⟨1, 0, (congrArg (fun l => pm_look l 20) cq_240).trans rfl⟩
theorem lk_240_21 : Lk 240 21 (.getfield 100) 12 47 (2) := ⟨3, 1304, (congrArg (fun l => pm_look l 21) cq_240).trans rfl⟩
theorem lk_240_24 : Lk 240 24 (.sipush 4096) 0 0 (0) := ⟨3, 0, (congrArg (fun l => pm_look l 24) cq_240).trans rfl⟩
theorem lk_240_27 : Lk 240 27 (.iload_n 1) 0 0 (0) := ⟨1, 0, (congrArg (fun l => pm_look l 27) cq_240).trans rfl⟩
theorem lk_240_28 : Lk 240 28 (.imul) 0 0 (0) := ⟨1, 0, (congrArg (fun l => pm_look l 28) cq_240).trans rfl⟩
theorem lk_240_29 : Lk 240 29 (.aload_n 0) 0 0 (0) := ⟨1, 0, (congrArg (fun l => pm_look l 29) cq_240).trans rfl⟩
theorem lk_240_30 : Lk 240 30 (.invokevirtual 382) 238 0 (0) := ⟨3, 1747, (congrArg (fun l => pm_look l 30) cq_240).trans rfl⟩
theorem lk_240_33 : Lk 240 33 (.iadd) 0 0 (0) := ⟨1, 0, (congrArg (fun l => pm_look l 33) cq_240).trans rfl⟩
theorem lk_240_34 : Lk 240 34 (.iaload) 0 0 (0) := ⟨1, 0, (congrArg (fun l => pm_look l 34) cq_240).trans rfl⟩
theorem lk_240_35 : Lk 240 35 (.aload_n 0) 0 0 (0) := ⟨1, 0, (congrArg (fun l => pm_look l 35) cq_240).trans rfl⟩
theorem lk_240_36 : Lk 240 36 (.getfield 100) 12 47 (2) := ⟨3, 1304, (congrArg (fun l => pm_look l 36) cq_240).trans rfl⟩
theorem lk_240_39 : Lk 240 39 (.sipush 4096) 0 0 (0) := ⟨3, 0, (congrArg (fun l => pm_look l 39) cq_240).trans rfl⟩
theorem lk_240_42 : Lk 240 42 (.bipush 6) 0 0 (0) := ⟨2, 0, (congrArg (fun l => pm_look l 42) cq_240).trans rfl⟩
theorem lk_240_44 : Lk 240 44 (.iload_n 1) 0 0 (0) := ⟨1, 0, (congrArg (fun l => pm_look l 44) cq_240).trans rfl⟩
theorem lk_240_45 : Lk 240 45 (.iadd) 0 0 (0) := ⟨1, 0, (congrArg (fun l => pm_look l 45) cq_240).trans rfl⟩
theorem lk_240_46 : Lk 240 46 (.imul) 0 0 (0) := ⟨1, 0, (congrArg (fun l => pm_look l 46) cq_240).trans rfl⟩
theorem lk_240_47 : Lk 240 47 (.aload_n 0) 0 0 (0) := ⟨1, 0, (congrArg (fun l => pm_look l 47) cq_240).trans rfl⟩
theorem lk_240_48 : Lk 240 48 (.invokevirtual 382) 238 0 (0) := ⟨3, 1747, (congrArg (fun l => pm_look l 48) cq_240).trans rfl⟩
theorem lk_240_51 : Lk 240 51 (.iadd) 0 0 (0) := ⟨1, 0, (congrArg (fun l => pm_look l 51) cq_240).trans rfl⟩
theorem lk_240_52 : Lk 240 52 (.iaload) 0 0 (0) := ⟨1, 0, (congrArg (fun l => pm_look l 52) cq_240).trans rfl⟩
theorem lk_240_53 : Lk 240 53 (.invokestatic 376) 169 0 (0) := ⟨3, 1744, (congrArg (fun l => pm_look l 53) cq_240).trans rfl⟩
theorem lk_240_56 : Lk 240 56 (.istore_n 2) 0 0 (0) := ⟨1, 0, (congrArg (fun l => pm_look l 56) cq_240).trans rfl⟩
theorem lk_240_57 : Lk 240 57 (.iload_n 2) 0 0 (0) := ⟨1, 0, (congrArg (fun l => pm_look l 57) cq_240).trans rfl⟩
theorem lk_240_58 : Lk 240 58 (.ldc_w 357) 0 0 (1000000) := ⟨3, 1712, (congrArg (fun l => pm_look l 58) cq_240).trans rfl⟩
theorem lk_240_61 : Lk 240 61 (.if_icmp .lt 7) 0 0 (0) := ⟨3, 0, (congrArg (fun l => pm_look l 61) cq_240).trans rfl⟩
theorem lk_240_64 : Lk 240 64 (.iconst (-1)) 0 0 (0) := ⟨1, 0, (congrArg (fun l => pm_look l 64) cq_240).trans rfl⟩
theorem lk_240_65 : Lk 240 65 (.goto 4) 0 0 (0) := ⟨3, 0, (congrArg (fun l => pm_look l 65) cq_240).trans rfl⟩
theorem lk_240_68 : Lk 240 68 (.iload_n 2) 0 0 (0) := ⟨1, 0, (congrArg (fun l => pm_look l 68) cq_240).trans rfl⟩
theorem lk_240_69 : Lk 240 69 (.ireturn) 0 0 (0) := ⟨1, 0, (congrArg (fun l => pm_look l 69) cq_240).trans rfl⟩
theorem cq_241 : pm_code 241 = cd_241 := rfl
theorem lk_241_0 : Lk 241 0 (.aload_n 0) 0 0 (0) := ⟨1, 0, (congrArg (fun l => pm_look l 0) cq_241).trans rfl⟩
theorem lk_241_1 : Lk 241 1 (.iconst 0) 0 0 (0) := ⟨1, 0, (congrArg (fun l => pm_look l 1) cq_241).trans rfl⟩
theorem lk_241_2 : Lk 241 2 (.putfield 143) 12 0 (0) := ⟨3, 1257, (congrArg (fun l => pm_look l 2) cq_241).trans rfl⟩
theorem lk_241_5 : Lk 241 5 (.iload_n 1) 0 0 (0) := ⟨1, 0, (congrArg (fun l => pm_look l 5) cq_241).trans rfl⟩
theorem lk_241_6 : Lk 241 6 (.iconst 0) 0 0 (0) := ⟨1, 0, (congrArg (fun l => pm_look l 6) cq_241).trans rfl⟩
theorem lk_241_7 : Lk 241 7 (.bipush 20) 0 0 (0) := ⟨2, 0, (congrArg (fun l => pm_look l 7) cq_241).trans rfl⟩
theorem lk_241_9 : Lk 241 9 (.invokestatic 146) 167 0 (0) := ⟨3, 1483, (congrArg (fun l => pm_look l 9) cq_241).trans rfl⟩
theorem lk_241_12 : Lk 241 12 (.ifCond .ne 5) 0 0 (0) := ⟨3, 0, (congrArg (fun l => pm_look l 12) cq_241).trans rfl⟩
theorem lk_241_15 : Lk 241 15 (.iconst (-1)) 0 0 (0) := ⟨1, 0, (congrArg (fun l => pm_look l 15) cq_241).trans rfl⟩
theorem lk_241_16 : Lk 241 16 (.ireturn) 0 0 (0) := ⟨1, 0, (congrArg (fun l => pm_look l 16) cq_241).trans rfl⟩
theorem lk_241_17 : Lk 241 17 (.aload_n 0) 0 0 (0) := ⟨1, 0, (congrArg (fun l => pm_look l 17) cq_241).trans rfl⟩
theorem lk_241_18 : Lk 241 18 (.invokevirtual 379) 235 0 (0) := ⟨3, 1725, (congrArg (fun l => pm_look l 18) cq_241).trans rfl⟩
theorem lk_241_21 : Lk 241 21 (.aload_n 0) 0 0 (0) := ⟨1, 0, (congrArg (fun l => pm_look l 21) cq_241).trans rfl⟩
theorem lk_241_22 : Lk 241 22 (.getfield 104) 12 48 (2) := ⟨3, 1305, (congrArg (fun l => pm_look l 22) cq_241).trans rfl⟩
theorem lk_241_25 : Lk 241 25 (.bipush 21) 0 0 (0) := ⟨2, 0, (congrArg (fun l => pm_look l 25) cq_241).trans rfl⟩
theorem lk_241_27 : Lk 241 27 (.aload_n 0) 0 0 (0) := ⟨1, 0, (congrArg (fun l => pm_look l 27) cq_241).trans rfl⟩
theorem lk_241_28 : Lk 241 28 (.invokevirtual 382) 238 0 (0) := ⟨3, 1747, (congrArg (fun l => pm_look l 28) cq_241).trans rfl⟩
theorem lk_241_31 : Lk 241 31 (.imul) 0 0 (0) := ⟨1, 0, (congrArg (fun l => pm_look l 31) cq_241).trans rfl⟩
theorem lk_241_32 : Lk 241 32 (.iload_n 1) 0 0 (0) := ⟨1, 0, (congrArg (fun l => pm_look l 32) cq_241).trans rfl⟩
theorem lk_241_33 : Lk 241 33 (.iadd) 0 0 (0) := ⟨1, 0, (congrArg (fun l => pm_look l 33) cq_241).trans rfl⟩
theorem lk_241_34 : Lk 241 34 (.iaload) 0 0 (0) := ⟨1, 0, (congrArg (fun l => pm_look l 34) cq_241).trans rfl⟩
theorem lk_241_35 : Lk 241 35 (.ireturn) 0 0 (0) := ⟨1, 0, (congrArg (fun l => pm_look l 35) cq_241).trans rfl⟩
theorem cq_242 : pm_code 242 = cd_242 := rfl
theorem lk_242_0 : Lk 242 0 (.aload_n 0) 0 0 (0) := ⟨1, 0, (congrArg (fun l => pm_look l 0) cq_242).trans rfl⟩
theorem lk_242_1 : Lk 242 1 (.getfield 96) 12 46 (2) := ⟨3, 1303, (congrArg (fun l => pm_look l 1) cq_242).trans rfl⟩
theorem lk_242_4 : Lk 242 4 (.sipush 4096) 0 0 (0) := ⟨3, 0, (congrArg (fun l => pm_look l 4) cq_242).trans rfl⟩
theorem lk_242_7 : Lk 242 7 (.iload_n 1) 0 0 (0) := ⟨1, 0, (congrArg (fun l => pm_look l 7) cq_242).trans rfl⟩
theorem lk_242_8 : Lk 242 8 (.imul) 0 0 (0) := ⟨1, 0, (congrArg (fun l => pm_look l 8) cq_242).trans rfl⟩
theorem lk_242_9 : Lk 242 9 (.iload_n 3) 0 0 (0) := ⟨1, 0, (congrArg (fun l => pm_look l 9) cq_242).trans rfl⟩
theorem lk_242_10 : Lk 242 10 (.iadd) 0 0 (0) := ⟨1, 0, (congrArg (fun l => pm_look l 10) cq_242).trans rfl⟩
theorem lk_242_11 : Lk 242 11 (.iaload) 0 0 (0) := ⟨1, 0, (congrArg (fun l => pm_look l 11) cq_242).trans rfl⟩
theorem lk_242_12 : Lk 242 12 (.istore 6) 0 0 (0) := ⟨2, 0, (congrArg (fun l => pm_look l 12) cq_242).trans rfl⟩
theorem lk_242_14 : Lk 242 14 (.aload_n 0) 0 0 (0) := ⟨1, 0, (congrArg (fun l => pm_look l 14) cq_242).trans rfl⟩
theorem lk_242_15 : Lk 242 15 (.getfield 96) 12 46 (2) := ⟨3, 1303, (congrArg (fun l => pm_look l 15) cq_242).trans rfl⟩
theorem lk_242_18 : Lk 242 18 (.sipush 4096) 0 0 (0) := ⟨3, 0, (congrArg (fun l => pm_look l 18) cq_242).trans rfl⟩
theorem lk_242_21 : Lk 242 21 (.iload_n 1) 0 0 (0) := ⟨1, 0, (congrArg (fun l => pm_look l 21) cq_242).trans rfl⟩
theorem lk_242_22 : Lk 242 22 (.imul) 0 0 (0) := ⟨1, 0, (congrArg (fun l => pm_look l 22) cq_242).trans rfl⟩
theorem lk_242_23 : Lk 242 23 (.iload 4) 0 0 (0) := ⟨2, 0, (congrArg (fun l => pm_look l 23) cq_242).trans rfl⟩
theorem lk_242_25 : Lk 242 25 (.iadd) 0 0 (0) := ⟨1, 0, (congrArg (fun l => pm_look l 25) cq_242).trans rfl⟩
theorem lk_242_26 : Lk 242 26 (.iaload) 0 0 (0) := ⟨1, 0, (congrArg (fun l => pm_look l 26) cq_242).trans rfl⟩
theorem lk_242_27 : Lk 242 27 (.istore 7) 0 0 (0) := ⟨2, 0, (congrArg (fun l => pm_look l 27) cq_242).trans rfl⟩
theorem lk_242_29 : Lk 242 29 (.iload_n 1) 0 0 (0) := ⟨1, 0, (congrArg (fun l => pm_look l 29) cq_242).trans rfl⟩
theorem lk_242_30 : Lk 242 30 (.ifCond .ne 20) 0 0 (0) := ⟨3, 0, (congrArg (fun l => pm_look l 30) cq_242).trans rfl⟩
theorem lk_242_33 : Lk 242 33 (.aload_n 0) 0 0 (0) := ⟨1, 0, (congrArg (fun l => pm_look l 33) cq_242).trans rfl⟩
theorem lk_242_34 : Lk 242 34 (.getfield 26) 12 10 (2) := ⟨3, 1267, (congrArg (fun l => pm_look l 34) cq_242).trans rfl⟩
theorem lk_242_37 : Lk 242 37 (.iload_n 2) 0 0 (0) := ⟨1, 0, (congrArg (fun l => pm_look l 37) cq_242).trans rfl⟩
theorem lk_242_38 : Lk 242 38 (.iaload) 0 0 (0) := ⟨1, 0, (congrArg (fun l => pm_look l 38) cq_242).trans rfl⟩
theorem lk_242_39 : Lk 242 39 (.iload 6) 0 0 (0) := ⟨2, 0, (congrArg (fun l => pm_look l 39) cq_242).trans rfl⟩
theorem lk_242_41 : Lk 242 41 (.iload 7) 0 0 (0) := ⟨2, 0, (congrArg (fun l => pm_look l 41) cq_242).trans rfl⟩
theorem lk_242_43 : Lk 242 43 (.invokestatic 325) 170 0 (0) := ⟨3, 1663, (congrArg (fun l => pm_look l 43) cq_242).trans rfl⟩
theorem lk_242_46 : Lk 242 46 (.iadd) 0 0 (0) := ⟨1, 0, (congrArg (fun l => pm_look l 46) cq_242).trans rfl⟩
theorem lk_242_47 : Lk 242 47 (.goto 31) 0 0 (0) := ⟨3, 0, (congrArg (fun l => pm_look l 47) cq_242).trans rfl⟩
theorem lk_242_50 : Lk 242 50 (.iload_n 1) 0 0 (0) := ⟨1, 0, (congrArg (fun l => pm_look l 50) cq_242).trans rfl⟩
theorem lk_242_51 : Lk 242 51 (.iconst 1) 0 0 (0) := ⟨1, 0, (congrArg (fun l => pm_look l 51) cq_242).trans rfl⟩
theorem lk_242_52 : Lk 242 52 (.if_icmp .ne 11) 0 0 (0) := ⟨3, 0, (congrArg (fun l => pm_look l 52) cq_242).trans rfl⟩
theorem lk_242_55 : Lk 242 55 (.iload 6) 0 0 (0) := ⟨2, 0, (congrArg (fun l => pm_look l 55) cq_242).trans rfl⟩
theorem lk_242_57 : Lk 242 57 (.iload 7) 0 0 (0) := ⟨2, 0, (congrArg (fun l => pm_look l 57) cq_242).trans rfl⟩
theorem lk_242_59 : Lk 242 59 (.iadd) 0 0 (0) := ⟨1, 0, (congrArg (fun l => pm_look l 59) cq_242).trans rfl⟩
theorem lk_242_60 : Lk 242 60 (.goto 18) 0 0 (0) := ⟨3, 0, (congrArg (fun l => pm_look l 60) cq_242).trans rfl⟩
theorem lk_242_63 : Lk 242 63 (.aload_n 0) 0 0 (0) := ⟨1, 0, (congrArg (fun l => pm_look l 63) cq_242).trans rfl⟩
theorem lk_242_64 : Lk 242 64 (.getfield 26) 12 10 (2) := ⟨3, 1267, (congrArg (fun l => pm_look l 64) cq_242).trans rfl⟩
theorem lk_242_67 : Lk 242 67 (.iload_n 2) 0 0 (0) := ⟨1, 0, (congrArg (fun l => pm_look l 67) cq_242).trans rfl⟩
theorem lk_242_68 : Lk 242 68 (.iaload) 0 0 (0) := ⟨1, 0, (congrArg (fun l => pm_look l 68) cq_242).trans rfl⟩
theorem lk_242_69 : Lk 242 69 (.iload 5) 0 0 (0) := ⟨2, 0, (congrArg (fun l => pm_look l 69) cq_242).trans rfl⟩
theorem lk_242_71 : Lk 242 71 (.imul) 0 0 (0) := ⟨1, 0, (congrArg (fun l => pm_look l 71) cq_242).trans rfl⟩
theorem lk_242_72 : Lk 242 72 (.iload 6) 0 0 (0) := ⟨2, 0, (congrArg (fun l => pm_look l 72) cq_242).trans rfl⟩
theorem lk_242_74 : Lk 242 74 (.iadd) 0 0 (0) := ⟨1, 0, (congrArg (fun l => pm_look l 74) cq_242).trans rfl⟩
theorem lk_242_75 : Lk 242 75 (.iload 7) 0 0 (0) := ⟨2, 0, (congrArg (fun l => pm_look l 75) cq_242).trans rfl⟩
theorem lk_242_77 : Lk 242 77 (.iadd) 0 0 (0) := ⟨1, 0, (congrArg (fun l => pm_look l 77) cq_242).trans rfl⟩
theorem lk_242_78 : Lk 242 78 (.ireturn) 0 0 (0) := ⟨1, 0, (congrArg (fun l => pm_look l 78) cq_242).trans rfl⟩
theorem cq_243 : pm_code 243 = cd_243 := rfl
theorem lk_243_0 : Lk 243 0 (.iload_n 2) 0 0 (0) := ⟨1, 0, (congrArg (fun l => pm_look l 0) cq_243).trans rfl⟩
theorem lk_243_1 : Lk 243 1 (.iconst 1) 0 0 (0) := ⟨1, 0, (congrArg (fun l => pm_look l 1) cq_243).trans rfl⟩
theorem lk_243_2 : Lk 243 2 (.if_icmp .ne 7) 0 0 (0) := ⟨3, 0, (congrArg (fun l => pm_look l 2) cq_243).trans rfl⟩
theorem lk_243_5 : Lk 243 5 (.iload_n 3) 0 0 (0) := ⟨1, 0, (congrArg (fun l => pm_look l 5) cq_243).trans rfl⟩
theorem lk_243_6 : Lk 243 6 (.goto 5) 0 0 (0) := ⟨3, 0, (congrArg (fun l => pm_look l 6) cq_243).trans rfl⟩
theorem lk_243_9 : Lk 243 9 (.iload 4) 0 0 (0) := ⟨2, 0, (congrArg (fun l => pm_look l 9) cq_243).trans rfl⟩
theorem lk_243_11 : Lk 243 11 (.istore 5) 0 0 (0) := ⟨2, 0, (congrArg (fun l => pm_look l 11) cq_243).trans rfl⟩
theorem lk_243_13 : Lk 243 13 (.aload_n 0) 0 0 (0) := ⟨1, 0, (congrArg (fun l => pm_look l 13) cq_243).trans rfl⟩
theorem lk_243_14 : Lk 243 14 (.iload_n 3) 0 0 (0) := ⟨1, 0, (congrArg (fun l => pm_look l 14) cq_243).trans rfl⟩
theorem lk_243_15 : Lk 243 15 (.iload 4) 0 0 (0) := ⟨2, 0, (congrArg (fun l => pm_look l 15) cq_243).trans rfl⟩
theorem lk_243_17 : Lk 243 17 (.invokevirtual 297) 202 0 (0) := ⟨3, 1612, (congrArg (fun l => pm_look l 17) cq_243).trans rfl⟩
theorem lk_243_20 : Lk 243 20 (.istore 6) 0 0 (0) := ⟨2, 0, (congrArg (fun l => pm_look l 20) cq_243).trans rfl⟩
theorem lk_243_22 : Lk 243 22 (.iconst 1) 0 0 (0) := ⟨1, 0, (congrArg (fun l => pm_look l 22) cq_243).trans rfl⟩
theorem lk_243_23 : Lk 243 23 (.istore 7) 0 0 (0) := ⟨2, 0, (congrArg (fun l => pm_look l 23) cq_243).trans rfl⟩
theorem lk_243_25 : Lk 243 25 (.iload 7) 0 0 (0) := ⟨2, 0, (congrArg (fun l => pm_look l 25) cq_243).trans rfl⟩
theorem lk_243_27 : Lk 243 27 (.iload 5) 0 0 (0) := ⟨2, 0, (congrArg (fun l => pm_look l 27) cq_243).trans rfl⟩
theorem lk_243_29 : Lk 243 29 (.if_icmp .ge 124) 0 0 (0) := ⟨3, 0, (congrArg (fun l => pm_look l 29) cq_243).trans rfl⟩
theorem lk_243_32 : Lk 243 32 (.iload 7) 0 0 (0) := ⟨2, 0, (congrArg (fun l => pm_look l 32) cq_243).trans rfl⟩
theorem lk_243_34 : Lk 243 34 (.iload 5) 0 0 (0) := ⟨2, 0, (congrArg (fun l => pm_look l 34) cq_243).trans rfl⟩
theorem lk_243_36 : Lk 243 36 (.iconst (-1)) 0 0 (0) := ⟨1, 0, (congrArg (fun l => pm_look l 36) cq_243).trans rfl⟩
theorem lk_243_37 : Lk 243 37 (.ixor) 0 0 (0) := ⟨1, 0, (congrArg (fun l => pm_look l 37) cq_243).trans rfl⟩
theorem lk_243_38 : Lk 243 38 (.iand) 0 0 (0) := ⟨1, 0, (congrArg (fun l => pm_look l 38) cq_243).trans rfl⟩
theorem lk_243_39 : Lk 243 39 (.ifCond .ne 108) 0 0 (0) := ⟨3, 0, (congrArg (fun l => pm_look l 39) cq_243).trans rfl⟩
theorem lk_243_42 : Lk 243 42 (.iload 7) 0 0 (0) := ⟨2, 0, (congrArg (fun l => pm_look l 42) cq_243).trans rfl⟩
theorem lk_243_44 : Lk 243 44 (.iload 5) 0 0 (0) := ⟨2, 0, (congrArg (fun l => pm_look l 44) cq_243).trans rfl⟩
theorem lk_243_46 : Lk 243 46 (.iload 5) 0 0 (0) := ⟨2, 0, (congrArg (fun l => pm_look l 46) cq_243).trans rfl⟩
theorem lk_243_48 : Lk 243 48 (.ineg) 0 0 (0) := ⟨1, 0, (congrArg (fun l => pm_look l 48) cq_243).trans rfl⟩
theorem lk_243_49 : Lk 243 49 (.iand) 0 0 (0) := ⟨1, 0, (congrArg (fun l => pm_look l 49) cq_243).trans rfl⟩
theorem lk_243_50 : Lk 243 50 (.iand) 0 0 (0) := ⟨1, 0, (congrArg (fun l => pm_look l 50) cq_243).trans rfl⟩
theorem lk_243_51 : Lk 243 51 (.ifCond .ne 6) 0 0 (0) := ⟨3, 0, (congrArg (fun l => pm_look l 51) cq_243).trans rfl⟩
theorem lk_243_54 : Lk 243 54 (.goto 93) 0 0 (0) := ⟨3, 0, (congrArg (fun l => pm_look l 54) cq_243).trans rfl⟩
theorem lk_243_57 : Lk 243 57 (.iload_n 2) 0 0 (0) := ⟨1, 0, (congrArg (fun l => pm_look l 57) cq_243).trans rfl⟩
theorem lk_243_58 : Lk 243 58 (.iconst 1) 0 0 (0) := ⟨1, 0, (congrArg (fun l => pm_look l 58) cq_243).trans rfl⟩
theorem lk_243_59 : Lk 243 59 (.if_icmp .ne 13) 0 0 (0) := ⟨3, 0, (congrArg (fun l => pm_look l 59) cq_243).trans rfl⟩
theorem lk_243_62 : Lk 243 62 (.iload 7) 0 0 (0) := ⟨2, 0, (congrArg (fun l => pm_look l 62) cq_243).trans rfl⟩
theorem lk_243_64 : Lk 243 64 (.iload 4) 0 0 (0) := ⟨2, 0, (congrArg (fun l => pm_look l 64) cq_243).trans rfl⟩
theorem lk_243_66 : Lk 243 66 (.invokestatic 366) 233 0 (0) := ⟨3, 1733, (congrArg (fun l => pm_look l 66) cq_243).trans rfl⟩
theorem lk_243_69 : Lk 243 69 (.goto 9) 0 0 (0) := ⟨3, 0, (congrArg (fun l => pm_look l 69) cq_243).trans rfl⟩
theorem lk_243_72 : Lk 243 72 (.iload_n 3) 0 0 (0) := ⟨1, 0, (congrArg (fun l => pm_look l 72) cq_243).trans rfl⟩
theorem lk_243_73 : Lk 243 73 (.iload 7) 0 0 (0) := ⟨2, 0, (congrArg (fun l => pm_look l 73) cq_243).trans rfl⟩
theorem lk_243_75 : Lk 243 75 (.invokestatic 366) 233 0 (0) := ⟨3, 1733, (congrArg (fun l => pm_look l 75) cq_243).trans rfl⟩
theorem lk_243_78 : Lk 243 78 (.istore 8) 0 0 (0) := ⟨2, 0, (congrArg (fun l => pm_look l 78) cq_243).trans rfl⟩
theorem lk_243_80 : Lk 243 80 (.iload_n 2) 0 0 (0) := ⟨1, 0, (congrArg (fun l => pm_look l 80) cq_243).trans rfl⟩
theorem lk_243_81 : Lk 243 81 (.iconst 1) 0 0 (0) := ⟨1, 0, (congrArg (fun l => pm_look l 81) cq_243).trans rfl⟩
theorem lk_243_82 : Lk 243 82 (.if_icmp .ne 17) 0 0 (0) := ⟨3, 0, (congrArg (fun l => pm_look l 82) cq_243).trans rfl⟩
theorem lk_243_85 : Lk 243 85 (.iload_n 3) 0 0 (0) := ⟨1, 0, (congrArg (fun l => pm_look l 85) cq_243).trans rfl⟩
theorem lk_243_86 : Lk 243 86 (.iload 7) 0 0 (0) := ⟨2, 0, (congrArg (fun l => pm_look l 86) cq_243).trans rfl⟩
theorem lk_243_88 : Lk 243 88 (.iconst (-1)) 0 0 (0) := ⟨1, 0, (congrArg (fun l => pm_look l 88) cq_243).trans rfl⟩
theorem lk_243_89 : Lk 243 89 (.ixor) 0 0 (0) := ⟨1, 0, (congrArg (fun l => pm_look l 89) cq_243).trans rfl⟩
theorem lk_243_90 : Lk 243 90 (.iand) 0 0 (0) := ⟨1, 0, (congrArg (fun l => pm_look l 90) cq_243).trans rfl⟩
theorem lk_243_91 : Lk 243 91 (.iload 4) 0 0 (0) := ⟨2, 0, (congrArg (fun l => pm_look l 91) cq_243).trans rfl⟩
theorem lk_243_93 : Lk 243 93 (.invokestatic 366) 233 0 (0) := ⟨3, 1733, (congrArg (fun l => pm_look l 93) cq_243).trans rfl⟩
theorem lk_243_96 : Lk 243 96 (.goto 14) 0 0 (0) := ⟨3, 0, (congrArg (fun l => pm_look l 96) cq_243).trans rfl⟩
theorem lk_243_99 : Lk 243 99 (.iload_n 3) 0 0 (0) := ⟨1, 0, (congrArg (fun l => pm_look l 99) cq_243).trans rfl⟩
theorem lk_243_100 : Lk 243 100 (.iload 4) 0 0 (0) := ⟨2, 0, (congrArg (fun l => pm_look l 100) cq_243).trans rfl⟩
theorem lk_243_102 : Lk 243 102 (.iload 7) 0 0 (0) := ⟨2, 0, (congrArg (fun l => pm_look l 102) cq_243).trans rfl⟩
theorem lk_243_104 : Lk 243 104 (.iconst (-1)) 0 0 (0) := ⟨1, 0, (congrArg (fun l => pm_look l 104) cq_243).trans rfl⟩
theorem lk_243_105 : Lk 243 105 (.ixor) 0 0 (0) := ⟨1, 0, (congrArg (fun l => pm_look l 105) cq_243).trans rfl⟩
theorem lk_243_106 : Lk 243 106 (.iand) 0 0 (0) := ⟨1, 0, (congrArg (fun l => pm_look l 106) cq_243).trans rfl⟩
theorem lk_243_107 : Lk 243 107 (.invokestatic 366) 233 0 (0) := ⟨3, 1733, (congrArg (fun l => pm_look l 107) cq_243).trans rfl⟩
theorem lk_243_110 : Lk 243 110 (.istore 9) 0 0 (0) := ⟨2, 0, (congrArg (fun l => pm_look l 110) cq_243).trans rfl⟩
theorem lk_243_112 : Lk 243 112 (.aload_n 0) 0 0 (0) := ⟨1, 0, (congrArg (fun l => pm_look l 112) cq_243).trans rfl⟩
theorem lk_243_113 : Lk 243 113 (.iload_n 1) 0 0 (0) := ⟨1, 0, (congrArg (fun l => pm_look l 113) cq_243).trans rfl⟩
theorem lk_243_114 : Lk 243 114 (.iload_n 2) 0 0 (0) := ⟨1, 0, (congrArg (fun l => pm_look l 114) cq_243).trans rfl⟩
theorem lk_243_115 : Lk 243 115 (.iload 8) 0 0 (0) := ⟨2, 0, (congrArg (fun l => pm_look l 115) cq_243).trans rfl⟩
theorem lk_243_117 : Lk 243 117 (.iload 9) 0 0 (0) := ⟨2, 0, (congrArg (fun l => pm_look l 117) cq_243).trans rfl⟩
theorem lk_243_119 : Lk 243 119 (.iload 6) 0 0 (0) := ⟨2, 0, (congrArg (fun l => pm_look l 119) cq_243).trans rfl⟩
theorem lk_243_121 : Lk 243 121 (.invokevirtual 385) 242 0 (0) := ⟨3, 1771, (congrArg (fun l => pm_look l 121) cq_243).trans rfl⟩
theorem lk_243_124 : Lk 243 124 (.aload_n 0) 0 0 (0) := ⟨1, 0, (congrArg (fun l => pm_look l 124) cq_243).trans rfl⟩
theorem lk_243_125 : Lk 243 125 (.getfield 96) 12 46 (2) := ⟨3, 1303, (congrArg (fun l => pm_look l 125) cq_243).trans rfl⟩
theorem lk_243_128 : Lk 243 128 (.sipush 4096) 0 0 (0) := ⟨3, 0, (congrArg (fun l => pm_look l 128) cq_243).trans rfl⟩
theorem lk_243_131 : Lk 243 131 (.iload_n 1) 0 0 (0) := ⟨1, 0, (congrArg (fun l => pm_look l 131) cq_243).trans rfl⟩
theorem lk_243_132 : Lk 243 132 (.imul) 0 0 (0) := ⟨1, 0, (congrArg (fun l => pm_look l 132) cq_243).trans rfl⟩
theorem lk_243_133 : Lk 243 133 (.iload_n 3) 0 0 (0) := ⟨1, 0, (congrArg (fun l => pm_look l 133) cq_243).trans rfl⟩
theorem lk_243_134 : Lk 243 134 (.iload 4) 0 0 (0) := ⟨2, 0, (congrArg (fun l => pm_look l 134) cq_243).trans rfl⟩
theorem lk_243_136 : Lk 243 136 (.invokestatic 366) 233 0 (0) := ⟨3, 1733, (congrArg (fun l => pm_look l 136) cq_243).trans rfl⟩
theorem lk_243_139 : Lk 243 139 (.iadd) 0 0 (0) := ⟨1, 0, (congrArg (fun l => pm_look l 139) cq_243).trans rfl⟩
theorem lk_243_140 : Lk 243 140 (.iaload) 0 0 (0) := ⟨1, 0, (congrArg (fun l => pm_look l 140) cq_243).trans rfl⟩
theorem lk_243_141 : Lk 243 141 (.if_icmp .ne 6) 0 0 (0) := ⟨3, 0, (congrArg (fun l => pm_look l 141) cq_243).trans rfl⟩
theorem lk_243_144 : Lk 243 144 (.iload 7) 0 0 (0) := ⟨2, 0, (congrArg (fun l => pm_look l 144) cq_243).trans rfl⟩
theorem lk_243_146 : Lk 243 146 (.ireturn) 0 0 (0) := ⟨1, 0, (congrArg (fun l => pm_look l 146) cq_243).trans rfl⟩
theorem lk_243_147 : Lk 243 147 (.iinc 7 1) 0 0 (0) := ⟨3, 0, (congrArg (fun l => pm_look l 147) cq_243).trans rfl⟩
theorem lk_243_150 : Lk 243 150 (.goto (-125)) 0 0 (0) := ⟨3, 0, (congrArg (fun l => pm_look l 150) cq_243).trans rfl⟩
theorem lk_243_153 : Lk 243 153 (.iconst 0) 0 0 (0) := ⟨1, 0, (congrArg (fun l => pm_look l 153) cq_243).trans rfl⟩
theorem lk_243_154 : Lk 243 154 (.ireturn) 0 0 (0) := ⟨1, 0, (congrArg (fun l => pm_look l 154) cq_243).trans rfl⟩
theorem cq_244 : pm_code 244 = cd_244 := rfl
theorem lk_244_0 : Lk 244 0 (.aload_n 0) 0 0 (0) := ⟨1, 0, (congrArg (fun l => pm_look l 0) cq_244).trans rfl⟩
theorem lk_244_1 : Lk 244 1 (.invokevirtual 379) 235 0 (0) := ⟨3, 1725, (congrArg (fun l => pm_look l 1) cq_244).trans rfl⟩
theorem lk_244_4 : Lk 244 4 (.aload_n 0) 0 0 (0) := ⟨1, 0, (congrArg (fun l => pm_look l 4) cq_244).trans rfl⟩
theorem lk_244_5 : Lk 244 5 (.iconst 0) 0 0 (0) := ⟨1, 0, (congrArg (fun l => pm_look l 5) cq_244).trans rfl⟩
theorem lk_244_6 : Lk 244 6 (.putfield 389) 12 56 (0) := ⟨3, 1313, (congrArg (fun l => pm_look l 6) cq_244).trans rfl⟩
theorem lk_244_9 : Lk 244 9 (.iconst 1) 0 0 (0) := ⟨1, 0, (congrArg (fun l => pm_look l 9) cq_244).trans rfl⟩
theorem lk_244_10 : Lk 244 10 (.istore_n 2) 0 0 (0) := ⟨1, 0, (congrArg (fun l => pm_look l 10) cq_244).trans rfl⟩
theorem lk_244_11 : Lk 244 11 (.aload_n 0) 0 0 (0) := ⟨1, 0, (congrArg (fun l => pm_look l 11) cq_244).trans rfl⟩
theorem lk_244_12 : Lk 244 12 (.getfield 116) 12 53 (2) := ⟨3, 1310, (congrArg (fun l => pm_look l 12) cq_244).trans rfl⟩
theorem lk_244_15 : Lk 244 15 (.iconst 0) 0 0 (0) := ⟨1, 0, (congrArg (fun l => pm_look l 15) cq_244).trans rfl⟩
theorem lk_244_16 : Lk 244 16 (.aload_n 0) 0 0 (0) := ⟨1, 0, (congrArg (fun l => pm_look l 16) cq_244).trans rfl⟩
theorem lk_244_17 : Lk 244 17 (.invokevirtual 281) 175 0 (0) := ⟨3, 1571, (congrArg (fun l => pm_look l 17) cq_244).trans rfl⟩
theorem lk_244_20 : Lk 244 20 (.iastore) 0 0 (0) := ⟨1, 0, (congrArg (fun l => pm_look l 20) cq_244).trans rfl⟩
theorem lk_244_21 : Lk 244 21 (.aload_n 0) 0 0 (0) := ⟨1, 0, (congrArg (fun l => pm_look l 21) cq_244).trans rfl⟩
theorem lk_244_22 : Lk 244 22 (.getfield 119) 12 54 (2) := ⟨3, 1311, (congrArg (fun l => pm_look l 22) cq_244).trans rfl⟩
theorem lk_244_25 : Lk 244 25 (.iconst 0) 0 0 (0) := ⟨1, 0, (congrArg (fun l => pm_look l 25) cq_244).trans rfl⟩
theorem lk_244_26 : Lk 244 26 (.aload_n 0) 0 0 (0) := ⟨1, 0, (congrArg (fun l => pm_look l 26) cq_244).trans rfl⟩
theorem lk_244_27 : Lk 244 27 (.invokevirtual 285) 176 0 (0) := ⟨3, 1575, (congrArg (fun l => pm_look l 27) cq_244).trans rfl⟩
theorem lk_244_30 : Lk 244 30 (.iastore) 0 0 (0) := ⟨1, 0, (congrArg (fun l => pm_look l 30) cq_244).trans rfl⟩
theorem lk_244_31 : Lk 244 31 (.aload_n 0) 0 0 (0) := ⟨1, 0, (congrArg (fun l => pm_look l 31) cq_244).trans rfl⟩
theorem lk_244_32 : Lk 244 32 (.getfield 122) 12 55 (2) := ⟨3, 1312, (congrArg (fun l => pm_look l 32) cq_244).trans rfl⟩
theorem lk_244_35 : Lk 244 35 (.iconst 0) 0 0 (0) := ⟨1, 0, (congrArg (fun l => pm_look l 35) cq_244).trans rfl⟩
theorem lk_244_36 : Lk 244 36 (.iconst (-1)) 0 0 (0) := ⟨1, 0, (congrArg (fun l => pm_look l 36) cq_244).trans rfl⟩
theorem lk_244_37 : Lk 244 37 (.iastore) 0 0 (0) := ⟨1, 0, (congrArg (fun l => pm_look l 37) cq_244).trans rfl⟩
theorem lk_244_38 : Lk 244 38 (.iload_n 2) 0 0 (0) := ⟨1, 0, (congrArg (fun l => pm_look l 38) cq_244).trans rfl⟩
theorem lk_244_39 : Lk 244 39 (.ifCond .le 300) 0 0 (0) := ⟨3, 0, (congrArg (fun l => pm_look l 39) cq_244).trans rfl⟩
theorem lk_244_42 : Lk 244 42 (.iinc 2 (-1)) 0 0 (0) := ⟨3, 0, (congrArg (fun l => pm_look l 42) cq_244).trans rfl⟩
theorem lk_244_45 : Lk 244 45 (.aload_n 0) 0 0 (0) := ⟨1, 0, (congrArg (fun l => pm_look l 45) cq_244).trans rfl⟩
theorem lk_244_46 : Lk 244 46 (.getfield 116) 12 53 (2) := ⟨3, 1310, (congrArg (fun l => pm_look l 46) cq_244).trans rfl⟩
theorem lk_244_49 : Lk 244 49 (.iload_n 2) 0 0 (0) := ⟨1, 0, (congrArg (fun l => pm_look l 49) cq_244).trans rfl⟩
theorem lk_244_50 : Lk 244 50 (.iaload) 0 0 (0) := ⟨1, 0, (congrArg (fun l => pm_look l 50) cq_244).trans rfl⟩
theorem lk_244_51 : Lk 244 51 (.istore_n 3) 0 0 (0) := ⟨1, 0, (congrArg (fun l => pm_look l 51) cq_244).trans rfl⟩
theorem lk_244_52 : Lk 244 52 (.aload_n 0) 0 0 (0) := ⟨1, 0, (congrArg (fun l => pm_look l 52) cq_244).trans rfl⟩
theorem lk_244_53 : Lk 244 53 (.getfield 119) 12 54 (2) := ⟨3, 1311, (congrArg (fun l => pm_look l 53) cq_244).trans rfl⟩
theorem lk_244_56 : Lk 244 56 (.iload_n 2) 0 0 (0) := ⟨1, 0, (congrArg (fun l => pm_look l 56) cq_244).trans rfl⟩
theorem lk_244_57 : Lk 244 57 (.iaload) 0 0 (0) := ⟨1, 0, (congrArg (fun l => pm_look l 57) cq_244).trans rfl⟩
theorem lk_244_58 : Lk 244 58 (.istore 4) 0 0 (0) := ⟨2, 0, (congrArg (fun l => pm_look l 58) cq_244).trans rfl⟩
theorem lk_244_60 : Lk 244 60 (.aload_n 0) 0 0 (0) := ⟨1, 0, (congrArg (fun l => pm_look l 60) cq_244).trans rfl⟩
theorem lk_244_61 : Lk 244 61 (.getfield 389) 12 56 (0) := ⟨3, 1313, (congrArg (fun l => pm_look l 61) cq_244).trans rfl⟩
theorem lk_244_64 : Lk 244 64 (.istore 5) 0 0 (0) := ⟨2, 0, (congrArg (fun l => pm_look l 64) cq_244).trans rfl⟩
theorem lk_244_66 : Lk 244 66 (.aload_n 0) 0 0 (0) := ⟨1, 0, (congrArg (fun l => pm_look l 66) cq_244).trans rfl⟩
theorem lk_244_67 : Lk 244 67 (.dup) 0 0 (0) := ⟨1, 0, (congrArg (fun l => pm_look l 67) cq_244).trans rfl⟩
theorem lk_244_68 : Lk 244 68 (.getfield 389) 12 56 (0) := ⟨3, 1313, (congrArg (fun l => pm_look l 68) cq_244).trans rfl⟩
theorem lk_244_71 : Lk 244 71 (.iconst 1) 0 0 (0) := ⟨1, 0, (congrArg (fun l => pm_look l 71) cq_244).trans rfl⟩
theorem lk_244_72 : Lk 244 72 (.iadd) 0 0 (0) := ⟨1, 0, (congrArg (fun l => pm_look l 72) cq_244).trans rfl⟩
theorem lk_244_73 : Lk 244 73 (.putfield 389) 12 56 (0) := ⟨3, 1313, (congrArg (fun l => pm_look l 73) cq_244).trans rfl⟩
theorem lk_244_76 : Lk 244 76 (.aload_n 0) 0 0 (0) := ⟨1, 0, (congrArg (fun l => pm_look l 76) cq_244).trans rfl⟩
theorem lk_244_77 : Lk 244 77 (.getfield 122) 12 55 (2) := ⟨3, 1312, (congrArg (fun l => pm_look l 77) cq_244).trans rfl⟩
theorem lk_244_80 : Lk 244 80 (.iload_n 2) 0 0 (0) := ⟨1, 0, (congrArg (fun l => pm_look l 80) cq_244).trans rfl⟩
theorem lk_244_81 : Lk 244 81 (.iaload) 0 0 (0) := ⟨1, 0, (congrArg (fun l => pm_look l 81) cq_244).trans rfl⟩
theorem lk_244_82 : Lk 244 82 (.ifCond .lt 16) 0 0 (0) := ⟨3, 0, (congrArg (fun l => pm_look l 82) cq_244).trans rfl⟩
theorem lk_244_85 : Lk 244 85 (.aload_n 0) 0 0 (0) := ⟨1, 0, (congrArg (fun l => pm_look l 85) cq_244).trans rfl⟩
theorem lk_244_86 : Lk 244 86 (.getfield 113) 12 52 (2) := ⟨3, 1309, (congrArg (fun l => pm_look l 86) cq_244).trans rfl⟩
theorem lk_244_89 : Lk 244 89 (.aload_n 0) 0 0 (0) := ⟨1, 0, (congrArg (fun l => pm_look l 89) cq_244).trans rfl⟩
theorem lk_244_90 : Lk 244 90 (.getfield 122) 12 55 (2) := ⟨3, 1312, (congrArg (fun l => pm_look l 90) cq_244).trans rfl⟩
theorem lk_244_93 : Lk 244 93 (.iload_n 2) 0 0 (0) := ⟨1, 0, (congrArg (fun l => pm_look l 93) cq_244).trans rfl⟩
theorem lk_244_94 : Lk 244 94 (.iaload) 0 0 (0) := ⟨1, 0, (congrArg (fun l => pm_look l 94) cq_244).trans rfl⟩
theorem lk_244_95 : Lk 244 95 (.iload 5) 0 0 (0) := ⟨2, 0, (congrArg (fun l => pm_look l 95) cq_244).trans rfl⟩
theorem lk_244_97 : Lk 244 97 (.iastore) 0 0 (0) := ⟨1, 0, (congrArg (fun l => pm_look l 97) cq_244).trans rfl⟩
theorem lk_244_98 : Lk 244 98 (.aload_n 0) 0 0 (0) := ⟨1, 0, (congrArg (fun l => pm_look l 98) cq_244).trans rfl⟩
theorem lk_244_99 : Lk 244 99 (.getfield 113) 12 52 (2) := ⟨3, 1309, (congrArg (fun l => pm_look l 99) cq_244).trans rfl⟩
theorem lk_244_102 : Lk 244 102 (.iload 5) 0 0 (0) := ⟨2, 0, (congrArg (fun l => pm_look l 102) cq_244).trans rfl⟩
theorem lk_244_104 : Lk 244 104 (.iconst (-1)) 0 0 (0) := ⟨1, 0, (congrArg (fun l => pm_look l 104) cq_244).trans rfl⟩
theorem lk_244_105 : Lk 244 105 (.iastore) 0 0 (0) := ⟨1, 0, (congrArg (fun l => pm_look l 105) cq_244).trans rfl⟩
theorem lk_244_106 : Lk 244 106 (.aload_n 0) 0 0 (0) := ⟨1, 0, (congrArg (fun l => pm_look l 106) cq_244).trans rfl⟩
theorem lk_244_107 : Lk 244 107 (.iload_n 3) 0 0 (0) := ⟨1, 0, (congrArg (fun l => pm_look l 107) cq_244).trans rfl⟩
theorem lk_244_108 : Lk 244 108 (.iload 4) 0 0 (0) := ⟨2, 0, (congrArg (fun l => pm_look l 108) cq_244).trans rfl⟩
theorem lk_244_110 : Lk 244 110 (.invokevirtual 369) 234 0 (0) := ⟨3, 1736, (congrArg (fun l => pm_look l 110) cq_244).trans rfl⟩
theorem lk_244_113 : Lk 244 113 (.ifCond .eq 44) 0 0 (0) := ⟨3, 0, (congrArg (fun l => pm_look l 113) cq_244).trans rfl⟩
theorem lk_244_116 : Lk 244 116 (.aload_n 0) 0 0 (0) := ⟨1, 0, (congrArg (fun l => pm_look l 116) cq_244).trans rfl⟩
theorem lk_244_117 : Lk 244 117 (.iload_n 3) 0 0 (0) := ⟨1, 0, (congrArg (fun l => pm_look l 117) cq_244).trans rfl⟩
theorem lk_244_118 : Lk 244 118 (.iload 4) 0 0 (0) := ⟨2, 0, (congrArg (fun l => pm_look l 118) cq_244).trans rfl⟩
theorem lk_244_120 : Lk 244 120 (.invokevirtual 288) 200 0 (0) := ⟨3, 1579, (congrArg (fun l => pm_look l 120) cq_244).trans rfl⟩
theorem lk_244_123 : Lk 244 123 (.istore 6) 0 0 (0) := ⟨2, 0, (congrArg (fun l => pm_look l 123) cq_244).trans rfl⟩
theorem lk_244_125 : Lk 244 125 (.aload_n 0) 0 0 (0) := ⟨1, 0, (congrArg (fun l => pm_look l 125) cq_244).trans rfl⟩
theorem lk_244_126 : Lk 244 126 (.getfield 107) 12 50 (2) := ⟨3, 1307, (congrArg (fun l => pm_look l 126) cq_244).trans rfl⟩
theorem lk_244_129 : Lk 244 129 (.iload 5) 0 0 (0) := ⟨2, 0, (congrArg (fun l => pm_look l 129) cq_244).trans rfl⟩
theorem lk_244_131 : Lk 244 131 (.iconst 0) 0 0 (0) := ⟨1, 0, (congrArg (fun l => pm_look l 131) cq_244).trans rfl⟩
theorem lk_244_132 : Lk 244 132 (.iastore) 0 0 (0) := ⟨1, 0, (congrArg (fun l => pm_look l 132) cq_244).trans rfl⟩
theorem lk_244_133 : Lk 244 133 (.aload_n 0) 0 0 (0) := ⟨1, 0, (congrArg (fun l => pm_look l 133) cq_244).trans rfl⟩
theorem lk_244_134 : Lk 244 134 (.getfield 110) 12 51 (2) := ⟨3, 1308, (congrArg (fun l => pm_look l 134) cq_244).trans rfl⟩
theorem lk_244_137 : Lk 244 137 (.iload 5) 0 0 (0) := ⟨2, 0, (congrArg (fun l => pm_look l 137) cq_244).trans rfl⟩
theorem lk_244_139 : Lk 244 139 (.iload 6) 0 0 (0) := ⟨2, 0, (congrArg (fun l => pm_look l 139) cq_244).trans rfl⟩
theorem lk_244_141 : Lk 244 141 (.ifCond .ne 7) 0 0 (0) := ⟨3, 0, (congrArg (fun l => pm_look l 141) cq_244).trans rfl⟩
theorem lk_244_144 : Lk 244 144 (.iconst 0) 0 0 (0) := ⟨1, 0, (congrArg (fun l => pm_look l 144) cq_244).trans rfl⟩
theorem lk_244_145 : Lk 244 145 (.goto 8) 0 0 (0) := ⟨3, 0, (congrArg (fun l => pm_look l 145) cq_244).trans rfl⟩
theorem lk_244_148 : Lk 244 148 (.iload 6) 0 0 (0) := ⟨2, 0, (congrArg (fun l => pm_look l 148) cq_244).trans rfl⟩
theorem lk_244_150 : Lk 244 150 (.invokestatic 294) 206 0 (0) := ⟨3, 1609, (congrArg (fun l => pm_look l 150) cq_244).trans rfl⟩
theorem lk_244_153 : Lk 244 153 (.iastore) 0 0 (0) := ⟨1, 0, (congrArg (fun l => pm_look l 153) cq_244).trans rfl⟩
theorem lk_244_154 : Lk 244 154 (.goto (-116)) 0 0 (0) := ⟨3, 0, (congrArg (fun l => pm_look l 154) cq_244).trans rfl⟩
theorem lk_244_157 : Lk 244 157 (.aload_n 0) 0 0 (0) := ⟨1, 0, (congrArg (fun l => pm_look l 157) cq_244).trans rfl⟩
theorem lk_244_158 : Lk 244 158 (.iload_n 1) 0 0 (0) := ⟨1, 0, (congrArg (fun l => pm_look l 158) cq_244).trans rfl⟩
theorem lk_244_159 : Lk 244 159 (.iconst 1) 0 0 (0) := ⟨1, 0, (congrArg (fun l => pm_look l 159) cq_244).trans rfl⟩
theorem lk_244_160 : Lk 244 160 (.iload_n 3) 0 0 (0) := ⟨1, 0, (congrArg (fun l => pm_look l 160) cq_244).trans rfl⟩
theorem lk_244_161 : Lk 244 161 (.iload 4) 0 0 (0) := ⟨2, 0, (congrArg (fun l => pm_look l 161) cq_244).trans rfl⟩
theorem lk_244_163 : Lk 244 163 (.invokevirtual 392) 243 0 (0) := ⟨3, 1767, (congrArg (fun l => pm_look l 163) cq_244).trans rfl⟩
theorem lk_244_166 : Lk 244 166 (.istore 6) 0 0 (0) := ⟨2, 0, (congrArg (fun l => pm_look l 166) cq_244).trans rfl⟩
theorem lk_244_168 : Lk 244 168 (.aload_n 0) 0 0 (0) := ⟨1, 0, (congrArg (fun l => pm_look l 168) cq_244).trans rfl⟩
theorem lk_244_169 : Lk 244 169 (.getfield 107) 12 50 (2) := ⟨3, 1307, (congrArg (fun l => pm_look l 169) cq_244).trans rfl⟩
theorem lk_244_172 : Lk 244 172 (.iload 5) 0 0 (0) := ⟨2, 0, (congrArg (fun l => pm_look l 172) cq_244).trans rfl⟩
theorem lk_244_174 : Lk 244 174 (.iload 6) 0 0 (0) := ⟨2, 0, (congrArg (fun l => pm_look l 174) cq_244).trans rfl⟩
theorem lk_244_176 : Lk 244 176 (.ifCond .le 7) 0 0 (0) := ⟨3, 0, (congrArg (fun l => pm_look l 176) cq_244).trans rfl⟩
theorem lk_244_179 : Lk 244 179 (.iconst 1) 0 0 (0) := ⟨1, 0, (congrArg (fun l => pm_look l 179) cq_244).trans rfl⟩
theorem lk_244_180 : Lk 244 180 (.goto 4) 0 0 (0) := ⟨3, 0, (congrArg (fun l => pm_look l 180) cq_244).trans rfl⟩
theorem lk_244_183 : Lk 244 183 (.iconst 2) 0 0 (0) := ⟨1, 0, (congrArg (fun l => pm_look l 183) cq_244).trans rfl⟩
theorem lk_244_184 : Lk 244 184 (.iastore) 0 0 (0) := ⟨1, 0, (congrArg (fun l => pm_look l 184) cq_244).trans rfl⟩
theorem lk_244_185 : Lk 244 185 (.iload 6) 0 0 (0) := ⟨2, 0, (congrArg (fun l => pm_look l 185) cq_244).trans rfl⟩
theorem lk_244_187 : Lk 244 187 (.ifCond .le 8) 0 0 (0) := ⟨3, 0, (congrArg (fun l => pm_look l 187) cq_244).trans rfl⟩
theorem lk_244_190 : Lk 244 190 (.iload 6) 0 0 (0) := ⟨2, 0, (congrArg (fun l => pm_look l 190) cq_244).trans rfl⟩
theorem lk_244_192 : Lk 244 192 (.goto 12) 0 0 (0) := ⟨3, 0, (congrArg (fun l => pm_look l 192) cq_244).trans rfl⟩
theorem lk_244_195 : Lk 244 195 (.aload_n 0) 0 0 (0) := ⟨1, 0, (congrArg (fun l => pm_look l 195) cq_244).trans rfl⟩
theorem lk_244_196 : Lk 244 196 (.iload_n 1) 0 0 (0) := ⟨1, 0, (congrArg (fun l => pm_look l 196) cq_244).trans rfl⟩
theorem lk_244_197 : Lk 244 197 (.iconst 2) 0 0 (0) := ⟨1, 0, (congrArg (fun l => pm_look l 197) cq_244).trans rfl⟩
theorem lk_244_198 : Lk 244 198 (.iload_n 3) 0 0 (0) := ⟨1, 0, (congrArg (fun l => pm_look l 198) cq_244).trans rfl⟩
theorem lk_244_199 : Lk 244 199 (.iload 4) 0 0 (0) := ⟨2, 0, (congrArg (fun l => pm_look l 199) cq_244).trans rfl⟩
theorem lk_244_201 : Lk 244 201 (.invokevirtual 392) 243 0 (0) := ⟨3, 1767, (congrArg (fun l => pm_look l 201) cq_244).trans rfl⟩
theorem lk_244_204 : Lk 244 204 (.istore 6) 0 0 (0) := ⟨2, 0, (congrArg (fun l => pm_look l 204) cq_244).trans rfl⟩
theorem lk_244_206 : Lk 244 206 (.aload_n 0) 0 0 (0) := ⟨1, 0, (congrArg (fun l => pm_look l 206) cq_244).trans rfl⟩
theorem lk_244_207 : Lk 244 207 (.getfield 110) 12 51 (2) := ⟨3, 1308, (congrArg (fun l => pm_look l 207) cq_244).trans rfl⟩
theorem lk_244_210 : Lk 244 210 (.iload 5) 0 0 (0) := ⟨2, 0, (congrArg (fun l => pm_look l 210) cq_244).trans rfl⟩
theorem lk_244_212 : Lk 244 212 (.iload 6) 0 0 (0) := ⟨2, 0, (congrArg (fun l => pm_look l 212) cq_244).trans rfl⟩
set_option maxRecDepth 100000 in
theorem lk_244_214 : Lk 244 214 (.iastore) 0 0 (0) := ⟨1, 0, (congrArg (fun l => pm_look l 214) cq_244).trans rfl⟩
set_option maxRecDepth 100000 in
theorem lk_244_215 : Lk 244 215 (.aload_n 0) 0 0 (0) := ⟨1, 0, (congrArg (fun l => pm_look l 215) cq_244).trans rfl⟩
set_option maxRecDepth 100000 in
theorem lk_244_216 : Lk 244 216 (.getfield 107) 12 50 (2) := ⟨3, 1307, (congrArg (fun l => pm_look l 216) cq_244).trans rfl⟩
set_option maxRecDepth 100000 in
theorem lk_244_219 : Lk 244 219 (.iload 5) 0 0 (0) := ⟨2, 0, (congrArg (fun l => pm_look l 219) cq_244).trans rfl⟩
set_option maxRecDepth 100000 in
theorem lk_244_221 : Lk 244 221 (.iaload) 0 0 (0) := ⟨1, 0, (congrArg (fun l => pm_look l 221) cq_244).trans rfl⟩
set_option maxRecDepth 100000 in
theorem lk_244_222 : Lk 244 222 (.iconst 1) 0 0 (0) := ⟨1, 0, (congrArg (fun l => pm_look l 222) cq_244).trans rfl⟩
set_option maxRecDepth 100000 in
theorem lk_244_223 : Lk 244 223 (.if_icmp .ne 7) 0 0 (0) := ⟨3, 0, (congrArg (fun l => pm_look l 223) cq_244).trans rfl⟩
set_option maxRecDepth 100000 in
theorem lk_244_226 : Lk 244 226 (.iconst 1) 0 0 (0) := ⟨1, 0, (congrArg (fun l => pm_look l 226) cq_244).trans rfl⟩
set_option maxRecDepth 100000 in
theorem lk_244_227 : Lk 244 227 (.goto 4) 0 0 (0) := ⟨3, 0, (congrArg (fun l => pm_look l 227) cq_244).trans rfl⟩
set_option maxRecDepth 100000 in
theorem lk_244_230 : Lk 244 230 (.iconst 0) 0 0 (0) := ⟨1, 0, (congrArg (fun l => pm_look l 230) cq_244).trans rfl⟩
set_option maxRecDepth 100000 in
theorem lk_244_231 : Lk 244 231 (.istore 7) 0 0 (0) := ⟨2, 0, (congrArg (fun l => pm_look l 231) cq_244).trans rfl⟩
set_option maxRecDepth 100000 in
theorem lk_244_233 : Lk 244 233 (.aload_n 0) 0 0 (0) := ⟨1, 0, (congrArg (fun l => pm_look l 233) cq_244).trans rfl⟩
set_option maxRecDepth 100000 in
theorem lk_244_234 : Lk 244 234 (.getfield 116) 12 53 (2) := ⟨3, 1310, (congrArg (fun l => pm_look l 234) cq_244).trans rfl⟩
set_option maxRecDepth 100000 in
theorem lk_244_237 : Lk 244 237 (.iload_n 2) 0 0 (0) := ⟨1, 0, (congrArg (fun l => pm_look l 237) cq_244).trans rfl⟩
set_option maxRecDepth 100000 in
theorem lk_244_238 : Lk 244 238 (.iload 7) 0 0 (0) := ⟨2, 0, (congrArg (fun l => pm_look l 238) cq_244).trans rfl⟩
set_option maxRecDepth 100000 in
theorem lk_244_240 : Lk 244 240 (.ifCond .eq 12) 0 0 (0) := ⟨3, 0, (congrArg (fun l => pm_look l 240) cq_244).trans rfl⟩
set_option maxRecDepth 100000 in
theorem lk_244_243 : Lk 244 243 (.iload_n 3) 0 0 (0) := ⟨1, 0, (congrArg (fun l => pm_look l 243) cq_244).trans rfl⟩
set_option maxRecDepth 100000 in
theorem lk_244_244 : Lk 244 244 (.iload 6) 0 0 (0) := ⟨2, 0, (congrArg (fun l => pm_look l 244) cq_244).trans rfl⟩
set_option maxRecDepth 100000 in
theorem lk_244_246 : Lk 244 246 (.iconst (-1)) 0 0 (0) := ⟨1, 0, (congrArg (fun l => pm_look l 246) cq_244).trans rfl⟩
set_option maxRecDepth 100000 in
theorem lk_244_247 : Lk 244 247 (.ixor) 0 0 (0) := ⟨1, 0, (congrArg (fun l => pm_look l 247) cq_244).trans rfl⟩
set_option maxRecDepth 100000 in
theorem lk_244_248 : Lk 244 248 (.iand) 0 0 (0) := ⟨1, 0, (congrArg (fun l => pm_look l 248) cq_244).trans rfl⟩
set_option maxRecDepth 100000 in
theorem lk_244_249 : Lk 244 249 (.goto 4) 0 0 (0) := ⟨3, 0, (congrArg (fun l => pm_look l 249) cq_244).trans rfl⟩
set_option maxRecDepth 100000 in
theorem lk_244_252 : Lk 244 252 (.iload_n 3) 0 0 (0) := ⟨1, 0, (congrArg (fun l => pm_look l 252) cq_244).trans rfl⟩
set_option maxRecDepth 100000 in
theorem lk_244_253 : Lk 244 253 (.iastore) 0 0 (0) := ⟨1, 0, (congrArg (fun l => pm_look l 253) cq_244).trans rfl⟩
set_option maxRecDepth 100000 in
theorem lk_244_254 : Lk 244 254 (.aload_n 0) 0 0 (0) := ⟨1, 0, (congrArg (fun l => pm_look l 254) cq_244).trans rfl⟩
set_option maxRecDepth 100000 in
theorem lk_244_255 : Lk 244 255 (.getfield 119) 12 54 (2) := ⟨3, 1311, (congrArg (fun l => pm_look l 255) cq_244).trans rfl⟩
set_option maxRecDepth 100000 in
theorem lk_244_258 : Lk 244 258 (.iload_n 2) 0 0 (0) := ⟨1, 0, (congrArg (fun l => pm_look l 258) cq_244).trans rfl⟩
set_option maxRecDepth 100000 in
theorem lk_244_259 : Lk 244 259 (.iload 7) 0 0 (0) := ⟨2, 0, (congrArg (fun l => pm_look l 259) cq_244).trans rfl⟩
set_option maxRecDepth 100000 in
theorem lk_244_261 : Lk 244 261 (.ifCond .eq 8) 0 0 (0) := ⟨3, 0, (congrArg (fun l => pm_look l 261) cq_244).trans rfl⟩
set_option maxRecDepth 100000 in
theorem lk_244_264 : Lk 244 264 (.iload 4) 0 0 (0) := ⟨2, 0, (congrArg (fun l => pm_look l 264) cq_244).trans rfl⟩
set_option maxRecDepth 100000 in
theorem lk_244_266 : Lk 244 266 (.goto 10) 0 0 (0) := ⟨3, 0, (congrArg (fun l => pm_look l 266) cq_244).trans rfl⟩
set_option maxRecDepth 100000 in
theorem lk_244_269 : Lk 244 269 (.iload 4) 0 0 (0) := ⟨2, 0, (congrArg (fun l => pm_look l 269) cq_244).trans rfl⟩
set_option maxRecDepth 100000 in
theorem lk_244_271 : Lk 244 271 (.iload 6) 0 0 (0) := ⟨2, 0, (congrArg (fun l => pm_look l 271) cq_244).trans rfl⟩
set_option maxRecDepth 100000 in
theorem lk_244_273 : Lk 244 273 (.iconst (-1)) 0 0 (0) := ⟨1, 0, (congrArg (fun l => pm_look l 273) cq_244).trans rfl⟩
set_option maxRecDepth 100000 in
theorem lk_244_274 : Lk 244 274 (.ixor) 0 0 (0) := ⟨1, 0, (congrArg (fun l => pm_look l 274) cq_244).trans rfl⟩
set_option maxRecDepth 100000 in
theorem lk_244_275 : Lk 244 275 (.iand) 0 0 (0) := ⟨1, 0, (congrArg (fun l => pm_look l 275) cq_244).trans rfl⟩
set_option maxRecDepth 100000 in
theorem lk_244_276 : Lk 244 276 (.iastore) 0 0 (0) := ⟨1, 0, (congrArg (fun l => pm_look l 276) cq_244).trans rfl⟩
set_option maxRecDepth 100000 in
theorem lk_244_277 : Lk 244 277 (.aload_n 0) 0 0 (0) := ⟨1, 0, (congrArg (fun l => pm_look l 277) cq_244).trans rfl⟩
set_option maxRecDepth 100000 in
theorem lk_244_278 : Lk 244 278 (.getfield 122) 12 55 (2) := ⟨3, 1312, (congrArg (fun l => pm_look l 278) cq_244).trans rfl⟩
set_option maxRecDepth 100000 in
theorem lk_244_281 : Lk 244 281 (.iload_n 2) 0 0 (0) := ⟨1, 0, (congrArg (fun l => pm_look l 281) cq_244).trans rfl⟩
set_option maxRecDepth 100000 in
theorem lk_244_282 : Lk 244 282 (.iload 5) 0 0 (0) := ⟨2, 0, (congrArg (fun l => pm_look l 282) cq_244).trans rfl⟩
set_option maxRecDepth 100000 in
theorem lk_244_284 : Lk 244 284 (.iastore) 0 0 (0) := ⟨1, 0, (congrArg (fun l => pm_look l 284) cq_244).trans rfl⟩
set_option maxRecDepth 100000 in
theorem lk_244_285 : Lk 244 285 (.aload_n 0) 0 0 (0) := ⟨1, 0, (congrArg (fun l => pm_look l 285) cq_244).trans rfl⟩
set_option maxRecDepth 100000 in
theorem lk_244_286 : Lk 244 286 (.getfield 116) 12 53 (2) := ⟨3, 1310, (congrArg (fun l => pm_look l 286) cq_244).trans rfl⟩
set_option maxRecDepth 100000 in
theorem lk_244_289 : Lk 244 289 (.iload_n 2) 0 0 (0) := ⟨1, 0, (congrArg (fun l => pm_look l 289) cq_244).trans rfl⟩
set_option maxRecDepth 100000 in
theorem lk_244_290 : Lk 244 290 (.iconst 1) 0 0 (0) := ⟨1, 0, (congrArg (fun l => pm_look l 290) cq_244).trans rfl⟩
set_option maxRecDepth 100000 in
theorem lk_244_291 : Lk 244 291 (.iadd) 0 0 (0) := ⟨1, 0, (congrArg (fun l => pm_look l 291) cq_244).trans rfl⟩
set_option maxRecDepth 100000 in
theorem lk_244_292 : Lk 244 292 (.iload 7) 0 0 (0) := ⟨2, 0, (congrArg (fun l => pm_look l 292) cq_244).trans rfl⟩
set_option maxRecDepth 100000 in
theorem lk_244_294 : Lk 244 294 (.ifCond .eq 8) 0 0 (0) := ⟨3, 0, (congrArg (fun l => pm_look l 294) cq_244).trans rfl⟩
set_option maxRecDepth 100000 in
theorem lk_244_297 : Lk 244 297 (.iload 6) 0 0 (0) := ⟨2, 0, (congrArg (fun l => pm_look l 297) cq_244).trans rfl⟩
set_option maxRecDepth 100000 in
theorem lk_244_299 : Lk 244 299 (.goto 4) 0 0 (0) := ⟨3, 0, (congrArg (fun l => pm_look l 299) cq_244).trans rfl⟩
set_option maxRecDepth 100000 in
theorem lk_244_302 : Lk 244 302 (.iload_n 3) 0 0 (0) := ⟨1, 0, (congrArg (fun l => pm_look l 302) cq_244).trans rfl⟩
set_option maxRecDepth 100000 in
theorem lk_244_303 : Lk 244 303 (.iastore) 0 0 (0) := ⟨1, 0, (congrArg (fun l => pm_look l 303) cq_244).trans rfl⟩
set_option maxRecDepth 100000 in
theorem lk_244_304 : Lk 244 304 (.aload_n 0) 0 0 (0) := ⟨1, 0, (congrArg (fun l => pm_look l 304) cq_244).trans rfl⟩
set_option maxRecDepth 100000 in
theorem lk_244_305 : Lk 244 305 (.getfield 119) 12 54 (2) := ⟨3, 1311, (congrArg (fun l => pm_look l 305) cq_244).trans rfl⟩
set_option maxRecDepth 100000 in
theorem lk_244_308 : Lk 244 308 (.iload_n 2) 0 0 (0) := ⟨1, 0, (congrArg (fun l => pm_look l 308) cq_244).trans rfl⟩
set_option maxRecDepth 100000 in
theorem lk_244_309 : Lk 244 309 (.iconst 1) 0 0 (0) := ⟨1, 0, (congrArg (fun l => pm_look l 309) cq_244).trans rfl⟩
set_option maxRecDepth 100000 in
theorem lk_244_310 : Lk 244 310 (.iadd) 0 0 (0) := ⟨1, 0, (congrArg (fun l => pm_look l 310) cq_244).trans rfl⟩
set_option maxRecDepth 100000 in
theorem lk_244_311 : Lk 244 311 (.iload 7) 0 0 (0) := ⟨2, 0, (congrArg (fun l => pm_look l 311) cq_244).trans rfl⟩
set_option maxRecDepth 100000 in
theorem lk_244_313 : Lk 244 313 (.ifCond .eq 8) 0 0 (0) := ⟨3, 0, (congrArg (fun l => pm_look l 313) cq_244).trans rfl⟩
set_option maxRecDepth 100000 in
theorem lk_244_316 : Lk 244 316 (.iload 4) 0 0 (0) := ⟨2, 0, (congrArg (fun l => pm_look l 316) cq_244).trans rfl⟩
set_option maxRecDepth 100000 in
theorem lk_244_318 : Lk 244 318 (.goto 5) 0 0 (0) := ⟨3, 0, (congrArg (fun l => pm_look l 318) cq_244).trans rfl⟩
set_option maxRecDepth 100000 in
theorem lk_244_321 : Lk 244 321 (.iload 6) 0 0 (0) := ⟨2, 0, (congrArg (fun l => pm_look l 321) cq_244).trans rfl⟩
set_option maxRecDepth 100000 in
theorem lk_244_323 : Lk 244 323 (.iastore) 0 0 (0) := ⟨1, 0, (congrArg (fun l => pm_look l 323) cq_244).trans rfl⟩
set_option maxRecDepth 100000 in
theorem lk_244_324 : Lk 244 324 (.aload_n 0) 0 0 (0) := ⟨1, 0, (congrArg (fun l => pm_look l 324) cq_244).trans rfl⟩
set_option maxRecDepth 100000 in
theorem lk_244_325 : Lk 244 325 (.getfield 122) 12 55 (2) := ⟨3, 1312, (congrArg (fun l => pm_look l 325) cq_244).trans rfl⟩
set_option maxRecDepth 100000 in
theorem lk_244_328 : Lk 244 328 (.iload_n 2) 0 0 (0) := ⟨1, 0, (congrArg (fun l => pm_look l 328) cq_244).trans rfl⟩
set_option maxRecDepth 100000 in
theorem lk_244_329 : Lk 244 329 (.iconst 1) 0 0 (0) := ⟨1, 0, (congrArg (fun l => pm_look l 329) cq_244).trans rfl⟩
set_option maxRecDepth 100000 in
theorem lk_244_330 : Lk 244 330 (.iadd) 0 0 (0) := ⟨1, 0, (congrArg (fun l => pm_look l 330) cq_244).trans rfl⟩
set_option maxRecDepth 100000 in
theorem lk_244_331 : Lk 244 331 (.iconst (-1)) 0 0 (0) := ⟨1, 0, (congrArg (fun l => pm_look l 331) cq_244).trans rfl⟩
set_option maxRecDepth 100000 in
theorem lk_244_332 : Lk 244 332 (.iastore) 0 0 (0) := ⟨1, 0, (congrArg (fun l => pm_look l 332) cq_244).trans rfl⟩
set_option maxRecDepth 100000 in
theorem lk_244_333 : Lk 244 333 (.iinc 2 2) 0 0 (0) := ⟨3, 0, (congrArg (fun l => pm_look l 333) cq_244).trans rfl⟩
set_option maxRecDepth 100000 in
theorem lk_244_336 : Lk 244 336 (.goto (-298)) 0 0 (0) := ⟨3, 0, (congrArg (fun l => pm_look l 336) cq_244).trans rfl⟩
set_option maxRecDepth 100000 in
theorem lk_244_339 : Lk 244 339 (.return_) 0 0 (0) := ⟨1, 0, (congrArg (fun l => pm_look l 339) cq_244).trans rfl⟩
theorem cq_245 : pm_code 245 = cd_245 := rfl
theorem lk_245_0 : Lk 245 0 (.aload_n 0) 0 0 (0) := ⟨1, 0, (congrArg (fun l => pm_look l 0) cq_245).trans rfl⟩
theorem lk_245_1 : Lk 245 1 (.iconst 0) 0 0 (0) := ⟨1, 0, (congrArg (fun l => pm_look l 1) cq_245).trans rfl⟩
theorem lk_245_2 : Lk 245 2 (.putfield 143) 12 0 (0) := ⟨3, 1257, (congrArg (fun l => pm_look l 2) cq_245).trans rfl⟩
theorem lk_245_5 : Lk 245 5 (.iload_n 1) 0 0 (0) := ⟨1, 0, (congrArg (fun l => pm_look l 5) cq_245).trans rfl⟩
theorem lk_245_6 : Lk 245 6 (.iconst 0) 0 0 (0) := ⟨1, 0, (congrArg (fun l => pm_look l 6) cq_245).trans rfl⟩
theorem lk_245_7 : Lk 245 7 (.iconst 2) 0 0 (0) := ⟨1, 0, (congrArg (fun l => pm_look l 7) cq_245).trans rfl⟩
theorem lk_245_8 : Lk 245 8 (.invokestatic 146) 167 0 (0) := ⟨3, 1483, (congrArg (fun l => pm_look l 8) cq_245).trans rfl⟩
theorem lk_245_11 : Lk 245 11 (.ifCond .ne 5) 0 0 (0) := ⟨3, 0, (congrArg (fun l => pm_look l 11) cq_245).trans rfl⟩
theorem lk_245_14 : Lk 245 14 (.iconst (-1)) 0 0 (0) := ⟨1, 0, (congrArg (fun l => pm_look l 14) cq_245).trans rfl⟩
theorem lk_245_15 : Lk 245 15 (.ireturn) 0 0 (0) := ⟨1, 0, (congrArg (fun l => pm_look l 15) cq_245).trans rfl⟩
theorem lk_245_16 : Lk 245 16 (.aload_n 0) 0 0 (0) := ⟨1, 0, (congrArg (fun l => pm_look l 16) cq_245).trans rfl⟩
theorem lk_245_17 : Lk 245 17 (.iload_n 1) 0 0 (0) := ⟨1, 0, (congrArg (fun l => pm_look l 17) cq_245).trans rfl⟩
theorem lk_245_18 : Lk 245 18 (.invokevirtual 396) 244 0 (0) := ⟨3, 1763, (congrArg (fun l => pm_look l 18) cq_245).trans rfl⟩
theorem lk_245_21 : Lk 245 21 (.iload_n 2) 0 0 (0) := ⟨1, 0, (congrArg (fun l => pm_look l 21) cq_245).trans rfl⟩
theorem lk_245_22 : Lk 245 22 (.iconst (-1)) 0 0 (0) := ⟨1, 0, (congrArg (fun l => pm_look l 22) cq_245).trans rfl⟩
theorem lk_245_23 : Lk 245 23 (.if_icmp .ne 8) 0 0 (0) := ⟨3, 0, (congrArg (fun l => pm_look l 23) cq_245).trans rfl⟩
theorem lk_245_26 : Lk 245 26 (.aload_n 0) 0 0 (0) := ⟨1, 0, (congrArg (fun l => pm_look l 26) cq_245).trans rfl⟩
theorem lk_245_27 : Lk 245 27 (.getfield 389) 12 56 (0) := ⟨3, 1313, (congrArg (fun l => pm_look l 27) cq_245).trans rfl⟩
theorem lk_245_30 : Lk 245 30 (.ireturn) 0 0 (0) := ⟨1, 0, (congrArg (fun l => pm_look l 30) cq_245).trans rfl⟩
theorem lk_245_31 : Lk 245 31 (.iload_n 2) 0 0 (0) := ⟨1, 0, (congrArg (fun l => pm_look l 31) cq_245).trans rfl⟩
theorem lk_245_32 : Lk 245 32 (.iconst 0) 0 0 (0) := ⟨1, 0, (congrArg (fun l => pm_look l 32) cq_245).trans rfl⟩
theorem lk_245_33 : Lk 245 33 (.aload_n 0) 0 0 (0) := ⟨1, 0, (congrArg (fun l => pm_look l 33) cq_245).trans rfl⟩
theorem lk_245_34 : Lk 245 34 (.getfield 389) 12 56 (0) := ⟨3, 1313, (congrArg (fun l => pm_look l 34) cq_245).trans rfl⟩
theorem lk_245_37 : Lk 245 37 (.iconst 1) 0 0 (0) := ⟨1, 0, (congrArg (fun l => pm_look l 37) cq_245).trans rfl⟩
theorem lk_245_38 : Lk 245 38 (.isub) 0 0 (0) := ⟨1, 0, (congrArg (fun l => pm_look l 38) cq_245).trans rfl⟩
theorem lk_245_39 : Lk 245 39 (.invokestatic 146) 167 0 (0) := ⟨3, 1483, (congrArg (fun l => pm_look l 39) cq_245).trans rfl⟩
theorem lk_245_42 : Lk 245 42 (.ifCond .ne 7) 0 0 (0) := ⟨3, 0, (congrArg (fun l => pm_look l 42) cq_245).trans rfl⟩
theorem lk_245_45 : Lk 245 45 (.iconst (-1)) 0 0 (0) := ⟨1, 0, (congrArg (fun l => pm_look l 45) cq_245).trans rfl⟩
theorem lk_245_46 : Lk 245 46 (.goto 45) 0 0 (0) := ⟨3, 0, (congrArg (fun l => pm_look l 46) cq_245).trans rfl⟩
theorem lk_245_49 : Lk 245 49 (.iload_n 3) 0 0 (0) := ⟨1, 0, (congrArg (fun l => pm_look l 49) cq_245).trans rfl⟩
theorem lk_245_50 : Lk 245 50 (.ifCond .ne 12) 0 0 (0) := ⟨3, 0, (congrArg (fun l => pm_look l 50) cq_245).trans rfl⟩
theorem lk_245_53 : Lk 245 53 (.aload_n 0) 0 0 (0) := ⟨1, 0, (congrArg (fun l => pm_look l 53) cq_245).trans rfl⟩
theorem lk_245_54 : Lk 245 54 (.getfield 107) 12 50 (2) := ⟨3, 1307, (congrArg (fun l => pm_look l 54) cq_245).trans rfl⟩
theorem lk_245_57 : Lk 245 57 (.iload_n 2) 0 0 (0) := ⟨1, 0, (congrArg (fun l => pm_look l 57) cq_245).trans rfl⟩
theorem lk_245_58 : Lk 245 58 (.iaload) 0 0 (0) := ⟨1, 0, (congrArg (fun l => pm_look l 58) cq_245).trans rfl⟩
theorem lk_245_59 : Lk 245 59 (.goto 32) 0 0 (0) := ⟨3, 0, (congrArg (fun l => pm_look l 59) cq_245).trans rfl⟩
theorem lk_245_62 : Lk 245 62 (.iload_n 3) 0 0 (0) := ⟨1, 0, (congrArg (fun l => pm_look l 62) cq_245).trans rfl⟩
theorem lk_245_63 : Lk 245 63 (.iconst 1) 0 0 (0) := ⟨1, 0, (congrArg (fun l => pm_look l 63) cq_245).trans rfl⟩
theorem lk_245_64 : Lk 245 64 (.if_icmp .ne 12) 0 0 (0) := ⟨3, 0, (congrArg (fun l => pm_look l 64) cq_245).trans rfl⟩
theorem lk_245_67 : Lk 245 67 (.aload_n 0) 0 0 (0) := ⟨1, 0, (congrArg (fun l => pm_look l 67) cq_245).trans rfl⟩
theorem lk_245_68 : Lk 245 68 (.getfield 110) 12 51 (2) := ⟨3, 1308, (congrArg (fun l => pm_look l 68) cq_245).trans rfl⟩
theorem lk_245_71 : Lk 245 71 (.iload_n 2) 0 0 (0) := ⟨1, 0, (congrArg (fun l => pm_look l 71) cq_245).trans rfl⟩
theorem lk_245_72 : Lk 245 72 (.iaload) 0 0 (0) := ⟨1, 0, (congrArg (fun l => pm_look l 72) cq_245).trans rfl⟩
theorem lk_245_73 : Lk 245 73 (.goto 18) 0 0 (0) := ⟨3, 0, (congrArg (fun l => pm_look l 73) cq_245).trans rfl⟩
theorem lk_245_76 : Lk 245 76 (.iload_n 3) 0 0 (0) := ⟨1, 0, (congrArg (fun l => pm_look l 76) cq_245).trans rfl⟩
theorem lk_245_77 : Lk 245 77 (.iconst 2) 0 0 (0) := ⟨1, 0, (congrArg (fun l => pm_look l 77) cq_245).trans rfl⟩
theorem lk_245_78 : Lk 245 78 (.if_icmp .ne 12) 0 0 (0) := ⟨3, 0, (congrArg (fun l => pm_look l 78) cq_245).trans rfl⟩
theorem lk_245_81 : Lk 245 81 (.aload_n 0) 0 0 (0) := ⟨1, 0, (congrArg (fun l => pm_look l 81) cq_245).trans rfl⟩
theorem lk_245_82 : Lk 245 82 (.getfield 113) 12 52 (2) := ⟨3, 1309, (congrArg (fun l => pm_look l 82) cq_245).trans rfl⟩
theorem lk_245_85 : Lk 245 85 (.iload_n 2) 0 0 (0) := ⟨1, 0, (congrArg (fun l => pm_look l 85) cq_245).trans rfl⟩
theorem lk_245_86 : Lk 245 86 (.iaload) 0 0 (0) := ⟨1, 0, (congrArg (fun l => pm_look l 86) cq_245).trans rfl⟩
theorem lk_245_87 : Lk 245 87 (.goto 4) 0 0 (0) := ⟨3, 0, (congrArg (fun l => pm_look l 87) cq_245).trans rfl⟩
theorem lk_245_90 : Lk 245 90 (.iconst (-1)) 0 0 (0) := ⟨1, 0, (congrArg (fun l => pm_look l 90) cq_245).trans rfl⟩
theorem lk_245_91 : Lk 245 91 (.ireturn) 0 0 (0) := ⟨1, 0, (congrArg (fun l => pm_look l 91) cq_245).trans rfl⟩
theorem cq_246 : pm_code 246 = cd_246 := rfl
theorem lk_246_0 : Lk 246 0 (.aload_n 0) 0 0 (0) := ⟨1, 0, (congrArg (fun l => pm_look l 0) cq_246).trans rfl⟩
theorem lk_246_1 : Lk 246 1 (.iconst 0) 0 0 (0) := ⟨1, 0, (congrArg (fun l => pm_look l 1) cq_246).trans rfl⟩
theorem lk_246_2 : Lk 246 2 (.putfield 143) 12 0 (0) := ⟨3, 1257, (congrArg (fun l => pm_look l 2) cq_246).trans rfl⟩
theorem lk_246_5 : Lk 246 5 (.iload_n 1) 0 0 (0) := ⟨1, 0, (congrArg (fun l => pm_look l 5) cq_246).trans rfl⟩
theorem lk_246_6 : Lk 246 6 (.iconst 0) 0 0 (0) := ⟨1, 0, (congrArg (fun l => pm_look l 6) cq_246).trans rfl⟩
theorem lk_246_7 : Lk 246 7 (.iconst 2) 0 0 (0) := ⟨1, 0, (congrArg (fun l => pm_look l 7) cq_246).trans rfl⟩
theorem lk_246_8 : Lk 246 8 (.invokestatic 146) 167 0 (0) := ⟨3, 1483, (congrArg (fun l => pm_look l 8) cq_246).trans rfl⟩
theorem lk_246_11 : Lk 246 11 (.ifCond .ne 5) 0 0 (0) := ⟨3, 0, (congrArg (fun l => pm_look l 11) cq_246).trans rfl⟩
theorem lk_246_14 : Lk 246 14 (.iconst (-1)) 0 0 (0) := ⟨1, 0, (congrArg (fun l => pm_look l 14) cq_246).trans rfl⟩
theorem lk_246_15 : Lk 246 15 (.ireturn) 0 0 (0) := ⟨1, 0, (congrArg (fun l => pm_look l 15) cq_246).trans rfl⟩
theorem lk_246_16 : Lk 246 16 (.iconst 0) 0 0 (0) := ⟨1, 0, (congrArg (fun l => pm_look l 16) cq_246).trans rfl⟩
theorem lk_246_17 : Lk 246 17 (.istore_n 2) 0 0 (0) := ⟨1, 0, (congrArg (fun l => pm_look l 17) cq_246).trans rfl⟩
theorem lk_246_18 : Lk 246 18 (.iconst 0) 0 0 (0) := ⟨1, 0, (congrArg (fun l => pm_look l 18) cq_246).trans rfl⟩
theorem lk_246_19 : Lk 246 19 (.istore_n 3) 0 0 (0) := ⟨1, 0, (congrArg (fun l => pm_look l 19) cq_246).trans rfl⟩
theorem lk_246_20 : Lk 246 20 (.iload_n 3) 0 0 (0) := ⟨1, 0, (congrArg (fun l => pm_look l 20) cq_246).trans rfl⟩
theorem lk_246_21 : Lk 246 21 (.bipush 10) 0 0 (0) := ⟨2, 0, (congrArg (fun l => pm_look l 21) cq_246).trans rfl⟩
theorem lk_246_23 : Lk 246 23 (.if_icmp .ge 41) 0 0 (0) := ⟨3, 0, (congrArg (fun l => pm_look l 23) cq_246).trans rfl⟩
theorem lk_246_26 : Lk 246 26 (.iload_n 1) 0 0 (0) := ⟨1, 0, (congrArg (fun l => pm_look l 26) cq_246).trans rfl⟩
theorem lk_246_27 : Lk 246 27 (.iconst 2) 0 0 (0) := ⟨1, 0, (congrArg (fun l => pm_look l 27) cq_246).trans rfl⟩
theorem lk_246_28 : Lk 246 28 (.if_icmp .ge 36) 0 0 (0) := ⟨3, 0, (congrArg (fun l => pm_look l 28) cq_246).trans rfl⟩
theorem lk_246_31 : Lk 246 31 (.iload_n 1) 0 0 (0) := ⟨1, 0, (congrArg (fun l => pm_look l 31) cq_246).trans rfl⟩
theorem lk_246_32 : Lk 246 32 (.ifCond .ne 14) 0 0 (0) := ⟨3, 0, (congrArg (fun l => pm_look l 32) cq_246).trans rfl⟩
theorem lk_246_35 : Lk 246 35 (.iload_n 2) 0 0 (0) := ⟨1, 0, (congrArg (fun l => pm_look l 35) cq_246).trans rfl⟩
theorem lk_246_36 : Lk 246 36 (.aload_n 0) 0 0 (0) := ⟨1, 0, (congrArg (fun l => pm_look l 36) cq_246).trans rfl⟩
theorem lk_246_37 : Lk 246 37 (.iload_n 3) 0 0 (0) := ⟨1, 0, (congrArg (fun l => pm_look l 37) cq_246).trans rfl⟩
theorem lk_246_38 : Lk 246 38 (.invokevirtual 319) 214 0 (0) := ⟨3, 1639, (congrArg (fun l => pm_look l 38) cq_246).trans rfl⟩
theorem lk_246_41 : Lk 246 41 (.iadd) 0 0 (0) := ⟨1, 0, (congrArg (fun l => pm_look l 41) cq_246).trans rfl⟩
theorem lk_246_42 : Lk 246 42 (.istore_n 2) 0 0 (0) := ⟨1, 0, (congrArg (fun l => pm_look l 42) cq_246).trans rfl⟩
theorem lk_246_43 : Lk 246 43 (.goto 15) 0 0 (0) := ⟨3, 0, (congrArg (fun l => pm_look l 43) cq_246).trans rfl⟩
theorem lk_246_46 : Lk 246 46 (.aload_n 0) 0 0 (0) := ⟨1, 0, (congrArg (fun l => pm_look l 46) cq_246).trans rfl⟩
theorem lk_246_47 : Lk 246 47 (.iload_n 3) 0 0 (0) := ⟨1, 0, (congrArg (fun l => pm_look l 47) cq_246).trans rfl⟩
theorem lk_246_48 : Lk 246 48 (.invokevirtual 340) 222 0 (0) := ⟨3, 1670, (congrArg (fun l => pm_look l 48) cq_246).trans rfl⟩
theorem lk_246_51 : Lk 246 51 (.iload_n 2) 0 0 (0) := ⟨1, 0, (congrArg (fun l => pm_look l 51) cq_246).trans rfl⟩
theorem lk_246_52 : Lk 246 52 (.aload_n 0) 0 0 (0) := ⟨1, 0, (congrArg (fun l => pm_look l 52) cq_246).trans rfl⟩
theorem lk_246_53 : Lk 246 53 (.getfield 331) 12 43 (0) := ⟨3, 1300, (congrArg (fun l => pm_look l 53) cq_246).trans rfl⟩
theorem lk_246_56 : Lk 246 56 (.iadd) 0 0 (0) := ⟨1, 0, (congrArg (fun l => pm_look l 56) cq_246).trans rfl⟩
theorem lk_246_57 : Lk 246 57 (.istore_n 2) 0 0 (0) := ⟨1, 0, (congrArg (fun l => pm_look l 57) cq_246).trans rfl⟩
theorem lk_246_58 : Lk 246 58 (.iinc 3 1) 0 0 (0) := ⟨3, 0, (congrArg (fun l => pm_look l 58) cq_246).trans rfl⟩
theorem lk_246_61 : Lk 246 61 (.goto (-41)) 0 0 (0) := ⟨3, 0, (congrArg (fun l => pm_look l 61) cq_246).trans rfl⟩
theorem lk_246_64 : Lk 246 64 (.iload_n 1) 0 0 (0) := ⟨1, 0, (congrArg (fun l => pm_look l 64) cq_246).trans rfl⟩
theorem lk_246_65 : Lk 246 65 (.iconst 2) 0 0 (0) := ⟨1, 0, (congrArg (fun l => pm_look l 65) cq_246).trans rfl⟩
theorem lk_246_66 : Lk 246 66 (.if_icmp .ne 19) 0 0 (0) := ⟨3, 0, (congrArg (fun l => pm_look l 66) cq_246).trans rfl⟩
theorem lk_246_69 : Lk 246 69 (.aload_n 0) 0 0 (0) := ⟨1, 0, (congrArg (fun l => pm_look l 69) cq_246).trans rfl⟩
theorem lk_246_70 : Lk 246 70 (.iconst 0) 0 0 (0) := ⟨1, 0, (congrArg (fun l => pm_look l 70) cq_246).trans rfl⟩
theorem lk_246_71 : Lk 246 71 (.invokevirtual 354) 228 0 (0) := ⟨3, 1697, (congrArg (fun l => pm_look l 71) cq_246).trans rfl⟩
theorem lk_246_74 : Lk 246 74 (.iconst 1) 0 0 (0) := ⟨1, 0, (congrArg (fun l => pm_look l 74) cq_246).trans rfl⟩
theorem lk_246_75 : Lk 246 75 (.isub) 0 0 (0) := ⟨1, 0, (congrArg (fun l => pm_look l 75) cq_246).trans rfl⟩
theorem lk_246_76 : Lk 246 76 (.iconst 0) 0 0 (0) := ⟨1, 0, (congrArg (fun l => pm_look l 76) cq_246).trans rfl⟩
theorem lk_246_77 : Lk 246 77 (.invokestatic 325) 170 0 (0) := ⟨3, 1663, (congrArg (fun l => pm_look l 77) cq_246).trans rfl⟩
theorem lk_246_80 : Lk 246 80 (.iconst 1) 0 0 (0) := ⟨1, 0, (congrArg (fun l => pm_look l 80) cq_246).trans rfl⟩
theorem lk_246_81 : Lk 246 81 (.iadd) 0 0 (0) := ⟨1, 0, (congrArg (fun l => pm_look l 81) cq_246).trans rfl⟩
theorem lk_246_82 : Lk 246 82 (.goto 4) 0 0 (0) := ⟨3, 0, (congrArg (fun l => pm_look l 82) cq_246).trans rfl⟩
theorem lk_246_85 : Lk 246 85 (.iload_n 2) 0 0 (0) := ⟨1, 0, (congrArg (fun l => pm_look l 85) cq_246).trans rfl⟩
theorem lk_246_86 : Lk 246 86 (.istore_n 2) 0 0 (0) := ⟨1, 0, (congrArg (fun l => pm_look l 86) cq_246).trans rfl⟩
theorem lk_246_87 : Lk 246 87 (.iconst 0) 0 0 (0) := ⟨1, 0, (congrArg (fun l => pm_look l 87) cq_246).trans rfl⟩
theorem lk_246_88 : Lk 246 88 (.istore_n 3) 0 0 (0) := ⟨1, 0, (congrArg (fun l => pm_look l 88) cq_246).trans rfl⟩
theorem lk_246_89 : Lk 246 89 (.iconst 1) 0 0 (0) := ⟨1, 0, (congrArg (fun l => pm_look l 89) cq_246).trans rfl⟩
theorem lk_246_90 : Lk 246 90 (.iload_n 3) 0 0 (0) := ⟨1, 0, (congrArg (fun l => pm_look l 90) cq_246).trans rfl⟩
theorem lk_246_91 : Lk 246 91 (.ishl) 0 0 (0) := ⟨1, 0, (congrArg (fun l => pm_look l 91) cq_246).trans rfl⟩
theorem lk_246_92 : Lk 246 92 (.iload_n 2) 0 0 (0) := ⟨1, 0, (congrArg (fun l => pm_look l 92) cq_246).trans rfl⟩
theorem lk_246_93 : Lk 246 93 (.if_icmp .ge 9) 0 0 (0) := ⟨3, 0, (congrArg (fun l => pm_look l 93) cq_246).trans rfl⟩
theorem lk_246_96 : Lk 246 96 (.iinc 3 1) 0 0 (0) := ⟨3, 0, (congrArg (fun l => pm_look l 96) cq_246).trans rfl⟩
theorem lk_246_99 : Lk 246 99 (.goto (-10)) 0 0 (0) := ⟨3, 0, (congrArg (fun l => pm_look l 99) cq_246).trans rfl⟩
theorem lk_246_102 : Lk 246 102 (.iload_n 3) 0 0 (0) := ⟨1, 0, (congrArg (fun l => pm_look l 102) cq_246).trans rfl⟩
theorem lk_246_103 : Lk 246 103 (.ireturn) 0 0 (0) := ⟨1, 0, (congrArg (fun l => pm_look l 103) cq_246).trans rfl⟩
theorem cq_247 : pm_code 247 = cd_247 := rfl
theorem lk_247_0 : Lk 247 0 (.bipush 31) 0 0 (0) := ⟨2, 0, (congrArg (fun l => pm_look l 0) cq_247).trans rfl⟩
theorem lk_247_2 : Lk 247 2 (.iload_n 1) 0 0 (0) := ⟨1, 0, (congrArg (fun l => pm_look l 2) cq_247).trans rfl⟩
theorem lk_247_3 : Lk 247 3 (.imul) 0 0 (0) := ⟨1, 0, (congrArg (fun l => pm_look l 3) cq_247).trans rfl⟩
theorem lk_247_4 : Lk 247 4 (.istore 4) 0 0 (0) := ⟨2, 0, (congrArg (fun l => pm_look l 4) cq_247).trans rfl⟩
theorem lk_247_6 : Lk 247 6 (.iconst 0) 0 0 (0) := ⟨1, 0, (congrArg (fun l => pm_look l 6) cq_247).trans rfl⟩
theorem lk_247_7 : Lk 247 7 (.istore 5) 0 0 (0) := ⟨2, 0, (congrArg (fun l => pm_look l 7) cq_247).trans rfl⟩
theorem lk_247_9 : Lk 247 9 (.aload_n 0) 0 0 (0) := ⟨1, 0, (congrArg (fun l => pm_look l 9) cq_247).trans rfl⟩
theorem lk_247_10 : Lk 247 10 (.iconst 0) 0 0 (0) := ⟨1, 0, (congrArg (fun l => pm_look l 10) cq_247).trans rfl⟩
theorem lk_247_11 : Lk 247 11 (.putfield 399) 12 59 (0) := ⟨3, 1316, (congrArg (fun l => pm_look l 11) cq_247).trans rfl⟩
theorem lk_247_14 : Lk 247 14 (.aload_n 0) 0 0 (0) := ⟨1, 0, (congrArg (fun l => pm_look l 14) cq_247).trans rfl⟩
theorem lk_247_15 : Lk 247 15 (.iconst 0) 0 0 (0) := ⟨1, 0, (congrArg (fun l => pm_look l 15) cq_247).trans rfl⟩
theorem lk_247_16 : Lk 247 16 (.putfield 402) 12 60 (0) := ⟨3, 1317, (congrArg (fun l => pm_look l 16) cq_247).trans rfl⟩
theorem lk_247_19 : Lk 247 19 (.aload_n 0) 0 0 (0) := ⟨1, 0, (congrArg (fun l => pm_look l 19) cq_247).trans rfl⟩
theorem lk_247_20 : Lk 247 20 (.iconst 0) 0 0 (0) := ⟨1, 0, (congrArg (fun l => pm_look l 20) cq_247).trans rfl⟩
theorem lk_247_21 : Lk 247 21 (.putfield 405) 12 61 (0) := ⟨3, 1318, (congrArg (fun l => pm_look l 21) cq_247).trans rfl⟩
theorem lk_247_24 : Lk 247 24 (.aload_n 0) 0 0 (0) := ⟨1, 0, (congrArg (fun l => pm_look l 24) cq_247).trans rfl⟩
theorem lk_247_25 : Lk 247 25 (.getfield 35) 12 13 (2) := ⟨3, 1270, (congrArg (fun l => pm_look l 25) cq_247).trans rfl⟩
theorem lk_247_28 : Lk 247 28 (.iload 4) 0 0 (0) := ⟨2, 0, (congrArg (fun l => pm_look l 28) cq_247).trans rfl⟩
theorem lk_247_30 : Lk 247 30 (.iload 5) 0 0 (0) := ⟨2, 0, (congrArg (fun l => pm_look l 30) cq_247).trans rfl⟩
theorem lk_247_32 : Lk 247 32 (.iadd) 0 0 (0) := ⟨1, 0, (congrArg (fun l => pm_look l 32) cq_247).trans rfl⟩
theorem lk_247_33 : Lk 247 33 (.iaload) 0 0 (0) := ⟨1, 0, (congrArg (fun l => pm_look l 33) cq_247).trans rfl⟩
theorem lk_247_34 : Lk 247 34 (.ifCond .eq 169) 0 0 (0) := ⟨3, 0, (congrArg (fun l => pm_look l 34) cq_247).trans rfl⟩
theorem lk_247_37 : Lk 247 37 (.aload_n 0) 0 0 (0) := ⟨1, 0, (congrArg (fun l => pm_look l 37) cq_247).trans rfl⟩
theorem lk_247_38 : Lk 247 38 (.getfield 35) 12 13 (2) := ⟨3, 1270, (congrArg (fun l => pm_look l 38) cq_247).trans rfl⟩
theorem lk_247_41 : Lk 247 41 (.iload 4) 0 0 (0) := ⟨2, 0, (congrArg (fun l => pm_look l 41) cq_247).trans rfl⟩
theorem lk_247_43 : Lk 247 43 (.iload 5) 0 0 (0) := ⟨2, 0, (congrArg (fun l => pm_look l 43) cq_247).trans rfl⟩
theorem lk_247_45 : Lk 247 45 (.iadd) 0 0 (0) := ⟨1, 0, (congrArg (fun l => pm_look l 45) cq_247).trans rfl⟩
theorem lk_247_46 : Lk 247 46 (.iaload) 0 0 (0) := ⟨1, 0, (congrArg (fun l => pm_look l 46) cq_247).trans rfl⟩
theorem lk_247_47 : Lk 247 47 (.istore 6) 0 0 (0) := ⟨2, 0, (congrArg (fun l => pm_look l 47) cq_247).trans rfl⟩
theorem lk_247_49 : Lk 247 49 (.aload_n 0) 0 0 (0) := ⟨1, 0, (congrArg (fun l => pm_look l 49) cq_247).trans rfl⟩
theorem lk_247_50 : Lk 247 50 (.getfield 38) 12 14 (2) := ⟨3, 1271, (congrArg (fun l => pm_look l 50) cq_247).trans rfl⟩
theorem lk_247_53 : Lk 247 53 (.iload 4) 0 0 (0) := ⟨2, 0, (congrArg (fun l => pm_look l 53) cq_247).trans rfl⟩
theorem lk_247_55 : Lk 247 55 (.iload 5) 0 0 (0) := ⟨2, 0, (congrArg (fun l => pm_look l 55) cq_247).trans rfl⟩
theorem lk_247_57 : Lk 247 57 (.iadd) 0 0 (0) := ⟨1, 0, (congrArg (fun l => pm_look l 57) cq_247).trans rfl⟩
theorem lk_247_58 : Lk 247 58 (.iaload) 0 0 (0) := ⟨1, 0, (congrArg (fun l => pm_look l 58) cq_247).trans rfl⟩
theorem lk_247_59 : Lk 247 59 (.iload 6) 0 0 (0) := ⟨2, 0, (congrArg (fun l => pm_look l 59) cq_247).trans rfl⟩
theorem lk_247_61 : Lk 247 61 (.iconst 1) 0 0 (0) := ⟨1, 0, (congrArg (fun l => pm_look l 61) cq_247).trans rfl⟩
theorem lk_247_62 : Lk 247 62 (.if_icmp .ne 7) 0 0 (0) := ⟨3, 0, (congrArg (fun l => pm_look l 62) cq_247).trans rfl⟩
theorem lk_247_65 : Lk 247 65 (.iload_n 2) 0 0 (0) := ⟨1, 0, (congrArg (fun l => pm_look l 65) cq_247).trans rfl⟩
theorem lk_247_66 : Lk 247 66 (.goto 4) 0 0 (0) := ⟨3, 0, (congrArg (fun l => pm_look l 66) cq_247).trans rfl⟩
theorem lk_247_69 : Lk 247 69 (.iload_n 3) 0 0 (0) := ⟨1, 0, (congrArg (fun l => pm_look l 69) cq_247).trans rfl⟩
theorem lk_247_70 : Lk 247 70 (.invokestatic 266) 168 0 (0) := ⟨3, 1583, (congrArg (fun l => pm_look l 70) cq_247).trans rfl⟩
theorem lk_247_73 : Lk 247 73 (.istore 7) 0 0 (0) := ⟨2, 0, (congrArg (fun l => pm_look l 73) cq_247).trans rfl⟩
theorem lk_247_75 : Lk 247 75 (.aload_n 0) 0 0 (0) := ⟨1, 0, (congrArg (fun l => pm_look l 75) cq_247).trans rfl⟩
theorem lk_247_76 : Lk 247 76 (.dup) 0 0 (0) := ⟨1, 0, (congrArg (fun l => pm_look l 76) cq_247).trans rfl⟩
theorem lk_247_77 : Lk 247 77 (.getfield 405) 12 61 (0) := ⟨3, 1318, (congrArg (fun l => pm_look l 77) cq_247).trans rfl⟩
theorem lk_247_80 : Lk 247 80 (.aload_n 0) 0 0 (0) := ⟨1, 0, (congrArg (fun l => pm_look l 80) cq_247).trans rfl⟩
theorem lk_247_81 : Lk 247 81 (.getfield 399) 12 59 (0) := ⟨3, 1316, (congrArg (fun l => pm_look l 81) cq_247).trans rfl⟩
theorem lk_247_84 : Lk 247 84 (.ifCond .le 31) 0 0 (0) := ⟨3, 0, (congrArg (fun l => pm_look l 84) cq_247).trans rfl⟩
theorem lk_247_87 : Lk 247 87 (.aload_n 0) 0 0 (0) := ⟨1, 0, (congrArg (fun l => pm_look l 87) cq_247).trans rfl⟩
theorem lk_247_88 : Lk 247 88 (.getfield 35) 12 13 (2) := ⟨3, 1270, (congrArg (fun l => pm_look l 88) cq_247).trans rfl⟩
theorem lk_247_91 : Lk 247 91 (.iload 4) 0 0 (0) := ⟨2, 0, (congrArg (fun l => pm_look l 91) cq_247).trans rfl⟩
theorem lk_247_93 : Lk 247 93 (.aload_n 0) 0 0 (0) := ⟨1, 0, (congrArg (fun l => pm_look l 93) cq_247).trans rfl⟩
theorem lk_247_94 : Lk 247 94 (.getfield 125) 12 57 (2) := ⟨3, 1314, (congrArg (fun l => pm_look l 94) cq_247).trans rfl⟩
theorem lk_247_97 : Lk 247 97 (.aload_n 0) 0 0 (0) := ⟨1, 0, (congrArg (fun l => pm_look l 97) cq_247).trans rfl⟩
theorem lk_247_98 : Lk 247 98 (.getfield 399) 12 59 (0) := ⟨3, 1316, (congrArg (fun l => pm_look l 98) cq_247).trans rfl⟩
theorem lk_247_101 : Lk 247 101 (.iconst 1) 0 0 (0) := ⟨1, 0, (congrArg (fun l => pm_look l 101) cq_247).trans rfl⟩
theorem lk_247_102 : Lk 247 102 (.isub) 0 0 (0) := ⟨1, 0, (congrArg (fun l => pm_look l 102) cq_247).trans rfl⟩
theorem lk_247_103 : Lk 247 103 (.iaload) 0 0 (0) := ⟨1, 0, (congrArg (fun l => pm_look l 103) cq_247).trans rfl⟩
theorem lk_247_104 : Lk 247 104 (.iadd) 0 0 (0) := ⟨1, 0, (congrArg (fun l => pm_look l 104) cq_247).trans rfl⟩
theorem lk_247_105 : Lk 247 105 (.iaload) 0 0 (0) := ⟨1, 0, (congrArg (fun l => pm_look l 105) cq_247).trans rfl⟩
theorem lk_247_106 : Lk 247 106 (.iload 6) 0 0 (0) := ⟨2, 0, (congrArg (fun l => pm_look l 106) cq_247).trans rfl⟩
theorem lk_247_108 : Lk 247 108 (.if_icmp .eq 7) 0 0 (0) := ⟨3, 0, (congrArg (fun l => pm_look l 108) cq_247).trans rfl⟩
theorem lk_247_111 : Lk 247 111 (.iconst 1) 0 0 (0) := ⟨1, 0, (congrArg (fun l => pm_look l 111) cq_247).trans rfl⟩
theorem lk_247_112 : Lk 247 112 (.goto 4) 0 0 (0) := ⟨3, 0, (congrArg (fun l => pm_look l 112) cq_247).trans rfl⟩
theorem lk_247_115 : Lk 247 115 (.iconst 0) 0 0 (0) := ⟨1, 0, (congrArg (fun l => pm_look l 115) cq_247).trans rfl⟩
theorem lk_247_116 : Lk 247 116 (.iadd) 0 0 (0) := ⟨1, 0, (congrArg (fun l => pm_look l 116) cq_247).trans rfl⟩
theorem lk_247_117 : Lk 247 117 (.putfield 405) 12 61 (0) := ⟨3, 1318, (congrArg (fun l => pm_look l 117) cq_247).trans rfl⟩
theorem lk_247_120 : Lk 247 120 (.aload_n 0) 0 0 (0) := ⟨1, 0, (congrArg (fun l => pm_look l 120) cq_247).trans rfl⟩
theorem lk_247_121 : Lk 247 121 (.getfield 125) 12 57 (2) := ⟨3, 1314, (congrArg (fun l => pm_look l 121) cq_247).trans rfl⟩
theorem lk_247_124 : Lk 247 124 (.aload_n 0) 0 0 (0) := ⟨1, 0, (congrArg (fun l => pm_look l 124) cq_247).trans rfl⟩
theorem lk_247_125 : Lk 247 125 (.getfield 399) 12 59 (0) := ⟨3, 1316, (congrArg (fun l => pm_look l 125) cq_247).trans rfl⟩
theorem lk_247_128 : Lk 247 128 (.iload 5) 0 0 (0) := ⟨2, 0, (congrArg (fun l => pm_look l 128) cq_247).trans rfl⟩
theorem lk_247_130 : Lk 247 130 (.iastore) 0 0 (0) := ⟨1, 0, (congrArg (fun l => pm_look l 130) cq_247).trans rfl⟩
theorem lk_247_131 : Lk 247 131 (.aload_n 0) 0 0 (0) := ⟨1, 0, (congrArg (fun l => pm_look l 131) cq_247).trans rfl⟩
theorem lk_247_132 : Lk 247 132 (.getfield 128) 12 58 (2) := ⟨3, 1315, (congrArg (fun l => pm_look l 132) cq_247).trans rfl⟩
theorem lk_247_135 : Lk 247 135 (.aload_n 0) 0 0 (0) := ⟨1, 0, (congrArg (fun l => pm_look l 135) cq_247).trans rfl⟩
theorem lk_247_136 : Lk 247 136 (.getfield 399) 12 59 (0) := ⟨3, 1316, (congrArg (fun l => pm_look l 136) cq_247).trans rfl⟩
theorem lk_247_139 : Lk 247 139 (.iload 7) 0 0 (0) := ⟨2, 0, (congrArg (fun l => pm_look l 139) cq_247).trans rfl⟩
theorem lk_247_141 : Lk 247 141 (.ifCond .eq 7) 0 0 (0) := ⟨3, 0, (congrArg (fun l => pm_look l 141) cq_247).trans rfl⟩
theorem lk_247_144 : Lk 247 144 (.iconst 1) 0 0 (0) := ⟨1, 0, (congrArg (fun l => pm_look l 144) cq_247).trans rfl⟩
theorem lk_247_145 : Lk 247 145 (.goto 4) 0 0 (0) := ⟨3, 0, (congrArg (fun l => pm_look l 145) cq_247).trans rfl⟩
theorem lk_247_148 : Lk 247 148 (.iconst 0) 0 0 (0) := ⟨1, 0, (congrArg (fun l => pm_look l 148) cq_247).trans rfl⟩
theorem lk_247_149 : Lk 247 149 (.iastore) 0 0 (0) := ⟨1, 0, (congrArg (fun l => pm_look l 149) cq_247).trans rfl⟩
theorem lk_247_150 : Lk 247 150 (.aload_n 0) 0 0 (0) := ⟨1, 0, (congrArg (fun l => pm_look l 150) cq_247).trans rfl⟩
theorem lk_247_151 : Lk 247 151 (.dup) 0 0 (0) := ⟨1, 0, (congrArg (fun l => pm_look l 151) cq_247).trans rfl⟩
theorem lk_247_152 : Lk 247 152 (.getfield 399) 12 59 (0) := ⟨3, 1316, (congrArg (fun l => pm_look l 152) cq_247).trans rfl⟩
theorem lk_247_155 : Lk 247 155 (.iconst 1) 0 0 (0) := ⟨1, 0, (congrArg (fun l => pm_look l 155) cq_247).trans rfl⟩
theorem lk_247_156 : Lk 247 156 (.iadd) 0 0 (0) := ⟨1, 0, (congrArg (fun l => pm_look l 156) cq_247).trans rfl⟩
theorem lk_247_157 : Lk 247 157 (.putfield 399) 12 59 (0) := ⟨3, 1316, (congrArg (fun l => pm_look l 157) cq_247).trans rfl⟩
theorem lk_247_160 : Lk 247 160 (.aload_n 0) 0 0 (0) := ⟨1, 0, (congrArg (fun l => pm_look l 160) cq_247).trans rfl⟩
theorem lk_247_161 : Lk 247 161 (.dup) 0 0 (0) := ⟨1, 0, (congrArg (fun l => pm_look l 161) cq_247).trans rfl⟩
theorem lk_247_162 : Lk 247 162 (.getfield 402) 12 60 (0) := ⟨3, 1317, (congrArg (fun l => pm_look l 162) cq_247).trans rfl⟩
theorem lk_247_165 : Lk 247 165 (.aload_n 0) 0 0 (0) := ⟨1, 0, (congrArg (fun l => pm_look l 165) cq_247).trans rfl⟩
theorem lk_247_166 : Lk 247 166 (.getfield 26) 12 10 (2) := ⟨3, 1267, (congrArg (fun l => pm_look l 166) cq_247).trans rfl⟩
theorem lk_247_169 : Lk 247 169 (.iload 6) 0 0 (0) := ⟨2, 0, (congrArg (fun l => pm_look l 169) cq_247).trans rfl⟩
theorem lk_247_171 : Lk 247 171 (.iaload) 0 0 (0) := ⟨1, 0, (congrArg (fun l => pm_look l 171) cq_247).trans rfl⟩
theorem lk_247_172 : Lk 247 172 (.iadd) 0 0 (0) := ⟨1, 0, (congrArg (fun l => pm_look l 172) cq_247).trans rfl⟩
theorem lk_247_173 : Lk 247 173 (.putfield 402) 12 60 (0) := ⟨3, 1317, (congrArg (fun l => pm_look l 173) cq_247).trans rfl⟩
theorem lk_247_176 : Lk 247 176 (.iload 7) 0 0 (0) := ⟨2, 0, (congrArg (fun l => pm_look l 176) cq_247).trans rfl⟩
theorem lk_247_178 : Lk 247 178 (.ifCond .eq 10) 0 0 (0) := ⟨3, 0, (congrArg (fun l => pm_look l 178) cq_247).trans rfl⟩
theorem lk_247_181 : Lk 247 181 (.iload 5) 0 0 (0) := ⟨2, 0, (congrArg (fun l => pm_look l 181) cq_247).trans rfl⟩
theorem lk_247_183 : Lk 247 183 (.iconst 1) 0 0 (0) := ⟨1, 0, (congrArg (fun l => pm_look l 183) cq_247).trans rfl⟩
theorem lk_247_184 : Lk 247 184 (.iadd) 0 0 (0) := ⟨1, 0, (congrArg (fun l => pm_look l 184) cq_247).trans rfl⟩
theorem lk_247_185 : Lk 247 185 (.goto 13) 0 0 (0) := ⟨3, 0, (congrArg (fun l => pm_look l 185) cq_247).trans rfl⟩
theorem lk_247_188 : Lk 247 188 (.aload_n 0) 0 0 (0) := ⟨1, 0, (congrArg (fun l => pm_look l 188) cq_247).trans rfl⟩
theorem lk_247_189 : Lk 247 189 (.getfield 41) 12 15 (2) := ⟨3, 1272, (congrArg (fun l => pm_look l 189) cq_247).trans rfl⟩
theorem lk_247_192 : Lk 247 192 (.iload 4) 0 0 (0) := ⟨2, 0, (congrArg (fun l => pm_look l 192) cq_247).trans rfl⟩
theorem lk_247_194 : Lk 247 194 (.iload 5) 0 0 (0) := ⟨2, 0, (congrArg (fun l => pm_look l 194) cq_247).trans rfl⟩
theorem lk_247_196 : Lk 247 196 (.iadd) 0 0 (0) := ⟨1, 0, (congrArg (fun l => pm_look l 196) cq_247).trans rfl⟩
theorem lk_247_197 : Lk 247 197 (.iaload) 0 0 (0) := ⟨1, 0, (congrArg (fun l => pm_look l 197) cq_247).trans rfl⟩
theorem lk_247_198 : Lk 247 198 (.istore 5) 0 0 (0) := ⟨2, 0, (congrArg (fun l => pm_look l 198) cq_247).trans rfl⟩
theorem lk_247_200 : Lk 247 200 (.goto (-176)) 0 0 (0) := ⟨3, 0, (congrArg (fun l => pm_look l 200) cq_247).trans rfl⟩
theorem lk_247_203 : Lk 247 203 (.aload_n 0) 0 0 (0) := ⟨1, 0, (congrArg (fun l => pm_look l 203) cq_247).trans rfl⟩
theorem lk_247_204 : Lk 247 204 (.getfield 125) 12 57 (2) := ⟨3, 1314, (congrArg (fun l => pm_look l 204) cq_247).trans rfl⟩
theorem lk_247_207 : Lk 247 207 (.aload_n 0) 0 0 (0) := ⟨1, 0, (congrArg (fun l => pm_look l 207) cq_247).trans rfl⟩
theorem lk_247_208 : Lk 247 208 (.getfield 399) 12 59 (0) := ⟨3, 1316, (congrArg (fun l => pm_look l 208) cq_247).trans rfl⟩
theorem lk_247_211 : Lk 247 211 (.iload 5) 0 0 (0) := ⟨2, 0, (congrArg (fun l => pm_look l 211) cq_247).trans rfl⟩
theorem lk_247_213 : Lk 247 213 (.iastore) 0 0 (0) := ⟨1, 0, (congrArg (fun l => pm_look l 213) cq_247).trans rfl⟩
theorem lk_247_214 : Lk 247 214 (.iload 5) 0 0 (0) := ⟨2, 0, (congrArg (fun l => pm_look l 214) cq_247).trans rfl⟩
theorem lk_247_216 : Lk 247 216 (.ireturn) 0 0 (0) := ⟨1, 0, (congrArg (fun l => pm_look l 216) cq_247).trans rfl⟩
theorem cq_248 : pm_code 248 = cd_248 := rfl
theorem lk_248_0 : Lk 248 0 (.aload_n 0) 0 0 (0) := ⟨1, 0, (congrArg (fun l => pm_look l 0) cq_248).trans rfl⟩
theorem lk_248_1 : Lk 248 1 (.iload_n 1) 0 0 (0) := ⟨1, 0, (congrArg (fun l => pm_look l 1) cq_248).trans rfl⟩
theorem lk_248_2 : Lk 248 2 (.invokevirtual 408) 173 0 (0) := ⟨3, 1787, (congrArg (fun l => pm_look l 2) cq_248).trans rfl⟩
theorem lk_248_5 : Lk 248 5 (.ifCond .eq 16) 0 0 (0) := ⟨3, 0, (congrArg (fun l => pm_look l 5) cq_248).trans rfl⟩
theorem lk_248_8 : Lk 248 8 (.aload_n 0) 0 0 (0) := ⟨1, 0, (congrArg (fun l => pm_look l 8) cq_248).trans rfl⟩
theorem lk_248_9 : Lk 248 9 (.iload_n 2) 0 0 (0) := ⟨1, 0, (congrArg (fun l => pm_look l 9) cq_248).trans rfl⟩
theorem lk_248_10 : Lk 248 10 (.iload_n 3) 0 0 (0) := ⟨1, 0, (congrArg (fun l => pm_look l 10) cq_248).trans rfl⟩
theorem lk_248_11 : Lk 248 11 (.invokevirtual 291) 172 0 (0) := ⟨3, 1598, (congrArg (fun l => pm_look l 11) cq_248).trans rfl⟩
theorem lk_248_14 : Lk 248 14 (.ifCond .eq 7) 0 0 (0) := ⟨3, 0, (congrArg (fun l => pm_look l 14) cq_248).trans rfl⟩
theorem lk_248_17 : Lk 248 17 (.iconst 1) 0 0 (0) := ⟨1, 0, (congrArg (fun l => pm_look l 17) cq_248).trans rfl⟩
theorem lk_248_18 : Lk 248 18 (.goto 4) 0 0 (0) := ⟨3, 0, (congrArg (fun l => pm_look l 18) cq_248).trans rfl⟩
theorem lk_248_21 : Lk 248 21 (.iconst 0) 0 0 (0) := ⟨1, 0, (congrArg (fun l => pm_look l 21) cq_248).trans rfl⟩
theorem lk_248_22 : Lk 248 22 (.ireturn) 1 0 (0) := ⟨1, 0, (congrArg (fun l => pm_look l 22) cq_248).trans rfl⟩
theorem cq_249 : pm_code 249 = cd_249 := rfl
theorem lk_249_0 : Lk 249 0 (.aload_n 0) 0 0 (0) := ⟨1, 0, (congrArg (fun l => pm_look l 0) cq_249).trans rfl⟩
theorem lk_249_1 : Lk 249 1 (.iconst 0) 0 0 (0) := ⟨1, 0, (congrArg (fun l => pm_look l 1) cq_249).trans rfl⟩
theorem lk_249_2 : Lk 249 2 (.putfield 143) 12 0 (0) := ⟨3, 1257, (congrArg (fun l => pm_look l 2) cq_249).trans rfl⟩
theorem lk_249_5 : Lk 249 5 (.aload_n 0) 0 0 (0) := ⟨1, 0, (congrArg (fun l => pm_look l 5) cq_249).trans rfl⟩
theorem lk_249_6 : Lk 249 6 (.iload_n 1) 0 0 (0) := ⟨1, 0, (congrArg (fun l => pm_look l 6) cq_249).trans rfl⟩
theorem lk_249_7 : Lk 249 7 (.iload_n 2) 0 0 (0) := ⟨1, 0, (congrArg (fun l => pm_look l 7) cq_249).trans rfl⟩
theorem lk_249_8 : Lk 249 8 (.iload_n 3) 0 0 (0) := ⟨1, 0, (congrArg (fun l => pm_look l 8) cq_249).trans rfl⟩
theorem lk_249_9 : Lk 249 9 (.invokevirtual 411) 248 0 (0) := ⟨3, 1783, (congrArg (fun l => pm_look l 9) cq_249).trans rfl⟩
theorem lk_249_12 : Lk 249 12 (.ifCond .eq 23) 0 0 (0) := ⟨3, 0, (congrArg (fun l => pm_look l 12) cq_249).trans rfl⟩
theorem lk_249_15 : Lk 249 15 (.aload_n 0) 0 0 (0) := ⟨1, 0, (congrArg (fun l => pm_look l 15) cq_249).trans rfl⟩
theorem lk_249_16 : Lk 249 16 (.getfield 38) 12 14 (2) := ⟨3, 1271, (congrArg (fun l => pm_look l 16) cq_249).trans rfl⟩
theorem lk_249_19 : Lk 249 19 (.bipush 31) 0 0 (0) := ⟨2, 0, (congrArg (fun l => pm_look l 19) cq_249).trans rfl⟩
theorem lk_249_21 : Lk 249 21 (.iload_n 1) 0 0 (0) := ⟨1, 0, (congrArg (fun l => pm_look l 21) cq_249).trans rfl⟩
theorem lk_249_22 : Lk 249 22 (.imul) 0 0 (0) := ⟨1, 0, (congrArg (fun l => pm_look l 22) cq_249).trans rfl⟩
theorem lk_249_23 : Lk 249 23 (.aload_n 0) 0 0 (0) := ⟨1, 0, (congrArg (fun l => pm_look l 23) cq_249).trans rfl⟩
theorem lk_249_24 : Lk 249 24 (.iload_n 1) 0 0 (0) := ⟨1, 0, (congrArg (fun l => pm_look l 24) cq_249).trans rfl⟩
theorem lk_249_25 : Lk 249 25 (.iload_n 2) 0 0 (0) := ⟨1, 0, (congrArg (fun l => pm_look l 25) cq_249).trans rfl⟩
theorem lk_249_26 : Lk 249 26 (.iload_n 3) 0 0 (0) := ⟨1, 0, (congrArg (fun l => pm_look l 26) cq_249).trans rfl⟩
theorem lk_249_27 : Lk 249 27 (.invokevirtual 414) 247 0 (0) := ⟨3, 1791, (congrArg (fun l => pm_look l 27) cq_249).trans rfl⟩
theorem lk_249_30 : Lk 249 30 (.iadd) 0 0 (0) := ⟨1, 0, (congrArg (fun l => pm_look l 30) cq_249).trans rfl⟩
theorem lk_249_31 : Lk 249 31 (.iaload) 0 0 (0) := ⟨1, 0, (congrArg (fun l => pm_look l 31) cq_249).trans rfl⟩
theorem lk_249_32 : Lk 249 32 (.goto 4) 0 0 (0) := ⟨3, 0, (congrArg (fun l => pm_look l 32) cq_249).trans rfl⟩
theorem lk_249_35 : Lk 249 35 (.iconst (-1)) 0 0 (0) := ⟨1, 0, (congrArg (fun l => pm_look l 35) cq_249).trans rfl⟩
theorem lk_249_36 : Lk 249 36 (.ireturn) 0 0 (0) := ⟨1, 0, (congrArg (fun l => pm_look l 36) cq_249).trans rfl⟩
theorem cq_250 : pm_code 250 = cd_250 := rfl
theorem lk_250_0 : Lk 250 0 (.aload_n 0) 0 0 (0) := ⟨1, 0, (congrArg (fun l => pm_look l 0) cq_250).trans rfl⟩
theorem lk_250_1 : Lk 250 1 (.iconst 0) 0 0 (0) := ⟨1, 0, (congrArg (fun l => pm_look l 1) cq_250).trans rfl⟩
theorem lk_250_2 : Lk 250 2 (.putfield 143) 12 0 (0) := ⟨3, 1257, (congrArg (fun l => pm_look l 2) cq_250).trans rfl⟩
theorem lk_250_5 : Lk 250 5 (.aload_n 0) 0 0 (0) := ⟨1, 0, (congrArg (fun l => pm_look l 5) cq_250).trans rfl⟩
theorem lk_250_6 : Lk 250 6 (.iload_n 1) 0 0 (0) := ⟨1, 0, (congrArg (fun l => pm_look l 6) cq_250).trans rfl⟩
theorem lk_250_7 : Lk 250 7 (.iload_n 2) 0 0 (0) := ⟨1, 0, (congrArg (fun l => pm_look l 7) cq_250).trans rfl⟩
theorem lk_250_8 : Lk 250 8 (.iload_n 3) 0 0 (0) := ⟨1, 0, (congrArg (fun l => pm_look l 8) cq_250).trans rfl⟩
theorem lk_250_9 : Lk 250 9 (.invokevirtual 411) 248 0 (0) := ⟨3, 1783, (congrArg (fun l => pm_look l 9) cq_250).trans rfl⟩
theorem lk_250_12 : Lk 250 12 (.ifCond .ne 5) 0 0 (0) := ⟨3, 0, (congrArg (fun l => pm_look l 12) cq_250).trans rfl⟩
theorem lk_250_15 : Lk 250 15 (.iconst (-1)) 0 0 (0) := ⟨1, 0, (congrArg (fun l => pm_look l 15) cq_250).trans rfl⟩
theorem lk_250_16 : Lk 250 16 (.ireturn) 0 0 (0) := ⟨1, 0, (congrArg (fun l => pm_look l 16) cq_250).trans rfl⟩
theorem lk_250_17 : Lk 250 17 (.aload_n 0) 0 0 (0) := ⟨1, 0, (congrArg (fun l => pm_look l 17) cq_250).trans rfl⟩
theorem lk_250_18 : Lk 250 18 (.iload_n 1) 0 0 (0) := ⟨1, 0, (congrArg (fun l => pm_look l 18) cq_250).trans rfl⟩
theorem lk_250_19 : Lk 250 19 (.iload_n 2) 0 0 (0) := ⟨1, 0, (congrArg (fun l => pm_look l 19) cq_250).trans rfl⟩
theorem lk_250_20 : Lk 250 20 (.iload_n 3) 0 0 (0) := ⟨1, 0, (congrArg (fun l => pm_look l 20) cq_250).trans rfl⟩
theorem lk_250_21 : Lk 250 21 (.invokevirtual 414) 247 0 (0) := ⟨3, 1791, (congrArg (fun l => pm_look l 21) cq_250).trans rfl⟩
theorem lk_250_24 : Lk 250 24 (.pop) 0 0 (0) := ⟨1, 0, (congrArg (fun l => pm_look l 24) cq_250).trans rfl⟩
theorem lk_250_25 : Lk 250 25 (.aload_n 0) 0 0 (0) := ⟨1, 0, (congrArg (fun l => pm_look l 25) cq_250).trans rfl⟩
theorem lk_250_26 : Lk 250 26 (.getfield 402) 12 60 (0) := ⟨3, 1317, (congrArg (fun l => pm_look l 26) cq_250).trans rfl⟩
theorem lk_250_29 : Lk 250 29 (.ireturn) 0 0 (0) := ⟨1, 0, (congrArg (fun l => pm_look l 29) cq_250).trans rfl⟩
theorem cq_251 : pm_code 251 = cd_251 := rfl
theorem lk_251_0 : Lk 251 0 (.aload_n 0) 0 0 (0) := ⟨1, 0, (congrArg (fun l => pm_look l 0) cq_251).trans rfl⟩
theorem lk_251_1 : Lk 251 1 (.iconst 0) 0 0 (0) := ⟨1, 0, (congrArg (fun l => pm_look l 1) cq_251).trans rfl⟩
theorem lk_251_2 : Lk 251 2 (.putfield 143) 12 0 (0) := ⟨3, 1257, (congrArg (fun l => pm_look l 2) cq_251).trans rfl⟩
theorem lk_251_5 : Lk 251 5 (.aload_n 0) 0 0 (0) := ⟨1, 0, (congrArg (fun l => pm_look l 5) cq_251).trans rfl⟩
theorem lk_251_6 : Lk 251 6 (.iload_n 1) 0 0 (0) := ⟨1, 0, (congrArg (fun l => pm_look l 6) cq_251).trans rfl⟩
theorem lk_251_7 : Lk 251 7 (.iload_n 2) 0 0 (0) := ⟨1, 0, (congrArg (fun l => pm_look l 7) cq_251).trans rfl⟩
theorem lk_251_8 : Lk 251 8 (.iload_n 3) 0 0 (0) := ⟨1, 0, (congrArg (fun l => pm_look l 8) cq_251).trans rfl⟩
theorem lk_251_9 : Lk 251 9 (.invokevirtual 411) 248 0 (0) := ⟨3, 1783, (congrArg (fun l => pm_look l 9) cq_251).trans rfl⟩
theorem lk_251_12 : Lk 251 12 (.ifCond .eq 13) 0 0 (0) := ⟨3, 0, (congrArg (fun l => pm_look l 12) cq_251).trans rfl⟩
theorem lk_251_15 : Lk 251 15 (.aload_n 0) 0 0 (0) := ⟨1, 0, (congrArg (fun l => pm_look l 15) cq_251).trans rfl⟩
theorem lk_251_16 : Lk 251 16 (.iload_n 1) 0 0 (0) := ⟨1, 0, (congrArg (fun l => pm_look l 16) cq_251).trans rfl⟩
theorem lk_251_17 : Lk 251 17 (.iload_n 2) 0 0 (0) := ⟨1, 0, (congrArg (fun l => pm_look l 17) cq_251).trans rfl⟩
theorem lk_251_18 : Lk 251 18 (.iload_n 3) 0 0 (0) := ⟨1, 0, (congrArg (fun l => pm_look l 18) cq_251).trans rfl⟩
theorem lk_251_19 : Lk 251 19 (.invokevirtual 414) 247 0 (0) := ⟨3, 1791, (congrArg (fun l => pm_look l 19) cq_251).trans rfl⟩
theorem lk_251_22 : Lk 251 22 (.goto 4) 0 0 (0) := ⟨3, 0, (congrArg (fun l => pm_look l 22) cq_251).trans rfl⟩
theorem lk_251_25 : Lk 251 25 (.iconst (-1)) 0 0 (0) := ⟨1, 0, (congrArg (fun l => pm_look l 25) cq_251).trans rfl⟩
theorem lk_251_26 : Lk 251 26 (.ireturn) 0 0 (0) := ⟨1, 0, (congrArg (fun l => pm_look l 26) cq_251).trans rfl⟩
theorem cq_252 : pm_code 252 = cd_252 := rfl
theorem lk_252_0 : Lk 252 0 (.aload_n 0) 0 0 (0) := ⟨1, 0, (congrArg (fun l => pm_look l 0) cq_252).trans rfl⟩
theorem lk_252_1 : Lk 252 1 (.iconst 0) 0 0 (0) := ⟨1, 0, (congrArg (fun l => pm_look l 1) cq_252).trans rfl⟩
theorem lk_252_2 : Lk 252 2 (.putfield 143) 12 0 (0) := ⟨3, 1257, (congrArg (fun l => pm_look l 2) cq_252).trans rfl⟩
theorem lk_252_5 : Lk 252 5 (.aload_n 0) 0 0 (0) := ⟨1, 0, (congrArg (fun l => pm_look l 5) cq_252).trans rfl⟩
theorem lk_252_6 : Lk 252 6 (.iload_n 1) 0 0 (0) := ⟨1, 0, (congrArg (fun l => pm_look l 6) cq_252).trans rfl⟩
theorem lk_252_7 : Lk 252 7 (.iload_n 2) 0 0 (0) := ⟨1, 0, (congrArg (fun l => pm_look l 7) cq_252).trans rfl⟩
theorem lk_252_8 : Lk 252 8 (.iload_n 3) 0 0 (0) := ⟨1, 0, (congrArg (fun l => pm_look l 8) cq_252).trans rfl⟩
theorem lk_252_9 : Lk 252 9 (.invokevirtual 411) 248 0 (0) := ⟨3, 1783, (congrArg (fun l => pm_look l 9) cq_252).trans rfl⟩
theorem lk_252_12 : Lk 252 12 (.ifCond .ne 5) 0 0 (0) := ⟨3, 0, (congrArg (fun l => pm_look l 12) cq_252).trans rfl⟩
theorem lk_252_15 : Lk 252 15 (.iconst (-1)) 0 0 (0) := ⟨1, 0, (congrArg (fun l => pm_look l 15) cq_252).trans rfl⟩
theorem lk_252_16 : Lk 252 16 (.ireturn) 0 0 (0) := ⟨1, 0, (congrArg (fun l => pm_look l 16) cq_252).trans rfl⟩
theorem lk_252_17 : Lk 252 17 (.aload_n 0) 0 0 (0) := ⟨1, 0, (congrArg (fun l => pm_look l 17) cq_252).trans rfl⟩
theorem lk_252_18 : Lk 252 18 (.iload_n 1) 0 0 (0) := ⟨1, 0, (congrArg (fun l => pm_look l 18) cq_252).trans rfl⟩
theorem lk_252_19 : Lk 252 19 (.iload_n 2) 0 0 (0) := ⟨1, 0, (congrArg (fun l => pm_look l 19) cq_252).trans rfl⟩
theorem lk_252_20 : Lk 252 20 (.iload_n 3) 0 0 (0) := ⟨1, 0, (congrArg (fun l => pm_look l 20) cq_252).trans rfl⟩
theorem lk_252_21 : Lk 252 21 (.invokevirtual 414) 247 0 (0) := ⟨3, 1791, (congrArg (fun l => pm_look l 21) cq_252).trans rfl⟩
theorem lk_252_24 : Lk 252 24 (.pop) 0 0 (0) := ⟨1, 0, (congrArg (fun l => pm_look l 24) cq_252).trans rfl⟩
theorem lk_252_25 : Lk 252 25 (.iload 4) 0 0 (0) := ⟨2, 0, (congrArg (fun l => pm_look l 25) cq_252).trans rfl⟩
theorem lk_252_27 : Lk 252 27 (.iconst (-1)) 0 0 (0) := ⟨1, 0, (congrArg (fun l => pm_look l 27) cq_252).trans rfl⟩
theorem lk_252_28 : Lk 252 28 (.if_icmp .ne 10) 0 0 (0) := ⟨3, 0, (congrArg (fun l => pm_look l 28) cq_252).trans rfl⟩
theorem lk_252_31 : Lk 252 31 (.aload_n 0) 0 0 (0) := ⟨1, 0, (congrArg (fun l => pm_look l 31) cq_252).trans rfl⟩
theorem lk_252_32 : Lk 252 32 (.getfield 399) 12 59 (0) := ⟨3, 1316, (congrArg (fun l => pm_look l 32) cq_252).trans rfl⟩
theorem lk_252_35 : Lk 252 35 (.goto 29) 0 0 (0) := ⟨3, 0, (congrArg (fun l => pm_look l 35) cq_252).trans rfl⟩
theorem lk_252_38 : Lk 252 38 (.iload 4) 0 0 (0) := ⟨2, 0, (congrArg (fun l => pm_look l 38) cq_252).trans rfl⟩
theorem lk_252_40 : Lk 252 40 (.iconst 0) 0 0 (0) := ⟨1, 0, (congrArg (fun l => pm_look l 40) cq_252).trans rfl⟩
theorem lk_252_41 : Lk 252 41 (.aload_n 0) 0 0 (0) := ⟨1, 0, (congrArg (fun l => pm_look l 41) cq_252).trans rfl⟩
theorem lk_252_42 : Lk 252 42 (.getfield 399) 12 59 (0) := ⟨3, 1316, (congrArg (fun l => pm_look l 42) cq_252).trans rfl⟩
theorem lk_252_45 : Lk 252 45 (.iconst 1) 0 0 (0) := ⟨1, 0, (congrArg (fun l => pm_look l 45) cq_252).trans rfl⟩
theorem lk_252_46 : Lk 252 46 (.isub) 0 0 (0) := ⟨1, 0, (congrArg (fun l => pm_look l 46) cq_252).trans rfl⟩
theorem lk_252_47 : Lk 252 47 (.invokestatic 146) 167 0 (0) := ⟨3, 1483, (congrArg (fun l => pm_look l 47) cq_252).trans rfl⟩
theorem lk_252_50 : Lk 252 50 (.ifCond .eq 13) 0 0 (0) := ⟨3, 0, (congrArg (fun l => pm_look l 50) cq_252).trans rfl⟩
theorem lk_252_53 : Lk 252 53 (.aload_n 0) 0 0 (0) := ⟨1, 0, (congrArg (fun l => pm_look l 53) cq_252).trans rfl⟩
theorem lk_252_54 : Lk 252 54 (.getfield 128) 12 58 (2) := ⟨3, 1315, (congrArg (fun l => pm_look l 54) cq_252).trans rfl⟩
theorem lk_252_57 : Lk 252 57 (.iload 4) 0 0 (0) := ⟨2, 0, (congrArg (fun l => pm_look l 57) cq_252).trans rfl⟩
theorem lk_252_59 : Lk 252 59 (.iaload) 0 0 (0) := ⟨1, 0, (congrArg (fun l => pm_look l 59) cq_252).trans rfl⟩
theorem lk_252_60 : Lk 252 60 (.goto 4) 0 0 (0) := ⟨3, 0, (congrArg (fun l => pm_look l 60) cq_252).trans rfl⟩
theorem lk_252_63 : Lk 252 63 (.iconst (-1)) 0 0 (0) := ⟨1, 0, (congrArg (fun l => pm_look l 63) cq_252).trans rfl⟩
theorem lk_252_64 : Lk 252 64 (.ireturn) 0 0 (0) := ⟨1, 0, (congrArg (fun l => pm_look l 64) cq_252).trans rfl⟩
theorem cq_253 : pm_code 253 = cd_253 := rfl
theorem lk_253_0 : Lk 253 0 (.bipush 31) 0 0 (0) := ⟨2, 0, (congrArg (fun l => pm_look l 0) cq_253).trans rfl⟩
theorem lk_253_2 : Lk 253 2 (.iload_n 1) 0 0 (0) := ⟨1, 0, (congrArg (fun l => pm_look l 2) cq_253).trans rfl⟩
theorem lk_253_3 : Lk 253 3 (.imul) 0 0 (0) := ⟨1, 0, (congrArg (fun l => pm_look l 3) cq_253).trans rfl⟩
theorem lk_253_4 : Lk 253 4 (.istore_n 2) 0 0 (0) := ⟨1, 0, (congrArg (fun l => pm_look l 4) cq_253).trans rfl⟩
theorem lk_253_5 : Lk 253 5 (.aload_n 0) 0 0 (0) := ⟨1, 0, (congrArg (fun l => pm_look l 5) cq_253).trans rfl⟩
theorem lk_253_6 : Lk 253 6 (.getfield 131) 12 62 (2) := ⟨3, 1319, (congrArg (fun l => pm_look l 6) cq_253).trans rfl⟩
theorem lk_253_9 : Lk 253 9 (.iconst 0) 0 0 (0) := ⟨1, 0, (congrArg (fun l => pm_look l 9) cq_253).trans rfl⟩
theorem lk_253_10 : Lk 253 10 (.aload_n 0) 0 0 (0) := ⟨1, 0, (congrArg (fun l => pm_look l 10) cq_253).trans rfl⟩
theorem lk_253_11 : Lk 253 11 (.invokevirtual 281) 175 0 (0) := ⟨3, 1571, (congrArg (fun l => pm_look l 11) cq_253).trans rfl⟩
theorem lk_253_14 : Lk 253 14 (.iastore) 0 0 (0) := ⟨1, 0, (congrArg (fun l => pm_look l 14) cq_253).trans rfl⟩
theorem lk_253_15 : Lk 253 15 (.aload_n 0) 0 0 (0) := ⟨1, 0, (congrArg (fun l => pm_look l 15) cq_253).trans rfl⟩
theorem lk_253_16 : Lk 253 16 (.getfield 134) 12 63 (2) := ⟨3, 1320, (congrArg (fun l => pm_look l 16) cq_253).trans rfl⟩
theorem lk_253_19 : Lk 253 19 (.iconst 0) 0 0 (0) := ⟨1, 0, (congrArg (fun l => pm_look l 19) cq_253).trans rfl⟩
theorem lk_253_20 : Lk 253 20 (.aload_n 0) 0 0 (0) := ⟨1, 0, (congrArg (fun l => pm_look l 20) cq_253).trans rfl⟩
theorem lk_253_21 : Lk 253 21 (.invokevirtual 285) 176 0 (0) := ⟨3, 1575, (congrArg (fun l => pm_look l 21) cq_253).trans rfl⟩
theorem lk_253_24 : Lk 253 24 (.iastore) 0 0 (0) := ⟨1, 0, (congrArg (fun l => pm_look l 24) cq_253).trans rfl⟩
theorem lk_253_25 : Lk 253 25 (.iconst 0) 0 0 (0) := ⟨1, 0, (congrArg (fun l => pm_look l 25) cq_253).trans rfl⟩
theorem lk_253_26 : Lk 253 26 (.istore_n 3) 0 0 (0) := ⟨1, 0, (congrArg (fun l => pm_look l 26) cq_253).trans rfl⟩
theorem lk_253_27 : Lk 253 27 (.iload_n 3) 0 0 (0) := ⟨1, 0, (congrArg (fun l => pm_look l 27) cq_253).trans rfl⟩
theorem lk_253_28 : Lk 253 28 (.aload_n 0) 0 0 (0) := ⟨1, 0, (congrArg (fun l => pm_look l 28) cq_253).trans rfl⟩
theorem lk_253_29 : Lk 253 29 (.getfield 32) 12 12 (2) := ⟨3, 1269, (congrArg (fun l => pm_look l 29) cq_253).trans rfl⟩
theorem lk_253_32 : Lk 253 32 (.iload_n 1) 0 0 (0) := ⟨1, 0, (congrArg (fun l => pm_look l 32) cq_253).trans rfl⟩
theorem lk_253_33 : Lk 253 33 (.iaload) 0 0 (0) := ⟨1, 0, (congrArg (fun l => pm_look l 33) cq_253).trans rfl⟩
theorem lk_253_34 : Lk 253 34 (.if_icmp .ge 177) 0 0 (0) := ⟨3, 0, (congrArg (fun l => pm_look l 34) cq_253).trans rfl⟩
theorem lk_253_37 : Lk 253 37 (.aload_n 0) 0 0 (0) := ⟨1, 0, (congrArg (fun l => pm_look l 37) cq_253).trans rfl⟩
theorem lk_253_38 : Lk 253 38 (.getfield 35) 12 13 (2) := ⟨3, 1270, (congrArg (fun l => pm_look l 38) cq_253).trans rfl⟩
theorem lk_253_41 : Lk 253 41 (.iload_n 2) 0 0 (0) := ⟨1, 0, (congrArg (fun l => pm_look l 41) cq_253).trans rfl⟩
theorem lk_253_42 : Lk 253 42 (.iload_n 3) 0 0 (0) := ⟨1, 0, (congrArg (fun l => pm_look l 42) cq_253).trans rfl⟩
theorem lk_253_43 : Lk 253 43 (.iadd) 0 0 (0) := ⟨1, 0, (congrArg (fun l => pm_look l 43) cq_253).trans rfl⟩
theorem lk_253_44 : Lk 253 44 (.iaload) 0 0 (0) := ⟨1, 0, (congrArg (fun l => pm_look l 44) cq_253).trans rfl⟩
theorem lk_253_45 : Lk 253 45 (.istore 4) 0 0 (0) := ⟨2, 0, (congrArg (fun l => pm_look l 45) cq_253).trans rfl⟩
theorem lk_253_47 : Lk 253 47 (.iload 4) 0 0 (0) := ⟨2, 0, (congrArg (fun l => pm_look l 47) cq_253).trans rfl⟩
theorem lk_253_49 : Lk 253 49 (.ifCond .ne 6) 0 0 (0) := ⟨3, 0, (congrArg (fun l => pm_look l 49) cq_253).trans rfl⟩
theorem lk_253_52 : Lk 253 52 (.goto 153) 0 0 (0) := ⟨3, 0, (congrArg (fun l => pm_look l 52) cq_253).trans rfl⟩
theorem lk_253_55 : Lk 253 55 (.aload_n 0) 0 0 (0) := ⟨1, 0, (congrArg (fun l => pm_look l 55) cq_253).trans rfl⟩
theorem lk_253_56 : Lk 253 56 (.getfield 38) 12 14 (2) := ⟨3, 1271, (congrArg (fun l => pm_look l 56) cq_253).trans rfl⟩
theorem lk_253_59 : Lk 253 59 (.iload_n 2) 0 0 (0) := ⟨1, 0, (congrArg (fun l => pm_look l 59) cq_253).trans rfl⟩
theorem lk_253_60 : Lk 253 60 (.iload_n 3) 0 0 (0) := ⟨1, 0, (congrArg (fun l => pm_look l 60) cq_253).trans rfl⟩
theorem lk_253_61 : Lk 253 61 (.iadd) 0 0 (0) := ⟨1, 0, (congrArg (fun l => pm_look l 61) cq_253).trans rfl⟩
theorem lk_253_62 : Lk 253 62 (.iaload) 0 0 (0) := ⟨1, 0, (congrArg (fun l => pm_look l 62) cq_253).trans rfl⟩
theorem lk_253_63 : Lk 253 63 (.istore 5) 0 0 (0) := ⟨2, 0, (congrArg (fun l => pm_look l 63) cq_253).trans rfl⟩
theorem lk_253_65 : Lk 253 65 (.aload_n 0) 0 0 (0) := ⟨1, 0, (congrArg (fun l => pm_look l 65) cq_253).trans rfl⟩
theorem lk_253_66 : Lk 253 66 (.getfield 41) 12 15 (2) := ⟨3, 1272, (congrArg (fun l => pm_look l 66) cq_253).trans rfl⟩
theorem lk_253_69 : Lk 253 69 (.iload_n 2) 0 0 (0) := ⟨1, 0, (congrArg (fun l => pm_look l 69) cq_253).trans rfl⟩
theorem lk_253_70 : Lk 253 70 (.iload_n 3) 0 0 (0) := ⟨1, 0, (congrArg (fun l => pm_look l 70) cq_253).trans rfl⟩
theorem lk_253_71 : Lk 253 71 (.iadd) 0 0 (0) := ⟨1, 0, (congrArg (fun l => pm_look l 71) cq_253).trans rfl⟩
theorem lk_253_72 : Lk 253 72 (.iaload) 0 0 (0) := ⟨1, 0, (congrArg (fun l => pm_look l 72) cq_253).trans rfl⟩
theorem lk_253_73 : Lk 253 73 (.istore 6) 0 0 (0) := ⟨2, 0, (congrArg (fun l => pm_look l 73) cq_253).trans rfl⟩
theorem lk_253_75 : Lk 253 75 (.aload_n 0) 0 0 (0) := ⟨1, 0, (congrArg (fun l => pm_look l 75) cq_253).trans rfl⟩
theorem lk_253_76 : Lk 253 76 (.getfield 131) 12 62 (2) := ⟨3, 1319, (congrArg (fun l => pm_look l 76) cq_253).trans rfl⟩
theorem lk_253_79 : Lk 253 79 (.iload_n 3) 0 0 (0) := ⟨1, 0, (congrArg (fun l => pm_look l 79) cq_253).trans rfl⟩
theorem lk_253_80 : Lk 253 80 (.iconst 1) 0 0 (0) := ⟨1, 0, (congrArg (fun l => pm_look l 80) cq_253).trans rfl⟩
theorem lk_253_81 : Lk 253 81 (.iadd) 0 0 (0) := ⟨1, 0, (congrArg (fun l => pm_look l 81) cq_253).trans rfl⟩
theorem lk_253_82 : Lk 253 82 (.iload 4) 0 0 (0) := ⟨2, 0, (congrArg (fun l => pm_look l 82) cq_253).trans rfl⟩
theorem lk_253_84 : Lk 253 84 (.iconst 1) 0 0 (0) := ⟨1, 0, (congrArg (fun l => pm_look l 84) cq_253).trans rfl⟩
theorem lk_253_85 : Lk 253 85 (.if_icmp .ne 15) 0 0 (0) := ⟨3, 0, (congrArg (fun l => pm_look l 85) cq_253).trans rfl⟩
theorem lk_253_88 : Lk 253 88 (.aload_n 0) 0 0 (0) := ⟨1, 0, (congrArg (fun l => pm_look l 88) cq_253).trans rfl⟩
theorem lk_253_89 : Lk 253 89 (.getfield 131) 12 62 (2) := ⟨3, 1319, (congrArg (fun l => pm_look l 89) cq_253).trans rfl⟩
theorem lk_253_92 : Lk 253 92 (.iload_n 3) 0 0 (0) := ⟨1, 0, (congrArg (fun l => pm_look l 92) cq_253).trans rfl⟩
theorem lk_253_93 : Lk 253 93 (.iaload) 0 0 (0) := ⟨1, 0, (congrArg (fun l => pm_look l 93) cq_253).trans rfl⟩
theorem lk_253_94 : Lk 253 94 (.iload 5) 0 0 (0) := ⟨2, 0, (congrArg (fun l => pm_look l 94) cq_253).trans rfl⟩
theorem lk_253_96 : Lk 253 96 (.iand) 0 0 (0) := ⟨1, 0, (congrArg (fun l => pm_look l 96) cq_253).trans rfl⟩
theorem lk_253_97 : Lk 253 97 (.goto 9) 0 0 (0) := ⟨3, 0, (congrArg (fun l => pm_look l 97) cq_253).trans rfl⟩
theorem lk_253_100 : Lk 253 100 (.aload_n 0) 0 0 (0) := ⟨1, 0, (congrArg (fun l => pm_look l 100) cq_253).trans rfl⟩
theorem lk_253_101 : Lk 253 101 (.getfield 131) 12 62 (2) := ⟨3, 1319, (congrArg (fun l => pm_look l 101) cq_253).trans rfl⟩
theorem lk_253_104 : Lk 253 104 (.iload_n 3) 0 0 (0) := ⟨1, 0, (congrArg (fun l => pm_look l 104) cq_253).trans rfl⟩
theorem lk_253_105 : Lk 253 105 (.iaload) 0 0 (0) := ⟨1, 0, (congrArg (fun l => pm_look l 105) cq_253).trans rfl⟩
theorem lk_253_106 : Lk 253 106 (.iastore) 0 0 (0) := ⟨1, 0, (congrArg (fun l => pm_look l 106) cq_253).trans rfl⟩
theorem lk_253_107 : Lk 253 107 (.aload_n 0) 0 0 (0) := ⟨1, 0, (congrArg (fun l => pm_look l 107) cq_253).trans rfl⟩
theorem lk_253_108 : Lk 253 108 (.getfield 134) 12 63 (2) := ⟨3, 1320, (congrArg (fun l => pm_look l 108) cq_253).trans rfl⟩
theorem lk_253_111 : Lk 253 111 (.iload_n 3) 0 0 (0) := ⟨1, 0, (congrArg (fun l => pm_look l 111) cq_253).trans rfl⟩
theorem lk_253_112 : Lk 253 112 (.iconst 1) 0 0 (0) := ⟨1, 0, (congrArg (fun l => pm_look l 112) cq_253).trans rfl⟩
theorem lk_253_113 : Lk 253 113 (.iadd) 0 0 (0) := ⟨1, 0, (congrArg (fun l => pm_look l 113) cq_253).trans rfl⟩
theorem lk_253_114 : Lk 253 114 (.iload 4) 0 0 (0) := ⟨2, 0, (congrArg (fun l => pm_look l 114) cq_253).trans rfl⟩
theorem lk_253_116 : Lk 253 116 (.iconst 2) 0 0 (0) := ⟨1, 0, (congrArg (fun l => pm_look l 116) cq_253).trans rfl⟩
theorem lk_253_117 : Lk 253 117 (.if_icmp .ne 15) 0 0 (0) := ⟨3, 0, (congrArg (fun l => pm_look l 117) cq_253).trans rfl⟩
theorem lk_253_120 : Lk 253 120 (.aload_n 0) 0 0 (0) := ⟨1, 0, (congrArg (fun l => pm_look l 120) cq_253).trans rfl⟩
theorem lk_253_121 : Lk 253 121 (.getfield 134) 12 63 (2) := ⟨3, 1320, (congrArg (fun l => pm_look l 121) cq_253).trans rfl⟩
theorem lk_253_124 : Lk 253 124 (.iload_n 3) 0 0 (0) := ⟨1, 0, (congrArg (fun l => pm_look l 124) cq_253).trans rfl⟩
theorem lk_253_125 : Lk 253 125 (.iaload) 0 0 (0) := ⟨1, 0, (congrArg (fun l => pm_look l 125) cq_253).trans rfl⟩
theorem lk_253_126 : Lk 253 126 (.iload 5) 0 0 (0) := ⟨2, 0, (congrArg (fun l => pm_look l 126) cq_253).trans rfl⟩
theorem lk_253_128 : Lk 253 128 (.iand) 0 0 (0) := ⟨1, 0, (congrArg (fun l => pm_look l 128) cq_253).trans rfl⟩
theorem lk_253_129 : Lk 253 129 (.goto 9) 0 0 (0) := ⟨3, 0, (congrArg (fun l => pm_look l 129) cq_253).trans rfl⟩
theorem lk_253_132 : Lk 253 132 (.aload_n 0) 0 0 (0) := ⟨1, 0, (congrArg (fun l => pm_look l 132) cq_253).trans rfl⟩
theorem lk_253_133 : Lk 253 133 (.getfield 134) 12 63 (2) := ⟨3, 1320, (congrArg (fun l => pm_look l 133) cq_253).trans rfl⟩
theorem lk_253_136 : Lk 253 136 (.iload_n 3) 0 0 (0) := ⟨1, 0, (congrArg (fun l => pm_look l 136) cq_253).trans rfl⟩
theorem lk_253_137 : Lk 253 137 (.iaload) 0 0 (0) := ⟨1, 0, (congrArg (fun l => pm_look l 137) cq_253).trans rfl⟩
theorem lk_253_138 : Lk 253 138 (.iastore) 0 0 (0) := ⟨1, 0, (congrArg (fun l => pm_look l 138) cq_253).trans rfl⟩
theorem lk_253_139 : Lk 253 139 (.aload_n 0) 0 0 (0) := ⟨1, 0, (congrArg (fun l => pm_look l 139) cq_253).trans rfl⟩
theorem lk_253_140 : Lk 253 140 (.getfield 131) 12 62 (2) := ⟨3, 1319, (congrArg (fun l => pm_look l 140) cq_253).trans rfl⟩
theorem lk_253_143 : Lk 253 143 (.iload 6) 0 0 (0) := ⟨2, 0, (congrArg (fun l => pm_look l 143) cq_253).trans rfl⟩
theorem lk_253_145 : Lk 253 145 (.iload 4) 0 0 (0) := ⟨2, 0, (congrArg (fun l => pm_look l 145) cq_253).trans rfl⟩
theorem lk_253_147 : Lk 253 147 (.iconst 1) 0 0 (0) := ⟨1, 0, (congrArg (fun l => pm_look l 147) cq_253).trans rfl⟩
theorem lk_253_148 : Lk 253 148 (.if_icmp .ne 17) 0 0 (0) := ⟨3, 0, (congrArg (fun l => pm_look l 148) cq_253).trans rfl⟩
theorem lk_253_151 : Lk 253 151 (.aload_n 0) 0 0 (0) := ⟨1, 0, (congrArg (fun l => pm_look l 151) cq_253).trans rfl⟩
theorem lk_253_152 : Lk 253 152 (.getfield 131) 12 62 (2) := ⟨3, 1319, (congrArg (fun l => pm_look l 152) cq_253).trans rfl⟩
theorem lk_253_155 : Lk 253 155 (.iload_n 3) 0 0 (0) := ⟨1, 0, (congrArg (fun l => pm_look l 155) cq_253).trans rfl⟩
theorem lk_253_156 : Lk 253 156 (.iaload) 0 0 (0) := ⟨1, 0, (congrArg (fun l => pm_look l 156) cq_253).trans rfl⟩
theorem lk_253_157 : Lk 253 157 (.iload 5) 0 0 (0) := ⟨2, 0, (congrArg (fun l => pm_look l 157) cq_253).trans rfl⟩
theorem lk_253_159 : Lk 253 159 (.iconst (-1)) 0 0 (0) := ⟨1, 0, (congrArg (fun l => pm_look l 159) cq_253).trans rfl⟩
theorem lk_253_160 : Lk 253 160 (.ixor) 0 0 (0) := ⟨1, 0, (congrArg (fun l => pm_look l 160) cq_253).trans rfl⟩
theorem lk_253_161 : Lk 253 161 (.iand) 0 0 (0) := ⟨1, 0, (congrArg (fun l => pm_look l 161) cq_253).trans rfl⟩
theorem lk_253_162 : Lk 253 162 (.goto 9) 0 0 (0) := ⟨3, 0, (congrArg (fun l => pm_look l 162) cq_253).trans rfl⟩
theorem lk_253_165 : Lk 253 165 (.aload_n 0) 0 0 (0) := ⟨1, 0, (congrArg (fun l => pm_look l 165) cq_253).trans rfl⟩
theorem lk_253_166 : Lk 253 166 (.getfield 131) 12 62 (2) := ⟨3, 1319, (congrArg (fun l => pm_look l 166) cq_253).trans rfl⟩
theorem lk_253_169 : Lk 253 169 (.iload_n 3) 0 0 (0) := ⟨1, 0, (congrArg (fun l => pm_look l 169) cq_253).trans rfl⟩
theorem lk_253_170 : Lk 253 170 (.iaload) 0 0 (0) := ⟨1, 0, (congrArg (fun l => pm_look l 170) cq_253).trans rfl⟩
theorem lk_253_171 : Lk 253 171 (.iastore) 0 0 (0) := ⟨1, 0, (congrArg (fun l => pm_look l 171) cq_253).trans rfl⟩
theorem lk_253_172 : Lk 253 172 (.aload_n 0) 0 0 (0) := ⟨1, 0, (congrArg (fun l => pm_look l 172) cq_253).trans rfl⟩
theorem lk_253_173 : Lk 253 173 (.getfield 134) 12 63 (2) := ⟨3, 1320, (congrArg (fun l => pm_look l 173) cq_253).trans rfl⟩
theorem lk_253_176 : Lk 253 176 (.iload 6) 0 0 (0) := ⟨2, 0, (congrArg (fun l => pm_look l 176) cq_253).trans rfl⟩
theorem lk_253_178 : Lk 253 178 (.iload 4) 0 0 (0) := ⟨2, 0, (congrArg (fun l => pm_look l 178) cq_253).trans rfl⟩
theorem lk_253_180 : Lk 253 180 (.iconst 2) 0 0 (0) := ⟨1, 0, (congrArg (fun l => pm_look l 180) cq_253).trans rfl⟩
theorem lk_253_181 : Lk 253 181 (.if_icmp .ne 17) 0 0 (0) := ⟨3, 0, (congrArg (fun l => pm_look l 181) cq_253).trans rfl⟩
theorem lk_253_184 : Lk 253 184 (.aload_n 0) 0 0 (0) := ⟨1, 0, (congrArg (fun l => pm_look l 184) cq_253).trans rfl⟩
theorem lk_253_185 : Lk 253 185 (.getfield 134) 12 63 (2) := ⟨3, 1320, (congrArg (fun l => pm_look l 185) cq_253).trans rfl⟩
theorem lk_253_188 : Lk 253 188 (.iload_n 3) 0 0 (0) := ⟨1, 0, (congrArg (fun l => pm_look l 188) cq_253).trans rfl⟩
theorem lk_253_189 : Lk 253 189 (.iaload) 0 0 (0) := ⟨1, 0, (congrArg (fun l => pm_look l 189) cq_253).trans rfl⟩
theorem lk_253_190 : Lk 253 190 (.iload 5) 0 0 (0) := ⟨2, 0, (congrArg (fun l => pm_look l 190) cq_253).trans rfl⟩
theorem lk_253_192 : Lk 253 192 (.iconst (-1)) 0 0 (0) := ⟨1, 0, (congrArg (fun l => pm_look l 192) cq_253).trans rfl⟩
theorem lk_253_193 : Lk 253 193 (.ixor) 0 0 (0) := ⟨1, 0, (congrArg (fun l => pm_look l 193) cq_253).trans rfl⟩
set_option maxRecDepth 100000 in
theorem lk_253_194 : Lk 253 194 (.iand) 0 0 (0) := ⟨1, 0, (congrArg (fun l => pm_look l 194) cq_253).trans rfl⟩
set_option maxRecDepth 100000 in
theorem lk_253_195 : Lk 253 195 (.goto 9) 0 0 (0) := ⟨3, 0, (congrArg (fun l => pm_look l 195) cq_253).trans rfl⟩
set_option maxRecDepth 100000 in
theorem lk_253_198 : Lk 253 198 (.aload_n 0) 0 0 (0) := ⟨1, 0, (congrArg (fun l => pm_look l 198) cq_253).trans rfl⟩
set_option maxRecDepth 100000 in
theorem lk_253_199 : Lk 253 199 (.getfield 134) 12 63 (2) := ⟨3, 1320, (congrArg (fun l => pm_look l 199) cq_253).trans rfl⟩
set_option maxRecDepth 100000 in
theorem lk_253_202 : Lk 253 202 (.iload_n 3) 0 0 (0) := ⟨1, 0, (congrArg (fun l => pm_look l 202) cq_253).trans rfl⟩
set_option maxRecDepth 100000 in
theorem lk_253_203 : Lk 253 203 (.iaload) 0 0 (0) := ⟨1, 0, (congrArg (fun l => pm_look l 203) cq_253).trans rfl⟩
set_option maxRecDepth 100000 in
theorem lk_253_204 : Lk 253 204 (.iastore) 0 0 (0) := ⟨1, 0, (congrArg (fun l => pm_look l 204) cq_253).trans rfl⟩
set_option maxRecDepth 100000 in
theorem lk_253_205 : Lk 253 205 (.iinc 3 1) 0 0 (0) := ⟨3, 0, (congrArg (fun l => pm_look l 205) cq_253).trans rfl⟩
set_option maxRecDepth 100000 in
theorem lk_253_208 : Lk 253 208 (.goto (-181)) 0 0 (0) := ⟨3, 0, (congrArg (fun l => pm_look l 208) cq_253).trans rfl⟩
set_option maxRecDepth 100000 in
theorem lk_253_211 : Lk 253 211 (.return_) 0 0 (0) := ⟨1, 0, (congrArg (fun l => pm_look l 211) cq_253).trans rfl⟩
theorem cq_254 : pm_code 254 = cd_254 := rfl
theorem lk_254_0 : Lk 254 0 (.aload_n 0) 0 0 (0) := ⟨1, 0, (congrArg (fun l => pm_look l 0) cq_254).trans rfl⟩
theorem lk_254_1 : Lk 254 1 (.getfield 131) 12 62 (2) := ⟨3, 1319, (congrArg (fun l => pm_look l 1) cq_254).trans rfl⟩
theorem lk_254_4 : Lk 254 4 (.iload_n 1) 0 0 (0) := ⟨1, 0, (congrArg (fun l => pm_look l 4) cq_254).trans rfl⟩
theorem lk_254_5 : Lk 254 5 (.iaload) 0 0 (0) := ⟨1, 0, (congrArg (fun l => pm_look l 5) cq_254).trans rfl⟩
theorem lk_254_6 : Lk 254 6 (.ifCond .eq 12) 0 0 (0) := ⟨3, 0, (congrArg (fun l => pm_look l 6) cq_254).trans rfl⟩
theorem lk_254_9 : Lk 254 9 (.aload_n 0) 0 0 (0) := ⟨1, 0, (congrArg (fun l => pm_look l 9) cq_254).trans rfl⟩
theorem lk_254_10 : Lk 254 10 (.getfield 134) 12 63 (2) := ⟨3, 1320, (congrArg (fun l => pm_look l 10) cq_254).trans rfl⟩
theorem lk_254_13 : Lk 254 13 (.iload_n 1) 0 0 (0) := ⟨1, 0, (congrArg (fun l => pm_look l 13) cq_254).trans rfl⟩
theorem lk_254_14 : Lk 254 14 (.iaload) 0 0 (0) := ⟨1, 0, (congrArg (fun l => pm_look l 14) cq_254).trans rfl⟩
theorem lk_254_15 : Lk 254 15 (.ifCond .ne 7) 0 0 (0) := ⟨3, 0, (congrArg (fun l => pm_look l 15) cq_254).trans rfl⟩
theorem lk_254_18 : Lk 254 18 (.iconst 1) 0 0 (0) := ⟨1, 0, (congrArg (fun l => pm_look l 18) cq_254).trans rfl⟩
theorem lk_254_19 : Lk 254 19 (.goto 4) 0 0 (0) := ⟨3, 0, (congrArg (fun l => pm_look l 19) cq_254).trans rfl⟩
theorem lk_254_22 : Lk 254 22 (.iconst 0) 0 0 (0) := ⟨1, 0, (congrArg (fun l => pm_look l 22) cq_254).trans rfl⟩
theorem lk_254_23 : Lk 254 23 (.ireturn) 1 0 (0) := ⟨1, 0, (congrArg (fun l => pm_look l 23) cq_254).trans rfl⟩
theorem cq_255 : pm_code 255 = cd_255 := rfl
theorem lk_255_0 : Lk 255 0 (.aload_n 0) 0 0 (0) := ⟨1, 0, (congrArg (fun l => pm_look l 0) cq_255).trans rfl⟩
theorem lk_255_1 : Lk 255 1 (.iconst 0) 0 0 (0) := ⟨1, 0, (congrArg (fun l => pm_look l 1) cq_255).trans rfl⟩
theorem lk_255_2 : Lk 255 2 (.putfield 417) 12 64 (0) := ⟨3, 1321, (congrArg (fun l => pm_look l 2) cq_255).trans rfl⟩
theorem lk_255_5 : Lk 255 5 (.aload_n 0) 0 0 (0) := ⟨1, 0, (congrArg (fun l => pm_look l 5) cq_255).trans rfl⟩
theorem lk_255_6 : Lk 255 6 (.iconst 0) 0 0 (0) := ⟨1, 0, (congrArg (fun l => pm_look l 6) cq_255).trans rfl⟩
theorem lk_255_7 : Lk 255 7 (.putfield 420) 12 65 (0) := ⟨3, 1322, (congrArg (fun l => pm_look l 7) cq_255).trans rfl⟩
theorem lk_255_10 : Lk 255 10 (.aload_n 0) 0 0 (0) := ⟨1, 0, (congrArg (fun l => pm_look l 10) cq_255).trans rfl⟩
theorem lk_255_11 : Lk 255 11 (.iconst 0) 0 0 (0) := ⟨1, 0, (congrArg (fun l => pm_look l 11) cq_255).trans rfl⟩
theorem lk_255_12 : Lk 255 12 (.putfield 423) 12 66 (0) := ⟨3, 1323, (congrArg (fun l => pm_look l 12) cq_255).trans rfl⟩
theorem lk_255_15 : Lk 255 15 (.aload_n 0) 0 0 (0) := ⟨1, 0, (congrArg (fun l => pm_look l 15) cq_255).trans rfl⟩
theorem lk_255_16 : Lk 255 16 (.iconst 0) 0 0 (0) := ⟨1, 0, (congrArg (fun l => pm_look l 16) cq_255).trans rfl⟩
theorem lk_255_17 : Lk 255 17 (.putfield 426) 12 67 (0) := ⟨3, 1324, (congrArg (fun l => pm_look l 17) cq_255).trans rfl⟩
theorem lk_255_20 : Lk 255 20 (.iconst 0) 0 0 (0) := ⟨1, 0, (congrArg (fun l => pm_look l 20) cq_255).trans rfl⟩
theorem lk_255_21 : Lk 255 21 (.istore_n 2) 0 0 (0) := ⟨1, 0, (congrArg (fun l => pm_look l 21) cq_255).trans rfl⟩
theorem lk_255_22 : Lk 255 22 (.iload_n 2) 0 0 (0) := ⟨1, 0, (congrArg (fun l => pm_look l 22) cq_255).trans rfl⟩
theorem lk_255_23 : Lk 255 23 (.aload_n 0) 0 0 (0) := ⟨1, 0, (congrArg (fun l => pm_look l 23) cq_255).trans rfl⟩
theorem lk_255_24 : Lk 255 24 (.getfield 7) 12 1 (0) := ⟨3, 1258, (congrArg (fun l => pm_look l 24) cq_255).trans rfl⟩
theorem lk_255_27 : Lk 255 27 (.if_icmp .ge 144) 0 0 (0) := ⟨3, 0, (congrArg (fun l => pm_look l 27) cq_255).trans rfl⟩
theorem lk_255_30 : Lk 255 30 (.iconst 0) 0 0 (0) := ⟨1, 0, (congrArg (fun l => pm_look l 30) cq_255).trans rfl⟩
theorem lk_255_31 : Lk 255 31 (.istore_n 3) 0 0 (0) := ⟨1, 0, (congrArg (fun l => pm_look l 31) cq_255).trans rfl⟩
theorem lk_255_32 : Lk 255 32 (.iload_n 3) 0 0 (0) := ⟨1, 0, (congrArg (fun l => pm_look l 32) cq_255).trans rfl⟩
theorem lk_255_33 : Lk 255 33 (.aload_n 0) 0 0 (0) := ⟨1, 0, (congrArg (fun l => pm_look l 33) cq_255).trans rfl⟩
theorem lk_255_34 : Lk 255 34 (.getfield 13) 12 2 (0) := ⟨3, 1259, (congrArg (fun l => pm_look l 34) cq_255).trans rfl⟩
theorem lk_255_37 : Lk 255 37 (.if_icmp .ge 128) 0 0 (0) := ⟨3, 0, (congrArg (fun l => pm_look l 37) cq_255).trans rfl⟩
theorem lk_255_40 : Lk 255 40 (.aload_n 0) 0 0 (0) := ⟨1, 0, (congrArg (fun l => pm_look l 40) cq_255).trans rfl⟩
theorem lk_255_41 : Lk 255 41 (.getfield 38) 12 14 (2) := ⟨3, 1271, (congrArg (fun l => pm_look l 41) cq_255).trans rfl⟩
theorem lk_255_44 : Lk 255 44 (.bipush 31) 0 0 (0) := ⟨2, 0, (congrArg (fun l => pm_look l 44) cq_255).trans rfl⟩
theorem lk_255_46 : Lk 255 46 (.iload_n 1) 0 0 (0) := ⟨1, 0, (congrArg (fun l => pm_look l 46) cq_255).trans rfl⟩
theorem lk_255_47 : Lk 255 47 (.imul) 0 0 (0) := ⟨1, 0, (congrArg (fun l => pm_look l 47) cq_255).trans rfl⟩
theorem lk_255_48 : Lk 255 48 (.aload_n 0) 0 0 (0) := ⟨1, 0, (congrArg (fun l => pm_look l 48) cq_255).trans rfl⟩
theorem lk_255_49 : Lk 255 49 (.iload_n 1) 0 0 (0) := ⟨1, 0, (congrArg (fun l => pm_look l 49) cq_255).trans rfl⟩
theorem lk_255_50 : Lk 255 50 (.iload_n 2) 0 0 (0) := ⟨1, 0, (congrArg (fun l => pm_look l 50) cq_255).trans rfl⟩
theorem lk_255_51 : Lk 255 51 (.iload_n 3) 0 0 (0) := ⟨1, 0, (congrArg (fun l => pm_look l 51) cq_255).trans rfl⟩
theorem lk_255_52 : Lk 255 52 (.invokevirtual 414) 247 0 (0) := ⟨3, 1791, (congrArg (fun l => pm_look l 52) cq_255).trans rfl⟩
theorem lk_255_55 : Lk 255 55 (.iadd) 0 0 (0) := ⟨1, 0, (congrArg (fun l => pm_look l 55) cq_255).trans rfl⟩
theorem lk_255_56 : Lk 255 56 (.iaload) 0 0 (0) := ⟨1, 0, (congrArg (fun l => pm_look l 56) cq_255).trans rfl⟩
theorem lk_255_57 : Lk 255 57 (.istore 4) 0 0 (0) := ⟨2, 0, (congrArg (fun l => pm_look l 57) cq_255).trans rfl⟩
theorem lk_255_59 : Lk 255 59 (.aload_n 0) 0 0 (0) := ⟨1, 0, (congrArg (fun l => pm_look l 59) cq_255).trans rfl⟩
theorem lk_255_60 : Lk 255 60 (.iload_n 2) 0 0 (0) := ⟨1, 0, (congrArg (fun l => pm_look l 60) cq_255).trans rfl⟩
theorem lk_255_61 : Lk 255 61 (.iload_n 3) 0 0 (0) := ⟨1, 0, (congrArg (fun l => pm_look l 61) cq_255).trans rfl⟩
theorem lk_255_62 : Lk 255 62 (.invokevirtual 270) 174 0 (0) := ⟨3, 1586, (congrArg (fun l => pm_look l 62) cq_255).trans rfl⟩
theorem lk_255_65 : Lk 255 65 (.bipush 10) 0 0 (0) := ⟨2, 0, (congrArg (fun l => pm_look l 65) cq_255).trans rfl⟩
theorem lk_255_67 : Lk 255 67 (.if_icmp .eq 7) 0 0 (0) := ⟨3, 0, (congrArg (fun l => pm_look l 67) cq_255).trans rfl⟩
theorem lk_255_70 : Lk 255 70 (.iconst 1) 0 0 (0) := ⟨1, 0, (congrArg (fun l => pm_look l 70) cq_255).trans rfl⟩
theorem lk_255_71 : Lk 255 71 (.goto 4) 0 0 (0) := ⟨3, 0, (congrArg (fun l => pm_look l 71) cq_255).trans rfl⟩
theorem lk_255_74 : Lk 255 74 (.iconst 0) 0 0 (0) := ⟨1, 0, (congrArg (fun l => pm_look l 74) cq_255).trans rfl⟩
theorem lk_255_75 : Lk 255 75 (.istore 5) 0 0 (0) := ⟨2, 0, (congrArg (fun l => pm_look l 75) cq_255).trans rfl⟩
theorem lk_255_77 : Lk 255 77 (.aload_n 0) 0 0 (0) := ⟨1, 0, (congrArg (fun l => pm_look l 77) cq_255).trans rfl⟩
theorem lk_255_78 : Lk 255 78 (.aload_n 0) 0 0 (0) := ⟨1, 0, (congrArg (fun l => pm_look l 78) cq_255).trans rfl⟩
theorem lk_255_79 : Lk 255 79 (.getfield 417) 12 64 (0) := ⟨3, 1321, (congrArg (fun l => pm_look l 79) cq_255).trans rfl⟩
theorem lk_255_82 : Lk 255 82 (.aload_n 0) 0 0 (0) := ⟨1, 0, (congrArg (fun l => pm_look l 82) cq_255).trans rfl⟩
theorem lk_255_83 : Lk 255 83 (.getfield 402) 12 60 (0) := ⟨3, 1317, (congrArg (fun l => pm_look l 83) cq_255).trans rfl⟩
theorem lk_255_86 : Lk 255 86 (.invokestatic 325) 170 0 (0) := ⟨3, 1663, (congrArg (fun l => pm_look l 86) cq_255).trans rfl⟩
theorem lk_255_89 : Lk 255 89 (.putfield 417) 12 64 (0) := ⟨3, 1321, (congrArg (fun l => pm_look l 89) cq_255).trans rfl⟩
theorem lk_255_92 : Lk 255 92 (.aload_n 0) 0 0 (0) := ⟨1, 0, (congrArg (fun l => pm_look l 92) cq_255).trans rfl⟩
theorem lk_255_93 : Lk 255 93 (.aload_n 0) 0 0 (0) := ⟨1, 0, (congrArg (fun l => pm_look l 93) cq_255).trans rfl⟩
theorem lk_255_94 : Lk 255 94 (.getfield 426) 12 67 (0) := ⟨3, 1324, (congrArg (fun l => pm_look l 94) cq_255).trans rfl⟩
theorem lk_255_97 : Lk 255 97 (.aload_n 0) 0 0 (0) := ⟨1, 0, (congrArg (fun l => pm_look l 97) cq_255).trans rfl⟩
theorem lk_255_98 : Lk 255 98 (.getfield 405) 12 61 (0) := ⟨3, 1318, (congrArg (fun l => pm_look l 98) cq_255).trans rfl⟩
theorem lk_255_101 : Lk 255 101 (.invokestatic 325) 170 0 (0) := ⟨3, 1663, (congrArg (fun l => pm_look l 101) cq_255).trans rfl⟩
theorem lk_255_104 : Lk 255 104 (.putfield 426) 12 67 (0) := ⟨3, 1324, (congrArg (fun l => pm_look l 104) cq_255).trans rfl⟩
theorem lk_255_107 : Lk 255 107 (.aload_n 0) 0 0 (0) := ⟨1, 0, (congrArg (fun l => pm_look l 107) cq_255).trans rfl⟩
theorem lk_255_108 : Lk 255 108 (.dup) 0 0 (0) := ⟨1, 0, (congrArg (fun l => pm_look l 108) cq_255).trans rfl⟩
theorem lk_255_109 : Lk 255 109 (.getfield 420) 12 65 (0) := ⟨3, 1322, (congrArg (fun l => pm_look l 109) cq_255).trans rfl⟩
theorem lk_255_112 : Lk 255 112 (.iload 5) 0 0 (0) := ⟨2, 0, (congrArg (fun l => pm_look l 112) cq_255).trans rfl⟩
theorem lk_255_114 : Lk 255 114 (.ifCond .eq 10) 0 0 (0) := ⟨3, 0, (congrArg (fun l => pm_look l 114) cq_255).trans rfl⟩
theorem lk_255_117 : Lk 255 117 (.aload_n 0) 0 0 (0) := ⟨1, 0, (congrArg (fun l => pm_look l 117) cq_255).trans rfl⟩
theorem lk_255_118 : Lk 255 118 (.getfield 402) 12 60 (0) := ⟨3, 1317, (congrArg (fun l => pm_look l 118) cq_255).trans rfl⟩
theorem lk_255_121 : Lk 255 121 (.goto 4) 0 0 (0) := ⟨3, 0, (congrArg (fun l => pm_look l 121) cq_255).trans rfl⟩
theorem lk_255_124 : Lk 255 124 (.iconst 0) 0 0 (0) := ⟨1, 0, (congrArg (fun l => pm_look l 124) cq_255).trans rfl⟩
theorem lk_255_125 : Lk 255 125 (.iadd) 0 0 (0) := ⟨1, 0, (congrArg (fun l => pm_look l 125) cq_255).trans rfl⟩
theorem lk_255_126 : Lk 255 126 (.putfield 420) 12 65 (0) := ⟨3, 1322, (congrArg (fun l => pm_look l 126) cq_255).trans rfl⟩
theorem lk_255_129 : Lk 255 129 (.aload_n 0) 0 0 (0) := ⟨1, 0, (congrArg (fun l => pm_look l 129) cq_255).trans rfl⟩
theorem lk_255_130 : Lk 255 130 (.dup) 0 0 (0) := ⟨1, 0, (congrArg (fun l => pm_look l 130) cq_255).trans rfl⟩
theorem lk_255_131 : Lk 255 131 (.getfield 423) 12 66 (0) := ⟨3, 1323, (congrArg (fun l => pm_look l 131) cq_255).trans rfl⟩
theorem lk_255_134 : Lk 255 134 (.iload 5) 0 0 (0) := ⟨2, 0, (congrArg (fun l => pm_look l 134) cq_255).trans rfl⟩
theorem lk_255_136 : Lk 255 136 (.ifCond .eq 18) 0 0 (0) := ⟨3, 0, (congrArg (fun l => pm_look l 136) cq_255).trans rfl⟩
theorem lk_255_139 : Lk 255 139 (.iload 4) 0 0 (0) := ⟨2, 0, (congrArg (fun l => pm_look l 139) cq_255).trans rfl⟩
theorem lk_255_141 : Lk 255 141 (.aload_n 0) 0 0 (0) := ⟨1, 0, (congrArg (fun l => pm_look l 141) cq_255).trans rfl⟩
theorem lk_255_142 : Lk 255 142 (.iload_n 2) 0 0 (0) := ⟨1, 0, (congrArg (fun l => pm_look l 142) cq_255).trans rfl⟩
theorem lk_255_143 : Lk 255 143 (.iload_n 3) 0 0 (0) := ⟨1, 0, (congrArg (fun l => pm_look l 143) cq_255).trans rfl⟩
theorem lk_255_144 : Lk 255 144 (.invokevirtual 270) 174 0 (0) := ⟨3, 1586, (congrArg (fun l => pm_look l 144) cq_255).trans rfl⟩
theorem lk_255_147 : Lk 255 147 (.if_icmp .eq 7) 0 0 (0) := ⟨3, 0, (congrArg (fun l => pm_look l 147) cq_255).trans rfl⟩
theorem lk_255_150 : Lk 255 150 (.iconst 1) 0 0 (0) := ⟨1, 0, (congrArg (fun l => pm_look l 150) cq_255).trans rfl⟩
theorem lk_255_151 : Lk 255 151 (.goto 4) 0 0 (0) := ⟨3, 0, (congrArg (fun l => pm_look l 151) cq_255).trans rfl⟩
theorem lk_255_154 : Lk 255 154 (.iconst 0) 0 0 (0) := ⟨1, 0, (congrArg (fun l => pm_look l 154) cq_255).trans rfl⟩
theorem lk_255_155 : Lk 255 155 (.iadd) 0 0 (0) := ⟨1, 0, (congrArg (fun l => pm_look l 155) cq_255).trans rfl⟩
theorem lk_255_156 : Lk 255 156 (.putfield 423) 12 66 (0) := ⟨3, 1323, (congrArg (fun l => pm_look l 156) cq_255).trans rfl⟩
theorem lk_255_159 : Lk 255 159 (.iinc 3 1) 0 0 (0) := ⟨3, 0, (congrArg (fun l => pm_look l 159) cq_255).trans rfl⟩
theorem lk_255_162 : Lk 255 162 (.goto (-130)) 0 0 (0) := ⟨3, 0, (congrArg (fun l => pm_look l 162) cq_255).trans rfl⟩
theorem lk_255_165 : Lk 255 165 (.iinc 2 1) 0 0 (0) := ⟨3, 0, (congrArg (fun l => pm_look l 165) cq_255).trans rfl⟩
theorem lk_255_168 : Lk 255 168 (.goto (-146)) 0 0 (0) := ⟨3, 0, (congrArg (fun l => pm_look l 168) cq_255).trans rfl⟩
theorem lk_255_171 : Lk 255 171 (.return_) 0 0 (0) := ⟨1, 0, (congrArg (fun l => pm_look l 171) cq_255).trans rfl⟩
theorem cq_256 : pm_code 256 = cd_256 := rfl
theorem lk_256_0 : Lk 256 0 (.aload_n 0) 0 0 (0) := ⟨1, 0, (congrArg (fun l => pm_look l 0) cq_256).trans rfl⟩
theorem lk_256_1 : Lk 256 1 (.iconst 0) 0 0 (0) := ⟨1, 0, (congrArg (fun l => pm_look l 1) cq_256).trans rfl⟩
theorem lk_256_2 : Lk 256 2 (.putfield 143) 12 0 (0) := ⟨3, 1257, (congrArg (fun l => pm_look l 2) cq_256).trans rfl⟩
theorem lk_256_5 : Lk 256 5 (.aload_n 0) 0 0 (0) := ⟨1, 0, (congrArg (fun l => pm_look l 5) cq_256).trans rfl⟩
theorem lk_256_6 : Lk 256 6 (.iload_n 1) 0 0 (0) := ⟨1, 0, (congrArg (fun l => pm_look l 6) cq_256).trans rfl⟩
theorem lk_256_7 : Lk 256 7 (.invokevirtual 408) 173 0 (0) := ⟨3, 1787, (congrArg (fun l => pm_look l 7) cq_256).trans rfl⟩
theorem lk_256_10 : Lk 256 10 (.ifCond .ne 5) 0 0 (0) := ⟨3, 0, (congrArg (fun l => pm_look l 10) cq_256).trans rfl⟩
theorem lk_256_13 : Lk 256 13 (.iconst (-1)) 0 0 (0) := ⟨1, 0, (congrArg (fun l => pm_look l 13) cq_256).trans rfl⟩
theorem lk_256_14 : Lk 256 14 (.ireturn) 0 0 (0) := ⟨1, 0, (congrArg (fun l => pm_look l 14) cq_256).trans rfl⟩
theorem lk_256_15 : Lk 256 15 (.aload_n 0) 0 0 (0) := ⟨1, 0, (congrArg (fun l => pm_look l 15) cq_256).trans rfl⟩
theorem lk_256_16 : Lk 256 16 (.iload_n 1) 0 0 (0) := ⟨1, 0, (congrArg (fun l => pm_look l 16) cq_256).trans rfl⟩
theorem lk_256_17 : Lk 256 17 (.invokevirtual 429) 255 0 (0) := ⟨3, 1811, (congrArg (fun l => pm_look l 17) cq_256).trans rfl⟩
theorem lk_256_20 : Lk 256 20 (.aload_n 0) 0 0 (0) := ⟨1, 0, (congrArg (fun l => pm_look l 20) cq_256).trans rfl⟩
theorem lk_256_21 : Lk 256 21 (.iload_n 1) 0 0 (0) := ⟨1, 0, (congrArg (fun l => pm_look l 21) cq_256).trans rfl⟩
theorem lk_256_22 : Lk 256 22 (.invokevirtual 432) 253 0 (0) := ⟨3, 1815, (congrArg (fun l => pm_look l 22) cq_256).trans rfl⟩
theorem lk_256_25 : Lk 256 25 (.iconst 0) 0 0 (0) := ⟨1, 0, (congrArg (fun l => pm_look l 25) cq_256).trans rfl⟩
theorem lk_256_26 : Lk 256 26 (.istore_n 3) 0 0 (0) := ⟨1, 0, (congrArg (fun l => pm_look l 26) cq_256).trans rfl⟩
theorem lk_256_27 : Lk 256 27 (.iconst 0) 0 0 (0) := ⟨1, 0, (congrArg (fun l => pm_look l 27) cq_256).trans rfl⟩
theorem lk_256_28 : Lk 256 28 (.istore 4) 0 0 (0) := ⟨2, 0, (congrArg (fun l => pm_look l 28) cq_256).trans rfl⟩
theorem lk_256_30 : Lk 256 30 (.iconst 0) 0 0 (0) := ⟨1, 0, (congrArg (fun l => pm_look l 30) cq_256).trans rfl⟩
theorem lk_256_31 : Lk 256 31 (.istore 5) 0 0 (0) := ⟨2, 0, (congrArg (fun l => pm_look l 31) cq_256).trans rfl⟩
theorem lk_256_33 : Lk 256 33 (.iload 5) 0 0 (0) := ⟨2, 0, (congrArg (fun l => pm_look l 33) cq_256).trans rfl⟩
theorem lk_256_35 : Lk 256 35 (.aload_n 0) 0 0 (0) := ⟨1, 0, (congrArg (fun l => pm_look l 35) cq_256).trans rfl⟩
theorem lk_256_36 : Lk 256 36 (.getfield 32) 12 12 (2) := ⟨3, 1269, (congrArg (fun l => pm_look l 36) cq_256).trans rfl⟩
theorem lk_256_39 : Lk 256 39 (.iload_n 1) 0 0 (0) := ⟨1, 0, (congrArg (fun l => pm_look l 39) cq_256).trans rfl⟩
theorem lk_256_40 : Lk 256 40 (.iaload) 0 0 (0) := ⟨1, 0, (congrArg (fun l => pm_look l 40) cq_256).trans rfl⟩
theorem lk_256_41 : Lk 256 41 (.if_icmp .ge 51) 0 0 (0) := ⟨3, 0, (congrArg (fun l => pm_look l 41) cq_256).trans rfl⟩
theorem lk_256_44 : Lk 256 44 (.iload_n 3) 0 0 (0) := ⟨1, 0, (congrArg (fun l => pm_look l 44) cq_256).trans rfl⟩
theorem lk_256_45 : Lk 256 45 (.aload_n 0) 0 0 (0) := ⟨1, 0, (congrArg (fun l => pm_look l 45) cq_256).trans rfl⟩
theorem lk_256_46 : Lk 256 46 (.getfield 35) 12 13 (2) := ⟨3, 1270, (congrArg (fun l => pm_look l 46) cq_256).trans rfl⟩
theorem lk_256_49 : Lk 256 49 (.bipush 31) 0 0 (0) := ⟨2, 0, (congrArg (fun l => pm_look l 49) cq_256).trans rfl⟩
theorem lk_256_51 : Lk 256 51 (.iload_n 1) 0 0 (0) := ⟨1, 0, (congrArg (fun l => pm_look l 51) cq_256).trans rfl⟩
theorem lk_256_52 : Lk 256 52 (.imul) 0 0 (0) := ⟨1, 0, (congrArg (fun l => pm_look l 52) cq_256).trans rfl⟩
theorem lk_256_53 : Lk 256 53 (.iload 5) 0 0 (0) := ⟨2, 0, (congrArg (fun l => pm_look l 53) cq_256).trans rfl⟩
theorem lk_256_55 : Lk 256 55 (.iadd) 0 0 (0) := ⟨1, 0, (congrArg (fun l => pm_look l 55) cq_256).trans rfl⟩
theorem lk_256_56 : Lk 256 56 (.iaload) 0 0 (0) := ⟨1, 0, (congrArg (fun l => pm_look l 56) cq_256).trans rfl⟩
theorem lk_256_57 : Lk 256 57 (.ifCond .ne 7) 0 0 (0) := ⟨3, 0, (congrArg (fun l => pm_look l 57) cq_256).trans rfl⟩
theorem lk_256_60 : Lk 256 60 (.iconst 1) 0 0 (0) := ⟨1, 0, (congrArg (fun l => pm_look l 60) cq_256).trans rfl⟩
theorem lk_256_61 : Lk 256 61 (.goto 4) 0 0 (0) := ⟨3, 0, (congrArg (fun l => pm_look l 61) cq_256).trans rfl⟩
theorem lk_256_64 : Lk 256 64 (.iconst 0) 0 0 (0) := ⟨1, 0, (congrArg (fun l => pm_look l 64) cq_256).trans rfl⟩
theorem lk_256_65 : Lk 256 65 (.iadd) 0 0 (0) := ⟨1, 0, (congrArg (fun l => pm_look l 65) cq_256).trans rfl⟩
theorem lk_256_66 : Lk 256 66 (.istore_n 3) 0 0 (0) := ⟨1, 0, (congrArg (fun l => pm_look l 66) cq_256).trans rfl⟩
theorem lk_256_67 : Lk 256 67 (.iload 4) 0 0 (0) := ⟨2, 0, (congrArg (fun l => pm_look l 67) cq_256).trans rfl⟩
theorem lk_256_69 : Lk 256 69 (.aload_n 0) 0 0 (0) := ⟨1, 0, (congrArg (fun l => pm_look l 69) cq_256).trans rfl⟩
theorem lk_256_70 : Lk 256 70 (.iload 5) 0 0 (0) := ⟨2, 0, (congrArg (fun l => pm_look l 70) cq_256).trans rfl⟩
theorem lk_256_72 : Lk 256 72 (.invokevirtual 435) 254 0 (0) := ⟨3, 1819, (congrArg (fun l => pm_look l 72) cq_256).trans rfl⟩
theorem lk_256_75 : Lk 256 75 (.ifCond .eq 7) 0 0 (0) := ⟨3, 0, (congrArg (fun l => pm_look l 75) cq_256).trans rfl⟩
theorem lk_256_78 : Lk 256 78 (.iconst 1) 0 0 (0) := ⟨1, 0, (congrArg (fun l => pm_look l 78) cq_256).trans rfl⟩
theorem lk_256_79 : Lk 256 79 (.goto 4) 0 0 (0) := ⟨3, 0, (congrArg (fun l => pm_look l 79) cq_256).trans rfl⟩
theorem lk_256_82 : Lk 256 82 (.iconst 0) 0 0 (0) := ⟨1, 0, (congrArg (fun l => pm_look l 82) cq_256).trans rfl⟩
theorem lk_256_83 : Lk 256 83 (.iadd) 0 0 (0) := ⟨1, 0, (congrArg (fun l => pm_look l 83) cq_256).trans rfl⟩
theorem lk_256_84 : Lk 256 84 (.istore 4) 0 0 (0) := ⟨2, 0, (congrArg (fun l => pm_look l 84) cq_256).trans rfl⟩
theorem lk_256_86 : Lk 256 86 (.iinc 5 1) 0 0 (0) := ⟨3, 0, (congrArg (fun l => pm_look l 86) cq_256).trans rfl⟩
theorem lk_256_89 : Lk 256 89 (.goto (-56)) 0 0 (0) := ⟨3, 0, (congrArg (fun l => pm_look l 89) cq_256).trans rfl⟩
theorem lk_256_92 : Lk 256 92 (.iload_n 2) 0 0 (0) := ⟨1, 0, (congrArg (fun l => pm_look l 92) cq_256).trans rfl⟩
theorem lk_256_93 : Lk 256 93 (.tableswitch 75 0 6 #[43, 50, 52, 57, 62, 67, 70]) 0 0 (0) := ⟨43, 0, (congrArg (fun l => pm_look l 93) cq_256).trans rfl⟩
theorem lk_256_136 : Lk 256 136 (.aload_n 0) 0 0 (0) := ⟨1, 0, (congrArg (fun l => pm_look l 136) cq_256).trans rfl⟩
theorem lk_256_137 : Lk 256 137 (.getfield 32) 12 12 (2) := ⟨3, 1269, (congrArg (fun l => pm_look l 137) cq_256).trans rfl⟩
theorem lk_256_140 : Lk 256 140 (.iload_n 1) 0 0 (0) := ⟨1, 0, (congrArg (fun l => pm_look l 140) cq_256).trans rfl⟩
theorem lk_256_141 : Lk 256 141 (.iaload) 0 0 (0) := ⟨1, 0, (congrArg (fun l => pm_look l 141) cq_256).trans rfl⟩
theorem lk_256_142 : Lk 256 142 (.ireturn) 0 0 (0) := ⟨1, 0, (congrArg (fun l => pm_look l 142) cq_256).trans rfl⟩
theorem lk_256_143 : Lk 256 143 (.iload_n 3) 0 0 (0) := ⟨1, 0, (congrArg (fun l => pm_look l 143) cq_256).trans rfl⟩
theorem lk_256_144 : Lk 256 144 (.ireturn) 0 0 (0) := ⟨1, 0, (congrArg (fun l => pm_look l 144) cq_256).trans rfl⟩
theorem lk_256_145 : Lk 256 145 (.aload_n 0) 0 0 (0) := ⟨1, 0, (congrArg (fun l => pm_look l 145) cq_256).trans rfl⟩
theorem lk_256_146 : Lk 256 146 (.getfield 417) 12 64 (0) := ⟨3, 1321, (congrArg (fun l => pm_look l 146) cq_256).trans rfl⟩
theorem lk_256_149 : Lk 256 149 (.ireturn) 0 0 (0) := ⟨1, 0, (congrArg (fun l => pm_look l 149) cq_256).trans rfl⟩
theorem lk_256_150 : Lk 256 150 (.aload_n 0) 0 0 (0) := ⟨1, 0, (congrArg (fun l => pm_look l 150) cq_256).trans rfl⟩
theorem lk_256_151 : Lk 256 151 (.getfield 420) 12 65 (0) := ⟨3, 1322, (congrArg (fun l => pm_look l 151) cq_256).trans rfl⟩
theorem lk_256_154 : Lk 256 154 (.ireturn) 0 0 (0) := ⟨1, 0, (congrArg (fun l => pm_look l 154) cq_256).trans rfl⟩
theorem lk_256_155 : Lk 256 155 (.aload_n 0) 0 0 (0) := ⟨1, 0, (congrArg (fun l => pm_look l 155) cq_256).trans rfl⟩
theorem lk_256_156 : Lk 256 156 (.getfield 423) 12 66 (0) := ⟨3, 1323, (congrArg (fun l => pm_look l 156) cq_256).trans rfl⟩
theorem lk_256_159 : Lk 256 159 (.ireturn) 0 0 (0) := ⟨1, 0, (congrArg (fun l => pm_look l 159) cq_256).trans rfl⟩
theorem lk_256_160 : Lk 256 160 (.iload 4) 0 0 (0) := ⟨2, 0, (congrArg (fun l => pm_look l 160) cq_256).trans rfl⟩
theorem lk_256_162 : Lk 256 162 (.ireturn) 0 0 (0) := ⟨1, 0, (congrArg (fun l => pm_look l 162) cq_256).trans rfl⟩
theorem lk_256_163 : Lk 256 163 (.aload_n 0) 0 0 (0) := ⟨1, 0, (congrArg (fun l => pm_look l 163) cq_256).trans rfl⟩
theorem lk_256_164 : Lk 256 164 (.getfield 426) 12 67 (0) := ⟨3, 1324, (congrArg (fun l => pm_look l 164) cq_256).trans rfl⟩
theorem lk_256_167 : Lk 256 167 (.ireturn) 0 0 (0) := ⟨1, 0, (congrArg (fun l => pm_look l 167) cq_256).trans rfl⟩
theorem lk_256_168 : Lk 256 168 (.iconst (-1)) 0 0 (0) := ⟨1, 0, (congrArg (fun l => pm_look l 168) cq_256).trans rfl⟩
theorem lk_256_169 : Lk 256 169 (.ireturn) 0 0 (0) := ⟨1, 0, (congrArg (fun l => pm_look l 169) cq_256).trans rfl⟩
theorem cq_257 : pm_code 257 = cd_257 := rfl
theorem lk_257_0 : Lk 257 0 (.aload_n 0) 0 0 (0) := ⟨1, 0, (congrArg (fun l => pm_look l 0) cq_257).trans rfl⟩
theorem lk_257_1 : Lk 257 1 (.iconst 0) 0 0 (0) := ⟨1, 0, (congrArg (fun l => pm_look l 1) cq_257).trans rfl⟩
theorem lk_257_2 : Lk 257 2 (.putfield 143) 12 0 (0) := ⟨3, 1257, (congrArg (fun l => pm_look l 2) cq_257).trans rfl⟩
theorem lk_257_5 : Lk 257 5 (.aload_n 0) 0 0 (0) := ⟨1, 0, (congrArg (fun l => pm_look l 5) cq_257).trans rfl⟩
theorem lk_257_6 : Lk 257 6 (.iload_n 1) 0 0 (0) := ⟨1, 0, (congrArg (fun l => pm_look l 6) cq_257).trans rfl⟩
theorem lk_257_7 : Lk 257 7 (.invokevirtual 408) 173 0 (0) := ⟨3, 1787, (congrArg (fun l => pm_look l 7) cq_257).trans rfl⟩
theorem lk_257_10 : Lk 257 10 (.ifCond .eq 19) 0 0 (0) := ⟨3, 0, (congrArg (fun l => pm_look l 10) cq_257).trans rfl⟩
theorem lk_257_13 : Lk 257 13 (.iload_n 2) 0 0 (0) := ⟨1, 0, (congrArg (fun l => pm_look l 13) cq_257).trans rfl⟩
theorem lk_257_14 : Lk 257 14 (.iconst 0) 0 0 (0) := ⟨1, 0, (congrArg (fun l => pm_look l 14) cq_257).trans rfl⟩
theorem lk_257_15 : Lk 257 15 (.aload_n 0) 0 0 (0) := ⟨1, 0, (congrArg (fun l => pm_look l 15) cq_257).trans rfl⟩
theorem lk_257_16 : Lk 257 16 (.getfield 32) 12 12 (2) := ⟨3, 1269, (congrArg (fun l => pm_look l 16) cq_257).trans rfl⟩
theorem lk_257_19 : Lk 257 19 (.iload_n 1) 0 0 (0) := ⟨1, 0, (congrArg (fun l => pm_look l 19) cq_257).trans rfl⟩
theorem lk_257_20 : Lk 257 20 (.iaload) 0 0 (0) := ⟨1, 0, (congrArg (fun l => pm_look l 20) cq_257).trans rfl⟩
theorem lk_257_21 : Lk 257 21 (.iconst 1) 0 0 (0) := ⟨1, 0, (congrArg (fun l => pm_look l 21) cq_257).trans rfl⟩
theorem lk_257_22 : Lk 257 22 (.isub) 0 0 (0) := ⟨1, 0, (congrArg (fun l => pm_look l 22) cq_257).trans rfl⟩
theorem lk_257_23 : Lk 257 23 (.invokestatic 146) 167 0 (0) := ⟨3, 1483, (congrArg (fun l => pm_look l 23) cq_257).trans rfl⟩
theorem lk_257_26 : Lk 257 26 (.ifCond .ne 5) 0 0 (0) := ⟨3, 0, (congrArg (fun l => pm_look l 26) cq_257).trans rfl⟩
theorem lk_257_29 : Lk 257 29 (.iconst (-1)) 0 0 (0) := ⟨1, 0, (congrArg (fun l => pm_look l 29) cq_257).trans rfl⟩
theorem lk_257_30 : Lk 257 30 (.ireturn) 0 0 (0) := ⟨1, 0, (congrArg (fun l => pm_look l 30) cq_257).trans rfl⟩
theorem lk_257_31 : Lk 257 31 (.aload_n 0) 0 0 (0) := ⟨1, 0, (congrArg (fun l => pm_look l 31) cq_257).trans rfl⟩
theorem lk_257_32 : Lk 257 32 (.iload_n 1) 0 0 (0) := ⟨1, 0, (congrArg (fun l => pm_look l 32) cq_257).trans rfl⟩
theorem lk_257_33 : Lk 257 33 (.invokevirtual 432) 253 0 (0) := ⟨3, 1815, (congrArg (fun l => pm_look l 33) cq_257).trans rfl⟩
theorem lk_257_36 : Lk 257 36 (.bipush 31) 0 0 (0) := ⟨2, 0, (congrArg (fun l => pm_look l 36) cq_257).trans rfl⟩
theorem lk_257_38 : Lk 257 38 (.iload_n 1) 0 0 (0) := ⟨1, 0, (congrArg (fun l => pm_look l 38) cq_257).trans rfl⟩
theorem lk_257_39 : Lk 257 39 (.imul) 0 0 (0) := ⟨1, 0, (congrArg (fun l => pm_look l 39) cq_257).trans rfl⟩
theorem lk_257_40 : Lk 257 40 (.iload_n 2) 0 0 (0) := ⟨1, 0, (congrArg (fun l => pm_look l 40) cq_257).trans rfl⟩
theorem lk_257_41 : Lk 257 41 (.iadd) 0 0 (0) := ⟨1, 0, (congrArg (fun l => pm_look l 41) cq_257).trans rfl⟩
theorem lk_257_42 : Lk 257 42 (.istore 4) 0 0 (0) := ⟨2, 0, (congrArg (fun l => pm_look l 42) cq_257).trans rfl⟩
theorem lk_257_44 : Lk 257 44 (.iload_n 3) 0 0 (0) := ⟨1, 0, (congrArg (fun l => pm_look l 44) cq_257).trans rfl⟩
theorem lk_257_45 : Lk 257 45 (.tableswitch 97 0 4 #[35, 43, 51, 59, 78]) 0 0 (0) := ⟨35, 0, (congrArg (fun l => pm_look l 45) cq_257).trans rfl⟩
theorem lk_257_80 : Lk 257 80 (.aload_n 0) 0 0 (0) := ⟨1, 0, (congrArg (fun l => pm_look l 80) cq_257).trans rfl⟩
theorem lk_257_81 : Lk 257 81 (.getfield 35) 12 13 (2) := ⟨3, 1270, (congrArg (fun l => pm_look l 81) cq_257).trans rfl⟩
theorem lk_257_84 : Lk 257 84 (.iload 4) 0 0 (0) := ⟨2, 0, (congrArg (fun l => pm_look l 84) cq_257).trans rfl⟩
theorem lk_257_86 : Lk 257 86 (.iaload) 0 0 (0) := ⟨1, 0, (congrArg (fun l => pm_look l 86) cq_257).trans rfl⟩
theorem lk_257_87 : Lk 257 87 (.ireturn) 0 0 (0) := ⟨1, 0, (congrArg (fun l => pm_look l 87) cq_257).trans rfl⟩
theorem lk_257_88 : Lk 257 88 (.aload_n 0) 0 0 (0) := ⟨1, 0, (congrArg (fun l => pm_look l 88) cq_257).trans rfl⟩
theorem lk_257_89 : Lk 257 89 (.getfield 38) 12 14 (2) := ⟨3, 1271, (congrArg (fun l => pm_look l 89) cq_257).trans rfl⟩
theorem lk_257_92 : Lk 257 92 (.iload 4) 0 0 (0) := ⟨2, 0, (congrArg (fun l => pm_look l 92) cq_257).trans rfl⟩
theorem lk_257_94 : Lk 257 94 (.iaload) 0 0 (0) := ⟨1, 0, (congrArg (fun l => pm_look l 94) cq_257).trans rfl⟩
theorem lk_257_95 : Lk 257 95 (.ireturn) 0 0 (0) := ⟨1, 0, (congrArg (fun l => pm_look l 95) cq_257).trans rfl⟩
theorem lk_257_96 : Lk 257 96 (.aload_n 0) 0 0 (0) := ⟨1, 0, (congrArg (fun l => pm_look l 96) cq_257).trans rfl⟩
theorem lk_257_97 : Lk 257 97 (.getfield 41) 12 15 (2) := ⟨3, 1272, (congrArg (fun l => pm_look l 97) cq_257).trans rfl⟩
theorem lk_257_100 : Lk 257 100 (.iload 4) 0 0 (0) := ⟨2, 0, (congrArg (fun l => pm_look l 100) cq_257).trans rfl⟩
theorem lk_257_102 : Lk 257 102 (.iaload) 0 0 (0) := ⟨1, 0, (congrArg (fun l => pm_look l 102) cq_257).trans rfl⟩
theorem lk_257_103 : Lk 257 103 (.ireturn) 0 0 (0) := ⟨1, 0, (congrArg (fun l => pm_look l 103) cq_257).trans rfl⟩
theorem lk_257_104 : Lk 257 104 (.aload_n 0) 0 0 (0) := ⟨1, 0, (congrArg (fun l => pm_look l 104) cq_257).trans rfl⟩
theorem lk_257_105 : Lk 257 105 (.iload_n 2) 0 0 (0) := ⟨1, 0, (congrArg (fun l => pm_look l 105) cq_257).trans rfl⟩
theorem lk_257_106 : Lk 257 106 (.invokevirtual 435) 254 0 (0) := ⟨3, 1819, (congrArg (fun l => pm_look l 106) cq_257).trans rfl⟩
theorem lk_257_109 : Lk 257 109 (.ifCond .eq 7) 0 0 (0) := ⟨3, 0, (congrArg (fun l => pm_look l 109) cq_257).trans rfl⟩
theorem lk_257_112 : Lk 257 112 (.iconst 0) 0 0 (0) := ⟨1, 0, (congrArg (fun l => pm_look l 112) cq_257).trans rfl⟩
theorem lk_257_113 : Lk 257 113 (.goto 9) 0 0 (0) := ⟨3, 0, (congrArg (fun l => pm_look l 113) cq_257).trans rfl⟩
theorem lk_257_116 : Lk 257 116 (.aload_n 0) 0 0 (0) := ⟨1, 0, (congrArg (fun l => pm_look l 116) cq_257).trans rfl⟩
theorem lk_257_117 : Lk 257 117 (.getfield 131) 12 62 (2) := ⟨3, 1319, (congrArg (fun l => pm_look l 117) cq_257).trans rfl⟩
theorem lk_257_120 : Lk 257 120 (.iload_n 2) 0 0 (0) := ⟨1, 0, (congrArg (fun l => pm_look l 120) cq_257).trans rfl⟩
theorem lk_257_121 : Lk 257 121 (.iaload) 0 0 (0) := ⟨1, 0, (congrArg (fun l => pm_look l 121) cq_257).trans rfl⟩
theorem lk_257_122 : Lk 257 122 (.ireturn) 0 0 (0) := ⟨1, 0, (congrArg (fun l => pm_look l 122) cq_257).trans rfl⟩
theorem lk_257_123 : Lk 257 123 (.aload_n 0) 0 0 (0) := ⟨1, 0, (congrArg (fun l => pm_look l 123) cq_257).trans rfl⟩
theorem lk_257_124 : Lk 257 124 (.iload_n 2) 0 0 (0) := ⟨1, 0, (congrArg (fun l => pm_look l 124) cq_257).trans rfl⟩
theorem lk_257_125 : Lk 257 125 (.invokevirtual 435) 254 0 (0) := ⟨3, 1819, (congrArg (fun l => pm_look l 125) cq_257).trans rfl⟩
theorem lk_257_128 : Lk 257 128 (.ifCond .eq 7) 0 0 (0) := ⟨3, 0, (congrArg (fun l => pm_look l 128) cq_257).trans rfl⟩
theorem lk_257_131 : Lk 257 131 (.iconst 0) 0 0 (0) := ⟨1, 0, (congrArg (fun l => pm_look l 131) cq_257).trans rfl⟩
theorem lk_257_132 : Lk 257 132 (.goto 9) 0 0 (0) := ⟨3, 0, (congrArg (fun l => pm_look l 132) cq_257).trans rfl⟩
theorem lk_257_135 : Lk 257 135 (.aload_n 0) 0 0 (0) := ⟨1, 0, (congrArg (fun l => pm_look l 135) cq_257).trans rfl⟩
theorem lk_257_136 : Lk 257 136 (.getfield 134) 12 63 (2) := ⟨3, 1320, (congrArg (fun l => pm_look l 136) cq_257).trans rfl⟩
theorem lk_257_139 : Lk 257 139 (.iload_n 2) 0 0 (0) := ⟨1, 0, (congrArg (fun l => pm_look l 139) cq_257).trans rfl⟩
theorem lk_257_140 : Lk 257 140 (.iaload) 0 0 (0) := ⟨1, 0, (congrArg (fun l => pm_look l 140) cq_257).trans rfl⟩
theorem lk_257_141 : Lk 257 141 (.ireturn) 0 0 (0) := ⟨1, 0, (congrArg (fun l => pm_look l 141) cq_257).trans rfl⟩
theorem lk_257_142 : Lk 257 142 (.iconst (-1)) 0 0 (0) := ⟨1, 0, (congrArg (fun l => pm_look l 142) cq_257).trans rfl⟩
theorem lk_257_143 : Lk 257 143 (.ireturn) 0 0 (0) := ⟨1, 0, (congrArg (fun l => pm_look l 143) cq_257).trans rfl⟩
theorem cq_258 : pm_code 258 = cd_258 := rfl
theorem lk_258_0 : Lk 258 0 (.aload_n 0) 0 0 (0) := ⟨1, 0, (congrArg (fun l => pm_look l 0) cq_258).trans rfl⟩
theorem lk_258_1 : Lk 258 1 (.iconst 0) 0 0 (0) := ⟨1, 0, (congrArg (fun l => pm_look l 1) cq_258).trans rfl⟩
theorem lk_258_2 : Lk 258 2 (.putfield 143) 12 0 (0) := ⟨3, 1257, (congrArg (fun l => pm_look l 2) cq_258).trans rfl⟩
theorem lk_258_5 : Lk 258 5 (.aload_n 0) 0 0 (0) := ⟨1, 0, (congrArg (fun l => pm_look l 5) cq_258).trans rfl⟩
theorem lk_258_6 : Lk 258 6 (.iload_n 1) 0 0 (0) := ⟨1, 0, (congrArg (fun l => pm_look l 6) cq_258).trans rfl⟩
theorem lk_258_7 : Lk 258 7 (.invokevirtual 408) 173 0 (0) := ⟨3, 1787, (congrArg (fun l => pm_look l 7) cq_258).trans rfl⟩
theorem lk_258_10 : Lk 258 10 (.ifCond .eq 22) 0 0 (0) := ⟨3, 0, (congrArg (fun l => pm_look l 10) cq_258).trans rfl⟩
theorem lk_258_13 : Lk 258 13 (.iload_n 2) 0 0 (0) := ⟨1, 0, (congrArg (fun l => pm_look l 13) cq_258).trans rfl⟩
theorem lk_258_14 : Lk 258 14 (.iconst 0) 0 0 (0) := ⟨1, 0, (congrArg (fun l => pm_look l 14) cq_258).trans rfl⟩
theorem lk_258_15 : Lk 258 15 (.bipush 9) 0 0 (0) := ⟨2, 0, (congrArg (fun l => pm_look l 15) cq_258).trans rfl⟩
theorem lk_258_17 : Lk 258 17 (.invokestatic 146) 167 0 (0) := ⟨3, 1483, (congrArg (fun l => pm_look l 17) cq_258).trans rfl⟩
theorem lk_258_20 : Lk 258 20 (.ifCond .eq 12) 0 0 (0) := ⟨3, 0, (congrArg (fun l => pm_look l 20) cq_258).trans rfl⟩
theorem lk_258_23 : Lk 258 23 (.iload_n 3) 0 0 (0) := ⟨1, 0, (congrArg (fun l => pm_look l 23) cq_258).trans rfl⟩
theorem lk_258_24 : Lk 258 24 (.iconst 0) 0 0 (0) := ⟨1, 0, (congrArg (fun l => pm_look l 24) cq_258).trans rfl⟩
theorem lk_258_25 : Lk 258 25 (.iconst 1) 0 0 (0) := ⟨1, 0, (congrArg (fun l => pm_look l 25) cq_258).trans rfl⟩
theorem lk_258_26 : Lk 258 26 (.invokestatic 146) 167 0 (0) := ⟨3, 1483, (congrArg (fun l => pm_look l 26) cq_258).trans rfl⟩
theorem lk_258_29 : Lk 258 29 (.ifCond .ne 5) 0 0 (0) := ⟨3, 0, (congrArg (fun l => pm_look l 29) cq_258).trans rfl⟩
theorem lk_258_32 : Lk 258 32 (.iconst (-1)) 0 0 (0) := ⟨1, 0, (congrArg (fun l => pm_look l 32) cq_258).trans rfl⟩
theorem lk_258_33 : Lk 258 33 (.ireturn) 0 0 (0) := ⟨1, 0, (congrArg (fun l => pm_look l 33) cq_258).trans rfl⟩
theorem lk_258_34 : Lk 258 34 (.aload_n 0) 0 0 (0) := ⟨1, 0, (congrArg (fun l => pm_look l 34) cq_258).trans rfl⟩
theorem lk_258_35 : Lk 258 35 (.invokevirtual 379) 235 0 (0) := ⟨3, 1725, (congrArg (fun l => pm_look l 35) cq_258).trans rfl⟩
theorem lk_258_38 : Lk 258 38 (.aload_n 0) 0 0 (0) := ⟨1, 0, (congrArg (fun l => pm_look l 38) cq_258).trans rfl⟩
theorem lk_258_39 : Lk 258 39 (.iload_n 1) 0 0 (0) := ⟨1, 0, (congrArg (fun l => pm_look l 39) cq_258).trans rfl⟩
theorem lk_258_40 : Lk 258 40 (.invokevirtual 432) 253 0 (0) := ⟨3, 1815, (congrArg (fun l => pm_look l 40) cq_258).trans rfl⟩
theorem lk_258_43 : Lk 258 43 (.iconst 0) 0 0 (0) := ⟨1, 0, (congrArg (fun l => pm_look l 43) cq_258).trans rfl⟩
theorem lk_258_44 : Lk 258 44 (.istore 4) 0 0 (0) := ⟨2, 0, (congrArg (fun l => pm_look l 44) cq_258).trans rfl⟩
theorem lk_258_46 : Lk 258 46 (.iconst 0) 0 0 (0) := ⟨1, 0, (congrArg (fun l => pm_look l 46) cq_258).trans rfl⟩
theorem lk_258_47 : Lk 258 47 (.istore 5) 0 0 (0) := ⟨2, 0, (congrArg (fun l => pm_look l 47) cq_258).trans rfl⟩
theorem lk_258_49 : Lk 258 49 (.iconst 0) 0 0 (0) := ⟨1, 0, (congrArg (fun l => pm_look l 49) cq_258).trans rfl⟩
theorem lk_258_50 : Lk 258 50 (.istore 6) 0 0 (0) := ⟨2, 0, (congrArg (fun l => pm_look l 50) cq_258).trans rfl⟩
theorem lk_258_52 : Lk 258 52 (.iload 6) 0 0 (0) := ⟨2, 0, (congrArg (fun l => pm_look l 52) cq_258).trans rfl⟩
theorem lk_258_54 : Lk 258 54 (.aload_n 0) 0 0 (0) := ⟨1, 0, (congrArg (fun l => pm_look l 54) cq_258).trans rfl⟩
theorem lk_258_55 : Lk 258 55 (.getfield 7) 12 1 (0) := ⟨3, 1258, (congrArg (fun l => pm_look l 55) cq_258).trans rfl⟩
theorem lk_258_58 : Lk 258 58 (.if_icmp .ge 191) 0 0 (0) := ⟨3, 0, (congrArg (fun l => pm_look l 58) cq_258).trans rfl⟩
theorem lk_258_61 : Lk 258 61 (.iconst 0) 0 0 (0) := ⟨1, 0, (congrArg (fun l => pm_look l 61) cq_258).trans rfl⟩
theorem lk_258_62 : Lk 258 62 (.istore 7) 0 0 (0) := ⟨2, 0, (congrArg (fun l => pm_look l 62) cq_258).trans rfl⟩
theorem lk_258_64 : Lk 258 64 (.iload 7) 0 0 (0) := ⟨2, 0, (congrArg (fun l => pm_look l 64) cq_258).trans rfl⟩
theorem lk_258_66 : Lk 258 66 (.aload_n 0) 0 0 (0) := ⟨1, 0, (congrArg (fun l => pm_look l 66) cq_258).trans rfl⟩
theorem lk_258_67 : Lk 258 67 (.getfield 13) 12 2 (0) := ⟨3, 1259, (congrArg (fun l => pm_look l 67) cq_258).trans rfl⟩
theorem lk_258_70 : Lk 258 70 (.if_icmp .ge 173) 0 0 (0) := ⟨3, 0, (congrArg (fun l => pm_look l 70) cq_258).trans rfl⟩
theorem lk_258_73 : Lk 258 73 (.aload_n 0) 0 0 (0) := ⟨1, 0, (congrArg (fun l => pm_look l 73) cq_258).trans rfl⟩
theorem lk_258_74 : Lk 258 74 (.getfield 38) 12 14 (2) := ⟨3, 1271, (congrArg (fun l => pm_look l 74) cq_258).trans rfl⟩
theorem lk_258_77 : Lk 258 77 (.bipush 31) 0 0 (0) := ⟨2, 0, (congrArg (fun l => pm_look l 77) cq_258).trans rfl⟩
theorem lk_258_79 : Lk 258 79 (.iload_n 1) 0 0 (0) := ⟨1, 0, (congrArg (fun l => pm_look l 79) cq_258).trans rfl⟩
theorem lk_258_80 : Lk 258 80 (.imul) 0 0 (0) := ⟨1, 0, (congrArg (fun l => pm_look l 80) cq_258).trans rfl⟩
theorem lk_258_81 : Lk 258 81 (.aload_n 0) 0 0 (0) := ⟨1, 0, (congrArg (fun l => pm_look l 81) cq_258).trans rfl⟩
theorem lk_258_82 : Lk 258 82 (.iload_n 1) 0 0 (0) := ⟨1, 0, (congrArg (fun l => pm_look l 82) cq_258).trans rfl⟩
theorem lk_258_83 : Lk 258 83 (.iload 6) 0 0 (0) := ⟨2, 0, (congrArg (fun l => pm_look l 83) cq_258).trans rfl⟩
theorem lk_258_85 : Lk 258 85 (.iload 7) 0 0 (0) := ⟨2, 0, (congrArg (fun l => pm_look l 85) cq_258).trans rfl⟩
theorem lk_258_87 : Lk 258 87 (.invokevirtual 414) 247 0 (0) := ⟨3, 1791, (congrArg (fun l => pm_look l 87) cq_258).trans rfl⟩
theorem lk_258_90 : Lk 258 90 (.iadd) 0 0 (0) := ⟨1, 0, (congrArg (fun l => pm_look l 90) cq_258).trans rfl⟩
theorem lk_258_91 : Lk 258 91 (.iaload) 0 0 (0) := ⟨1, 0, (congrArg (fun l => pm_look l 91) cq_258).trans rfl⟩
theorem lk_258_92 : Lk 258 92 (.istore 8) 0 0 (0) := ⟨2, 0, (congrArg (fun l => pm_look l 92) cq_258).trans rfl⟩
theorem lk_258_94 : Lk 258 94 (.aload_n 0) 0 0 (0) := ⟨1, 0, (congrArg (fun l => pm_look l 94) cq_258).trans rfl⟩
theorem lk_258_95 : Lk 258 95 (.getfield 399) 12 59 (0) := ⟨3, 1316, (congrArg (fun l => pm_look l 95) cq_258).trans rfl⟩
theorem lk_258_98 : Lk 258 98 (.iload_n 2) 0 0 (0) := ⟨1, 0, (congrArg (fun l => pm_look l 98) cq_258).trans rfl⟩
theorem lk_258_99 : Lk 258 99 (.if_icmp .ge 53) 0 0 (0) := ⟨3, 0, (congrArg (fun l => pm_look l 99) cq_258).trans rfl⟩
theorem lk_258_102 : Lk 258 102 (.iload 4) 0 0 (0) := ⟨2, 0, (congrArg (fun l => pm_look l 102) cq_258).trans rfl⟩
theorem lk_258_104 : Lk 258 104 (.aload_n 0) 0 0 (0) := ⟨1, 0, (congrArg (fun l => pm_look l 104) cq_258).trans rfl⟩
theorem lk_258_105 : Lk 258 105 (.getfield 402) 12 60 (0) := ⟨3, 1317, (congrArg (fun l => pm_look l 105) cq_258).trans rfl⟩
theorem lk_258_108 : Lk 258 108 (.invokestatic 325) 170 0 (0) := ⟨3, 1663, (congrArg (fun l => pm_look l 108) cq_258).trans rfl⟩
theorem lk_258_111 : Lk 258 111 (.istore 4) 0 0 (0) := ⟨2, 0, (congrArg (fun l => pm_look l 111) cq_258).trans rfl⟩
theorem lk_258_113 : Lk 258 113 (.iload 5) 0 0 (0) := ⟨2, 0, (congrArg (fun l => pm_look l 113) cq_258).trans rfl⟩
theorem lk_258_115 : Lk 258 115 (.aload_n 0) 0 0 (0) := ⟨1, 0, (congrArg (fun l => pm_look l 115) cq_258).trans rfl⟩
theorem lk_258_116 : Lk 258 116 (.iload 6) 0 0 (0) := ⟨2, 0, (congrArg (fun l => pm_look l 116) cq_258).trans rfl⟩
theorem lk_258_118 : Lk 258 118 (.iload 7) 0 0 (0) := ⟨2, 0, (congrArg (fun l => pm_look l 118) cq_258).trans rfl⟩
theorem lk_258_120 : Lk 258 120 (.invokevirtual 270) 174 0 (0) := ⟨3, 1586, (congrArg (fun l => pm_look l 120) cq_258).trans rfl⟩
theorem lk_258_123 : Lk 258 123 (.bipush 10) 0 0 (0) := ⟨2, 0, (congrArg (fun l => pm_look l 123) cq_258).trans rfl⟩
theorem lk_258_125 : Lk 258 125 (.if_icmp .eq 20) 0 0 (0) := ⟨3, 0, (congrArg (fun l => pm_look l 125) cq_258).trans rfl⟩
theorem lk_258_128 : Lk 258 128 (.iload 8) 0 0 (0) := ⟨2, 0, (congrArg (fun l => pm_look l 128) cq_258).trans rfl⟩
theorem lk_258_130 : Lk 258 130 (.aload_n 0) 0 0 (0) := ⟨1, 0, (congrArg (fun l => pm_look l 130) cq_258).trans rfl⟩
theorem lk_258_131 : Lk 258 131 (.iload 6) 0 0 (0) := ⟨2, 0, (congrArg (fun l => pm_look l 131) cq_258).trans rfl⟩
theorem lk_258_133 : Lk 258 133 (.iload 7) 0 0 (0) := ⟨2, 0, (congrArg (fun l => pm_look l 133) cq_258).trans rfl⟩
theorem lk_258_135 : Lk 258 135 (.invokevirtual 270) 174 0 (0) := ⟨3, 1586, (congrArg (fun l => pm_look l 135) cq_258).trans rfl⟩
theorem lk_258_138 : Lk 258 138 (.if_icmp .eq 7) 0 0 (0) := ⟨3, 0, (congrArg (fun l => pm_look l 138) cq_258).trans rfl⟩
theorem lk_258_141 : Lk 258 141 (.iconst 1) 0 0 (0) := ⟨1, 0, (congrArg (fun l => pm_look l 141) cq_258).trans rfl⟩
theorem lk_258_142 : Lk 258 142 (.goto 4) 0 0 (0) := ⟨3, 0, (congrArg (fun l => pm_look l 142) cq_258).trans rfl⟩
theorem lk_258_145 : Lk 258 145 (.iconst 0) 0 0 (0) := ⟨1, 0, (congrArg (fun l => pm_look l 145) cq_258).trans rfl⟩
theorem lk_258_146 : Lk 258 146 (.iadd) 0 0 (0) := ⟨1, 0, (congrArg (fun l => pm_look l 146) cq_258).trans rfl⟩
theorem lk_258_147 : Lk 258 147 (.istore 5) 0 0 (0) := ⟨2, 0, (congrArg (fun l => pm_look l 147) cq_258).trans rfl⟩
theorem lk_258_149 : Lk 258 149 (.goto 88) 0 0 (0) := ⟨3, 0, (congrArg (fun l => pm_look l 149) cq_258).trans rfl⟩
theorem lk_258_152 : Lk 258 152 (.aload_n 0) 0 0 (0) := ⟨1, 0, (congrArg (fun l => pm_look l 152) cq_258).trans rfl⟩
theorem lk_258_153 : Lk 258 153 (.getfield 125) 12 57 (2) := ⟨3, 1314, (congrArg (fun l => pm_look l 153) cq_258).trans rfl⟩
theorem lk_258_156 : Lk 258 156 (.iload_n 2) 0 0 (0) := ⟨1, 0, (congrArg (fun l => pm_look l 156) cq_258).trans rfl⟩
theorem lk_258_157 : Lk 258 157 (.iaload) 0 0 (0) := ⟨1, 0, (congrArg (fun l => pm_look l 157) cq_258).trans rfl⟩
theorem lk_258_158 : Lk 258 158 (.istore 9) 0 0 (0) := ⟨2, 0, (congrArg (fun l => pm_look l 158) cq_258).trans rfl⟩
theorem lk_258_160 : Lk 258 160 (.iconst 0) 0 0 (0) := ⟨1, 0, (congrArg (fun l => pm_look l 160) cq_258).trans rfl⟩
theorem lk_258_161 : Lk 258 161 (.istore 10) 0 0 (0) := ⟨2, 0, (congrArg (fun l => pm_look l 161) cq_258).trans rfl⟩
theorem lk_258_163 : Lk 258 163 (.iconst 0) 0 0 (0) := ⟨1, 0, (congrArg (fun l => pm_look l 163) cq_258).trans rfl⟩
theorem lk_258_164 : Lk 258 164 (.istore 11) 0 0 (0) := ⟨2, 0, (congrArg (fun l => pm_look l 164) cq_258).trans rfl⟩
theorem lk_258_166 : Lk 258 166 (.iload 11) 0 0 (0) := ⟨2, 0, (congrArg (fun l => pm_look l 166) cq_258).trans rfl⟩
theorem lk_258_168 : Lk 258 168 (.iload_n 2) 0 0 (0) := ⟨1, 0, (congrArg (fun l => pm_look l 168) cq_258).trans rfl⟩
theorem lk_258_169 : Lk 258 169 (.if_icmp .ge 36) 0 0 (0) := ⟨3, 0, (congrArg (fun l => pm_look l 169) cq_258).trans rfl⟩
theorem lk_258_172 : Lk 258 172 (.iload 10) 0 0 (0) := ⟨2, 0, (congrArg (fun l => pm_look l 172) cq_258).trans rfl⟩
theorem lk_258_174 : Lk 258 174 (.aload_n 0) 0 0 (0) := ⟨1, 0, (congrArg (fun l => pm_look l 174) cq_258).trans rfl⟩
theorem lk_258_175 : Lk 258 175 (.getfield 26) 12 10 (2) := ⟨3, 1267, (congrArg (fun l => pm_look l 175) cq_258).trans rfl⟩
theorem lk_258_178 : Lk 258 178 (.aload_n 0) 0 0 (0) := ⟨1, 0, (congrArg (fun l => pm_look l 178) cq_258).trans rfl⟩
theorem lk_258_179 : Lk 258 179 (.getfield 35) 12 13 (2) := ⟨3, 1270, (congrArg (fun l => pm_look l 179) cq_258).trans rfl⟩
theorem lk_258_182 : Lk 258 182 (.bipush 31) 0 0 (0) := ⟨2, 0, (congrArg (fun l => pm_look l 182) cq_258).trans rfl⟩
theorem lk_258_184 : Lk 258 184 (.iload_n 1) 0 0 (0) := ⟨1, 0, (congrArg (fun l => pm_look l 184) cq_258).trans rfl⟩
theorem lk_258_185 : Lk 258 185 (.imul) 0 0 (0) := ⟨1, 0, (congrArg (fun l => pm_look l 185) cq_258).trans rfl⟩
theorem lk_258_186 : Lk 258 186 (.aload_n 0) 0 0 (0) := ⟨1, 0, (congrArg (fun l => pm_look l 186) cq_258).trans rfl⟩
theorem lk_258_187 : Lk 258 187 (.getfield 125) 12 57 (2) := ⟨3, 1314, (congrArg (fun l => pm_look l 187) cq_258).trans rfl⟩
theorem lk_258_190 : Lk 258 190 (.iload 11) 0 0 (0) := ⟨2, 0, (congrArg (fun l => pm_look l 190) cq_258).trans rfl⟩
theorem lk_258_192 : Lk 258 192 (.iaload) 0 0 (0) := ⟨1, 0, (congrArg (fun l => pm_look l 192) cq_258).trans rfl⟩
theorem lk_258_193 : Lk 258 193 (.iadd) 0 0 (0) := ⟨1, 0, (congrArg (fun l => pm_look l 193) cq_258).trans rfl⟩
theorem lk_258_194 : Lk 258 194 (.iaload) 0 0 (0) := ⟨1, 0, (congrArg (fun l => pm_look l 194) cq_258).trans rfl⟩
theorem lk_258_195 : Lk 258 195 (.iaload) 0 0 (0) := ⟨1, 0, (congrArg (fun l => pm_look l 195) cq_258).trans rfl⟩
theorem lk_258_196 : Lk 258 196 (.iadd) 0 0 (0) := ⟨1, 0, (congrArg (fun l => pm_look l 196) cq_258).trans rfl⟩
theorem lk_258_197 : Lk 258 197 (.istore 10) 0 0 (0) := ⟨2, 0, (congrArg (fun l => pm_look l 197) cq_258).trans rfl⟩
theorem lk_258_199 : Lk 258 199 (.iinc 11 1) 0 0 (0) := ⟨3, 0, (congrArg (fun l => pm_look l 199) cq_258).trans rfl⟩
theorem lk_258_202 : Lk 258 202 (.goto (-36)) 0 0 (0) := ⟨3, 0, (congrArg (fun l => pm_look l 202) cq_258).trans rfl⟩
theorem lk_258_205 : Lk 258 205 (.iload 4) 0 0 (0) := ⟨2, 0, (congrArg (fun l => pm_look l 205) cq_258).trans rfl⟩
theorem lk_258_207 : Lk 258 207 (.iload 10) 0 0 (0) := ⟨2, 0, (congrArg (fun l => pm_look l 207) cq_258).trans rfl⟩
theorem lk_258_209 : Lk 258 209 (.aload_n 0) 0 0 (0) := ⟨1, 0, (congrArg (fun l => pm_look l 209) cq_258).trans rfl⟩
theorem lk_258_210 : Lk 258 210 (.getfield 96) 12 46 (2) := ⟨3, 1303, (congrArg (fun l => pm_look l 210) cq_258).trans rfl⟩
theorem lk_258_213 : Lk 258 213 (.aload_n 0) 0 0 (0) := ⟨1, 0, (congrArg (fun l => pm_look l 213) cq_258).trans rfl⟩
theorem lk_258_214 : Lk 258 214 (.getfield 131) 12 62 (2) := ⟨3, 1319, (congrArg (fun l => pm_look l 214) cq_258).trans rfl⟩
theorem lk_258_217 : Lk 258 217 (.iload 9) 0 0 (0) := ⟨2, 0, (congrArg (fun l => pm_look l 217) cq_258).trans rfl⟩
theorem lk_258_219 : Lk 258 219 (.iaload) 0 0 (0) := ⟨1, 0, (congrArg (fun l => pm_look l 219) cq_258).trans rfl⟩
theorem lk_258_220 : Lk 258 220 (.aload_n 0) 0 0 (0) := ⟨1, 0, (congrArg (fun l => pm_look l 220) cq_258).trans rfl⟩
set_option maxRecDepth 100000 in
theorem lk_258_221 : Lk 258 221 (.getfield 134) 12 63 (2) := ⟨3, 1320, (congrArg (fun l => pm_look l 221) cq_258).trans rfl⟩
set_option maxRecDepth 100000 in
theorem lk_258_224 : Lk 258 224 (.iload 9) 0 0 (0) := ⟨2, 0, (congrArg (fun l => pm_look l 224) cq_258).trans rfl⟩
set_option maxRecDepth 100000 in
theorem lk_258_226 : Lk 258 226 (.iaload) 0 0 (0) := ⟨1, 0, (congrArg (fun l => pm_look l 226) cq_258).trans rfl⟩
set_option maxRecDepth 100000 in
theorem lk_258_227 : Lk 258 227 (.invokestatic 366) 233 0 (0) := ⟨3, 1733, (congrArg (fun l => pm_look l 227) cq_258).trans rfl⟩
set_option maxRecDepth 100000 in
theorem lk_258_230 : Lk 258 230 (.iaload) 0 0 (0) := ⟨1, 0, (congrArg (fun l => pm_look l 230) cq_258).trans rfl⟩
set_option maxRecDepth 100000 in
theorem lk_258_231 : Lk 258 231 (.iadd) 0 0 (0) := ⟨1, 0, (congrArg (fun l => pm_look l 231) cq_258).trans rfl⟩
set_option maxRecDepth 100000 in
theorem lk_258_232 : Lk 258 232 (.invokestatic 325) 170 0 (0) := ⟨3, 1663, (congrArg (fun l => pm_look l 232) cq_258).trans rfl⟩
set_option maxRecDepth 100000 in
theorem lk_258_235 : Lk 258 235 (.istore 4) 0 0 (0) := ⟨2, 0, (congrArg (fun l => pm_look l 235) cq_258).trans rfl⟩
set_option maxRecDepth 100000 in
theorem lk_258_237 : Lk 258 237 (.iinc 7 1) 0 0 (0) := ⟨3, 0, (congrArg (fun l => pm_look l 237) cq_258).trans rfl⟩
set_option maxRecDepth 100000 in
theorem lk_258_240 : Lk 258 240 (.goto (-176)) 0 0 (0) := ⟨3, 0, (congrArg (fun l => pm_look l 240) cq_258).trans rfl⟩
set_option maxRecDepth 100000 in
theorem lk_258_243 : Lk 258 243 (.iinc 6 1) 0 0 (0) := ⟨3, 0, (congrArg (fun l => pm_look l 243) cq_258).trans rfl⟩
set_option maxRecDepth 100000 in
theorem lk_258_246 : Lk 258 246 (.goto (-194)) 0 0 (0) := ⟨3, 0, (congrArg (fun l => pm_look l 246) cq_258).trans rfl⟩
set_option maxRecDepth 100000 in
theorem lk_258_249 : Lk 258 249 (.iload_n 3) 0 0 (0) := ⟨1, 0, (congrArg (fun l => pm_look l 249) cq_258).trans rfl⟩
set_option maxRecDepth 100000 in
theorem lk_258_250 : Lk 258 250 (.ifCond .ne 8) 0 0 (0) := ⟨3, 0, (congrArg (fun l => pm_look l 250) cq_258).trans rfl⟩
set_option maxRecDepth 100000 in
theorem lk_258_253 : Lk 258 253 (.iload 4) 0 0 (0) := ⟨2, 0, (congrArg (fun l => pm_look l 253) cq_258).trans rfl⟩
set_option maxRecDepth 100000 in
theorem lk_258_255 : Lk 258 255 (.goto 5) 0 0 (0) := ⟨3, 0, (congrArg (fun l => pm_look l 255) cq_258).trans rfl⟩
set_option maxRecDepth 100000 in
theorem lk_258_258 : Lk 258 258 (.iload 5) 0 0 (0) := ⟨2, 0, (congrArg (fun l => pm_look l 258) cq_258).trans rfl⟩
set_option maxRecDepth 100000 in
theorem lk_258_260 : Lk 258 260 (.ireturn) 0 0 (0) := ⟨1, 0, (congrArg (fun l => pm_look l 260) cq_258).trans rfl⟩
theorem cq_259 : pm_code 259 = cd_259 := rfl
theorem lk_259_0 : Lk 259 0 (.aload_n 0) 0 0 (0) := ⟨1, 0, (congrArg (fun l => pm_look l 0) cq_259).trans rfl⟩
theorem lk_259_1 : Lk 259 1 (.iconst 0) 0 0 (0) := ⟨1, 0, (congrArg (fun l => pm_look l 1) cq_259).trans rfl⟩
theorem lk_259_2 : Lk 259 2 (.putfield 143) 12 0 (0) := ⟨3, 1257, (congrArg (fun l => pm_look l 2) cq_259).trans rfl⟩
theorem lk_259_5 : Lk 259 5 (.aload_n 0) 0 0 (0) := ⟨1, 0, (congrArg (fun l => pm_look l 5) cq_259).trans rfl⟩
theorem lk_259_6 : Lk 259 6 (.iload_n 1) 0 0 (0) := ⟨1, 0, (congrArg (fun l => pm_look l 6) cq_259).trans rfl⟩
theorem lk_259_7 : Lk 259 7 (.invokevirtual 408) 173 0 (0) := ⟨3, 1787, (congrArg (fun l => pm_look l 7) cq_259).trans rfl⟩
theorem lk_259_10 : Lk 259 10 (.ifCond .eq 11) 0 0 (0) := ⟨3, 0, (congrArg (fun l => pm_look l 10) cq_259).trans rfl⟩
theorem lk_259_13 : Lk 259 13 (.aload_n 0) 0 0 (0) := ⟨1, 0, (congrArg (fun l => pm_look l 13) cq_259).trans rfl⟩
theorem lk_259_14 : Lk 259 14 (.iload_n 2) 0 0 (0) := ⟨1, 0, (congrArg (fun l => pm_look l 14) cq_259).trans rfl⟩
theorem lk_259_15 : Lk 259 15 (.invokevirtual 408) 173 0 (0) := ⟨3, 1787, (congrArg (fun l => pm_look l 15) cq_259).trans rfl⟩
theorem lk_259_18 : Lk 259 18 (.ifCond .ne 5) 0 0 (0) := ⟨3, 0, (congrArg (fun l => pm_look l 18) cq_259).trans rfl⟩
theorem lk_259_21 : Lk 259 21 (.iconst (-1)) 0 0 (0) := ⟨1, 0, (congrArg (fun l => pm_look l 21) cq_259).trans rfl⟩
theorem lk_259_22 : Lk 259 22 (.ireturn) 0 0 (0) := ⟨1, 0, (congrArg (fun l => pm_look l 22) cq_259).trans rfl⟩
theorem lk_259_23 : Lk 259 23 (.iconst 0) 0 0 (0) := ⟨1, 0, (congrArg (fun l => pm_look l 23) cq_259).trans rfl⟩
theorem lk_259_24 : Lk 259 24 (.istore_n 3) 0 0 (0) := ⟨1, 0, (congrArg (fun l => pm_look l 24) cq_259).trans rfl⟩
theorem lk_259_25 : Lk 259 25 (.iconst 0) 0 0 (0) := ⟨1, 0, (congrArg (fun l => pm_look l 25) cq_259).trans rfl⟩
theorem lk_259_26 : Lk 259 26 (.istore 4) 0 0 (0) := ⟨2, 0, (congrArg (fun l => pm_look l 26) cq_259).trans rfl⟩
theorem lk_259_28 : Lk 259 28 (.iload 4) 0 0 (0) := ⟨2, 0, (congrArg (fun l => pm_look l 28) cq_259).trans rfl⟩
theorem lk_259_30 : Lk 259 30 (.aload_n 0) 0 0 (0) := ⟨1, 0, (congrArg (fun l => pm_look l 30) cq_259).trans rfl⟩
theorem lk_259_31 : Lk 259 31 (.getfield 7) 12 1 (0) := ⟨3, 1258, (congrArg (fun l => pm_look l 31) cq_259).trans rfl⟩
theorem lk_259_34 : Lk 259 34 (.if_icmp .ge 80) 0 0 (0) := ⟨3, 0, (congrArg (fun l => pm_look l 34) cq_259).trans rfl⟩
theorem lk_259_37 : Lk 259 37 (.iconst 0) 0 0 (0) := ⟨1, 0, (congrArg (fun l => pm_look l 37) cq_259).trans rfl⟩
theorem lk_259_38 : Lk 259 38 (.istore 5) 0 0 (0) := ⟨2, 0, (congrArg (fun l => pm_look l 38) cq_259).trans rfl⟩
theorem lk_259_40 : Lk 259 40 (.iload 5) 0 0 (0) := ⟨2, 0, (congrArg (fun l => pm_look l 40) cq_259).trans rfl⟩
theorem lk_259_42 : Lk 259 42 (.aload_n 0) 0 0 (0) := ⟨1, 0, (congrArg (fun l => pm_look l 42) cq_259).trans rfl⟩
theorem lk_259_43 : Lk 259 43 (.getfield 13) 12 2 (0) := ⟨3, 1259, (congrArg (fun l => pm_look l 43) cq_259).trans rfl⟩
theorem lk_259_46 : Lk 259 46 (.if_icmp .ge 62) 0 0 (0) := ⟨3, 0, (congrArg (fun l => pm_look l 46) cq_259).trans rfl⟩
theorem lk_259_49 : Lk 259 49 (.aload_n 0) 0 0 (0) := ⟨1, 0, (congrArg (fun l => pm_look l 49) cq_259).trans rfl⟩
theorem lk_259_50 : Lk 259 50 (.getfield 38) 12 14 (2) := ⟨3, 1271, (congrArg (fun l => pm_look l 50) cq_259).trans rfl⟩
theorem lk_259_53 : Lk 259 53 (.bipush 31) 0 0 (0) := ⟨2, 0, (congrArg (fun l => pm_look l 53) cq_259).trans rfl⟩
theorem lk_259_55 : Lk 259 55 (.iload_n 1) 0 0 (0) := ⟨1, 0, (congrArg (fun l => pm_look l 55) cq_259).trans rfl⟩
theorem lk_259_56 : Lk 259 56 (.imul) 0 0 (0) := ⟨1, 0, (congrArg (fun l => pm_look l 56) cq_259).trans rfl⟩
theorem lk_259_57 : Lk 259 57 (.aload_n 0) 0 0 (0) := ⟨1, 0, (congrArg (fun l => pm_look l 57) cq_259).trans rfl⟩
theorem lk_259_58 : Lk 259 58 (.iload_n 1) 0 0 (0) := ⟨1, 0, (congrArg (fun l => pm_look l 58) cq_259).trans rfl⟩
theorem lk_259_59 : Lk 259 59 (.iload 4) 0 0 (0) := ⟨2, 0, (congrArg (fun l => pm_look l 59) cq_259).trans rfl⟩
theorem lk_259_61 : Lk 259 61 (.iload 5) 0 0 (0) := ⟨2, 0, (congrArg (fun l => pm_look l 61) cq_259).trans rfl⟩
theorem lk_259_63 : Lk 259 63 (.invokevirtual 414) 247 0 (0) := ⟨3, 1791, (congrArg (fun l => pm_look l 63) cq_259).trans rfl⟩
theorem lk_259_66 : Lk 259 66 (.iadd) 0 0 (0) := ⟨1, 0, (congrArg (fun l => pm_look l 66) cq_259).trans rfl⟩
theorem lk_259_67 : Lk 259 67 (.iaload) 0 0 (0) := ⟨1, 0, (congrArg (fun l => pm_look l 67) cq_259).trans rfl⟩
theorem lk_259_68 : Lk 259 68 (.istore 6) 0 0 (0) := ⟨2, 0, (congrArg (fun l => pm_look l 68) cq_259).trans rfl⟩
theorem lk_259_70 : Lk 259 70 (.iload_n 3) 0 0 (0) := ⟨1, 0, (congrArg (fun l => pm_look l 70) cq_259).trans rfl⟩
theorem lk_259_71 : Lk 259 71 (.iload 6) 0 0 (0) := ⟨2, 0, (congrArg (fun l => pm_look l 71) cq_259).trans rfl⟩
theorem lk_259_73 : Lk 259 73 (.aload_n 0) 0 0 (0) := ⟨1, 0, (congrArg (fun l => pm_look l 73) cq_259).trans rfl⟩
theorem lk_259_74 : Lk 259 74 (.getfield 38) 12 14 (2) := ⟨3, 1271, (congrArg (fun l => pm_look l 74) cq_259).trans rfl⟩
theorem lk_259_77 : Lk 259 77 (.bipush 31) 0 0 (0) := ⟨2, 0, (congrArg (fun l => pm_look l 77) cq_259).trans rfl⟩
theorem lk_259_79 : Lk 259 79 (.iload_n 2) 0 0 (0) := ⟨1, 0, (congrArg (fun l => pm_look l 79) cq_259).trans rfl⟩
theorem lk_259_80 : Lk 259 80 (.imul) 0 0 (0) := ⟨1, 0, (congrArg (fun l => pm_look l 80) cq_259).trans rfl⟩
theorem lk_259_81 : Lk 259 81 (.aload_n 0) 0 0 (0) := ⟨1, 0, (congrArg (fun l => pm_look l 81) cq_259).trans rfl⟩
theorem lk_259_82 : Lk 259 82 (.iload_n 2) 0 0 (0) := ⟨1, 0, (congrArg (fun l => pm_look l 82) cq_259).trans rfl⟩
theorem lk_259_83 : Lk 259 83 (.iload 4) 0 0 (0) := ⟨2, 0, (congrArg (fun l => pm_look l 83) cq_259).trans rfl⟩
theorem lk_259_85 : Lk 259 85 (.iload 5) 0 0 (0) := ⟨2, 0, (congrArg (fun l => pm_look l 85) cq_259).trans rfl⟩
theorem lk_259_87 : Lk 259 87 (.invokevirtual 414) 247 0 (0) := ⟨3, 1791, (congrArg (fun l => pm_look l 87) cq_259).trans rfl⟩
theorem lk_259_90 : Lk 259 90 (.iadd) 0 0 (0) := ⟨1, 0, (congrArg (fun l => pm_look l 90) cq_259).trans rfl⟩
theorem lk_259_91 : Lk 259 91 (.iaload) 0 0 (0) := ⟨1, 0, (congrArg (fun l => pm_look l 91) cq_259).trans rfl⟩
theorem lk_259_92 : Lk 259 92 (.if_icmp .eq 7) 0 0 (0) := ⟨3, 0, (congrArg (fun l => pm_look l 92) cq_259).trans rfl⟩
theorem lk_259_95 : Lk 259 95 (.iconst 1) 0 0 (0) := ⟨1, 0, (congrArg (fun l => pm_look l 95) cq_259).trans rfl⟩
theorem lk_259_96 : Lk 259 96 (.goto 4) 0 0 (0) := ⟨3, 0, (congrArg (fun l => pm_look l 96) cq_259).trans rfl⟩
theorem lk_259_99 : Lk 259 99 (.iconst 0) 0 0 (0) := ⟨1, 0, (congrArg (fun l => pm_look l 99) cq_259).trans rfl⟩
theorem lk_259_100 : Lk 259 100 (.iadd) 0 0 (0) := ⟨1, 0, (congrArg (fun l => pm_look l 100) cq_259).trans rfl⟩
theorem lk_259_101 : Lk 259 101 (.istore_n 3) 0 0 (0) := ⟨1, 0, (congrArg (fun l => pm_look l 101) cq_259).trans rfl⟩
theorem lk_259_102 : Lk 259 102 (.iinc 5 1) 0 0 (0) := ⟨3, 0, (congrArg (fun l => pm_look l 102) cq_259).trans rfl⟩
theorem lk_259_105 : Lk 259 105 (.goto (-65)) 0 0 (0) := ⟨3, 0, (congrArg (fun l => pm_look l 105) cq_259).trans rfl⟩
theorem lk_259_108 : Lk 259 108 (.iinc 4 1) 0 0 (0) := ⟨3, 0, (congrArg (fun l => pm_look l 108) cq_259).trans rfl⟩
theorem lk_259_111 : Lk 259 111 (.goto (-83)) 0 0 (0) := ⟨3, 0, (congrArg (fun l => pm_look l 111) cq_259).trans rfl⟩
theorem lk_259_114 : Lk 259 114 (.iload_n 3) 0 0 (0) := ⟨1, 0, (congrArg (fun l => pm_look l 114) cq_259).trans rfl⟩
theorem lk_259_115 : Lk 259 115 (.ireturn) 0 0 (0) := ⟨1, 0, (congrArg (fun l => pm_look l 115) cq_259).trans rfl⟩
theorem cq_260 : pm_code 260 = cd_260 := rfl
theorem lk_260_0 : Lk 260 0 (.aload_n 0) 0 0 (0) := ⟨1, 0, (congrArg (fun l => pm_look l 0) cq_260).trans rfl⟩
theorem lk_260_1 : Lk 260 1 (.getfield 260) 12 70 (0) := ⟨3, 1327, (congrArg (fun l => pm_look l 1) cq_260).trans rfl⟩
theorem lk_260_4 : Lk 260 4 (.bipush 12) 0 0 (0) := ⟨2, 0, (congrArg (fun l => pm_look l 4) cq_260).trans rfl⟩
theorem lk_260_6 : Lk 260 6 (.if_icmp .ne 55) 0 0 (0) := ⟨3, 0, (congrArg (fun l => pm_look l 6) cq_260).trans rfl⟩
theorem lk_260_9 : Lk 260 9 (.iconst 1) 0 0 (0) := ⟨1, 0, (congrArg (fun l => pm_look l 9) cq_260).trans rfl⟩
theorem lk_260_10 : Lk 260 10 (.istore_n 3) 0 0 (0) := ⟨1, 0, (congrArg (fun l => pm_look l 10) cq_260).trans rfl⟩
theorem lk_260_11 : Lk 260 11 (.iload_n 3) 0 0 (0) := ⟨1, 0, (congrArg (fun l => pm_look l 11) cq_260).trans rfl⟩
theorem lk_260_12 : Lk 260 12 (.bipush 12) 0 0 (0) := ⟨2, 0, (congrArg (fun l => pm_look l 12) cq_260).trans rfl⟩
theorem lk_260_14 : Lk 260 14 (.if_icmp .ge 37) 0 0 (0) := ⟨3, 0, (congrArg (fun l => pm_look l 14) cq_260).trans rfl⟩
theorem lk_260_17 : Lk 260 17 (.aload_n 0) 0 0 (0) := ⟨1, 0, (congrArg (fun l => pm_look l 17) cq_260).trans rfl⟩
theorem lk_260_18 : Lk 260 18 (.getfield 137) 12 68 (2) := ⟨3, 1325, (congrArg (fun l => pm_look l 18) cq_260).trans rfl⟩
theorem lk_260_21 : Lk 260 21 (.iload_n 3) 0 0 (0) := ⟨1, 0, (congrArg (fun l => pm_look l 21) cq_260).trans rfl⟩
theorem lk_260_22 : Lk 260 22 (.iconst 1) 0 0 (0) := ⟨1, 0, (congrArg (fun l => pm_look l 22) cq_260).trans rfl⟩
theorem lk_260_23 : Lk 260 23 (.isub) 0 0 (0) := ⟨1, 0, (congrArg (fun l => pm_look l 23) cq_260).trans rfl⟩
theorem lk_260_24 : Lk 260 24 (.aload_n 0) 0 0 (0) := ⟨1, 0, (congrArg (fun l => pm_look l 24) cq_260).trans rfl⟩
theorem lk_260_25 : Lk 260 25 (.getfield 137) 12 68 (2) := ⟨3, 1325, (congrArg (fun l => pm_look l 25) cq_260).trans rfl⟩
theorem lk_260_28 : Lk 260 28 (.iload_n 3) 0 0 (0) := ⟨1, 0, (congrArg (fun l => pm_look l 28) cq_260).trans rfl⟩
theorem lk_260_29 : Lk 260 29 (.iaload) 0 0 (0) := ⟨1, 0, (congrArg (fun l => pm_look l 29) cq_260).trans rfl⟩
theorem lk_260_30 : Lk 260 30 (.iastore) 0 0 (0) := ⟨1, 0, (congrArg (fun l => pm_look l 30) cq_260).trans rfl⟩
theorem lk_260_31 : Lk 260 31 (.aload_n 0) 0 0 (0) := ⟨1, 0, (congrArg (fun l => pm_look l 31) cq_260).trans rfl⟩
theorem lk_260_32 : Lk 260 32 (.getfield 140) 12 69 (2) := ⟨3, 1326, (congrArg (fun l => pm_look l 32) cq_260).trans rfl⟩
theorem lk_260_35 : Lk 260 35 (.iload_n 3) 0 0 (0) := ⟨1, 0, (congrArg (fun l => pm_look l 35) cq_260).trans rfl⟩
theorem lk_260_36 : Lk 260 36 (.iconst 1) 0 0 (0) := ⟨1, 0, (congrArg (fun l => pm_look l 36) cq_260).trans rfl⟩
theorem lk_260_37 : Lk 260 37 (.isub) 0 0 (0) := ⟨1, 0, (congrArg (fun l => pm_look l 37) cq_260).trans rfl⟩
theorem lk_260_38 : Lk 260 38 (.aload_n 0) 0 0 (0) := ⟨1, 0, (congrArg (fun l => pm_look l 38) cq_260).trans rfl⟩
theorem lk_260_39 : Lk 260 39 (.getfield 140) 12 69 (2) := ⟨3, 1326, (congrArg (fun l => pm_look l 39) cq_260).trans rfl⟩
theorem lk_260_42 : Lk 260 42 (.iload_n 3) 0 0 (0) := ⟨1, 0, (congrArg (fun l => pm_look l 42) cq_260).trans rfl⟩
theorem lk_260_43 : Lk 260 43 (.iaload) 0 0 (0) := ⟨1, 0, (congrArg (fun l => pm_look l 43) cq_260).trans rfl⟩
theorem lk_260_44 : Lk 260 44 (.iastore) 0 0 (0) := ⟨1, 0, (congrArg (fun l => pm_look l 44) cq_260).trans rfl⟩
theorem lk_260_45 : Lk 260 45 (.iinc 3 1) 0 0 (0) := ⟨3, 0, (congrArg (fun l => pm_look l 45) cq_260).trans rfl⟩
theorem lk_260_48 : Lk 260 48 (.goto (-37)) 0 0 (0) := ⟨3, 0, (congrArg (fun l => pm_look l 48) cq_260).trans rfl⟩
theorem lk_260_51 : Lk 260 51 (.aload_n 0) 0 0 (0) := ⟨1, 0, (congrArg (fun l => pm_look l 51) cq_260).trans rfl⟩
theorem lk_260_52 : Lk 260 52 (.dup) 0 0 (0) := ⟨1, 0, (congrArg (fun l => pm_look l 52) cq_260).trans rfl⟩
theorem lk_260_53 : Lk 260 53 (.getfield 260) 12 70 (0) := ⟨3, 1327, (congrArg (fun l => pm_look l 53) cq_260).trans rfl⟩
theorem lk_260_56 : Lk 260 56 (.iconst 1) 0 0 (0) := ⟨1, 0, (congrArg (fun l => pm_look l 56) cq_260).trans rfl⟩
theorem lk_260_57 : Lk 260 57 (.isub) 0 0 (0) := ⟨1, 0, (congrArg (fun l => pm_look l 57) cq_260).trans rfl⟩
theorem lk_260_58 : Lk 260 58 (.putfield 260) 12 70 (0) := ⟨3, 1327, (congrArg (fun l => pm_look l 58) cq_260).trans rfl⟩
theorem lk_260_61 : Lk 260 61 (.aload_n 0) 0 0 (0) := ⟨1, 0, (congrArg (fun l => pm_look l 61) cq_260).trans rfl⟩
theorem lk_260_62 : Lk 260 62 (.getfield 137) 12 68 (2) := ⟨3, 1325, (congrArg (fun l => pm_look l 62) cq_260).trans rfl⟩
theorem lk_260_65 : Lk 260 65 (.aload_n 0) 0 0 (0) := ⟨1, 0, (congrArg (fun l => pm_look l 65) cq_260).trans rfl⟩
theorem lk_260_66 : Lk 260 66 (.getfield 260) 12 70 (0) := ⟨3, 1327, (congrArg (fun l => pm_look l 66) cq_260).trans rfl⟩
theorem lk_260_69 : Lk 260 69 (.iload_n 1) 0 0 (0) := ⟨1, 0, (congrArg (fun l => pm_look l 69) cq_260).trans rfl⟩
theorem lk_260_70 : Lk 260 70 (.iastore) 0 0 (0) := ⟨1, 0, (congrArg (fun l => pm_look l 70) cq_260).trans rfl⟩
theorem lk_260_71 : Lk 260 71 (.aload_n 0) 0 0 (0) := ⟨1, 0, (congrArg (fun l => pm_look l 71) cq_260).trans rfl⟩
theorem lk_260_72 : Lk 260 72 (.getfield 140) 12 69 (2) := ⟨3, 1326, (congrArg (fun l => pm_look l 72) cq_260).trans rfl⟩
theorem lk_260_75 : Lk 260 75 (.aload_n 0) 0 0 (0) := ⟨1, 0, (congrArg (fun l => pm_look l 75) cq_260).trans rfl⟩
theorem lk_260_76 : Lk 260 76 (.getfield 260) 12 70 (0) := ⟨3, 1327, (congrArg (fun l => pm_look l 76) cq_260).trans rfl⟩
theorem lk_260_79 : Lk 260 79 (.iload_n 2) 0 0 (0) := ⟨1, 0, (congrArg (fun l => pm_look l 79) cq_260).trans rfl⟩
theorem lk_260_80 : Lk 260 80 (.iastore) 0 0 (0) := ⟨1, 0, (congrArg (fun l => pm_look l 80) cq_260).trans rfl⟩
theorem lk_260_81 : Lk 260 81 (.aload_n 0) 0 0 (0) := ⟨1, 0, (congrArg (fun l => pm_look l 81) cq_260).trans rfl⟩
theorem lk_260_82 : Lk 260 82 (.dup) 0 0 (0) := ⟨1, 0, (congrArg (fun l => pm_look l 82) cq_260).trans rfl⟩
theorem lk_260_83 : Lk 260 83 (.getfield 260) 12 70 (0) := ⟨3, 1327, (congrArg (fun l => pm_look l 83) cq_260).trans rfl⟩
theorem lk_260_86 : Lk 260 86 (.iconst 1) 0 0 (0) := ⟨1, 0, (congrArg (fun l => pm_look l 86) cq_260).trans rfl⟩
theorem lk_260_87 : Lk 260 87 (.iadd) 0 0 (0) := ⟨1, 0, (congrArg (fun l => pm_look l 87) cq_260).trans rfl⟩
theorem lk_260_88 : Lk 260 88 (.putfield 260) 12 70 (0) := ⟨3, 1327, (congrArg (fun l => pm_look l 88) cq_260).trans rfl⟩
theorem lk_260_91 : Lk 260 91 (.return_) 0 0 (0) := ⟨1, 0, (congrArg (fun l => pm_look l 91) cq_260).trans rfl⟩
theorem cq_261 : pm_code 261 = cd_261 := rfl
theorem lk_261_0 : Lk 261 0 (.aload_n 0) 0 0 (0) := ⟨1, 0, (congrArg (fun l => pm_look l 0) cq_261).trans rfl⟩
theorem lk_261_1 : Lk 261 1 (.iconst 0) 0 0 (0) := ⟨1, 0, (congrArg (fun l => pm_look l 1) cq_261).trans rfl⟩
theorem lk_261_2 : Lk 261 2 (.putfield 143) 12 0 (0) := ⟨3, 1257, (congrArg (fun l => pm_look l 2) cq_261).trans rfl⟩
theorem lk_261_5 : Lk 261 5 (.aload_n 0) 0 0 (0) := ⟨1, 0, (congrArg (fun l => pm_look l 5) cq_261).trans rfl⟩
theorem lk_261_6 : Lk 261 6 (.iload_n 1) 0 0 (0) := ⟨1, 0, (congrArg (fun l => pm_look l 6) cq_261).trans rfl⟩
theorem lk_261_7 : Lk 261 7 (.iload_n 2) 0 0 (0) := ⟨1, 0, (congrArg (fun l => pm_look l 7) cq_261).trans rfl⟩
theorem lk_261_8 : Lk 261 8 (.invokevirtual 291) 172 0 (0) := ⟨3, 1598, (congrArg (fun l => pm_look l 8) cq_261).trans rfl⟩
theorem lk_261_11 : Lk 261 11 (.ifCond .eq 23) 0 0 (0) := ⟨3, 0, (congrArg (fun l => pm_look l 11) cq_261).trans rfl⟩
theorem lk_261_14 : Lk 261 14 (.iload_n 3) 0 0 (0) := ⟨1, 0, (congrArg (fun l => pm_look l 14) cq_261).trans rfl⟩
theorem lk_261_15 : Lk 261 15 (.iconst 0) 0 0 (0) := ⟨1, 0, (congrArg (fun l => pm_look l 15) cq_261).trans rfl⟩
theorem lk_261_16 : Lk 261 16 (.bipush 10) 0 0 (0) := ⟨2, 0, (congrArg (fun l => pm_look l 16) cq_261).trans rfl⟩
theorem lk_261_18 : Lk 261 18 (.invokestatic 146) 167 0 (0) := ⟨3, 1483, (congrArg (fun l => pm_look l 18) cq_261).trans rfl⟩
theorem lk_261_21 : Lk 261 21 (.ifCond .eq 13) 0 0 (0) := ⟨3, 0, (congrArg (fun l => pm_look l 21) cq_261).trans rfl⟩
theorem lk_261_24 : Lk 261 24 (.aload_n 0) 0 0 (0) := ⟨1, 0, (congrArg (fun l => pm_look l 24) cq_261).trans rfl⟩
theorem lk_261_25 : Lk 261 25 (.iload_n 1) 0 0 (0) := ⟨1, 0, (congrArg (fun l => pm_look l 25) cq_261).trans rfl⟩
theorem lk_261_26 : Lk 261 26 (.iload_n 2) 0 0 (0) := ⟨1, 0, (congrArg (fun l => pm_look l 26) cq_261).trans rfl⟩
theorem lk_261_27 : Lk 261 27 (.invokevirtual 270) 174 0 (0) := ⟨3, 1586, (congrArg (fun l => pm_look l 27) cq_261).trans rfl⟩
theorem lk_261_30 : Lk 261 30 (.iload_n 3) 0 0 (0) := ⟨1, 0, (congrArg (fun l => pm_look l 30) cq_261).trans rfl⟩
theorem lk_261_31 : Lk 261 31 (.if_icmp .ne 5) 0 0 (0) := ⟨3, 0, (congrArg (fun l => pm_look l 31) cq_261).trans rfl⟩
theorem lk_261_34 : Lk 261 34 (.iconst (-1)) 0 0 (0) := ⟨1, 0, (congrArg (fun l => pm_look l 34) cq_261).trans rfl⟩
theorem lk_261_35 : Lk 261 35 (.ireturn) 0 0 (0) := ⟨1, 0, (congrArg (fun l => pm_look l 35) cq_261).trans rfl⟩
theorem lk_261_36 : Lk 261 36 (.aload_n 0) 0 0 (0) := ⟨1, 0, (congrArg (fun l => pm_look l 36) cq_261).trans rfl⟩
theorem lk_261_37 : Lk 261 37 (.iload_n 1) 0 0 (0) := ⟨1, 0, (congrArg (fun l => pm_look l 37) cq_261).trans rfl⟩
theorem lk_261_38 : Lk 261 38 (.iload_n 2) 0 0 (0) := ⟨1, 0, (congrArg (fun l => pm_look l 38) cq_261).trans rfl⟩
theorem lk_261_39 : Lk 261 39 (.invokevirtual 270) 174 0 (0) := ⟨3, 1586, (congrArg (fun l => pm_look l 39) cq_261).trans rfl⟩
theorem lk_261_42 : Lk 261 42 (.istore 4) 0 0 (0) := ⟨2, 0, (congrArg (fun l => pm_look l 42) cq_261).trans rfl⟩
theorem lk_261_44 : Lk 261 44 (.aload_n 0) 0 0 (0) := ⟨1, 0, (congrArg (fun l => pm_look l 44) cq_261).trans rfl⟩
theorem lk_261_45 : Lk 261 45 (.bipush 6) 0 0 (0) := ⟨2, 0, (congrArg (fun l => pm_look l 45) cq_261).trans rfl⟩
theorem lk_261_47 : Lk 261 47 (.iload_n 1) 0 0 (0) := ⟨1, 0, (congrArg (fun l => pm_look l 47) cq_261).trans rfl⟩
theorem lk_261_48 : Lk 261 48 (.imul) 0 0 (0) := ⟨1, 0, (congrArg (fun l => pm_look l 48) cq_261).trans rfl⟩
theorem lk_261_49 : Lk 261 49 (.iload_n 2) 0 0 (0) := ⟨1, 0, (congrArg (fun l => pm_look l 49) cq_261).trans rfl⟩
theorem lk_261_50 : Lk 261 50 (.iadd) 0 0 (0) := ⟨1, 0, (congrArg (fun l => pm_look l 50) cq_261).trans rfl⟩
theorem lk_261_51 : Lk 261 51 (.iload 4) 0 0 (0) := ⟨2, 0, (congrArg (fun l => pm_look l 51) cq_261).trans rfl⟩
theorem lk_261_53 : Lk 261 53 (.invokevirtual 438) 260 0 (0) := ⟨3, 1839, (congrArg (fun l => pm_look l 53) cq_261).trans rfl⟩
theorem lk_261_56 : Lk 261 56 (.aload_n 0) 0 0 (0) := ⟨1, 0, (congrArg (fun l => pm_look l 56) cq_261).trans rfl⟩
theorem lk_261_57 : Lk 261 57 (.getfield 16) 12 7 (2) := ⟨3, 1264, (congrArg (fun l => pm_look l 57) cq_261).trans rfl⟩
theorem lk_261_60 : Lk 261 60 (.bipush 6) 0 0 (0) := ⟨2, 0, (congrArg (fun l => pm_look l 60) cq_261).trans rfl⟩
theorem lk_261_62 : Lk 261 62 (.iload_n 1) 0 0 (0) := ⟨1, 0, (congrArg (fun l => pm_look l 62) cq_261).trans rfl⟩
theorem lk_261_63 : Lk 261 63 (.imul) 0 0 (0) := ⟨1, 0, (congrArg (fun l => pm_look l 63) cq_261).trans rfl⟩
theorem lk_261_64 : Lk 261 64 (.iload_n 2) 0 0 (0) := ⟨1, 0, (congrArg (fun l => pm_look l 64) cq_261).trans rfl⟩
theorem lk_261_65 : Lk 261 65 (.iadd) 0 0 (0) := ⟨1, 0, (congrArg (fun l => pm_look l 65) cq_261).trans rfl⟩
theorem lk_261_66 : Lk 261 66 (.iload_n 3) 0 0 (0) := ⟨1, 0, (congrArg (fun l => pm_look l 66) cq_261).trans rfl⟩
theorem lk_261_67 : Lk 261 67 (.iastore) 0 0 (0) := ⟨1, 0, (congrArg (fun l => pm_look l 67) cq_261).trans rfl⟩
theorem lk_261_68 : Lk 261 68 (.aload_n 0) 0 0 (0) := ⟨1, 0, (congrArg (fun l => pm_look l 68) cq_261).trans rfl⟩
theorem lk_261_69 : Lk 261 69 (.iconst 0) 0 0 (0) := ⟨1, 0, (congrArg (fun l => pm_look l 69) cq_261).trans rfl⟩
theorem lk_261_70 : Lk 261 70 (.putfield 263) 12 49 (0) := ⟨3, 1306, (congrArg (fun l => pm_look l 70) cq_261).trans rfl⟩
theorem lk_261_73 : Lk 261 73 (.iload 4) 0 0 (0) := ⟨2, 0, (congrArg (fun l => pm_look l 73) cq_261).trans rfl⟩
theorem lk_261_75 : Lk 261 75 (.ireturn) 0 0 (0) := ⟨1, 0, (congrArg (fun l => pm_look l 75) cq_261).trans rfl⟩
theorem cq_262 : pm_code 262 = cd_262 := rfl
theorem lk_262_0 : Lk 262 0 (.iconst 0) 0 0 (0) := ⟨1, 0, (congrArg (fun l => pm_look l 0) cq_262).trans rfl⟩
theorem lk_262_1 : Lk 262 1 (.istore_n 1) 0 0 (0) := ⟨1, 0, (congrArg (fun l => pm_look l 1) cq_262).trans rfl⟩
theorem lk_262_2 : Lk 262 2 (.iload_n 1) 0 0 (0) := ⟨1, 0, (congrArg (fun l => pm_look l 2) cq_262).trans rfl⟩
theorem lk_262_3 : Lk 262 3 (.bipush 6) 0 0 (0) := ⟨2, 0, (congrArg (fun l => pm_look l 3) cq_262).trans rfl⟩
theorem lk_262_5 : Lk 262 5 (.if_icmp .ge 68) 0 0 (0) := ⟨3, 0, (congrArg (fun l => pm_look l 5) cq_262).trans rfl⟩
theorem lk_262_8 : Lk 262 8 (.iconst 0) 0 0 (0) := ⟨1, 0, (congrArg (fun l => pm_look l 8) cq_262).trans rfl⟩
theorem lk_262_9 : Lk 262 9 (.istore_n 2) 0 0 (0) := ⟨1, 0, (congrArg (fun l => pm_look l 9) cq_262).trans rfl⟩
theorem lk_262_10 : Lk 262 10 (.iload_n 2) 0 0 (0) := ⟨1, 0, (congrArg (fun l => pm_look l 10) cq_262).trans rfl⟩
theorem lk_262_11 : Lk 262 11 (.iload_n 1) 0 0 (0) := ⟨1, 0, (congrArg (fun l => pm_look l 11) cq_262).trans rfl⟩
theorem lk_262_12 : Lk 262 12 (.if_icmp .ge 55) 0 0 (0) := ⟨3, 0, (congrArg (fun l => pm_look l 12) cq_262).trans rfl⟩
theorem lk_262_15 : Lk 262 15 (.aload_n 0) 0 0 (0) := ⟨1, 0, (congrArg (fun l => pm_look l 15) cq_262).trans rfl⟩
theorem lk_262_16 : Lk 262 16 (.getfield 16) 12 7 (2) := ⟨3, 1264, (congrArg (fun l => pm_look l 16) cq_262).trans rfl⟩
theorem lk_262_19 : Lk 262 19 (.bipush 6) 0 0 (0) := ⟨2, 0, (congrArg (fun l => pm_look l 19) cq_262).trans rfl⟩
theorem lk_262_21 : Lk 262 21 (.iload_n 1) 0 0 (0) := ⟨1, 0, (congrArg (fun l => pm_look l 21) cq_262).trans rfl⟩
theorem lk_262_22 : Lk 262 22 (.imul) 0 0 (0) := ⟨1, 0, (congrArg (fun l => pm_look l 22) cq_262).trans rfl⟩
theorem lk_262_23 : Lk 262 23 (.iload_n 2) 0 0 (0) := ⟨1, 0, (congrArg (fun l => pm_look l 23) cq_262).trans rfl⟩
theorem lk_262_24 : Lk 262 24 (.iadd) 0 0 (0) := ⟨1, 0, (congrArg (fun l => pm_look l 24) cq_262).trans rfl⟩
theorem lk_262_25 : Lk 262 25 (.iaload) 0 0 (0) := ⟨1, 0, (congrArg (fun l => pm_look l 25) cq_262).trans rfl⟩
theorem lk_262_26 : Lk 262 26 (.istore_n 3) 0 0 (0) := ⟨1, 0, (congrArg (fun l => pm_look l 26) cq_262).trans rfl⟩
theorem lk_262_27 : Lk 262 27 (.aload_n 0) 0 0 (0) := ⟨1, 0, (congrArg (fun l => pm_look l 27) cq_262).trans rfl⟩
theorem lk_262_28 : Lk 262 28 (.getfield 16) 12 7 (2) := ⟨3, 1264, (congrArg (fun l => pm_look l 28) cq_262).trans rfl⟩
theorem lk_262_31 : Lk 262 31 (.bipush 6) 0 0 (0) := ⟨2, 0, (congrArg (fun l => pm_look l 31) cq_262).trans rfl⟩
theorem lk_262_33 : Lk 262 33 (.iload_n 1) 0 0 (0) := ⟨1, 0, (congrArg (fun l => pm_look l 33) cq_262).trans rfl⟩
theorem lk_262_34 : Lk 262 34 (.imul) 0 0 (0) := ⟨1, 0, (congrArg (fun l => pm_look l 34) cq_262).trans rfl⟩
theorem lk_262_35 : Lk 262 35 (.iload_n 2) 0 0 (0) := ⟨1, 0, (congrArg (fun l => pm_look l 35) cq_262).trans rfl⟩
theorem lk_262_36 : Lk 262 36 (.iadd) 0 0 (0) := ⟨1, 0, (congrArg (fun l => pm_look l 36) cq_262).trans rfl⟩
theorem lk_262_37 : Lk 262 37 (.aload_n 0) 0 0 (0) := ⟨1, 0, (congrArg (fun l => pm_look l 37) cq_262).trans rfl⟩
theorem lk_262_38 : Lk 262 38 (.getfield 16) 12 7 (2) := ⟨3, 1264, (congrArg (fun l => pm_look l 38) cq_262).trans rfl⟩
theorem lk_262_41 : Lk 262 41 (.bipush 6) 0 0 (0) := ⟨2, 0, (congrArg (fun l => pm_look l 41) cq_262).trans rfl⟩
theorem lk_262_43 : Lk 262 43 (.iload_n 2) 0 0 (0) := ⟨1, 0, (congrArg (fun l => pm_look l 43) cq_262).trans rfl⟩
theorem lk_262_44 : Lk 262 44 (.imul) 0 0 (0) := ⟨1, 0, (congrArg (fun l => pm_look l 44) cq_262).trans rfl⟩
theorem lk_262_45 : Lk 262 45 (.iload_n 1) 0 0 (0) := ⟨1, 0, (congrArg (fun l => pm_look l 45) cq_262).trans rfl⟩
theorem lk_262_46 : Lk 262 46 (.iadd) 0 0 (0) := ⟨1, 0, (congrArg (fun l => pm_look l 46) cq_262).trans rfl⟩
theorem lk_262_47 : Lk 262 47 (.iaload) 0 0 (0) := ⟨1, 0, (congrArg (fun l => pm_look l 47) cq_262).trans rfl⟩
theorem lk_262_48 : Lk 262 48 (.iastore) 0 0 (0) := ⟨1, 0, (congrArg (fun l => pm_look l 48) cq_262).trans rfl⟩
theorem lk_262_49 : Lk 262 49 (.aload_n 0) 0 0 (0) := ⟨1, 0, (congrArg (fun l => pm_look l 49) cq_262).trans rfl⟩
theorem lk_262_50 : Lk 262 50 (.getfield 16) 12 7 (2) := ⟨3, 1264, (congrArg (fun l => pm_look l 50) cq_262).trans rfl⟩
theorem lk_262_53 : Lk 262 53 (.bipush 6) 0 0 (0) := ⟨2, 0, (congrArg (fun l => pm_look l 53) cq_262).trans rfl⟩
theorem lk_262_55 : Lk 262 55 (.iload_n 2) 0 0 (0) := ⟨1, 0, (congrArg (fun l => pm_look l 55) cq_262).trans rfl⟩
theorem lk_262_56 : Lk 262 56 (.imul) 0 0 (0) := ⟨1, 0, (congrArg (fun l => pm_look l 56) cq_262).trans rfl⟩
theorem lk_262_57 : Lk 262 57 (.iload_n 1) 0 0 (0) := ⟨1, 0, (congrArg (fun l => pm_look l 57) cq_262).trans rfl⟩
theorem lk_262_58 : Lk 262 58 (.iadd) 0 0 (0) := ⟨1, 0, (congrArg (fun l => pm_look l 58) cq_262).trans rfl⟩
theorem lk_262_59 : Lk 262 59 (.iload_n 3) 0 0 (0) := ⟨1, 0, (congrArg (fun l => pm_look l 59) cq_262).trans rfl⟩
theorem lk_262_60 : Lk 262 60 (.iastore) 0 0 (0) := ⟨1, 0, (congrArg (fun l => pm_look l 60) cq_262).trans rfl⟩
theorem lk_262_61 : Lk 262 61 (.iinc 2 1) 0 0 (0) := ⟨3, 0, (congrArg (fun l => pm_look l 61) cq_262).trans rfl⟩
theorem lk_262_64 : Lk 262 64 (.goto (-54)) 0 0 (0) := ⟨3, 0, (congrArg (fun l => pm_look l 64) cq_262).trans rfl⟩
theorem lk_262_67 : Lk 262 67 (.iinc 1 1) 0 0 (0) := ⟨3, 0, (congrArg (fun l => pm_look l 67) cq_262).trans rfl⟩
theorem lk_262_70 : Lk 262 70 (.goto (-68)) 0 0 (0) := ⟨3, 0, (congrArg (fun l => pm_look l 70) cq_262).trans rfl⟩
theorem lk_262_73 : Lk 262 73 (.aload_n 0) 0 0 (0) := ⟨1, 0, (congrArg (fun l => pm_look l 73) cq_262).trans rfl⟩
theorem lk_262_74 : Lk 262 74 (.getfield 7) 12 1 (0) := ⟨3, 1258, (congrArg (fun l => pm_look l 74) cq_262).trans rfl⟩
theorem lk_262_77 : Lk 262 77 (.istore_n 1) 0 0 (0) := ⟨1, 0, (congrArg (fun l => pm_look l 77) cq_262).trans rfl⟩
theorem lk_262_78 : Lk 262 78 (.aload_n 0) 0 0 (0) := ⟨1, 0, (congrArg (fun l => pm_look l 78) cq_262).trans rfl⟩
theorem lk_262_79 : Lk 262 79 (.aload_n 0) 0 0 (0) := ⟨1, 0, (congrArg (fun l => pm_look l 79) cq_262).trans rfl⟩
theorem lk_262_80 : Lk 262 80 (.getfield 13) 12 2 (0) := ⟨3, 1259, (congrArg (fun l => pm_look l 80) cq_262).trans rfl⟩
theorem lk_262_83 : Lk 262 83 (.putfield 7) 12 1 (0) := ⟨3, 1258, (congrArg (fun l => pm_look l 83) cq_262).trans rfl⟩
theorem lk_262_86 : Lk 262 86 (.aload_n 0) 0 0 (0) := ⟨1, 0, (congrArg (fun l => pm_look l 86) cq_262).trans rfl⟩
theorem lk_262_87 : Lk 262 87 (.iload_n 1) 0 0 (0) := ⟨1, 0, (congrArg (fun l => pm_look l 87) cq_262).trans rfl⟩
theorem lk_262_88 : Lk 262 88 (.putfield 13) 12 2 (0) := ⟨3, 1259, (congrArg (fun l => pm_look l 88) cq_262).trans rfl⟩
theorem lk_262_91 : Lk 262 91 (.aload_n 0) 0 0 (0) := ⟨1, 0, (congrArg (fun l => pm_look l 91) cq_262).trans rfl⟩
theorem lk_262_92 : Lk 262 92 (.getfield 26) 12 10 (2) := ⟨3, 1267, (congrArg (fun l => pm_look l 92) cq_262).trans rfl⟩
theorem lk_262_95 : Lk 262 95 (.iconst 1) 0 0 (0) := ⟨1, 0, (congrArg (fun l => pm_look l 95) cq_262).trans rfl⟩
theorem lk_262_96 : Lk 262 96 (.iaload) 0 0 (0) := ⟨1, 0, (congrArg (fun l => pm_look l 96) cq_262).trans rfl⟩
theorem lk_262_97 : Lk 262 97 (.istore_n 1) 0 0 (0) := ⟨1, 0, (congrArg (fun l => pm_look l 97) cq_262).trans rfl⟩
theorem lk_262_98 : Lk 262 98 (.aload_n 0) 0 0 (0) := ⟨1, 0, (congrArg (fun l => pm_look l 98) cq_262).trans rfl⟩
theorem lk_262_99 : Lk 262 99 (.getfield 26) 12 10 (2) := ⟨3, 1267, (congrArg (fun l => pm_look l 99) cq_262).trans rfl⟩
theorem lk_262_102 : Lk 262 102 (.iconst 1) 0 0 (0) := ⟨1, 0, (congrArg (fun l => pm_look l 102) cq_262).trans rfl⟩
theorem lk_262_103 : Lk 262 103 (.aload_n 0) 0 0 (0) := ⟨1, 0, (congrArg (fun l => pm_look l 103) cq_262).trans rfl⟩
theorem lk_262_104 : Lk 262 104 (.getfield 26) 12 10 (2) := ⟨3, 1267, (congrArg (fun l => pm_look l 104) cq_262).trans rfl⟩
theorem lk_262_107 : Lk 262 107 (.iconst 2) 0 0 (0) := ⟨1, 0, (congrArg (fun l => pm_look l 107) cq_262).trans rfl⟩
theorem lk_262_108 : Lk 262 108 (.iaload) 0 0 (0) := ⟨1, 0, (congrArg (fun l => pm_look l 108) cq_262).trans rfl⟩
theorem lk_262_109 : Lk 262 109 (.iastore) 0 0 (0) := ⟨1, 0, (congrArg (fun l => pm_look l 109) cq_262).trans rfl⟩
theorem lk_262_110 : Lk 262 110 (.aload_n 0) 0 0 (0) := ⟨1, 0, (congrArg (fun l => pm_look l 110) cq_262).trans rfl⟩
theorem lk_262_111 : Lk 262 111 (.getfield 26) 12 10 (2) := ⟨3, 1267, (congrArg (fun l => pm_look l 111) cq_262).trans rfl⟩
theorem lk_262_114 : Lk 262 114 (.iconst 2) 0 0 (0) := ⟨1, 0, (congrArg (fun l => pm_look l 114) cq_262).trans rfl⟩
theorem lk_262_115 : Lk 262 115 (.iload_n 1) 0 0 (0) := ⟨1, 0, (congrArg (fun l => pm_look l 115) cq_262).trans rfl⟩
theorem lk_262_116 : Lk 262 116 (.iastore) 0 0 (0) := ⟨1, 0, (congrArg (fun l => pm_look l 116) cq_262).trans rfl⟩
theorem lk_262_117 : Lk 262 117 (.iconst 0) 0 0 (0) := ⟨1, 0, (congrArg (fun l => pm_look l 117) cq_262).trans rfl⟩
theorem lk_262_118 : Lk 262 118 (.istore_n 2) 0 0 (0) := ⟨1, 0, (congrArg (fun l => pm_look l 118) cq_262).trans rfl⟩
theorem lk_262_119 : Lk 262 119 (.iload_n 2) 0 0 (0) := ⟨1, 0, (congrArg (fun l => pm_look l 119) cq_262).trans rfl⟩
theorem lk_262_120 : Lk 262 120 (.bipush 124) 0 0 (0) := ⟨2, 0, (congrArg (fun l => pm_look l 120) cq_262).trans rfl⟩
theorem lk_262_122 : Lk 262 122 (.if_icmp .ge 36) 0 0 (0) := ⟨3, 0, (congrArg (fun l => pm_look l 122) cq_262).trans rfl⟩
theorem lk_262_125 : Lk 262 125 (.aload_n 0) 0 0 (0) := ⟨1, 0, (congrArg (fun l => pm_look l 125) cq_262).trans rfl⟩
theorem lk_262_126 : Lk 262 126 (.getfield 35) 12 13 (2) := ⟨3, 1270, (congrArg (fun l => pm_look l 126) cq_262).trans rfl⟩
theorem lk_262_129 : Lk 262 129 (.iload_n 2) 0 0 (0) := ⟨1, 0, (congrArg (fun l => pm_look l 129) cq_262).trans rfl⟩
theorem lk_262_130 : Lk 262 130 (.aload_n 0) 0 0 (0) := ⟨1, 0, (congrArg (fun l => pm_look l 130) cq_262).trans rfl⟩
theorem lk_262_131 : Lk 262 131 (.getfield 35) 12 13 (2) := ⟨3, 1270, (congrArg (fun l => pm_look l 131) cq_262).trans rfl⟩
theorem lk_262_134 : Lk 262 134 (.iload_n 2) 0 0 (0) := ⟨1, 0, (congrArg (fun l => pm_look l 134) cq_262).trans rfl⟩
theorem lk_262_135 : Lk 262 135 (.iaload) 0 0 (0) := ⟨1, 0, (congrArg (fun l => pm_look l 135) cq_262).trans rfl⟩
theorem lk_262_136 : Lk 262 136 (.ifCond .ne 7) 0 0 (0) := ⟨3, 0, (congrArg (fun l => pm_look l 136) cq_262).trans rfl⟩
theorem lk_262_139 : Lk 262 139 (.iconst 0) 0 0 (0) := ⟨1, 0, (congrArg (fun l => pm_look l 139) cq_262).trans rfl⟩
theorem lk_262_140 : Lk 262 140 (.goto 11) 0 0 (0) := ⟨3, 0, (congrArg (fun l => pm_look l 140) cq_262).trans rfl⟩
theorem lk_262_143 : Lk 262 143 (.iconst 3) 0 0 (0) := ⟨1, 0, (congrArg (fun l => pm_look l 143) cq_262).trans rfl⟩
theorem lk_262_144 : Lk 262 144 (.aload_n 0) 0 0 (0) := ⟨1, 0, (congrArg (fun l => pm_look l 144) cq_262).trans rfl⟩
theorem lk_262_145 : Lk 262 145 (.getfield 35) 12 13 (2) := ⟨3, 1270, (congrArg (fun l => pm_look l 145) cq_262).trans rfl⟩
theorem lk_262_148 : Lk 262 148 (.iload_n 2) 0 0 (0) := ⟨1, 0, (congrArg (fun l => pm_look l 148) cq_262).trans rfl⟩
theorem lk_262_149 : Lk 262 149 (.iaload) 0 0 (0) := ⟨1, 0, (congrArg (fun l => pm_look l 149) cq_262).trans rfl⟩
theorem lk_262_150 : Lk 262 150 (.isub) 0 0 (0) := ⟨1, 0, (congrArg (fun l => pm_look l 150) cq_262).trans rfl⟩
theorem lk_262_151 : Lk 262 151 (.iastore) 0 0 (0) := ⟨1, 0, (congrArg (fun l => pm_look l 151) cq_262).trans rfl⟩
theorem lk_262_152 : Lk 262 152 (.iinc 2 1) 0 0 (0) := ⟨3, 0, (congrArg (fun l => pm_look l 152) cq_262).trans rfl⟩
theorem lk_262_155 : Lk 262 155 (.goto (-36)) 0 0 (0) := ⟨3, 0, (congrArg (fun l => pm_look l 155) cq_262).trans rfl⟩
theorem lk_262_158 : Lk 262 158 (.aload_n 0) 0 0 (0) := ⟨1, 0, (congrArg (fun l => pm_look l 158) cq_262).trans rfl⟩
theorem lk_262_159 : Lk 262 159 (.iconst 0) 0 0 (0) := ⟨1, 0, (congrArg (fun l => pm_look l 159) cq_262).trans rfl⟩
theorem lk_262_160 : Lk 262 160 (.putfield 263) 12 49 (0) := ⟨3, 1306, (congrArg (fun l => pm_look l 160) cq_262).trans rfl⟩
theorem lk_262_163 : Lk 262 163 (.return_) 0 0 (0) := ⟨1, 0, (congrArg (fun l => pm_look l 163) cq_262).trans rfl⟩
theorem cq_263 : pm_code 263 = cd_263 := rfl
theorem lk_263_0 : Lk 263 0 (.aload_n 0) 0 0 (0) := ⟨1, 0, (congrArg (fun l => pm_look l 0) cq_263).trans rfl⟩
theorem lk_263_1 : Lk 263 1 (.iconst 0) 0 0 (0) := ⟨1, 0, (congrArg (fun l => pm_look l 1) cq_263).trans rfl⟩
theorem lk_263_2 : Lk 263 2 (.putfield 143) 12 0 (0) := ⟨3, 1257, (congrArg (fun l => pm_look l 2) cq_263).trans rfl⟩
theorem lk_263_5 : Lk 263 5 (.aload_n 0) 0 0 (0) := ⟨1, 0, (congrArg (fun l => pm_look l 5) cq_263).trans rfl⟩
theorem lk_263_6 : Lk 263 6 (.iconst (-1)) 0 0 (0) := ⟨1, 0, (congrArg (fun l => pm_look l 6) cq_263).trans rfl⟩
theorem lk_263_7 : Lk 263 7 (.iconst 0) 0 0 (0) := ⟨1, 0, (congrArg (fun l => pm_look l 7) cq_263).trans rfl⟩
theorem lk_263_8 : Lk 263 8 (.invokevirtual 438) 260 0 (0) := ⟨3, 1839, (congrArg (fun l => pm_look l 8) cq_263).trans rfl⟩
theorem lk_263_11 : Lk 263 11 (.aload_n 0) 0 0 (0) := ⟨1, 0, (congrArg (fun l => pm_look l 11) cq_263).trans rfl⟩
theorem lk_263_12 : Lk 263 12 (.invokevirtual 441) 262 0 (0) := ⟨3, 1847, (congrArg (fun l => pm_look l 12) cq_263).trans rfl⟩
theorem lk_263_15 : Lk 263 15 (.aload_n 0) 0 0 (0) := ⟨1, 0, (congrArg (fun l => pm_look l 15) cq_263).trans rfl⟩
theorem lk_263_16 : Lk 263 16 (.getfield 7) 12 1 (0) := ⟨3, 1258, (congrArg (fun l => pm_look l 16) cq_263).trans rfl⟩
theorem lk_263_19 : Lk 263 19 (.ireturn) 0 0 (0) := ⟨1, 0, (congrArg (fun l => pm_look l 19) cq_263).trans rfl⟩
theorem cq_264 : pm_code 264 = cd_264 := rfl
theorem lk_264_0 : Lk 264 0 (.aload_n 0) 0 0 (0) := ⟨1, 0, (congrArg (fun l => pm_look l 0) cq_264).trans rfl⟩
theorem lk_264_1 : Lk 264 1 (.iconst 0) 0 0 (0) := ⟨1, 0, (congrArg (fun l => pm_look l 1) cq_264).trans rfl⟩
theorem lk_264_2 : Lk 264 2 (.putfield 143) 12 0 (0) := ⟨3, 1257, (congrArg (fun l => pm_look l 2) cq_264).trans rfl⟩
theorem lk_264_5 : Lk 264 5 (.aload_n 0) 0 0 (0) := ⟨1, 0, (congrArg (fun l => pm_look l 5) cq_264).trans rfl⟩
theorem lk_264_6 : Lk 264 6 (.getfield 260) 12 70 (0) := ⟨3, 1327, (congrArg (fun l => pm_look l 6) cq_264).trans rfl⟩
theorem lk_264_9 : Lk 264 9 (.ifCond .ne 5) 0 0 (0) := ⟨3, 0, (congrArg (fun l => pm_look l 9) cq_264).trans rfl⟩
theorem lk_264_12 : Lk 264 12 (.iconst 0) 0 0 (0) := ⟨1, 0, (congrArg (fun l => pm_look l 12) cq_264).trans rfl⟩
theorem lk_264_13 : Lk 264 13 (.ireturn) 1 0 (0) := ⟨1, 0, (congrArg (fun l => pm_look l 13) cq_264).trans rfl⟩
theorem lk_264_14 : Lk 264 14 (.aload_n 0) 0 0 (0) := ⟨1, 0, (congrArg (fun l => pm_look l 14) cq_264).trans rfl⟩
theorem lk_264_15 : Lk 264 15 (.dup) 0 0 (0) := ⟨1, 0, (congrArg (fun l => pm_look l 15) cq_264).trans rfl⟩
theorem lk_264_16 : Lk 264 16 (.getfield 260) 12 70 (0) := ⟨3, 1327, (congrArg (fun l => pm_look l 16) cq_264).trans rfl⟩
theorem lk_264_19 : Lk 264 19 (.iconst 1) 0 0 (0) := ⟨1, 0, (congrArg (fun l => pm_look l 19) cq_264).trans rfl⟩
theorem lk_264_20 : Lk 264 20 (.isub) 0 0 (0) := ⟨1, 0, (congrArg (fun l => pm_look l 20) cq_264).trans rfl⟩
theorem lk_264_21 : Lk 264 21 (.putfield 260) 12 70 (0) := ⟨3, 1327, (congrArg (fun l => pm_look l 21) cq_264).trans rfl⟩
theorem lk_264_24 : Lk 264 24 (.aload_n 0) 0 0 (0) := ⟨1, 0, (congrArg (fun l => pm_look l 24) cq_264).trans rfl⟩
theorem lk_264_25 : Lk 264 25 (.getfield 137) 12 68 (2) := ⟨3, 1325, (congrArg (fun l => pm_look l 25) cq_264).trans rfl⟩
theorem lk_264_28 : Lk 264 28 (.aload_n 0) 0 0 (0) := ⟨1, 0, (congrArg (fun l => pm_look l 28) cq_264).trans rfl⟩
theorem lk_264_29 : Lk 264 29 (.getfield 260) 12 70 (0) := ⟨3, 1327, (congrArg (fun l => pm_look l 29) cq_264).trans rfl⟩
theorem lk_264_32 : Lk 264 32 (.iaload) 0 0 (0) := ⟨1, 0, (congrArg (fun l => pm_look l 32) cq_264).trans rfl⟩
theorem lk_264_33 : Lk 264 33 (.iconst (-1)) 0 0 (0) := ⟨1, 0, (congrArg (fun l => pm_look l 33) cq_264).trans rfl⟩
theorem lk_264_34 : Lk 264 34 (.if_icmp .ne 10) 0 0 (0) := ⟨3, 0, (congrArg (fun l => pm_look l 34) cq_264).trans rfl⟩
theorem lk_264_37 : Lk 264 37 (.aload_n 0) 0 0 (0) := ⟨1, 0, (congrArg (fun l => pm_look l 37) cq_264).trans rfl⟩
theorem lk_264_38 : Lk 264 38 (.invokevirtual 441) 262 0 (0) := ⟨3, 1847, (congrArg (fun l => pm_look l 38) cq_264).trans rfl⟩
theorem lk_264_41 : Lk 264 41 (.goto 31) 0 0 (0) := ⟨3, 0, (congrArg (fun l => pm_look l 41) cq_264).trans rfl⟩
theorem lk_264_44 : Lk 264 44 (.aload_n 0) 0 0 (0) := ⟨1, 0, (congrArg (fun l => pm_look l 44) cq_264).trans rfl⟩
theorem lk_264_45 : Lk 264 45 (.getfield 16) 12 7 (2) := ⟨3, 1264, (congrArg (fun l => pm_look l 45) cq_264).trans rfl⟩
theorem lk_264_48 : Lk 264 48 (.aload_n 0) 0 0 (0) := ⟨1, 0, (congrArg (fun l => pm_look l 48) cq_264).trans rfl⟩
theorem lk_264_49 : Lk 264 49 (.getfield 137) 12 68 (2) := ⟨3, 1325, (congrArg (fun l => pm_look l 49) cq_264).trans rfl⟩
theorem lk_264_52 : Lk 264 52 (.aload_n 0) 0 0 (0) := ⟨1, 0, (congrArg (fun l => pm_look l 52) cq_264).trans rfl⟩
theorem lk_264_53 : Lk 264 53 (.getfield 260) 12 70 (0) := ⟨3, 1327, (congrArg (fun l => pm_look l 53) cq_264).trans rfl⟩
theorem lk_264_56 : Lk 264 56 (.iaload) 0 0 (0) := ⟨1, 0, (congrArg (fun l => pm_look l 56) cq_264).trans rfl⟩
theorem lk_264_57 : Lk 264 57 (.aload_n 0) 0 0 (0) := ⟨1, 0, (congrArg (fun l => pm_look l 57) cq_264).trans rfl⟩
theorem lk_264_58 : Lk 264 58 (.getfield 140) 12 69 (2) := ⟨3, 1326, (congrArg (fun l => pm_look l 58) cq_264).trans rfl⟩
theorem lk_264_61 : Lk 264 61 (.aload_n 0) 0 0 (0) := ⟨1, 0, (congrArg (fun l => pm_look l 61) cq_264).trans rfl⟩
theorem lk_264_62 : Lk 264 62 (.getfield 260) 12 70 (0) := ⟨3, 1327, (congrArg (fun l => pm_look l 62) cq_264).trans rfl⟩
theorem lk_264_65 : Lk 264 65 (.iaload) 0 0 (0) := ⟨1, 0, (congrArg (fun l => pm_look l 65) cq_264).trans rfl⟩
theorem lk_264_66 : Lk 264 66 (.iastore) 0 0 (0) := ⟨1, 0, (congrArg (fun l => pm_look l 66) cq_264).trans rfl⟩
theorem lk_264_67 : Lk 264 67 (.aload_n 0) 0 0 (0) := ⟨1, 0, (congrArg (fun l => pm_look l 67) cq_264).trans rfl⟩
theorem lk_264_68 : Lk 264 68 (.iconst 0) 0 0 (0) := ⟨1, 0, (congrArg (fun l => pm_look l 68) cq_264).trans rfl⟩
theorem lk_264_69 : Lk 264 69 (.putfield 263) 12 49 (0) := ⟨3, 1306, (congrArg (fun l => pm_look l 69) cq_264).trans rfl⟩
theorem lk_264_72 : Lk 264 72 (.iconst 1) 0 0 (0) := ⟨1, 0, (congrArg (fun l => pm_look l 72) cq_264).trans rfl⟩
theorem lk_264_73 : Lk 264 73 (.ireturn) 1 0 (0) := ⟨1, 0, (congrArg (fun l => pm_look l 73) cq_264).trans rfl⟩
theorem cq_265 : pm_code 265 = cd_265 := rfl
theorem lk_265_0 : Lk 265 0 (.iload_n 0) 0 0 (0) := ⟨1, 0, (congrArg (fun l => pm_look l 0) cq_265).trans rfl⟩
theorem lk_265_1 : Lk 265 1 (.iload_n 0) 0 0 (0) := ⟨1, 0, (congrArg (fun l => pm_look l 1) cq_265).trans rfl⟩
theorem lk_265_2 : Lk 265 2 (.iconst 1) 0 0 (0) := ⟨1, 0, (congrArg (fun l => pm_look l 2) cq_265).trans rfl⟩
theorem lk_265_3 : Lk 265 3 (.iushr) 0 0 (0) := ⟨1, 0, (congrArg (fun l => pm_look l 3) cq_265).trans rfl⟩
theorem lk_265_4 : Lk 265 4 (.ldc_w 265) 0 0 (1431655765) := ⟨3, 717, (congrArg (fun l => pm_look l 4) cq_265).trans rfl⟩
theorem lk_265_7 : Lk 265 7 (.iand) 0 0 (0) := ⟨1, 0, (congrArg (fun l => pm_look l 7) cq_265).trans rfl⟩
theorem lk_265_8 : Lk 265 8 (.isub) 0 0 (0) := ⟨1, 0, (congrArg (fun l => pm_look l 8) cq_265).trans rfl⟩
theorem lk_265_9 : Lk 265 9 (.istore_n 0) 0 0 (0) := ⟨1, 0, (congrArg (fun l => pm_look l 9) cq_265).trans rfl⟩
theorem lk_265_10 : Lk 265 10 (.iload_n 0) 0 0 (0) := ⟨1, 0, (congrArg (fun l => pm_look l 10) cq_265).trans rfl⟩
theorem lk_265_11 : Lk 265 11 (.ldc_w 266) 0 0 (858993459) := ⟨3, 718, (congrArg (fun l => pm_look l 11) cq_265).trans rfl⟩
theorem lk_265_14 : Lk 265 14 (.iand) 0 0 (0) := ⟨1, 0, (congrArg (fun l => pm_look l 14) cq_265).trans rfl⟩
theorem lk_265_15 : Lk 265 15 (.iload_n 0) 0 0 (0) := ⟨1, 0, (congrArg (fun l => pm_look l 15) cq_265).trans rfl⟩
theorem lk_265_16 : Lk 265 16 (.iconst 2) 0 0 (0) := ⟨1, 0, (congrArg (fun l => pm_look l 16) cq_265).trans rfl⟩
theorem lk_265_17 : Lk 265 17 (.iushr) 0 0 (0) := ⟨1, 0, (congrArg (fun l => pm_look l 17) cq_265).trans rfl⟩
theorem lk_265_18 : Lk 265 18 (.ldc_w 266) 0 0 (858993459) := ⟨3, 718, (congrArg (fun l => pm_look l 18) cq_265).trans rfl⟩
theorem lk_265_21 : Lk 265 21 (.iand) 0 0 (0) := ⟨1, 0, (congrArg (fun l => pm_look l 21) cq_265).trans rfl⟩
theorem lk_265_22 : Lk 265 22 (.iadd) 0 0 (0) := ⟨1, 0, (congrArg (fun l => pm_look l 22) cq_265).trans rfl⟩
theorem lk_265_23 : Lk 265 23 (.istore_n 0) 0 0 (0) := ⟨1, 0, (congrArg (fun l => pm_look l 23) cq_265).trans rfl⟩
theorem lk_265_24 : Lk 265 24 (.iload_n 0) 0 0 (0) := ⟨1, 0, (congrArg (fun l => pm_look l 24) cq_265).trans rfl⟩
theorem lk_265_25 : Lk 265 25 (.iload_n 0) 0 0 (0) := ⟨1, 0, (congrArg (fun l => pm_look l 25) cq_265).trans rfl⟩
theorem lk_265_26 : Lk 265 26 (.iconst 4) 0 0 (0) := ⟨1, 0, (congrArg (fun l => pm_look l 26) cq_265).trans rfl⟩
theorem lk_265_27 : Lk 265 27 (.iushr) 0 0 (0) := ⟨1, 0, (congrArg (fun l => pm_look l 27) cq_265).trans rfl⟩
theorem lk_265_28 : Lk 265 28 (.iadd) 0 0 (0) := ⟨1, 0, (congrArg (fun l => pm_look l 28) cq_265).trans rfl⟩
theorem lk_265_29 : Lk 265 29 (.ldc_w 267) 0 0 (252645135) := ⟨3, 719, (congrArg (fun l => pm_look l 29) cq_265).trans rfl⟩
theorem lk_265_32 : Lk 265 32 (.iand) 0 0 (0) := ⟨1, 0, (congrArg (fun l => pm_look l 32) cq_265).trans rfl⟩
theorem lk_265_33 : Lk 265 33 (.istore_n 0) 0 0 (0) := ⟨1, 0, (congrArg (fun l => pm_look l 33) cq_265).trans rfl⟩
theorem lk_265_34 : Lk 265 34 (.iload_n 0) 0 0 (0) := ⟨1, 0, (congrArg (fun l => pm_look l 34) cq_265).trans rfl⟩
theorem lk_265_35 : Lk 265 35 (.iload_n 0) 0 0 (0) := ⟨1, 0, (congrArg (fun l => pm_look l 35) cq_265).trans rfl⟩
theorem lk_265_36 : Lk 265 36 (.bipush 8) 0 0 (0) := ⟨2, 0, (congrArg (fun l => pm_look l 36) cq_265).trans rfl⟩
theorem lk_265_38 : Lk 265 38 (.iushr) 0 0 (0) := ⟨1, 0, (congrArg (fun l => pm_look l 38) cq_265).trans rfl⟩
theorem lk_265_39 : Lk 265 39 (.iadd) 0 0 (0) := ⟨1, 0, (congrArg (fun l => pm_look l 39) cq_265).trans rfl⟩
theorem lk_265_40 : Lk 265 40 (.istore_n 0) 0 0 (0) := ⟨1, 0, (congrArg (fun l => pm_look l 40) cq_265).trans rfl⟩
theorem lk_265_41 : Lk 265 41 (.iload_n 0) 0 0 (0) := ⟨1, 0, (congrArg (fun l => pm_look l 41) cq_265).trans rfl⟩
theorem lk_265_42 : Lk 265 42 (.iload_n 0) 0 0 (0) := ⟨1, 0, (congrArg (fun l => pm_look l 42) cq_265).trans rfl⟩
theorem lk_265_43 : Lk 265 43 (.bipush 16) 0 0 (0) := ⟨2, 0, (congrArg (fun l => pm_look l 43) cq_265).trans rfl⟩
theorem lk_265_45 : Lk 265 45 (.iushr) 0 0 (0) := ⟨1, 0, (congrArg (fun l => pm_look l 45) cq_265).trans rfl⟩
theorem lk_265_46 : Lk 265 46 (.iadd) 0 0 (0) := ⟨1, 0, (congrArg (fun l => pm_look l 46) cq_265).trans rfl⟩
theorem lk_265_47 : Lk 265 47 (.istore_n 0) 0 0 (0) := ⟨1, 0, (congrArg (fun l => pm_look l 47) cq_265).trans rfl⟩
theorem lk_265_48 : Lk 265 48 (.iload_n 0) 0 0 (0) := ⟨1, 0, (congrArg (fun l => pm_look l 48) cq_265).trans rfl⟩
theorem lk_265_49 : Lk 265 49 (.bipush 63) 0 0 (0) := ⟨2, 0, (congrArg (fun l => pm_look l 49) cq_265).trans rfl⟩
theorem lk_265_51 : Lk 265 51 (.iand) 0 0 (0) := ⟨1, 0, (congrArg (fun l => pm_look l 51) cq_265).trans rfl⟩
theorem lk_265_52 : Lk 265 52 (.ireturn) 0 0 (0) := ⟨1, 0, (congrArg (fun l => pm_look l 52) cq_265).trans rfl⟩
theorem cq_266 : pm_code 266 = cd_266 := rfl
theorem lk_266_0 : Lk 266 0 (.lload_n 0) 0 0 (0) := ⟨1, 0, (congrArg (fun l => pm_look l 0) cq_266).trans rfl⟩
theorem lk_266_1 : Lk 266 1 (.lload_n 0) 0 0 (0) := ⟨1, 0, (congrArg (fun l => pm_look l 1) cq_266).trans rfl⟩
theorem lk_266_2 : Lk 266 2 (.iconst 1) 0 0 (0) := ⟨1, 0, (congrArg (fun l => pm_look l 2) cq_266).trans rfl⟩
theorem lk_266_3 : Lk 266 3 (.lushr) 0 0 (0) := ⟨1, 0, (congrArg (fun l => pm_look l 3) cq_266).trans rfl⟩
theorem lk_266_4 : Lk 266 4 (.ldc2_w 314) 0 0 (6148914691236517205) := ⟨3, 778, (congrArg (fun l => pm_look l 4) cq_266).trans rfl⟩
theorem lk_266_7 : Lk 266 7 (.land) 0 0 (0) := ⟨1, 0, (congrArg (fun l => pm_look l 7) cq_266).trans rfl⟩
theorem lk_266_8 : Lk 266 8 (.lsub) 0 0 (0) := ⟨1, 0, (congrArg (fun l => pm_look l 8) cq_266).trans rfl⟩
theorem lk_266_9 : Lk 266 9 (.lstore_n 0) 0 0 (0) := ⟨1, 0, (congrArg (fun l => pm_look l 9) cq_266).trans rfl⟩
theorem lk_266_10 : Lk 266 10 (.lload_n 0) 0 0 (0) := ⟨1, 0, (congrArg (fun l => pm_look l 10) cq_266).trans rfl⟩
theorem lk_266_11 : Lk 266 11 (.ldc2_w 316) 0 0 (3689348814741910323) := ⟨3, 779, (congrArg (fun l => pm_look l 11) cq_266).trans rfl⟩
theorem lk_266_14 : Lk 266 14 (.land) 0 0 (0) := ⟨1, 0, (congrArg (fun l => pm_look l 14) cq_266).trans rfl⟩
theorem lk_266_15 : Lk 266 15 (.lload_n 0) 0 0 (0) := ⟨1, 0, (congrArg (fun l => pm_look l 15) cq_266).trans rfl⟩
theorem lk_266_16 : Lk 266 16 (.iconst 2) 0 0 (0) := ⟨1, 0, (congrArg (fun l => pm_look l 16) cq_266).trans rfl⟩
theorem lk_266_17 : Lk 266 17 (.lushr) 0 0 (0) := ⟨1, 0, (congrArg (fun l => pm_look l 17) cq_266).trans rfl⟩
theorem lk_266_18 : Lk 266 18 (.ldc2_w 316) 0 0 (3689348814741910323) := ⟨3, 779, (congrArg (fun l => pm_look l 18) cq_266).trans rfl⟩
theorem lk_266_21 : Lk 266 21 (.land) 0 0 (0) := ⟨1, 0, (congrArg (fun l => pm_look l 21) cq_266).trans rfl⟩
theorem lk_266_22 : Lk 266 22 (.ladd) 0 0 (0) := ⟨1, 0, (congrArg (fun l => pm_look l 22) cq_266).trans rfl⟩
theorem lk_266_23 : Lk 266 23 (.lstore_n 0) 0 0 (0) := ⟨1, 0, (congrArg (fun l => pm_look l 23) cq_266).trans rfl⟩
theorem lk_266_24 : Lk 266 24 (.lload_n 0) 0 0 (0) := ⟨1, 0, (congrArg (fun l => pm_look l 24) cq_266).trans rfl⟩
theorem lk_266_25 : Lk 266 25 (.lload_n 0) 0 0 (0) := ⟨1, 0, (congrArg (fun l => pm_look l 25) cq_266).trans rfl⟩
theorem lk_266_26 : Lk 266 26 (.iconst 4) 0 0 (0) := ⟨1, 0, (congrArg (fun l => pm_look l 26) cq_266).trans rfl⟩
theorem lk_266_27 : Lk 266 27 (.lushr) 0 0 (0) := ⟨1, 0, (congrArg (fun l => pm_look l 27) cq_266).trans rfl⟩
theorem lk_266_28 : Lk 266 28 (.ladd) 0 0 (0) := ⟨1, 0, (congrArg (fun l => pm_look l 28) cq_266).trans rfl⟩
theorem lk_266_29 : Lk 266 29 (.ldc2_w 318) 0 0 (1085102592571150095) := ⟨3, 780, (congrArg (fun l => pm_look l 29) cq_266).trans rfl⟩
theorem lk_266_32 : Lk 266 32 (.land) 0 0 (0) := ⟨1, 0, (congrArg (fun l => pm_look l 32) cq_266).trans rfl⟩
theorem lk_266_33 : Lk 266 33 (.lstore_n 0) 0 0 (0) := ⟨1, 0, (congrArg (fun l => pm_look l 33) cq_266).trans rfl⟩
theorem lk_266_34 : Lk 266 34 (.lload_n 0) 0 0 (0) := ⟨1, 0, (congrArg (fun l => pm_look l 34) cq_266).trans rfl⟩
theorem lk_266_35 : Lk 266 35 (.lload_n 0) 0 0 (0) := ⟨1, 0, (congrArg (fun l => pm_look l 35) cq_266).trans rfl⟩
theorem lk_266_36 : Lk 266 36 (.bipush 8) 0 0 (0) := ⟨2, 0, (congrArg (fun l => pm_look l 36) cq_266).trans rfl⟩
theorem lk_266_38 : Lk 266 38 (.lushr) 0 0 (0) := ⟨1, 0, (congrArg (fun l => pm_look l 38) cq_266).trans rfl⟩
theorem lk_266_39 : Lk 266 39 (.ladd) 0 0 (0) := ⟨1, 0, (congrArg (fun l => pm_look l 39) cq_266).trans rfl⟩
theorem lk_266_40 : Lk 266 40 (.lstore_n 0) 0 0 (0) := ⟨1, 0, (congrArg (fun l => pm_look l 40) cq_266).trans rfl⟩
theorem lk_266_41 : Lk 266 41 (.lload_n 0) 0 0 (0) := ⟨1, 0, (congrArg (fun l => pm_look l 41) cq_266).trans rfl⟩
theorem lk_266_42 : Lk 266 42 (.lload_n 0) 0 0 (0) := ⟨1, 0, (congrArg (fun l => pm_look l 42) cq_266).trans rfl⟩
theorem lk_266_43 : Lk 266 43 (.bipush 16) 0 0 (0) := ⟨2, 0, (congrArg (fun l => pm_look l 43) cq_266).trans rfl⟩
theorem lk_266_45 : Lk 266 45 (.lushr) 0 0 (0) := ⟨1, 0, (congrArg (fun l => pm_look l 45) cq_266).trans rfl⟩
theorem lk_266_46 : Lk 266 46 (.ladd) 0 0 (0) := ⟨1, 0, (congrArg (fun l => pm_look l 46) cq_266).trans rfl⟩
theorem lk_266_47 : Lk 266 47 (.lstore_n 0) 0 0 (0) := ⟨1, 0, (congrArg (fun l => pm_look l 47) cq_266).trans rfl⟩
theorem lk_266_48 : Lk 266 48 (.lload_n 0) 0 0 (0) := ⟨1, 0, (congrArg (fun l => pm_look l 48) cq_266).trans rfl⟩
theorem lk_266_49 : Lk 266 49 (.lload_n 0) 0 0 (0) := ⟨1, 0, (congrArg (fun l => pm_look l 49) cq_266).trans rfl⟩
theorem lk_266_50 : Lk 266 50 (.bipush 32) 0 0 (0) := ⟨2, 0, (congrArg (fun l => pm_look l 50) cq_266).trans rfl⟩
theorem lk_266_52 : Lk 266 52 (.lushr) 0 0 (0) := ⟨1, 0, (congrArg (fun l => pm_look l 52) cq_266).trans rfl⟩
theorem lk_266_53 : Lk 266 53 (.ladd) 0 0 (0) := ⟨1, 0, (congrArg (fun l => pm_look l 53) cq_266).trans rfl⟩
theorem lk_266_54 : Lk 266 54 (.lstore_n 0) 0 0 (0) := ⟨1, 0, (congrArg (fun l => pm_look l 54) cq_266).trans rfl⟩
theorem lk_266_55 : Lk 266 55 (.lload_n 0) 0 0 (0) := ⟨1, 0, (congrArg (fun l => pm_look l 55) cq_266).trans rfl⟩
theorem lk_266_56 : Lk 266 56 (.l2i) 0 0 (0) := ⟨1, 0, (congrArg (fun l => pm_look l 56) cq_266).trans rfl⟩
theorem lk_266_57 : Lk 266 57 (.bipush 127) 0 0 (0) := ⟨2, 0, (congrArg (fun l => pm_look l 57) cq_266).trans rfl⟩
theorem lk_266_59 : Lk 266 59 (.iand) 0 0 (0) := ⟨1, 0, (congrArg (fun l => pm_look l 59) cq_266).trans rfl⟩
theorem lk_266_60 : Lk 266 60 (.ireturn) 0 0 (0) := ⟨1, 0, (congrArg (fun l => pm_look l 60) cq_266).trans rfl⟩
theorem cq_267 : pm_code 267 = cd_267 := rfl
theorem lk_267_0 : Lk 267 0 (.new 7) 11 0 (0) := ⟨3, 124, (congrArg (fun l => pm_look l 0) cq_267).trans rfl⟩
theorem lk_267_3 : Lk 267 3 (.dup) 0 0 (0) := ⟨1, 0, (congrArg (fun l => pm_look l 3) cq_267).trans rfl⟩
theorem lk_267_4 : Lk 267 4 (.invokespecial 9) 118 0 (0) := ⟨3, 126, (congrArg (fun l => pm_look l 4) cq_267).trans rfl⟩
theorem lk_267_7 : Lk 267 7 (.astore_n 1) 0 0 (0) := ⟨1, 0, (congrArg (fun l => pm_look l 7) cq_267).trans rfl⟩
theorem lk_267_8 : Lk 267 8 (.new 10) 12 0 (0) := ⟨3, 1249, (congrArg (fun l => pm_look l 8) cq_267).trans rfl⟩
theorem lk_267_11 : Lk 267 11 (.dup) 0 0 (0) := ⟨1, 0, (congrArg (fun l => pm_look l 11) cq_267).trans rfl⟩
theorem lk_267_12 : Lk 267 12 (.invokespecial 12) 166 0 (0) := ⟨3, 1251, (congrArg (fun l => pm_look l 12) cq_267).trans rfl⟩
theorem lk_267_15 : Lk 267 15 (.astore_n 2) 0 0 (0) := ⟨1, 0, (congrArg (fun l => pm_look l 15) cq_267).trans rfl⟩
theorem lk_267_16 : Lk 267 16 (.iconst 0) 0 0 (0) := ⟨1, 0, (congrArg (fun l => pm_look l 16) cq_267).trans rfl⟩
theorem lk_267_17 : Lk 267 17 (.istore_n 3) 0 0 (0) := ⟨1, 0, (congrArg (fun l => pm_look l 17) cq_267).trans rfl⟩
theorem lk_267_18 : Lk 267 18 (.iload_n 3) 0 0 (0) := ⟨1, 0, (congrArg (fun l => pm_look l 18) cq_267).trans rfl⟩
theorem lk_267_19 : Lk 267 19 (.aload_n 0) 0 0 (0) := ⟨1, 0, (congrArg (fun l => pm_look l 19) cq_267).trans rfl⟩
theorem lk_267_20 : Lk 267 20 (.arraylength) 0 0 (0) := ⟨1, 0, (congrArg (fun l => pm_look l 20) cq_267).trans rfl⟩
theorem lk_267_21 : Lk 267 21 (.bipush 6) 0 0 (0) := ⟨2, 0, (congrArg (fun l => pm_look l 21) cq_267).trans rfl⟩
theorem lk_267_23 : Lk 267 23 (.isub) 0 0 (0) := ⟨1, 0, (congrArg (fun l => pm_look l 23) cq_267).trans rfl⟩
theorem lk_267_24 : Lk 267 24 (.if_icmp .gt 1263) 0 0 (0) := ⟨3, 0, (congrArg (fun l => pm_look l 24) cq_267).trans rfl⟩
theorem lk_267_27 : Lk 267 27 (.aload_n 0) 0 0 (0) := ⟨1, 0, (congrArg (fun l => pm_look l 27) cq_267).trans rfl⟩
theorem lk_267_28 : Lk 267 28 (.iload_n 3) 0 0 (0) := ⟨1, 0, (congrArg (fun l => pm_look l 28) cq_267).trans rfl⟩
theorem lk_267_29 : Lk 267 29 (.iaload) 0 0 (0) := ⟨1, 0, (congrArg (fun l => pm_look l 29) cq_267).trans rfl⟩
theorem lk_267_30 : Lk 267 30 (.bipush 63) 0 0 (0) := ⟨2, 0, (congrArg (fun l => pm_look l 30) cq_267).trans rfl⟩
theorem lk_267_32 : Lk 267 32 (.iand) 0 0 (0) := ⟨1, 0, (congrArg (fun l => pm_look l 32) cq_267).trans rfl⟩
theorem lk_267_33 : Lk 267 33 (.tableswitch 1248 0 32 #[147, 210, 233, 246, 269, 292, 325, 368, 401, 424, 467, 526, 559, 592, 625, 648, 687, 710, 733, 756, 799, 822, 845, 888, 931, 974, 1027, 1060, 1103, 1146, 1179, 1222, 1235]) 0 0 (0) := ⟨147, 0, (congrArg (fun l => pm_look l 33) cq_267).trans rfl⟩
theorem lk_267_180 : Lk 267 180 (.aload_n 1) 0 0 (0) := ⟨1, 0, (congrArg (fun l => pm_look l 180) cq_267).trans rfl⟩
theorem lk_267_181 : Lk 267 181 (.aload_n 0) 0 0 (0) := ⟨1, 0, (congrArg (fun l => pm_look l 181) cq_267).trans rfl⟩
theorem lk_267_182 : Lk 267 182 (.iload_n 3) 0 0 (0) := ⟨1, 0, (congrArg (fun l => pm_look l 182) cq_267).trans rfl⟩
theorem lk_267_183 : Lk 267 183 (.iconst 1) 0 0 (0) := ⟨1, 0, (congrArg (fun l => pm_look l 183) cq_267).trans rfl⟩
theorem lk_267_184 : Lk 267 184 (.iadd) 0 0 (0) := ⟨1, 0, (congrArg (fun l => pm_look l 184) cq_267).trans rfl⟩
theorem lk_267_185 : Lk 267 185 (.iaload) 0 0 (0) := ⟨1, 0, (congrArg (fun l => pm_look l 185) cq_267).trans rfl⟩
theorem lk_267_186 : Lk 267 186 (.aload_n 0) 0 0 (0) := ⟨1, 0, (congrArg (fun l => pm_look l 186) cq_267).trans rfl⟩
theorem lk_267_187 : Lk 267 187 (.iload_n 3) 0 0 (0) := ⟨1, 0, (congrArg (fun l => pm_look l 187) cq_267).trans rfl⟩
theorem lk_267_188 : Lk 267 188 (.iconst 2) 0 0 (0) := ⟨1, 0, (congrArg (fun l => pm_look l 188) cq_267).trans rfl⟩
theorem lk_267_189 : Lk 267 189 (.iadd) 0 0 (0) := ⟨1, 0, (congrArg (fun l => pm_look l 189) cq_267).trans rfl⟩
theorem lk_267_190 : Lk 267 190 (.iaload) 0 0 (0) := ⟨1, 0, (congrArg (fun l => pm_look l 190) cq_267).trans rfl⟩
theorem lk_267_191 : Lk 267 191 (.aload_n 0) 0 0 (0) := ⟨1, 0, (congrArg (fun l => pm_look l 191) cq_267).trans rfl⟩
theorem lk_267_192 : Lk 267 192 (.iload_n 3) 0 0 (0) := ⟨1, 0, (congrArg (fun l => pm_look l 192) cq_267).trans rfl⟩
theorem lk_267_193 : Lk 267 193 (.iconst 3) 0 0 (0) := ⟨1, 0, (congrArg (fun l => pm_look l 193) cq_267).trans rfl⟩
theorem lk_267_194 : Lk 267 194 (.iadd) 0 0 (0) := ⟨1, 0, (congrArg (fun l => pm_look l 194) cq_267).trans rfl⟩
theorem lk_267_195 : Lk 267 195 (.iaload) 0 0 (0) := ⟨1, 0, (congrArg (fun l => pm_look l 195) cq_267).trans rfl⟩
theorem lk_267_196 : Lk 267 196 (.aload_n 0) 0 0 (0) := ⟨1, 0, (congrArg (fun l => pm_look l 196) cq_267).trans rfl⟩
theorem lk_267_197 : Lk 267 197 (.iload_n 3) 0 0 (0) := ⟨1, 0, (congrArg (fun l => pm_look l 197) cq_267).trans rfl⟩
theorem lk_267_198 : Lk 267 198 (.iconst 4) 0 0 (0) := ⟨1, 0, (congrArg (fun l => pm_look l 198) cq_267).trans rfl⟩
theorem lk_267_199 : Lk 267 199 (.iadd) 0 0 (0) := ⟨1, 0, (congrArg (fun l => pm_look l 199) cq_267).trans rfl⟩
theorem lk_267_200 : Lk 267 200 (.iaload) 0 0 (0) := ⟨1, 0, (congrArg (fun l => pm_look l 200) cq_267).trans rfl⟩
theorem lk_267_201 : Lk 267 201 (.aload_n 0) 0 0 (0) := ⟨1, 0, (congrArg (fun l => pm_look l 201) cq_267).trans rfl⟩
theorem lk_267_202 : Lk 267 202 (.iload_n 3) 0 0 (0) := ⟨1, 0, (congrArg (fun l => pm_look l 202) cq_267).trans rfl⟩
theorem lk_267_203 : Lk 267 203 (.iconst 5) 0 0 (0) := ⟨1, 0, (congrArg (fun l => pm_look l 203) cq_267).trans rfl⟩
theorem lk_267_204 : Lk 267 204 (.iadd) 0 0 (0) := ⟨1, 0, (congrArg (fun l => pm_look l 204) cq_267).trans rfl⟩
theorem lk_267_205 : Lk 267 205 (.iaload) 0 0 (0) := ⟨1, 0, (congrArg (fun l => pm_look l 205) cq_267).trans rfl⟩
theorem lk_267_206 : Lk 267 206 (.invokevirtual 13) 119 0 (0) := ⟨3, 559, (congrArg (fun l => pm_look l 206) cq_267).trans rfl⟩
theorem lk_267_209 : Lk 267 209 (.aload_n 2) 0 0 (0) := ⟨1, 0, (congrArg (fun l => pm_look l 209) cq_267).trans rfl⟩
theorem lk_267_210 : Lk 267 210 (.aload_n 0) 0 0 (0) := ⟨1, 0, (congrArg (fun l => pm_look l 210) cq_267).trans rfl⟩
theorem lk_267_211 : Lk 267 211 (.iload_n 3) 0 0 (0) := ⟨1, 0, (congrArg (fun l => pm_look l 211) cq_267).trans rfl⟩
theorem lk_267_212 : Lk 267 212 (.iconst 1) 0 0 (0) := ⟨1, 0, (congrArg (fun l => pm_look l 212) cq_267).trans rfl⟩
theorem lk_267_213 : Lk 267 213 (.iadd) 0 0 (0) := ⟨1, 0, (congrArg (fun l => pm_look l 213) cq_267).trans rfl⟩
theorem lk_267_214 : Lk 267 214 (.iaload) 0 0 (0) := ⟨1, 0, (congrArg (fun l => pm_look l 214) cq_267).trans rfl⟩
theorem lk_267_215 : Lk 267 215 (.aload_n 0) 0 0 (0) := ⟨1, 0, (congrArg (fun l => pm_look l 215) cq_267).trans rfl⟩
theorem lk_267_216 : Lk 267 216 (.iload_n 3) 0 0 (0) := ⟨1, 0, (congrArg (fun l => pm_look l 216) cq_267).trans rfl⟩
theorem lk_267_217 : Lk 267 217 (.iconst 2) 0 0 (0) := ⟨1, 0, (congrArg (fun l => pm_look l 217) cq_267).trans rfl⟩
theorem lk_267_218 : Lk 267 218 (.iadd) 0 0 (0) := ⟨1, 0, (congrArg (fun l => pm_look l 218) cq_267).trans rfl⟩
theorem lk_267_219 : Lk 267 219 (.iaload) 0 0 (0) := ⟨1, 0, (congrArg (fun l => pm_look l 219) cq_267).trans rfl⟩
theorem lk_267_220 : Lk 267 220 (.aload_n 0) 0 0 (0) := ⟨1, 0, (congrArg (fun l => pm_look l 220) cq_267).trans rfl⟩
theorem lk_267_221 : Lk 267 221 (.iload_n 3) 0 0 (0) := ⟨1, 0, (congrArg (fun l => pm_look l 221) cq_267).trans rfl⟩
theorem lk_267_222 : Lk 267 222 (.iconst 3) 0 0 (0) := ⟨1, 0, (congrArg (fun l => pm_look l 222) cq_267).trans rfl⟩
theorem lk_267_223 : Lk 267 223 (.iadd) 0 0 (0) := ⟨1, 0, (congrArg (fun l => pm_look l 223) cq_267).trans rfl⟩
theorem lk_267_224 : Lk 267 224 (.iaload) 0 0 (0) := ⟨1, 0, (congrArg (fun l => pm_look l 224) cq_267).trans rfl⟩
theorem lk_267_225 : Lk 267 225 (.aload_n 0) 0 0 (0) := ⟨1, 0, (congrArg (fun l => pm_look l 225) cq_267).trans rfl⟩
theorem lk_267_226 : Lk 267 226 (.iload_n 3) 0 0 (0) := ⟨1, 0, (congrArg (fun l => pm_look l 226) cq_267).trans rfl⟩
theorem lk_267_227 : Lk 267 227 (.iconst 4) 0 0 (0) := ⟨1, 0, (congrArg (fun l => pm_look l 227) cq_267).trans rfl⟩
theorem lk_267_228 : Lk 267 228 (.iadd) 0 0 (0) := ⟨1, 0, (congrArg (fun l => pm_look l 228) cq_267).trans rfl⟩
theorem lk_267_229 : Lk 267 229 (.iaload) 0 0 (0) := ⟨1, 0, (congrArg (fun l => pm_look l 229) cq_267).trans rfl⟩
theorem lk_267_230 : Lk 267 230 (.aload_n 0) 0 0 (0) := ⟨1, 0, (congrArg (fun l => pm_look l 230) cq_267).trans rfl⟩
theorem lk_267_231 : Lk 267 231 (.iload_n 3) 0 0 (0) := ⟨1, 0, (congrArg (fun l => pm_look l 231) cq_267).trans rfl⟩
theorem lk_267_232 : Lk 267 232 (.iconst 5) 0 0 (0) := ⟨1, 0, (congrArg (fun l => pm_look l 232) cq_267).trans rfl⟩
theorem lk_267_233 : Lk 267 233 (.iadd) 0 0 (0) := ⟨1, 0, (congrArg (fun l => pm_look l 233) cq_267).trans rfl⟩
theorem lk_267_234 : Lk 267 234 (.iaload) 0 0 (0) := ⟨1, 0, (congrArg (fun l => pm_look l 234) cq_267).trans rfl⟩
theorem lk_267_235 : Lk 267 235 (.invokevirtual 17) 178 0 (0) := ⟨3, 1471, (congrArg (fun l => pm_look l 235) cq_267).trans rfl⟩
theorem lk_267_238 : Lk 267 238 (.if_icmp .eq 1043) 0 0 (0) := ⟨3, 0, (congrArg (fun l => pm_look l 238) cq_267).trans rfl⟩
theorem lk_267_241 : Lk 267 241 (.iconst 0) 0 0 (0) := ⟨1, 0, (congrArg (fun l => pm_look l 241) cq_267).trans rfl⟩
theorem lk_267_242 : Lk 267 242 (.ireturn) 1 0 (0) := ⟨1, 0, (congrArg (fun l => pm_look l 242) cq_267).trans rfl⟩
theorem lk_267_243 : Lk 267 243 (.aload_n 1) 0 0 (0) := ⟨1, 0, (congrArg (fun l => pm_look l 243) cq_267).trans rfl⟩
theorem lk_267_244 : Lk 267 244 (.aload_n 0) 0 0 (0) := ⟨1, 0, (congrArg (fun l => pm_look l 244) cq_267).trans rfl⟩
theorem lk_267_245 : Lk 267 245 (.iload_n 3) 0 0 (0) := ⟨1, 0, (congrArg (fun l => pm_look l 245) cq_267).trans rfl⟩
theorem lk_267_246 : Lk 267 246 (.iconst 1) 0 0 (0) := ⟨1, 0, (congrArg (fun l => pm_look l 246) cq_267).trans rfl⟩
theorem lk_267_247 : Lk 267 247 (.iadd) 0 0 (0) := ⟨1, 0, (congrArg (fun l => pm_look l 247) cq_267).trans rfl⟩
theorem lk_267_248 : Lk 267 248 (.iaload) 0 0 (0) := ⟨1, 0, (congrArg (fun l => pm_look l 248) cq_267).trans rfl⟩
theorem lk_267_249 : Lk 267 249 (.invokevirtual 18) 120 0 (0) := ⟨3, 567, (congrArg (fun l => pm_look l 249) cq_267).trans rfl⟩
theorem lk_267_252 : Lk 267 252 (.aload_n 2) 0 0 (0) := ⟨1, 0, (congrArg (fun l => pm_look l 252) cq_267).trans rfl⟩
theorem lk_267_253 : Lk 267 253 (.aload_n 0) 0 0 (0) := ⟨1, 0, (congrArg (fun l => pm_look l 253) cq_267).trans rfl⟩
theorem lk_267_254 : Lk 267 254 (.iload_n 3) 0 0 (0) := ⟨1, 0, (congrArg (fun l => pm_look l 254) cq_267).trans rfl⟩
theorem lk_267_255 : Lk 267 255 (.iconst 1) 0 0 (0) := ⟨1, 0, (congrArg (fun l => pm_look l 255) cq_267).trans rfl⟩
theorem lk_267_256 : Lk 267 256 (.iadd) 0 0 (0) := ⟨1, 0, (congrArg (fun l => pm_look l 256) cq_267).trans rfl⟩
theorem lk_267_257 : Lk 267 257 (.iaload) 0 0 (0) := ⟨1, 0, (congrArg (fun l => pm_look l 257) cq_267).trans rfl⟩
theorem lk_267_258 : Lk 267 258 (.invokevirtual 22) 179 0 (0) := ⟨3, 1479, (congrArg (fun l => pm_look l 258) cq_267).trans rfl⟩
theorem lk_267_261 : Lk 267 261 (.if_icmp .eq 1020) 0 0 (0) := ⟨3, 0, (congrArg (fun l => pm_look l 261) cq_267).trans rfl⟩
theorem lk_267_264 : Lk 267 264 (.iconst 0) 0 0 (0) := ⟨1, 0, (congrArg (fun l => pm_look l 264) cq_267).trans rfl⟩
theorem lk_267_265 : Lk 267 265 (.ireturn) 1 0 (0) := ⟨1, 0, (congrArg (fun l => pm_look l 265) cq_267).trans rfl⟩
theorem lk_267_266 : Lk 267 266 (.aload_n 1) 0 0 (0) := ⟨1, 0, (congrArg (fun l => pm_look l 266) cq_267).trans rfl⟩
theorem lk_267_267 : Lk 267 267 (.invokevirtual 23) 121 0 (0) := ⟨3, 571, (congrArg (fun l => pm_look l 267) cq_267).trans rfl⟩
theorem lk_267_270 : Lk 267 270 (.aload_n 2) 0 0 (0) := ⟨1, 0, (congrArg (fun l => pm_look l 270) cq_267).trans rfl⟩
theorem lk_267_271 : Lk 267 271 (.invokevirtual 27) 197 0 (0) := ⟨3, 1486, (congrArg (fun l => pm_look l 271) cq_267).trans rfl⟩
theorem lk_267_274 : Lk 267 274 (.if_icmp .eq 1007) 0 0 (0) := ⟨3, 0, (congrArg (fun l => pm_look l 274) cq_267).trans rfl⟩
theorem lk_267_277 : Lk 267 277 (.iconst 0) 0 0 (0) := ⟨1, 0, (congrArg (fun l => pm_look l 277) cq_267).trans rfl⟩
theorem lk_267_278 : Lk 267 278 (.ireturn) 1 0 (0) := ⟨1, 0, (congrArg (fun l => pm_look l 278) cq_267).trans rfl⟩
theorem lk_267_279 : Lk 267 279 (.aload_n 1) 0 0 (0) := ⟨1, 0, (congrArg (fun l => pm_look l 279) cq_267).trans rfl⟩
theorem lk_267_280 : Lk 267 280 (.aload_n 0) 0 0 (0) := ⟨1, 0, (congrArg (fun l => pm_look l 280) cq_267).trans rfl⟩
theorem lk_267_281 : Lk 267 281 (.iload_n 3) 0 0 (0) := ⟨1, 0, (congrArg (fun l => pm_look l 281) cq_267).trans rfl⟩
theorem lk_267_282 : Lk 267 282 (.iconst 1) 0 0 (0) := ⟨1, 0, (congrArg (fun l => pm_look l 282) cq_267).trans rfl⟩
theorem lk_267_283 : Lk 267 283 (.iadd) 0 0 (0) := ⟨1, 0, (congrArg (fun l => pm_look l 283) cq_267).trans rfl⟩
theorem lk_267_284 : Lk 267 284 (.iaload) 0 0 (0) := ⟨1, 0, (congrArg (fun l => pm_look l 284) cq_267).trans rfl⟩
theorem lk_267_285 : Lk 267 285 (.invokevirtual 28) 122 0 (0) := ⟨3, 676, (congrArg (fun l => pm_look l 285) cq_267).trans rfl⟩
theorem lk_267_288 : Lk 267 288 (.aload_n 2) 0 0 (0) := ⟨1, 0, (congrArg (fun l => pm_look l 288) cq_267).trans rfl⟩
theorem lk_267_289 : Lk 267 289 (.aload_n 0) 0 0 (0) := ⟨1, 0, (congrArg (fun l => pm_look l 289) cq_267).trans rfl⟩
theorem lk_267_290 : Lk 267 290 (.iload_n 3) 0 0 (0) := ⟨1, 0, (congrArg (fun l => pm_look l 290) cq_267).trans rfl⟩
theorem lk_267_291 : Lk 267 291 (.iconst 1) 0 0 (0) := ⟨1, 0, (congrArg (fun l => pm_look l 291) cq_267).trans rfl⟩
theorem lk_267_292 : Lk 267 292 (.iadd) 0 0 (0) := ⟨1, 0, (congrArg (fun l => pm_look l 292) cq_267).trans rfl⟩
theorem lk_267_293 : Lk 267 293 (.iaload) 0 0 (0) := ⟨1, 0, (congrArg (fun l => pm_look l 293) cq_267).trans rfl⟩
theorem lk_267_294 : Lk 267 294 (.invokevirtual 31) 199 0 (0) := ⟨3, 1563, (congrArg (fun l => pm_look l 294) cq_267).trans rfl⟩
theorem lk_267_297 : Lk 267 297 (.if_icmp .eq 984) 0 0 (0) := ⟨3, 0, (congrArg (fun l => pm_look l 297) cq_267).trans rfl⟩
theorem lk_267_300 : Lk 267 300 (.iconst 0) 0 0 (0) := ⟨1, 0, (congrArg (fun l => pm_look l 300) cq_267).trans rfl⟩
theorem lk_267_301 : Lk 267 301 (.ireturn) 1 0 (0) := ⟨1, 0, (congrArg (fun l => pm_look l 301) cq_267).trans rfl⟩
theorem lk_267_302 : Lk 267 302 (.aload_n 1) 0 0 (0) := ⟨1, 0, (congrArg (fun l => pm_look l 302) cq_267).trans rfl⟩
set_option maxRecDepth 100000 in
theorem lk_267_303 : Lk 267 303 (.aload_n 0) 0 0 (0) := ⟨1, 0, (congrArg (fun l => pm_look l 303) cq_267).trans rfl⟩
set_option maxRecDepth 100000 in
theorem lk_267_304 : Lk 267 304 (.iload_n 3) 0 0 (0) := ⟨1, 0, (congrArg (fun l => pm_look l 304) cq_267).trans rfl⟩
set_option maxRecDepth 100000 in
theorem lk_267_305 : Lk 267 305 (.iconst 1) 0 0 (0) := ⟨1, 0, (congrArg (fun l => pm_look l 305) cq_267).trans rfl⟩
set_option maxRecDepth 100000 in
theorem lk_267_306 : Lk 267 306 (.iadd) 0 0 (0) := ⟨1, 0, (congrArg (fun l => pm_look l 306) cq_267).trans rfl⟩
set_option maxRecDepth 100000 in
theorem lk_267_307 : Lk 267 307 (.iaload) 0 0 (0) := ⟨1, 0, (congrArg (fun l => pm_look l 307) cq_267).trans rfl⟩
set_option maxRecDepth 100000 in
theorem lk_267_308 : Lk 267 308 (.invokevirtual 32) 123 0 (0) := ⟨3, 680, (congrArg (fun l => pm_look l 308) cq_267).trans rfl⟩
set_option maxRecDepth 100000 in
theorem lk_267_311 : Lk 267 311 (.aload_n 2) 0 0 (0) := ⟨1, 0, (congrArg (fun l => pm_look l 311) cq_267).trans rfl⟩
set_option maxRecDepth 100000 in
theorem lk_267_312 : Lk 267 312 (.aload_n 0) 0 0 (0) := ⟨1, 0, (congrArg (fun l => pm_look l 312) cq_267).trans rfl⟩
set_option maxRecDepth 100000 in
theorem lk_267_313 : Lk 267 313 (.iload_n 3) 0 0 (0) := ⟨1, 0, (congrArg (fun l => pm_look l 313) cq_267).trans rfl⟩
set_option maxRecDepth 100000 in
theorem lk_267_314 : Lk 267 314 (.iconst 1) 0 0 (0) := ⟨1, 0, (congrArg (fun l => pm_look l 314) cq_267).trans rfl⟩
set_option maxRecDepth 100000 in
theorem lk_267_315 : Lk 267 315 (.iadd) 0 0 (0) := ⟨1, 0, (congrArg (fun l => pm_look l 315) cq_267).trans rfl⟩
set_option maxRecDepth 100000 in
theorem lk_267_316 : Lk 267 316 (.iaload) 0 0 (0) := ⟨1, 0, (congrArg (fun l => pm_look l 316) cq_267).trans rfl⟩
set_option maxRecDepth 100000 in
theorem lk_267_317 : Lk 267 317 (.invokevirtual 35) 203 0 (0) := ⟨3, 1567, (congrArg (fun l => pm_look l 317) cq_267).trans rfl⟩
set_option maxRecDepth 100000 in
theorem lk_267_320 : Lk 267 320 (.if_icmp .eq 961) 0 0 (0) := ⟨3, 0, (congrArg (fun l => pm_look l 320) cq_267).trans rfl⟩
set_option maxRecDepth 100000 in
theorem lk_267_323 : Lk 267 323 (.iconst 0) 0 0 (0) := ⟨1, 0, (congrArg (fun l => pm_look l 323) cq_267).trans rfl⟩
set_option maxRecDepth 100000 in
theorem lk_267_324 : Lk 267 324 (.ireturn) 1 0 (0) := ⟨1, 0, (congrArg (fun l => pm_look l 324) cq_267).trans rfl⟩
set_option maxRecDepth 100000 in
theorem lk_267_325 : Lk 267 325 (.aload_n 1) 0 0 (0) := ⟨1, 0, (congrArg (fun l => pm_look l 325) cq_267).trans rfl⟩
set_option maxRecDepth 100000 in
theorem lk_267_326 : Lk 267 326 (.aload_n 0) 0 0 (0) := ⟨1, 0, (congrArg (fun l => pm_look l 326) cq_267).trans rfl⟩
set_option maxRecDepth 100000 in
theorem lk_267_327 : Lk 267 327 (.iload_n 3) 0 0 (0) := ⟨1, 0, (congrArg (fun l => pm_look l 327) cq_267).trans rfl⟩
set_option maxRecDepth 100000 in
theorem lk_267_328 : Lk 267 328 (.iconst 1) 0 0 (0) := ⟨1, 0, (congrArg (fun l => pm_look l 328) cq_267).trans rfl⟩
set_option maxRecDepth 100000 in
theorem lk_267_329 : Lk 267 329 (.iadd) 0 0 (0) := ⟨1, 0, (congrArg (fun l => pm_look l 329) cq_267).trans rfl⟩
set_option maxRecDepth 100000 in
theorem lk_267_330 : Lk 267 330 (.iaload) 0 0 (0) := ⟨1, 0, (congrArg (fun l => pm_look l 330) cq_267).trans rfl⟩
set_option maxRecDepth 100000 in
theorem lk_267_331 : Lk 267 331 (.aload_n 0) 0 0 (0) := ⟨1, 0, (congrArg (fun l => pm_look l 331) cq_267).trans rfl⟩
set_option maxRecDepth 100000 in
theorem lk_267_332 : Lk 267 332 (.iload_n 3) 0 0 (0) := ⟨1, 0, (congrArg (fun l => pm_look l 332) cq_267).trans rfl⟩
set_option maxRecDepth 100000 in
theorem lk_267_333 : Lk 267 333 (.iconst 2) 0 0 (0) := ⟨1, 0, (congrArg (fun l => pm_look l 333) cq_267).trans rfl⟩
set_option maxRecDepth 100000 in
theorem lk_267_334 : Lk 267 334 (.iadd) 0 0 (0) := ⟨1, 0, (congrArg (fun l => pm_look l 334) cq_267).trans rfl⟩
set_option maxRecDepth 100000 in
theorem lk_267_335 : Lk 267 335 (.iaload) 0 0 (0) := ⟨1, 0, (congrArg (fun l => pm_look l 335) cq_267).trans rfl⟩
set_option maxRecDepth 100000 in
theorem lk_267_336 : Lk 267 336 (.invokevirtual 36) 124 0 (0) := ⟨3, 720, (congrArg (fun l => pm_look l 336) cq_267).trans rfl⟩
set_option maxRecDepth 100000 in
theorem lk_267_339 : Lk 267 339 (.aload_n 2) 0 0 (0) := ⟨1, 0, (congrArg (fun l => pm_look l 339) cq_267).trans rfl⟩
set_option maxRecDepth 100000 in
theorem lk_267_340 : Lk 267 340 (.aload_n 0) 0 0 (0) := ⟨1, 0, (congrArg (fun l => pm_look l 340) cq_267).trans rfl⟩
set_option maxRecDepth 100000 in
theorem lk_267_341 : Lk 267 341 (.iload_n 3) 0 0 (0) := ⟨1, 0, (congrArg (fun l => pm_look l 341) cq_267).trans rfl⟩
set_option maxRecDepth 100000 in
theorem lk_267_342 : Lk 267 342 (.iconst 1) 0 0 (0) := ⟨1, 0, (congrArg (fun l => pm_look l 342) cq_267).trans rfl⟩
set_option maxRecDepth 100000 in
theorem lk_267_343 : Lk 267 343 (.iadd) 0 0 (0) := ⟨1, 0, (congrArg (fun l => pm_look l 343) cq_267).trans rfl⟩
set_option maxRecDepth 100000 in
theorem lk_267_344 : Lk 267 344 (.iaload) 0 0 (0) := ⟨1, 0, (congrArg (fun l => pm_look l 344) cq_267).trans rfl⟩
set_option maxRecDepth 100000 in
theorem lk_267_345 : Lk 267 345 (.aload_n 0) 0 0 (0) := ⟨1, 0, (congrArg (fun l => pm_look l 345) cq_267).trans rfl⟩
set_option maxRecDepth 100000 in
theorem lk_267_346 : Lk 267 346 (.iload_n 3) 0 0 (0) := ⟨1, 0, (congrArg (fun l => pm_look l 346) cq_267).trans rfl⟩
set_option maxRecDepth 100000 in
theorem lk_267_347 : Lk 267 347 (.iconst 2) 0 0 (0) := ⟨1, 0, (congrArg (fun l => pm_look l 347) cq_267).trans rfl⟩
set_option maxRecDepth 100000 in
theorem lk_267_348 : Lk 267 348 (.iadd) 0 0 (0) := ⟨1, 0, (congrArg (fun l => pm_look l 348) cq_267).trans rfl⟩
set_option maxRecDepth 100000 in
theorem lk_267_349 : Lk 267 349 (.iaload) 0 0 (0) := ⟨1, 0, (congrArg (fun l => pm_look l 349) cq_267).trans rfl⟩
set_option maxRecDepth 100000 in
theorem lk_267_350 : Lk 267 350 (.invokevirtual 40) 204 0 (0) := ⟨3, 1594, (congrArg (fun l => pm_look l 350) cq_267).trans rfl⟩
set_option maxRecDepth 100000 in
theorem lk_267_353 : Lk 267 353 (.if_icmp .eq 928) 0 0 (0) := ⟨3, 0, (congrArg (fun l => pm_look l 353) cq_267).trans rfl⟩
set_option maxRecDepth 100000 in
theorem lk_267_356 : Lk 267 356 (.iconst 0) 0 0 (0) := ⟨1, 0, (congrArg (fun l => pm_look l 356) cq_267).trans rfl⟩
set_option maxRecDepth 100000 in
theorem lk_267_357 : Lk 267 357 (.ireturn) 1 0 (0) := ⟨1, 0, (congrArg (fun l => pm_look l 357) cq_267).trans rfl⟩
set_option maxRecDepth 100000 in
theorem lk_267_358 : Lk 267 358 (.aload_n 1) 0 0 (0) := ⟨1, 0, (congrArg (fun l => pm_look l 358) cq_267).trans rfl⟩
set_option maxRecDepth 100000 in
theorem lk_267_359 : Lk 267 359 (.aload_n 0) 0 0 (0) := ⟨1, 0, (congrArg (fun l => pm_look l 359) cq_267).trans rfl⟩
set_option maxRecDepth 100000 in
theorem lk_267_360 : Lk 267 360 (.iload_n 3) 0 0 (0) := ⟨1, 0, (congrArg (fun l => pm_look l 360) cq_267).trans rfl⟩
set_option maxRecDepth 100000 in
theorem lk_267_361 : Lk 267 361 (.iconst 1) 0 0 (0) := ⟨1, 0, (congrArg (fun l => pm_look l 361) cq_267).trans rfl⟩
set_option maxRecDepth 100000 in
theorem lk_267_362 : Lk 267 362 (.iadd) 0 0 (0) := ⟨1, 0, (congrArg (fun l => pm_look l 362) cq_267).trans rfl⟩
set_option maxRecDepth 100000 in
theorem lk_267_363 : Lk 267 363 (.iaload) 0 0 (0) := ⟨1, 0, (congrArg (fun l => pm_look l 363) cq_267).trans rfl⟩
set_option maxRecDepth 100000 in
theorem lk_267_364 : Lk 267 364 (.aload_n 0) 0 0 (0) := ⟨1, 0, (congrArg (fun l => pm_look l 364) cq_267).trans rfl⟩
set_option maxRecDepth 100000 in
theorem lk_267_365 : Lk 267 365 (.iload_n 3) 0 0 (0) := ⟨1, 0, (congrArg (fun l => pm_look l 365) cq_267).trans rfl⟩
set_option maxRecDepth 100000 in
theorem lk_267_366 : Lk 267 366 (.iconst 2) 0 0 (0) := ⟨1, 0, (congrArg (fun l => pm_look l 366) cq_267).trans rfl⟩
set_option maxRecDepth 100000 in
theorem lk_267_367 : Lk 267 367 (.iadd) 0 0 (0) := ⟨1, 0, (congrArg (fun l => pm_look l 367) cq_267).trans rfl⟩
set_option maxRecDepth 100000 in
theorem lk_267_368 : Lk 267 368 (.iaload) 0 0 (0) := ⟨1, 0, (congrArg (fun l => pm_look l 368) cq_267).trans rfl⟩
set_option maxRecDepth 100000 in
theorem lk_267_369 : Lk 267 369 (.aload_n 0) 0 0 (0) := ⟨1, 0, (congrArg (fun l => pm_look l 369) cq_267).trans rfl⟩
set_option maxRecDepth 100000 in
theorem lk_267_370 : Lk 267 370 (.iload_n 3) 0 0 (0) := ⟨1, 0, (congrArg (fun l => pm_look l 370) cq_267).trans rfl⟩
set_option maxRecDepth 100000 in
theorem lk_267_371 : Lk 267 371 (.iconst 3) 0 0 (0) := ⟨1, 0, (congrArg (fun l => pm_look l 371) cq_267).trans rfl⟩
set_option maxRecDepth 100000 in
theorem lk_267_372 : Lk 267 372 (.iadd) 0 0 (0) := ⟨1, 0, (congrArg (fun l => pm_look l 372) cq_267).trans rfl⟩
set_option maxRecDepth 100000 in
theorem lk_267_373 : Lk 267 373 (.iaload) 0 0 (0) := ⟨1, 0, (congrArg (fun l => pm_look l 373) cq_267).trans rfl⟩
set_option maxRecDepth 100000 in
theorem lk_267_374 : Lk 267 374 (.invokevirtual 41) 125 0 (0) := ⟨3, 729, (congrArg (fun l => pm_look l 374) cq_267).trans rfl⟩
set_option maxRecDepth 100000 in
theorem lk_267_377 : Lk 267 377 (.aload_n 2) 0 0 (0) := ⟨1, 0, (congrArg (fun l => pm_look l 377) cq_267).trans rfl⟩
set_option maxRecDepth 100000 in
theorem lk_267_378 : Lk 267 378 (.aload_n 0) 0 0 (0) := ⟨1, 0, (congrArg (fun l => pm_look l 378) cq_267).trans rfl⟩
set_option maxRecDepth 100000 in
theorem lk_267_379 : Lk 267 379 (.iload_n 3) 0 0 (0) := ⟨1, 0, (congrArg (fun l => pm_look l 379) cq_267).trans rfl⟩
set_option maxRecDepth 100000 in
theorem lk_267_380 : Lk 267 380 (.iconst 1) 0 0 (0) := ⟨1, 0, (congrArg (fun l => pm_look l 380) cq_267).trans rfl⟩
set_option maxRecDepth 100000 in
theorem lk_267_381 : Lk 267 381 (.iadd) 0 0 (0) := ⟨1, 0, (congrArg (fun l => pm_look l 381) cq_267).trans rfl⟩
set_option maxRecDepth 100000 in
theorem lk_267_382 : Lk 267 382 (.iaload) 0 0 (0) := ⟨1, 0, (congrArg (fun l => pm_look l 382) cq_267).trans rfl⟩
set_option maxRecDepth 100000 in
theorem lk_267_383 : Lk 267 383 (.aload_n 0) 0 0 (0) := ⟨1, 0, (congrArg (fun l => pm_look l 383) cq_267).trans rfl⟩
set_option maxRecDepth 100000 in
theorem lk_267_384 : Lk 267 384 (.iload_n 3) 0 0 (0) := ⟨1, 0, (congrArg (fun l => pm_look l 384) cq_267).trans rfl⟩
set_option maxRecDepth 100000 in
theorem lk_267_385 : Lk 267 385 (.iconst 2) 0 0 (0) := ⟨1, 0, (congrArg (fun l => pm_look l 385) cq_267).trans rfl⟩
set_option maxRecDepth 100000 in
theorem lk_267_386 : Lk 267 386 (.iadd) 0 0 (0) := ⟨1, 0, (congrArg (fun l => pm_look l 386) cq_267).trans rfl⟩
set_option maxRecDepth 100000 in
theorem lk_267_387 : Lk 267 387 (.iaload) 0 0 (0) := ⟨1, 0, (congrArg (fun l => pm_look l 387) cq_267).trans rfl⟩
set_option maxRecDepth 100000 in
theorem lk_267_388 : Lk 267 388 (.aload_n 0) 0 0 (0) := ⟨1, 0, (congrArg (fun l => pm_look l 388) cq_267).trans rfl⟩
set_option maxRecDepth 100000 in
theorem lk_267_389 : Lk 267 389 (.iload_n 3) 0 0 (0) := ⟨1, 0, (congrArg (fun l => pm_look l 389) cq_267).trans rfl⟩
set_option maxRecDepth 100000 in
theorem lk_267_390 : Lk 267 390 (.iconst 3) 0 0 (0) := ⟨1, 0, (congrArg (fun l => pm_look l 390) cq_267).trans rfl⟩
set_option maxRecDepth 100000 in
theorem lk_267_391 : Lk 267 391 (.iadd) 0 0 (0) := ⟨1, 0, (congrArg (fun l => pm_look l 391) cq_267).trans rfl⟩
set_option maxRecDepth 100000 in
theorem lk_267_392 : Lk 267 392 (.iaload) 0 0 (0) := ⟨1, 0, (congrArg (fun l => pm_look l 392) cq_267).trans rfl⟩
set_option maxRecDepth 100000 in
theorem lk_267_393 : Lk 267 393 (.invokevirtual 45) 207 0 (0) := ⟨3, 1602, (congrArg (fun l => pm_look l 393) cq_267).trans rfl⟩
set_option maxRecDepth 100000 in
theorem lk_267_396 : Lk 267 396 (.if_icmp .eq 885) 0 0 (0) := ⟨3, 0, (congrArg (fun l => pm_look l 396) cq_267).trans rfl⟩
set_option maxRecDepth 100000 in
theorem lk_267_399 : Lk 267 399 (.iconst 0) 0 0 (0) := ⟨1, 0, (congrArg (fun l => pm_look l 399) cq_267).trans rfl⟩
set_option maxRecDepth 100000 in
theorem lk_267_400 : Lk 267 400 (.ireturn) 1 0 (0) := ⟨1, 0, (congrArg (fun l => pm_look l 400) cq_267).trans rfl⟩
set_option maxRecDepth 100000 in
theorem lk_267_401 : Lk 267 401 (.aload_n 1) 0 0 (0) := ⟨1, 0, (congrArg (fun l => pm_look l 401) cq_267).trans rfl⟩
set_option maxRecDepth 100000 in
theorem lk_267_402 : Lk 267 402 (.aload_n 0) 0 0 (0) := ⟨1, 0, (congrArg (fun l => pm_look l 402) cq_267).trans rfl⟩
set_option maxRecDepth 100000 in
theorem lk_267_403 : Lk 267 403 (.iload_n 3) 0 0 (0) := ⟨1, 0, (congrArg (fun l => pm_look l 403) cq_267).trans rfl⟩
set_option maxRecDepth 100000 in
theorem lk_267_404 : Lk 267 404 (.iconst 1) 0 0 (0) := ⟨1, 0, (congrArg (fun l => pm_look l 404) cq_267).trans rfl⟩
set_option maxRecDepth 100000 in
theorem lk_267_405 : Lk 267 405 (.iadd) 0 0 (0) := ⟨1, 0, (congrArg (fun l => pm_look l 405) cq_267).trans rfl⟩
set_option maxRecDepth 100000 in
theorem lk_267_406 : Lk 267 406 (.iaload) 0 0 (0) := ⟨1, 0, (congrArg (fun l => pm_look l 406) cq_267).trans rfl⟩
set_option maxRecDepth 100000 in
theorem lk_267_407 : Lk 267 407 (.aload_n 0) 0 0 (0) := ⟨1, 0, (congrArg (fun l => pm_look l 407) cq_267).trans rfl⟩
set_option maxRecDepth 100000 in
theorem lk_267_408 : Lk 267 408 (.iload_n 3) 0 0 (0) := ⟨1, 0, (congrArg (fun l => pm_look l 408) cq_267).trans rfl⟩
set_option maxRecDepth 100000 in
theorem lk_267_409 : Lk 267 409 (.iconst 2) 0 0 (0) := ⟨1, 0, (congrArg (fun l => pm_look l 409) cq_267).trans rfl⟩
set_option maxRecDepth 100000 in
theorem lk_267_410 : Lk 267 410 (.iadd) 0 0 (0) := ⟨1, 0, (congrArg (fun l => pm_look l 410) cq_267).trans rfl⟩
set_option maxRecDepth 100000 in
theorem lk_267_411 : Lk 267 411 (.iaload) 0 0 (0) := ⟨1, 0, (congrArg (fun l => pm_look l 411) cq_267).trans rfl⟩
set_option maxRecDepth 100000 in
theorem lk_267_412 : Lk 267 412 (.invokevirtual 46) 126 0 (0) := ⟨3, 743, (congrArg (fun l => pm_look l 412) cq_267).trans rfl⟩
set_option maxRecDepth 100000 in
theorem lk_267_415 : Lk 267 415 (.aload_n 2) 0 0 (0) := ⟨1, 0, (congrArg (fun l => pm_look l 415) cq_267).trans rfl⟩
set_option maxRecDepth 100000 in
theorem lk_267_416 : Lk 267 416 (.aload_n 0) 0 0 (0) := ⟨1, 0, (congrArg (fun l => pm_look l 416) cq_267).trans rfl⟩
set_option maxRecDepth 100000 in
theorem lk_267_417 : Lk 267 417 (.iload_n 3) 0 0 (0) := ⟨1, 0, (congrArg (fun l => pm_look l 417) cq_267).trans rfl⟩
set_option maxRecDepth 100000 in
theorem lk_267_418 : Lk 267 418 (.iconst 1) 0 0 (0) := ⟨1, 0, (congrArg (fun l => pm_look l 418) cq_267).trans rfl⟩
set_option maxRecDepth 100000 in
theorem lk_267_419 : Lk 267 419 (.iadd) 0 0 (0) := ⟨1, 0, (congrArg (fun l => pm_look l 419) cq_267).trans rfl⟩
set_option maxRecDepth 100000 in
theorem lk_267_420 : Lk 267 420 (.iaload) 0 0 (0) := ⟨1, 0, (congrArg (fun l => pm_look l 420) cq_267).trans rfl⟩
set_option maxRecDepth 100000 in
theorem lk_267_421 : Lk 267 421 (.aload_n 0) 0 0 (0) := ⟨1, 0, (congrArg (fun l => pm_look l 421) cq_267).trans rfl⟩
set_option maxRecDepth 100000 in
theorem lk_267_422 : Lk 267 422 (.iload_n 3) 0 0 (0) := ⟨1, 0, (congrArg (fun l => pm_look l 422) cq_267).trans rfl⟩
set_option maxRecDepth 100000 in
theorem lk_267_423 : Lk 267 423 (.iconst 2) 0 0 (0) := ⟨1, 0, (congrArg (fun l => pm_look l 423) cq_267).trans rfl⟩
set_option maxRecDepth 100000 in
theorem lk_267_424 : Lk 267 424 (.iadd) 0 0 (0) := ⟨1, 0, (congrArg (fun l => pm_look l 424) cq_267).trans rfl⟩
set_option maxRecDepth 100000 in
theorem lk_267_425 : Lk 267 425 (.iaload) 0 0 (0) := ⟨1, 0, (congrArg (fun l => pm_look l 425) cq_267).trans rfl⟩
set_option maxRecDepth 100000 in
theorem lk_267_426 : Lk 267 426 (.invokevirtual 49) 209 0 (0) := ⟨3, 1616, (congrArg (fun l => pm_look l 426) cq_267).trans rfl⟩
set_option maxRecDepth 100000 in
theorem lk_267_429 : Lk 267 429 (.if_icmp .eq 852) 0 0 (0) := ⟨3, 0, (congrArg (fun l => pm_look l 429) cq_267).trans rfl⟩
set_option maxRecDepth 100000 in
theorem lk_267_432 : Lk 267 432 (.iconst 0) 0 0 (0) := ⟨1, 0, (congrArg (fun l => pm_look l 432) cq_267).trans rfl⟩
set_option maxRecDepth 100000 in
theorem lk_267_433 : Lk 267 433 (.ireturn) 1 0 (0) := ⟨1, 0, (congrArg (fun l => pm_look l 433) cq_267).trans rfl⟩
set_option maxRecDepth 100000 in
theorem lk_267_434 : Lk 267 434 (.aload_n 1) 0 0 (0) := ⟨1, 0, (congrArg (fun l => pm_look l 434) cq_267).trans rfl⟩
set_option maxRecDepth 100000 in
theorem lk_267_435 : Lk 267 435 (.aload_n 0) 0 0 (0) := ⟨1, 0, (congrArg (fun l => pm_look l 435) cq_267).trans rfl⟩
set_option maxRecDepth 100000 in
theorem lk_267_436 : Lk 267 436 (.iload_n 3) 0 0 (0) := ⟨1, 0, (congrArg (fun l => pm_look l 436) cq_267).trans rfl⟩
set_option maxRecDepth 100000 in
theorem lk_267_437 : Lk 267 437 (.iconst 1) 0 0 (0) := ⟨1, 0, (congrArg (fun l => pm_look l 437) cq_267).trans rfl⟩
set_option maxRecDepth 100000 in
theorem lk_267_438 : Lk 267 438 (.iadd) 0 0 (0) := ⟨1, 0, (congrArg (fun l => pm_look l 438) cq_267).trans rfl⟩
set_option maxRecDepth 100000 in
theorem lk_267_439 : Lk 267 439 (.iaload) 0 0 (0) := ⟨1, 0, (congrArg (fun l => pm_look l 439) cq_267).trans rfl⟩
set_option maxRecDepth 100000 in
theorem lk_267_440 : Lk 267 440 (.invokevirtual 50) 127 0 (0) := ⟨3, 781, (congrArg (fun l => pm_look l 440) cq_267).trans rfl⟩
set_option maxRecDepth 100000 in
theorem lk_267_443 : Lk 267 443 (.aload_n 2) 0 0 (0) := ⟨1, 0, (congrArg (fun l => pm_look l 443) cq_267).trans rfl⟩
set_option maxRecDepth 100000 in
theorem lk_267_444 : Lk 267 444 (.aload_n 0) 0 0 (0) := ⟨1, 0, (congrArg (fun l => pm_look l 444) cq_267).trans rfl⟩
set_option maxRecDepth 100000 in
theorem lk_267_445 : Lk 267 445 (.iload_n 3) 0 0 (0) := ⟨1, 0, (congrArg (fun l => pm_look l 445) cq_267).trans rfl⟩
set_option maxRecDepth 100000 in
theorem lk_267_446 : Lk 267 446 (.iconst 1) 0 0 (0) := ⟨1, 0, (congrArg (fun l => pm_look l 446) cq_267).trans rfl⟩
set_option maxRecDepth 100000 in
theorem lk_267_447 : Lk 267 447 (.iadd) 0 0 (0) := ⟨1, 0, (congrArg (fun l => pm_look l 447) cq_267).trans rfl⟩
set_option maxRecDepth 100000 in
theorem lk_267_448 : Lk 267 448 (.iaload) 0 0 (0) := ⟨1, 0, (congrArg (fun l => pm_look l 448) cq_267).trans rfl⟩
set_option maxRecDepth 100000 in
theorem lk_267_449 : Lk 267 449 (.invokevirtual 53) 215 0 (0) := ⟨3, 1635, (congrArg (fun l => pm_look l 449) cq_267).trans rfl⟩
set_option maxRecDepth 100000 in
theorem lk_267_452 : Lk 267 452 (.if_icmp .eq 829) 0 0 (0) := ⟨3, 0, (congrArg (fun l => pm_look l 452) cq_267).trans rfl⟩
set_option maxRecDepth 100000 in
theorem lk_267_455 : Lk 267 455 (.iconst 0) 0 0 (0) := ⟨1, 0, (congrArg (fun l => pm_look l 455) cq_267).trans rfl⟩
set_option maxRecDepth 100000 in
theorem lk_267_456 : Lk 267 456 (.ireturn) 1 0 (0) := ⟨1, 0, (congrArg (fun l => pm_look l 456) cq_267).trans rfl⟩
set_option maxRecDepth 100000 in
theorem lk_267_457 : Lk 267 457 (.aload_n 1) 0 0 (0) := ⟨1, 0, (congrArg (fun l => pm_look l 457) cq_267).trans rfl⟩
set_option maxRecDepth 100000 in
theorem lk_267_458 : Lk 267 458 (.aload_n 0) 0 0 (0) := ⟨1, 0, (congrArg (fun l => pm_look l 458) cq_267).trans rfl⟩
set_option maxRecDepth 100000 in
theorem lk_267_459 : Lk 267 459 (.iload_n 3) 0 0 (0) := ⟨1, 0, (congrArg (fun l => pm_look l 459) cq_267).trans rfl⟩
set_option maxRecDepth 100000 in
theorem lk_267_460 : Lk 267 460 (.iconst 1) 0 0 (0) := ⟨1, 0, (congrArg (fun l => pm_look l 460) cq_267).trans rfl⟩
set_option maxRecDepth 100000 in
theorem lk_267_461 : Lk 267 461 (.iadd) 0 0 (0) := ⟨1, 0, (congrArg (fun l => pm_look l 461) cq_267).trans rfl⟩
set_option maxRecDepth 100000 in
theorem lk_267_462 : Lk 267 462 (.iaload) 0 0 (0) := ⟨1, 0, (congrArg (fun l => pm_look l 462) cq_267).trans rfl⟩
set_option maxRecDepth 100000 in
theorem lk_267_463 : Lk 267 463 (.aload_n 0) 0 0 (0) := ⟨1, 0, (congrArg (fun l => pm_look l 463) cq_267).trans rfl⟩
set_option maxRecDepth 100000 in
theorem lk_267_464 : Lk 267 464 (.iload_n 3) 0 0 (0) := ⟨1, 0, (congrArg (fun l => pm_look l 464) cq_267).trans rfl⟩
set_option maxRecDepth 100000 in
theorem lk_267_465 : Lk 267 465 (.iconst 2) 0 0 (0) := ⟨1, 0, (congrArg (fun l => pm_look l 465) cq_267).trans rfl⟩
set_option maxRecDepth 100000 in
theorem lk_267_466 : Lk 267 466 (.iadd) 0 0 (0) := ⟨1, 0, (congrArg (fun l => pm_look l 466) cq_267).trans rfl⟩
set_option maxRecDepth 100000 in
theorem lk_267_467 : Lk 267 467 (.iaload) 0 0 (0) := ⟨1, 0, (congrArg (fun l => pm_look l 467) cq_267).trans rfl⟩
set_option maxRecDepth 100000 in
theorem lk_267_468 : Lk 267 468 (.aload_n 0) 0 0 (0) := ⟨1, 0, (congrArg (fun l => pm_look l 468) cq_267).trans rfl⟩
set_option maxRecDepth 100000 in
theorem lk_267_469 : Lk 267 469 (.iload_n 3) 0 0 (0) := ⟨1, 0, (congrArg (fun l => pm_look l 469) cq_267).trans rfl⟩
set_option maxRecDepth 100000 in
theorem lk_267_470 : Lk 267 470 (.iconst 3) 0 0 (0) := ⟨1, 0, (congrArg (fun l => pm_look l 470) cq_267).trans rfl⟩
set_option maxRecDepth 100000 in
theorem lk_267_471 : Lk 267 471 (.iadd) 0 0 (0) := ⟨1, 0, (congrArg (fun l => pm_look l 471) cq_267).trans rfl⟩
set_option maxRecDepth 100000 in
theorem lk_267_472 : Lk 267 472 (.iaload) 0 0 (0) := ⟨1, 0, (congrArg (fun l => pm_look l 472) cq_267).trans rfl⟩
set_option maxRecDepth 100000 in
theorem lk_267_473 : Lk 267 473 (.invokevirtual 54) 128 0 (0) := ⟨3, 842, (congrArg (fun l => pm_look l 473) cq_267).trans rfl⟩
set_option maxRecDepth 100000 in
theorem lk_267_476 : Lk 267 476 (.aload_n 2) 0 0 (0) := ⟨1, 0, (congrArg (fun l => pm_look l 476) cq_267).trans rfl⟩
set_option maxRecDepth 100000 in
theorem lk_267_477 : Lk 267 477 (.aload_n 0) 0 0 (0) := ⟨1, 0, (congrArg (fun l => pm_look l 477) cq_267).trans rfl⟩
set_option maxRecDepth 100000 in
theorem lk_267_478 : Lk 267 478 (.iload_n 3) 0 0 (0) := ⟨1, 0, (congrArg (fun l => pm_look l 478) cq_267).trans rfl⟩
set_option maxRecDepth 100000 in
theorem lk_267_479 : Lk 267 479 (.iconst 1) 0 0 (0) := ⟨1, 0, (congrArg (fun l => pm_look l 479) cq_267).trans rfl⟩
set_option maxRecDepth 100000 in
theorem lk_267_480 : Lk 267 480 (.iadd) 0 0 (0) := ⟨1, 0, (congrArg (fun l => pm_look l 480) cq_267).trans rfl⟩
set_option maxRecDepth 100000 in
theorem lk_267_481 : Lk 267 481 (.iaload) 0 0 (0) := ⟨1, 0, (congrArg (fun l => pm_look l 481) cq_267).trans rfl⟩
set_option maxRecDepth 100000 in
theorem lk_267_482 : Lk 267 482 (.aload_n 0) 0 0 (0) := ⟨1, 0, (congrArg (fun l => pm_look l 482) cq_267).trans rfl⟩
set_option maxRecDepth 100000 in
theorem lk_267_483 : Lk 267 483 (.iload_n 3) 0 0 (0) := ⟨1, 0, (congrArg (fun l => pm_look l 483) cq_267).trans rfl⟩
set_option maxRecDepth 100000 in
theorem lk_267_484 : Lk 267 484 (.iconst 2) 0 0 (0) := ⟨1, 0, (congrArg (fun l => pm_look l 484) cq_267).trans rfl⟩
set_option maxRecDepth 100000 in
theorem lk_267_485 : Lk 267 485 (.iadd) 0 0 (0) := ⟨1, 0, (congrArg (fun l => pm_look l 485) cq_267).trans rfl⟩
set_option maxRecDepth 100000 in
theorem lk_267_486 : Lk 267 486 (.iaload) 0 0 (0) := ⟨1, 0, (congrArg (fun l => pm_look l 486) cq_267).trans rfl⟩
set_option maxRecDepth 100000 in
theorem lk_267_487 : Lk 267 487 (.aload_n 0) 0 0 (0) := ⟨1, 0, (congrArg (fun l => pm_look l 487) cq_267).trans rfl⟩
set_option maxRecDepth 100000 in
theorem lk_267_488 : Lk 267 488 (.iload_n 3) 0 0 (0) := ⟨1, 0, (congrArg (fun l => pm_look l 488) cq_267).trans rfl⟩
set_option maxRecDepth 100000 in
theorem lk_267_489 : Lk 267 489 (.iconst 3) 0 0 (0) := ⟨1, 0, (congrArg (fun l => pm_look l 489) cq_267).trans rfl⟩
set_option maxRecDepth 100000 in
theorem lk_267_490 : Lk 267 490 (.iadd) 0 0 (0) := ⟨1, 0, (congrArg (fun l => pm_look l 490) cq_267).trans rfl⟩
set_option maxRecDepth 100000 in
theorem lk_267_491 : Lk 267 491 (.iaload) 0 0 (0) := ⟨1, 0, (congrArg (fun l => pm_look l 491) cq_267).trans rfl⟩
set_option maxRecDepth 100000 in
theorem lk_267_492 : Lk 267 492 (.invokevirtual 57) 211 0 (0) := ⟨3, 1627, (congrArg (fun l => pm_look l 492) cq_267).trans rfl⟩
set_option maxRecDepth 100000 in
theorem lk_267_495 : Lk 267 495 (.if_icmp .eq 786) 0 0 (0) := ⟨3, 0, (congrArg (fun l => pm_look l 495) cq_267).trans rfl⟩
set_option maxRecDepth 100000 in
theorem lk_267_498 : Lk 267 498 (.iconst 0) 0 0 (0) := ⟨1, 0, (congrArg (fun l => pm_look l 498) cq_267).trans rfl⟩
set_option maxRecDepth 100000 in
theorem lk_267_499 : Lk 267 499 (.ireturn) 1 0 (0) := ⟨1, 0, (congrArg (fun l => pm_look l 499) cq_267).trans rfl⟩
set_option maxRecDepth 100000 in
theorem lk_267_500 : Lk 267 500 (.aload_n 1) 0 0 (0) := ⟨1, 0, (congrArg (fun l => pm_look l 500) cq_267).trans rfl⟩
set_option maxRecDepth 100000 in
theorem lk_267_501 : Lk 267 501 (.aload_n 0) 0 0 (0) := ⟨1, 0, (congrArg (fun l => pm_look l 501) cq_267).trans rfl⟩
set_option maxRecDepth 100000 in
theorem lk_267_502 : Lk 267 502 (.iload_n 3) 0 0 (0) := ⟨1, 0, (congrArg (fun l => pm_look l 502) cq_267).trans rfl⟩
set_option maxRecDepth 100000 in
theorem lk_267_503 : Lk 267 503 (.iconst 1) 0 0 (0) := ⟨1, 0, (congrArg (fun l => pm_look l 503) cq_267).trans rfl⟩
set_option maxRecDepth 100000 in
theorem lk_267_504 : Lk 267 504 (.iadd) 0 0 (0) := ⟨1, 0, (congrArg (fun l => pm_look l 504) cq_267).trans rfl⟩
set_option maxRecDepth 100000 in
theorem lk_267_505 : Lk 267 505 (.iaload) 0 0 (0) := ⟨1, 0, (congrArg (fun l => pm_look l 505) cq_267).trans rfl⟩
set_option maxRecDepth 100000 in
theorem lk_267_506 : Lk 267 506 (.ifCond .eq 7) 0 0 (0) := ⟨3, 0, (congrArg (fun l => pm_look l 506) cq_267).trans rfl⟩
set_option maxRecDepth 100000 in
theorem lk_267_509 : Lk 267 509 (.iconst 1) 0 0 (0) := ⟨1, 0, (congrArg (fun l => pm_look l 509) cq_267).trans rfl⟩
set_option maxRecDepth 100000 in
theorem lk_267_510 : Lk 267 510 (.goto 4) 0 0 (0) := ⟨3, 0, (congrArg (fun l => pm_look l 510) cq_267).trans rfl⟩
set_option maxRecDepth 100000 in
theorem lk_267_513 : Lk 267 513 (.iconst 0) 0 0 (0) := ⟨1, 0, (congrArg (fun l => pm_look l 513) cq_267).trans rfl⟩
set_option maxRecDepth 100000 in
theorem lk_267_514 : Lk 267 514 (.aload_n 0) 0 0 (0) := ⟨1, 0, (congrArg (fun l => pm_look l 514) cq_267).trans rfl⟩
set_option maxRecDepth 100000 in
theorem lk_267_515 : Lk 267 515 (.iload_n 3) 0 0 (0) := ⟨1, 0, (congrArg (fun l => pm_look l 515) cq_267).trans rfl⟩
set_option maxRecDepth 100000 in
theorem lk_267_516 : Lk 267 516 (.iconst 2) 0 0 (0) := ⟨1, 0, (congrArg (fun l => pm_look l 516) cq_267).trans rfl⟩
set_option maxRecDepth 100000 in
theorem lk_267_517 : Lk 267 517 (.iadd) 0 0 (0) := ⟨1, 0, (congrArg (fun l => pm_look l 517) cq_267).trans rfl⟩
set_option maxRecDepth 100000 in
theorem lk_267_518 : Lk 267 518 (.iaload) 0 0 (0) := ⟨1, 0, (congrArg (fun l => pm_look l 518) cq_267).trans rfl⟩
set_option maxRecDepth 100000 in
theorem lk_267_519 : Lk 267 519 (.aload_n 0) 0 0 (0) := ⟨1, 0, (congrArg (fun l => pm_look l 519) cq_267).trans rfl⟩
set_option maxRecDepth 100000 in
theorem lk_267_520 : Lk 267 520 (.iload_n 3) 0 0 (0) := ⟨1, 0, (congrArg (fun l => pm_look l 520) cq_267).trans rfl⟩
set_option maxRecDepth 100000 in
theorem lk_267_521 : Lk 267 521 (.iconst 3) 0 0 (0) := ⟨1, 0, (congrArg (fun l => pm_look l 521) cq_267).trans rfl⟩
set_option maxRecDepth 100000 in
theorem lk_267_522 : Lk 267 522 (.iadd) 0 0 (0) := ⟨1, 0, (congrArg (fun l => pm_look l 522) cq_267).trans rfl⟩
set_option maxRecDepth 100000 in
theorem lk_267_523 : Lk 267 523 (.iaload) 0 0 (0) := ⟨1, 0, (congrArg (fun l => pm_look l 523) cq_267).trans rfl⟩
set_option maxRecDepth 100000 in
theorem lk_267_524 : Lk 267 524 (.invokevirtual 58) 129 0 (0) := ⟨3, 846, (congrArg (fun l => pm_look l 524) cq_267).trans rfl⟩
set_option maxRecDepth 100000 in
theorem lk_267_527 : Lk 267 527 (.aload_n 2) 0 0 (0) := ⟨1, 0, (congrArg (fun l => pm_look l 527) cq_267).trans rfl⟩
set_option maxRecDepth 100000 in
theorem lk_267_528 : Lk 267 528 (.aload_n 0) 0 0 (0) := ⟨1, 0, (congrArg (fun l => pm_look l 528) cq_267).trans rfl⟩
set_option maxRecDepth 100000 in
theorem lk_267_529 : Lk 267 529 (.iload_n 3) 0 0 (0) := ⟨1, 0, (congrArg (fun l => pm_look l 529) cq_267).trans rfl⟩
set_option maxRecDepth 100000 in
theorem lk_267_530 : Lk 267 530 (.iconst 1) 0 0 (0) := ⟨1, 0, (congrArg (fun l => pm_look l 530) cq_267).trans rfl⟩
set_option maxRecDepth 100000 in
theorem lk_267_531 : Lk 267 531 (.iadd) 0 0 (0) := ⟨1, 0, (congrArg (fun l => pm_look l 531) cq_267).trans rfl⟩
set_option maxRecDepth 100000 in
theorem lk_267_532 : Lk 267 532 (.iaload) 0 0 (0) := ⟨1, 0, (congrArg (fun l => pm_look l 532) cq_267).trans rfl⟩
set_option maxRecDepth 100000 in
theorem lk_267_533 : Lk 267 533 (.ifCond .eq 7) 0 0 (0) := ⟨3, 0, (congrArg (fun l => pm_look l 533) cq_267).trans rfl⟩
set_option maxRecDepth 100000 in
theorem lk_267_536 : Lk 267 536 (.iconst 1) 0 0 (0) := ⟨1, 0, (congrArg (fun l => pm_look l 536) cq_267).trans rfl⟩
set_option maxRecDepth 100000 in
theorem lk_267_537 : Lk 267 537 (.goto 4) 0 0 (0) := ⟨3, 0, (congrArg (fun l => pm_look l 537) cq_267).trans rfl⟩
set_option maxRecDepth 100000 in
theorem lk_267_540 : Lk 267 540 (.iconst 0) 0 0 (0) := ⟨1, 0, (congrArg (fun l => pm_look l 540) cq_267).trans rfl⟩
set_option maxRecDepth 100000 in
theorem lk_267_541 : Lk 267 541 (.aload_n 0) 0 0 (0) := ⟨1, 0, (congrArg (fun l => pm_look l 541) cq_267).trans rfl⟩
set_option maxRecDepth 100000 in
theorem lk_267_542 : Lk 267 542 (.iload_n 3) 0 0 (0) := ⟨1, 0, (congrArg (fun l => pm_look l 542) cq_267).trans rfl⟩
set_option maxRecDepth 100000 in
theorem lk_267_543 : Lk 267 543 (.iconst 2) 0 0 (0) := ⟨1, 0, (congrArg (fun l => pm_look l 543) cq_267).trans rfl⟩
set_option maxRecDepth 100000 in
theorem lk_267_544 : Lk 267 544 (.iadd) 0 0 (0) := ⟨1, 0, (congrArg (fun l => pm_look l 544) cq_267).trans rfl⟩
set_option maxRecDepth 100000 in
theorem lk_267_545 : Lk 267 545 (.iaload) 0 0 (0) := ⟨1, 0, (congrArg (fun l => pm_look l 545) cq_267).trans rfl⟩
set_option maxRecDepth 100000 in
theorem lk_267_546 : Lk 267 546 (.aload_n 0) 0 0 (0) := ⟨1, 0, (congrArg (fun l => pm_look l 546) cq_267).trans rfl⟩
set_option maxRecDepth 100000 in
theorem lk_267_547 : Lk 267 547 (.iload_n 3) 0 0 (0) := ⟨1, 0, (congrArg (fun l => pm_look l 547) cq_267).trans rfl⟩
set_option maxRecDepth 100000 in
theorem lk_267_548 : Lk 267 548 (.iconst 3) 0 0 (0) := ⟨1, 0, (congrArg (fun l => pm_look l 548) cq_267).trans rfl⟩
set_option maxRecDepth 100000 in
theorem lk_267_549 : Lk 267 549 (.iadd) 0 0 (0) := ⟨1, 0, (congrArg (fun l => pm_look l 549) cq_267).trans rfl⟩
set_option maxRecDepth 100000 in
theorem lk_267_550 : Lk 267 550 (.iaload) 0 0 (0) := ⟨1, 0, (congrArg (fun l => pm_look l 550) cq_267).trans rfl⟩
set_option maxRecDepth 100000 in
theorem lk_267_551 : Lk 267 551 (.invokevirtual 62) 217 0 (0) := ⟨3, 1651, (congrArg (fun l => pm_look l 551) cq_267).trans rfl⟩
set_option maxRecDepth 100000 in
theorem lk_267_554 : Lk 267 554 (.if_icmp .eq 727) 0 0 (0) := ⟨3, 0, (congrArg (fun l => pm_look l 554) cq_267).trans rfl⟩
set_option maxRecDepth 100000 in
theorem lk_267_557 : Lk 267 557 (.iconst 0) 0 0 (0) := ⟨1, 0, (congrArg (fun l => pm_look l 557) cq_267).trans rfl⟩
set_option maxRecDepth 100000 in
theorem lk_267_558 : Lk 267 558 (.ireturn) 1 0 (0) := ⟨1, 0, (congrArg (fun l => pm_look l 558) cq_267).trans rfl⟩
set_option maxRecDepth 100000 in
theorem lk_267_559 : Lk 267 559 (.aload_n 1) 0 0 (0) := ⟨1, 0, (congrArg (fun l => pm_look l 559) cq_267).trans rfl⟩
set_option maxRecDepth 100000 in
theorem lk_267_560 : Lk 267 560 (.aload_n 0) 0 0 (0) := ⟨1, 0, (congrArg (fun l => pm_look l 560) cq_267).trans rfl⟩
set_option maxRecDepth 100000 in
theorem lk_267_561 : Lk 267 561 (.iload_n 3) 0 0 (0) := ⟨1, 0, (congrArg (fun l => pm_look l 561) cq_267).trans rfl⟩
set_option maxRecDepth 100000 in
theorem lk_267_562 : Lk 267 562 (.iconst 1) 0 0 (0) := ⟨1, 0, (congrArg (fun l => pm_look l 562) cq_267).trans rfl⟩
set_option maxRecDepth 100000 in
theorem lk_267_563 : Lk 267 563 (.iadd) 0 0 (0) := ⟨1, 0, (congrArg (fun l => pm_look l 563) cq_267).trans rfl⟩
set_option maxRecDepth 100000 in
theorem lk_267_564 : Lk 267 564 (.iaload) 0 0 (0) := ⟨1, 0, (congrArg (fun l => pm_look l 564) cq_267).trans rfl⟩
set_option maxRecDepth 100000 in
theorem lk_267_565 : Lk 267 565 (.aload_n 0) 0 0 (0) := ⟨1, 0, (congrArg (fun l => pm_look l 565) cq_267).trans rfl⟩
set_option maxRecDepth 100000 in
theorem lk_267_566 : Lk 267 566 (.iload_n 3) 0 0 (0) := ⟨1, 0, (congrArg (fun l => pm_look l 566) cq_267).trans rfl⟩
set_option maxRecDepth 100000 in
theorem lk_267_567 : Lk 267 567 (.iconst 2) 0 0 (0) := ⟨1, 0, (congrArg (fun l => pm_look l 567) cq_267).trans rfl⟩
set_option maxRecDepth 100000 in
theorem lk_267_568 : Lk 267 568 (.iadd) 0 0 (0) := ⟨1, 0, (congrArg (fun l => pm_look l 568) cq_267).trans rfl⟩
set_option maxRecDepth 100000 in
theorem lk_267_569 : Lk 267 569 (.iaload) 0 0 (0) := ⟨1, 0, (congrArg (fun l => pm_look l 569) cq_267).trans rfl⟩
set_option maxRecDepth 100000 in
theorem lk_267_570 : Lk 267 570 (.invokevirtual 63) 130 0 (0) := ⟨3, 854, (congrArg (fun l => pm_look l 570) cq_267).trans rfl⟩
set_option maxRecDepth 100000 in
theorem lk_267_573 : Lk 267 573 (.aload_n 2) 0 0 (0) := ⟨1, 0, (congrArg (fun l => pm_look l 573) cq_267).trans rfl⟩
set_option maxRecDepth 100000 in
theorem lk_267_574 : Lk 267 574 (.aload_n 0) 0 0 (0) := ⟨1, 0, (congrArg (fun l => pm_look l 574) cq_267).trans rfl⟩
set_option maxRecDepth 100000 in
theorem lk_267_575 : Lk 267 575 (.iload_n 3) 0 0 (0) := ⟨1, 0, (congrArg (fun l => pm_look l 575) cq_267).trans rfl⟩
set_option maxRecDepth 100000 in
theorem lk_267_576 : Lk 267 576 (.iconst 1) 0 0 (0) := ⟨1, 0, (congrArg (fun l => pm_look l 576) cq_267).trans rfl⟩
set_option maxRecDepth 100000 in
theorem lk_267_577 : Lk 267 577 (.iadd) 0 0 (0) := ⟨1, 0, (congrArg (fun l => pm_look l 577) cq_267).trans rfl⟩
set_option maxRecDepth 100000 in
theorem lk_267_578 : Lk 267 578 (.iaload) 0 0 (0) := ⟨1, 0, (congrArg (fun l => pm_look l 578) cq_267).trans rfl⟩
set_option maxRecDepth 100000 in
theorem lk_267_579 : Lk 267 579 (.aload_n 0) 0 0 (0) := ⟨1, 0, (congrArg (fun l => pm_look l 579) cq_267).trans rfl⟩
set_option maxRecDepth 100000 in
theorem lk_267_580 : Lk 267 580 (.iload_n 3) 0 0 (0) := ⟨1, 0, (congrArg (fun l => pm_look l 580) cq_267).trans rfl⟩
set_option maxRecDepth 100000 in
theorem lk_267_581 : Lk 267 581 (.iconst 2) 0 0 (0) := ⟨1, 0, (congrArg (fun l => pm_look l 581) cq_267).trans rfl⟩
set_option maxRecDepth 100000 in
theorem lk_267_582 : Lk 267 582 (.iadd) 0 0 (0) := ⟨1, 0, (congrArg (fun l => pm_look l 582) cq_267).trans rfl⟩
set_option maxRecDepth 100000 in
theorem lk_267_583 : Lk 267 583 (.iaload) 0 0 (0) := ⟨1, 0, (congrArg (fun l => pm_look l 583) cq_267).trans rfl⟩
set_option maxRecDepth 100000 in
theorem lk_267_584 : Lk 267 584 (.invokevirtual 66) 218 0 (0) := ⟨3, 1659, (congrArg (fun l => pm_look l 584) cq_267).trans rfl⟩
set_option maxRecDepth 100000 in
theorem lk_267_587 : Lk 267 587 (.if_icmp .eq 694) 0 0 (0) := ⟨3, 0, (congrArg (fun l => pm_look l 587) cq_267).trans rfl⟩
set_option maxRecDepth 100000 in
theorem lk_267_590 : Lk 267 590 (.iconst 0) 0 0 (0) := ⟨1, 0, (congrArg (fun l => pm_look l 590) cq_267).trans rfl⟩
set_option maxRecDepth 100000 in
theorem lk_267_591 : Lk 267 591 (.ireturn) 1 0 (0) := ⟨1, 0, (congrArg (fun l => pm_look l 591) cq_267).trans rfl⟩
set_option maxRecDepth 100000 in
theorem lk_267_592 : Lk 267 592 (.aload_n 1) 0 0 (0) := ⟨1, 0, (congrArg (fun l => pm_look l 592) cq_267).trans rfl⟩
set_option maxRecDepth 100000 in
theorem lk_267_593 : Lk 267 593 (.aload_n 0) 0 0 (0) := ⟨1, 0, (congrArg (fun l => pm_look l 593) cq_267).trans rfl⟩
set_option maxRecDepth 100000 in
theorem lk_267_594 : Lk 267 594 (.iload_n 3) 0 0 (0) := ⟨1, 0, (congrArg (fun l => pm_look l 594) cq_267).trans rfl⟩
set_option maxRecDepth 100000 in
theorem lk_267_595 : Lk 267 595 (.iconst 1) 0 0 (0) := ⟨1, 0, (congrArg (fun l => pm_look l 595) cq_267).trans rfl⟩
set_option maxRecDepth 100000 in
theorem lk_267_596 : Lk 267 596 (.iadd) 0 0 (0) := ⟨1, 0, (congrArg (fun l => pm_look l 596) cq_267).trans rfl⟩
set_option maxRecDepth 100000 in
theorem lk_267_597 : Lk 267 597 (.iaload) 0 0 (0) := ⟨1, 0, (congrArg (fun l => pm_look l 597) cq_267).trans rfl⟩
set_option maxRecDepth 100000 in
theorem lk_267_598 : Lk 267 598 (.aload_n 0) 0 0 (0) := ⟨1, 0, (congrArg (fun l => pm_look l 598) cq_267).trans rfl⟩
set_option maxRecDepth 100000 in
theorem lk_267_599 : Lk 267 599 (.iload_n 3) 0 0 (0) := ⟨1, 0, (congrArg (fun l => pm_look l 599) cq_267).trans rfl⟩
set_option maxRecDepth 100000 in
theorem lk_267_600 : Lk 267 600 (.iconst 2) 0 0 (0) := ⟨1, 0, (congrArg (fun l => pm_look l 600) cq_267).trans rfl⟩
set_option maxRecDepth 100000 in
theorem lk_267_601 : Lk 267 601 (.iadd) 0 0 (0) := ⟨1, 0, (congrArg (fun l => pm_look l 601) cq_267).trans rfl⟩
set_option maxRecDepth 100000 in
theorem lk_267_602 : Lk 267 602 (.iaload) 0 0 (0) := ⟨1, 0, (congrArg (fun l => pm_look l 602) cq_267).trans rfl⟩
set_option maxRecDepth 100000 in
theorem lk_267_603 : Lk 267 603 (.invokevirtual 67) 131 0 (0) := ⟨3, 862, (congrArg (fun l => pm_look l 603) cq_267).trans rfl⟩
set_option maxRecDepth 100000 in
theorem lk_267_606 : Lk 267 606 (.aload_n 2) 0 0 (0) := ⟨1, 0, (congrArg (fun l => pm_look l 606) cq_267).trans rfl⟩
set_option maxRecDepth 100000 in
theorem lk_267_607 : Lk 267 607 (.aload_n 0) 0 0 (0) := ⟨1, 0, (congrArg (fun l => pm_look l 607) cq_267).trans rfl⟩
set_option maxRecDepth 100000 in
theorem lk_267_608 : Lk 267 608 (.iload_n 3) 0 0 (0) := ⟨1, 0, (congrArg (fun l => pm_look l 608) cq_267).trans rfl⟩
set_option maxRecDepth 100000 in
theorem lk_267_609 : Lk 267 609 (.iconst 1) 0 0 (0) := ⟨1, 0, (congrArg (fun l => pm_look l 609) cq_267).trans rfl⟩
set_option maxRecDepth 100000 in
theorem lk_267_610 : Lk 267 610 (.iadd) 0 0 (0) := ⟨1, 0, (congrArg (fun l => pm_look l 610) cq_267).trans rfl⟩
set_option maxRecDepth 100000 in
theorem lk_267_611 : Lk 267 611 (.iaload) 0 0 (0) := ⟨1, 0, (congrArg (fun l => pm_look l 611) cq_267).trans rfl⟩
set_option maxRecDepth 100000 in
theorem lk_267_612 : Lk 267 612 (.aload_n 0) 0 0 (0) := ⟨1, 0, (congrArg (fun l => pm_look l 612) cq_267).trans rfl⟩
set_option maxRecDepth 100000 in
theorem lk_267_613 : Lk 267 613 (.iload_n 3) 0 0 (0) := ⟨1, 0, (congrArg (fun l => pm_look l 613) cq_267).trans rfl⟩
set_option maxRecDepth 100000 in
theorem lk_267_614 : Lk 267 614 (.iconst 2) 0 0 (0) := ⟨1, 0, (congrArg (fun l => pm_look l 614) cq_267).trans rfl⟩
set_option maxRecDepth 100000 in
theorem lk_267_615 : Lk 267 615 (.iadd) 0 0 (0) := ⟨1, 0, (congrArg (fun l => pm_look l 615) cq_267).trans rfl⟩
set_option maxRecDepth 100000 in
theorem lk_267_616 : Lk 267 616 (.iaload) 0 0 (0) := ⟨1, 0, (congrArg (fun l => pm_look l 616) cq_267).trans rfl⟩
set_option maxRecDepth 100000 in
theorem lk_267_617 : Lk 267 617 (.invokevirtual 70) 223 0 (0) := ⟨3, 1666, (congrArg (fun l => pm_look l 617) cq_267).trans rfl⟩
set_option maxRecDepth 100000 in
theorem lk_267_620 : Lk 267 620 (.if_icmp .eq 661) 0 0 (0) := ⟨3, 0, (congrArg (fun l => pm_look l 620) cq_267).trans rfl⟩
set_option maxRecDepth 100000 in
theorem lk_267_623 : Lk 267 623 (.iconst 0) 0 0 (0) := ⟨1, 0, (congrArg (fun l => pm_look l 623) cq_267).trans rfl⟩
set_option maxRecDepth 100000 in
theorem lk_267_624 : Lk 267 624 (.ireturn) 1 0 (0) := ⟨1, 0, (congrArg (fun l => pm_look l 624) cq_267).trans rfl⟩
set_option maxRecDepth 100000 in
theorem lk_267_625 : Lk 267 625 (.aload_n 1) 0 0 (0) := ⟨1, 0, (congrArg (fun l => pm_look l 625) cq_267).trans rfl⟩
set_option maxRecDepth 100000 in
theorem lk_267_626 : Lk 267 626 (.aload_n 0) 0 0 (0) := ⟨1, 0, (congrArg (fun l => pm_look l 626) cq_267).trans rfl⟩
set_option maxRecDepth 100000 in
theorem lk_267_627 : Lk 267 627 (.iload_n 3) 0 0 (0) := ⟨1, 0, (congrArg (fun l => pm_look l 627) cq_267).trans rfl⟩
set_option maxRecDepth 100000 in
theorem lk_267_628 : Lk 267 628 (.iconst 1) 0 0 (0) := ⟨1, 0, (congrArg (fun l => pm_look l 628) cq_267).trans rfl⟩
set_option maxRecDepth 100000 in
theorem lk_267_629 : Lk 267 629 (.iadd) 0 0 (0) := ⟨1, 0, (congrArg (fun l => pm_look l 629) cq_267).trans rfl⟩
set_option maxRecDepth 100000 in
theorem lk_267_630 : Lk 267 630 (.iaload) 0 0 (0) := ⟨1, 0, (congrArg (fun l => pm_look l 630) cq_267).trans rfl⟩
set_option maxRecDepth 100000 in
theorem lk_267_631 : Lk 267 631 (.aload_n 0) 0 0 (0) := ⟨1, 0, (congrArg (fun l => pm_look l 631) cq_267).trans rfl⟩
set_option maxRecDepth 100000 in
theorem lk_267_632 : Lk 267 632 (.iload_n 3) 0 0 (0) := ⟨1, 0, (congrArg (fun l => pm_look l 632) cq_267).trans rfl⟩
set_option maxRecDepth 100000 in
theorem lk_267_633 : Lk 267 633 (.iconst 2) 0 0 (0) := ⟨1, 0, (congrArg (fun l => pm_look l 633) cq_267).trans rfl⟩
set_option maxRecDepth 100000 in
theorem lk_267_634 : Lk 267 634 (.iadd) 0 0 (0) := ⟨1, 0, (congrArg (fun l => pm_look l 634) cq_267).trans rfl⟩
set_option maxRecDepth 100000 in
theorem lk_267_635 : Lk 267 635 (.iaload) 0 0 (0) := ⟨1, 0, (congrArg (fun l => pm_look l 635) cq_267).trans rfl⟩
set_option maxRecDepth 100000 in
theorem lk_267_636 : Lk 267 636 (.invokevirtual 71) 132 0 (0) := ⟨3, 870, (congrArg (fun l => pm_look l 636) cq_267).trans rfl⟩
set_option maxRecDepth 100000 in
theorem lk_267_639 : Lk 267 639 (.aload_n 2) 0 0 (0) := ⟨1, 0, (congrArg (fun l => pm_look l 639) cq_267).trans rfl⟩
set_option maxRecDepth 100000 in
theorem lk_267_640 : Lk 267 640 (.aload_n 0) 0 0 (0) := ⟨1, 0, (congrArg (fun l => pm_look l 640) cq_267).trans rfl⟩
set_option maxRecDepth 100000 in
theorem lk_267_641 : Lk 267 641 (.iload_n 3) 0 0 (0) := ⟨1, 0, (congrArg (fun l => pm_look l 641) cq_267).trans rfl⟩
set_option maxRecDepth 100000 in
theorem lk_267_642 : Lk 267 642 (.iconst 1) 0 0 (0) := ⟨1, 0, (congrArg (fun l => pm_look l 642) cq_267).trans rfl⟩
set_option maxRecDepth 100000 in
theorem lk_267_643 : Lk 267 643 (.iadd) 0 0 (0) := ⟨1, 0, (congrArg (fun l => pm_look l 643) cq_267).trans rfl⟩
set_option maxRecDepth 100000 in
theorem lk_267_644 : Lk 267 644 (.iaload) 0 0 (0) := ⟨1, 0, (congrArg (fun l => pm_look l 644) cq_267).trans rfl⟩
set_option maxRecDepth 100000 in
theorem lk_267_645 : Lk 267 645 (.aload_n 0) 0 0 (0) := ⟨1, 0, (congrArg (fun l => pm_look l 645) cq_267).trans rfl⟩
set_option maxRecDepth 100000 in
theorem lk_267_646 : Lk 267 646 (.iload_n 3) 0 0 (0) := ⟨1, 0, (congrArg (fun l => pm_look l 646) cq_267).trans rfl⟩
set_option maxRecDepth 100000 in
theorem lk_267_647 : Lk 267 647 (.iconst 2) 0 0 (0) := ⟨1, 0, (congrArg (fun l => pm_look l 647) cq_267).trans rfl⟩
set_option maxRecDepth 100000 in
theorem lk_267_648 : Lk 267 648 (.iadd) 0 0 (0) := ⟨1, 0, (congrArg (fun l => pm_look l 648) cq_267).trans rfl⟩
set_option maxRecDepth 100000 in
theorem lk_267_649 : Lk 267 649 (.iaload) 0 0 (0) := ⟨1, 0, (congrArg (fun l => pm_look l 649) cq_267).trans rfl⟩
set_option maxRecDepth 100000 in
theorem lk_267_650 : Lk 267 650 (.invokevirtual 74) 224 0 (0) := ⟨3, 1686, (congrArg (fun l => pm_look l 650) cq_267).trans rfl⟩
set_option maxRecDepth 100000 in
theorem lk_267_653 : Lk 267 653 (.if_icmp .eq 628) 0 0 (0) := ⟨3, 0, (congrArg (fun l => pm_look l 653) cq_267).trans rfl⟩
set_option maxRecDepth 100000 in
theorem lk_267_656 : Lk 267 656 (.iconst 0) 0 0 (0) := ⟨1, 0, (congrArg (fun l => pm_look l 656) cq_267).trans rfl⟩
set_option maxRecDepth 100000 in
theorem lk_267_657 : Lk 267 657 (.ireturn) 1 0 (0) := ⟨1, 0, (congrArg (fun l => pm_look l 657) cq_267).trans rfl⟩
set_option maxRecDepth 100000 in
theorem lk_267_658 : Lk 267 658 (.aload_n 1) 0 0 (0) := ⟨1, 0, (congrArg (fun l => pm_look l 658) cq_267).trans rfl⟩
set_option maxRecDepth 100000 in
theorem lk_267_659 : Lk 267 659 (.aload_n 0) 0 0 (0) := ⟨1, 0, (congrArg (fun l => pm_look l 659) cq_267).trans rfl⟩
set_option maxRecDepth 100000 in
theorem lk_267_660 : Lk 267 660 (.iload_n 3) 0 0 (0) := ⟨1, 0, (congrArg (fun l => pm_look l 660) cq_267).trans rfl⟩
set_option maxRecDepth 100000 in
theorem lk_267_661 : Lk 267 661 (.iconst 1) 0 0 (0) := ⟨1, 0, (congrArg (fun l => pm_look l 661) cq_267).trans rfl⟩
set_option maxRecDepth 100000 in
theorem lk_267_662 : Lk 267 662 (.iadd) 0 0 (0) := ⟨1, 0, (congrArg (fun l => pm_look l 662) cq_267).trans rfl⟩
set_option maxRecDepth 100000 in
theorem lk_267_663 : Lk 267 663 (.iaload) 0 0 (0) := ⟨1, 0, (congrArg (fun l => pm_look l 663) cq_267).trans rfl⟩
set_option maxRecDepth 100000 in
theorem lk_267_664 : Lk 267 664 (.invokevirtual 75) 133 0 (0) := ⟨3, 882, (congrArg (fun l => pm_look l 664) cq_267).trans rfl⟩
set_option maxRecDepth 100000 in
theorem lk_267_667 : Lk 267 667 (.aload_n 2) 0 0 (0) := ⟨1, 0, (congrArg (fun l => pm_look l 667) cq_267).trans rfl⟩
set_option maxRecDepth 100000 in
theorem lk_267_668 : Lk 267 668 (.aload_n 0) 0 0 (0) := ⟨1, 0, (congrArg (fun l => pm_look l 668) cq_267).trans rfl⟩
set_option maxRecDepth 100000 in
theorem lk_267_669 : Lk 267 669 (.iload_n 3) 0 0 (0) := ⟨1, 0, (congrArg (fun l => pm_look l 669) cq_267).trans rfl⟩
set_option maxRecDepth 100000 in
theorem lk_267_670 : Lk 267 670 (.iconst 1) 0 0 (0) := ⟨1, 0, (congrArg (fun l => pm_look l 670) cq_267).trans rfl⟩
set_option maxRecDepth 100000 in
theorem lk_267_671 : Lk 267 671 (.iadd) 0 0 (0) := ⟨1, 0, (congrArg (fun l => pm_look l 671) cq_267).trans rfl⟩
set_option maxRecDepth 100000 in
theorem lk_267_672 : Lk 267 672 (.iaload) 0 0 (0) := ⟨1, 0, (congrArg (fun l => pm_look l 672) cq_267).trans rfl⟩
set_option maxRecDepth 100000 in
theorem lk_267_673 : Lk 267 673 (.invokevirtual 78) 229 0 (0) := ⟨3, 1690, (congrArg (fun l => pm_look l 673) cq_267).trans rfl⟩
set_option maxRecDepth 100000 in
theorem lk_267_676 : Lk 267 676 (.if_icmp .eq 605) 0 0 (0) := ⟨3, 0, (congrArg (fun l => pm_look l 676) cq_267).trans rfl⟩
set_option maxRecDepth 100000 in
theorem lk_267_679 : Lk 267 679 (.iconst 0) 0 0 (0) := ⟨1, 0, (congrArg (fun l => pm_look l 679) cq_267).trans rfl⟩
set_option maxRecDepth 100000 in
theorem lk_267_680 : Lk 267 680 (.ireturn) 1 0 (0) := ⟨1, 0, (congrArg (fun l => pm_look l 680) cq_267).trans rfl⟩
set_option maxRecDepth 100000 in
theorem lk_267_681 : Lk 267 681 (.aload_n 1) 0 0 (0) := ⟨1, 0, (congrArg (fun l => pm_look l 681) cq_267).trans rfl⟩
set_option maxRecDepth 100000 in
theorem lk_267_682 : Lk 267 682 (.aload_n 0) 0 0 (0) := ⟨1, 0, (congrArg (fun l => pm_look l 682) cq_267).trans rfl⟩
set_option maxRecDepth 100000 in
theorem lk_267_683 : Lk 267 683 (.iload_n 3) 0 0 (0) := ⟨1, 0, (congrArg (fun l => pm_look l 683) cq_267).trans rfl⟩
set_option maxRecDepth 100000 in
theorem lk_267_684 : Lk 267 684 (.iconst 1) 0 0 (0) := ⟨1, 0, (congrArg (fun l => pm_look l 684) cq_267).trans rfl⟩
set_option maxRecDepth 100000 in
theorem lk_267_685 : Lk 267 685 (.iadd) 0 0 (0) := ⟨1, 0, (congrArg (fun l => pm_look l 685) cq_267).trans rfl⟩
set_option maxRecDepth 100000 in
theorem lk_267_686 : Lk 267 686 (.iaload) 0 0 (0) := ⟨1, 0, (congrArg (fun l => pm_look l 686) cq_267).trans rfl⟩
set_option maxRecDepth 100000 in
theorem lk_267_687 : Lk 267 687 (.ifCond .eq 7) 0 0 (0) := ⟨3, 0, (congrArg (fun l => pm_look l 687) cq_267).trans rfl⟩
set_option maxRecDepth 100000 in
theorem lk_267_690 : Lk 267 690 (.iconst 1) 0 0 (0) := ⟨1, 0, (congrArg (fun l => pm_look l 690) cq_267).trans rfl⟩
set_option maxRecDepth 100000 in
theorem lk_267_691 : Lk 267 691 (.goto 4) 0 0 (0) := ⟨3, 0, (congrArg (fun l => pm_look l 691) cq_267).trans rfl⟩
set_option maxRecDepth 100000 in
theorem lk_267_694 : Lk 267 694 (.iconst 0) 0 0 (0) := ⟨1, 0, (congrArg (fun l => pm_look l 694) cq_267).trans rfl⟩
set_option maxRecDepth 100000 in
theorem lk_267_695 : Lk 267 695 (.invokevirtual 79) 134 0 (0) := ⟨3, 906, (congrArg (fun l => pm_look l 695) cq_267).trans rfl⟩
set_option maxRecDepth 100000 in
theorem lk_267_698 : Lk 267 698 (.aload_n 2) 0 0 (0) := ⟨1, 0, (congrArg (fun l => pm_look l 698) cq_267).trans rfl⟩
set_option maxRecDepth 100000 in
theorem lk_267_699 : Lk 267 699 (.aload_n 0) 0 0 (0) := ⟨1, 0, (congrArg (fun l => pm_look l 699) cq_267).trans rfl⟩
set_option maxRecDepth 100000 in
theorem lk_267_700 : Lk 267 700 (.iload_n 3) 0 0 (0) := ⟨1, 0, (congrArg (fun l => pm_look l 700) cq_267).trans rfl⟩
set_option maxRecDepth 100000 in
theorem lk_267_701 : Lk 267 701 (.iconst 1) 0 0 (0) := ⟨1, 0, (congrArg (fun l => pm_look l 701) cq_267).trans rfl⟩
set_option maxRecDepth 100000 in
theorem lk_267_702 : Lk 267 702 (.iadd) 0 0 (0) := ⟨1, 0, (congrArg (fun l => pm_look l 702) cq_267).trans rfl⟩
set_option maxRecDepth 100000 in
theorem lk_267_703 : Lk 267 703 (.iaload) 0 0 (0) := ⟨1, 0, (congrArg (fun l => pm_look l 703) cq_267).trans rfl⟩
set_option maxRecDepth 100000 in
theorem lk_267_704 : Lk 267 704 (.ifCond .eq 7) 0 0 (0) := ⟨3, 0, (congrArg (fun l => pm_look l 704) cq_267).trans rfl⟩
set_option maxRecDepth 100000 in
theorem lk_267_707 : Lk 267 707 (.iconst 1) 0 0 (0) := ⟨1, 0, (congrArg (fun l => pm_look l 707) cq_267).trans rfl⟩
set_option maxRecDepth 100000 in
theorem lk_267_708 : Lk 267 708 (.goto 4) 0 0 (0) := ⟨3, 0, (congrArg (fun l => pm_look l 708) cq_267).trans rfl⟩
set_option maxRecDepth 100000 in
theorem lk_267_711 : Lk 267 711 (.iconst 0) 0 0 (0) := ⟨1, 0, (congrArg (fun l => pm_look l 711) cq_267).trans rfl⟩
set_option maxRecDepth 100000 in
theorem lk_267_712 : Lk 267 712 (.invokevirtual 83) 231 0 (0) := ⟨3, 1708, (congrArg (fun l => pm_look l 712) cq_267).trans rfl⟩
set_option maxRecDepth 100000 in
theorem lk_267_715 : Lk 267 715 (.if_icmp .eq 566) 0 0 (0) := ⟨3, 0, (congrArg (fun l => pm_look l 715) cq_267).trans rfl⟩
set_option maxRecDepth 100000 in
theorem lk_267_718 : Lk 267 718 (.iconst 0) 0 0 (0) := ⟨1, 0, (congrArg (fun l => pm_look l 718) cq_267).trans rfl⟩
set_option maxRecDepth 100000 in
theorem lk_267_719 : Lk 267 719 (.ireturn) 1 0 (0) := ⟨1, 0, (congrArg (fun l => pm_look l 719) cq_267).trans rfl⟩
set_option maxRecDepth 100000 in
theorem lk_267_720 : Lk 267 720 (.aload_n 1) 0 0 (0) := ⟨1, 0, (congrArg (fun l => pm_look l 720) cq_267).trans rfl⟩
set_option maxRecDepth 100000 in
theorem lk_267_721 : Lk 267 721 (.aload_n 0) 0 0 (0) := ⟨1, 0, (congrArg (fun l => pm_look l 721) cq_267).trans rfl⟩
set_option maxRecDepth 100000 in
theorem lk_267_722 : Lk 267 722 (.iload_n 3) 0 0 (0) := ⟨1, 0, (congrArg (fun l => pm_look l 722) cq_267).trans rfl⟩
set_option maxRecDepth 100000 in
theorem lk_267_723 : Lk 267 723 (.iconst 1) 0 0 (0) := ⟨1, 0, (congrArg (fun l => pm_look l 723) cq_267).trans rfl⟩
set_option maxRecDepth 100000 in
theorem lk_267_724 : Lk 267 724 (.iadd) 0 0 (0) := ⟨1, 0, (congrArg (fun l => pm_look l 724) cq_267).trans rfl⟩
set_option maxRecDepth 100000 in
theorem lk_267_725 : Lk 267 725 (.iaload) 0 0 (0) := ⟨1, 0, (congrArg (fun l => pm_look l 725) cq_267).trans rfl⟩
set_option maxRecDepth 100000 in
theorem lk_267_726 : Lk 267 726 (.invokevirtual 84) 135 0 (0) := ⟨3, 926, (congrArg (fun l => pm_look l 726) cq_267).trans rfl⟩
set_option maxRecDepth 100000 in
theorem lk_267_729 : Lk 267 729 (.aload_n 2) 0 0 (0) := ⟨1, 0, (congrArg (fun l => pm_look l 729) cq_267).trans rfl⟩
set_option maxRecDepth 100000 in
theorem lk_267_730 : Lk 267 730 (.aload_n 0) 0 0 (0) := ⟨1, 0, (congrArg (fun l => pm_look l 730) cq_267).trans rfl⟩
set_option maxRecDepth 100000 in
theorem lk_267_731 : Lk 267 731 (.iload_n 3) 0 0 (0) := ⟨1, 0, (congrArg (fun l => pm_look l 731) cq_267).trans rfl⟩
set_option maxRecDepth 100000 in
theorem lk_267_732 : Lk 267 732 (.iconst 1) 0 0 (0) := ⟨1, 0, (congrArg (fun l => pm_look l 732) cq_267).trans rfl⟩
set_option maxRecDepth 100000 in
theorem lk_267_733 : Lk 267 733 (.iadd) 0 0 (0) := ⟨1, 0, (congrArg (fun l => pm_look l 733) cq_267).trans rfl⟩
set_option maxRecDepth 100000 in
theorem lk_267_734 : Lk 267 734 (.iaload) 0 0 (0) := ⟨1, 0, (congrArg (fun l => pm_look l 734) cq_267).trans rfl⟩
set_option maxRecDepth 100000 in
theorem lk_267_735 : Lk 267 735 (.invokevirtual 87) 232 0 (0) := ⟨3, 1717, (congrArg (fun l => pm_look l 735) cq_267).trans rfl⟩
set_option maxRecDepth 100000 in
theorem lk_267_738 : Lk 267 738 (.if_icmp .eq 543) 0 0 (0) := ⟨3, 0, (congrArg (fun l => pm_look l 738) cq_267).trans rfl⟩
set_option maxRecDepth 100000 in
theorem lk_267_741 : Lk 267 741 (.iconst 0) 0 0 (0) := ⟨1, 0, (congrArg (fun l => pm_look l 741) cq_267).trans rfl⟩
set_option maxRecDepth 100000 in
theorem lk_267_742 : Lk 267 742 (.ireturn) 1 0 (0) := ⟨1, 0, (congrArg (fun l => pm_look l 742) cq_267).trans rfl⟩
set_option maxRecDepth 100000 in
theorem lk_267_743 : Lk 267 743 (.aload_n 1) 0 0 (0) := ⟨1, 0, (congrArg (fun l => pm_look l 743) cq_267).trans rfl⟩
set_option maxRecDepth 100000 in
theorem lk_267_744 : Lk 267 744 (.aload_n 0) 0 0 (0) := ⟨1, 0, (congrArg (fun l => pm_look l 744) cq_267).trans rfl⟩
set_option maxRecDepth 100000 in
theorem lk_267_745 : Lk 267 745 (.iload_n 3) 0 0 (0) := ⟨1, 0, (congrArg (fun l => pm_look l 745) cq_267).trans rfl⟩
set_option maxRecDepth 100000 in
theorem lk_267_746 : Lk 267 746 (.iconst 1) 0 0 (0) := ⟨1, 0, (congrArg (fun l => pm_look l 746) cq_267).trans rfl⟩
set_option maxRecDepth 100000 in
theorem lk_267_747 : Lk 267 747 (.iadd) 0 0 (0) := ⟨1, 0, (congrArg (fun l => pm_look l 747) cq_267).trans rfl⟩
set_option maxRecDepth 100000 in
theorem lk_267_748 : Lk 267 748 (.iaload) 0 0 (0) := ⟨1, 0, (congrArg (fun l => pm_look l 748) cq_267).trans rfl⟩
set_option maxRecDepth 100000 in
theorem lk_267_749 : Lk 267 749 (.invokevirtual 88) 136 0 (0) := ⟨3, 938, (congrArg (fun l => pm_look l 749) cq_267).trans rfl⟩
set_option maxRecDepth 100000 in
theorem lk_267_752 : Lk 267 752 (.aload_n 2) 0 0 (0) := ⟨1, 0, (congrArg (fun l => pm_look l 752) cq_267).trans rfl⟩
set_option maxRecDepth 100000 in
theorem lk_267_753 : Lk 267 753 (.aload_n 0) 0 0 (0) := ⟨1, 0, (congrArg (fun l => pm_look l 753) cq_267).trans rfl⟩
set_option maxRecDepth 100000 in
theorem lk_267_754 : Lk 267 754 (.iload_n 3) 0 0 (0) := ⟨1, 0, (congrArg (fun l => pm_look l 754) cq_267).trans rfl⟩
set_option maxRecDepth 100000 in
theorem lk_267_755 : Lk 267 755 (.iconst 1) 0 0 (0) := ⟨1, 0, (congrArg (fun l => pm_look l 755) cq_267).trans rfl⟩
set_option maxRecDepth 100000 in
theorem lk_267_756 : Lk 267 756 (.iadd) 0 0 (0) := ⟨1, 0, (congrArg (fun l => pm_look l 756) cq_267).trans rfl⟩
set_option maxRecDepth 100000 in
theorem lk_267_757 : Lk 267 757 (.iaload) 0 0 (0) := ⟨1, 0, (congrArg (fun l => pm_look l 757) cq_267).trans rfl⟩
set_option maxRecDepth 100000 in
theorem lk_267_758 : Lk 267 758 (.invokevirtual 91) 239 0 (0) := ⟨3, 1721, (congrArg (fun l => pm_look l 758) cq_267).trans rfl⟩
set_option maxRecDepth 100000 in
theorem lk_267_761 : Lk 267 761 (.if_icmp .eq 520) 0 0 (0) := ⟨3, 0, (congrArg (fun l => pm_look l 761) cq_267).trans rfl⟩
set_option maxRecDepth 100000 in
theorem lk_267_764 : Lk 267 764 (.iconst 0) 0 0 (0) := ⟨1, 0, (congrArg (fun l => pm_look l 764) cq_267).trans rfl⟩
set_option maxRecDepth 100000 in
theorem lk_267_765 : Lk 267 765 (.ireturn) 1 0 (0) := ⟨1, 0, (congrArg (fun l => pm_look l 765) cq_267).trans rfl⟩
set_option maxRecDepth 100000 in
theorem lk_267_766 : Lk 267 766 (.aload_n 1) 0 0 (0) := ⟨1, 0, (congrArg (fun l => pm_look l 766) cq_267).trans rfl⟩
set_option maxRecDepth 100000 in
theorem lk_267_767 : Lk 267 767 (.aload_n 0) 0 0 (0) := ⟨1, 0, (congrArg (fun l => pm_look l 767) cq_267).trans rfl⟩
set_option maxRecDepth 100000 in
theorem lk_267_768 : Lk 267 768 (.iload_n 3) 0 0 (0) := ⟨1, 0, (congrArg (fun l => pm_look l 768) cq_267).trans rfl⟩
set_option maxRecDepth 100000 in
theorem lk_267_769 : Lk 267 769 (.iconst 1) 0 0 (0) := ⟨1, 0, (congrArg (fun l => pm_look l 769) cq_267).trans rfl⟩
set_option maxRecDepth 100000 in
theorem lk_267_770 : Lk 267 770 (.iadd) 0 0 (0) := ⟨1, 0, (congrArg (fun l => pm_look l 770) cq_267).trans rfl⟩
set_option maxRecDepth 100000 in
theorem lk_267_771 : Lk 267 771 (.iaload) 0 0 (0) := ⟨1, 0, (congrArg (fun l => pm_look l 771) cq_267).trans rfl⟩
set_option maxRecDepth 100000 in
theorem lk_267_772 : Lk 267 772 (.invokevirtual 92) 137 0 (0) := ⟨3, 1008, (congrArg (fun l => pm_look l 772) cq_267).trans rfl⟩
set_option maxRecDepth 100000 in
theorem lk_267_775 : Lk 267 775 (.aload_n 2) 0 0 (0) := ⟨1, 0, (congrArg (fun l => pm_look l 775) cq_267).trans rfl⟩
set_option maxRecDepth 100000 in
theorem lk_267_776 : Lk 267 776 (.aload_n 0) 0 0 (0) := ⟨1, 0, (congrArg (fun l => pm_look l 776) cq_267).trans rfl⟩
set_option maxRecDepth 100000 in
theorem lk_267_777 : Lk 267 777 (.iload_n 3) 0 0 (0) := ⟨1, 0, (congrArg (fun l => pm_look l 777) cq_267).trans rfl⟩
set_option maxRecDepth 100000 in
theorem lk_267_778 : Lk 267 778 (.iconst 1) 0 0 (0) := ⟨1, 0, (congrArg (fun l => pm_look l 778) cq_267).trans rfl⟩
set_option maxRecDepth 100000 in
theorem lk_267_779 : Lk 267 779 (.iadd) 0 0 (0) := ⟨1, 0, (congrArg (fun l => pm_look l 779) cq_267).trans rfl⟩
set_option maxRecDepth 100000 in
theorem lk_267_780 : Lk 267 780 (.iaload) 0 0 (0) := ⟨1, 0, (congrArg (fun l => pm_look l 780) cq_267).trans rfl⟩
set_option maxRecDepth 100000 in
theorem lk_267_781 : Lk 267 781 (.invokevirtual 95) 240 0 (0) := ⟨3, 1751, (congrArg (fun l => pm_look l 781) cq_267).trans rfl⟩
set_option maxRecDepth 100000 in
theorem lk_267_784 : Lk 267 784 (.if_icmp .eq 497) 0 0 (0) := ⟨3, 0, (congrArg (fun l => pm_look l 784) cq_267).trans rfl⟩
set_option maxRecDepth 100000 in
theorem lk_267_787 : Lk 267 787 (.iconst 0) 0 0 (0) := ⟨1, 0, (congrArg (fun l => pm_look l 787) cq_267).trans rfl⟩
set_option maxRecDepth 100000 in
theorem lk_267_788 : Lk 267 788 (.ireturn) 1 0 (0) := ⟨1, 0, (congrArg (fun l => pm_look l 788) cq_267).trans rfl⟩
set_option maxRecDepth 100000 in
theorem lk_267_789 : Lk 267 789 (.aload_n 1) 0 0 (0) := ⟨1, 0, (congrArg (fun l => pm_look l 789) cq_267).trans rfl⟩
set_option maxRecDepth 100000 in
theorem lk_267_790 : Lk 267 790 (.aload_n 0) 0 0 (0) := ⟨1, 0, (congrArg (fun l => pm_look l 790) cq_267).trans rfl⟩
set_option maxRecDepth 100000 in
theorem lk_267_791 : Lk 267 791 (.iload_n 3) 0 0 (0) := ⟨1, 0, (congrArg (fun l => pm_look l 791) cq_267).trans rfl⟩
set_option maxRecDepth 100000 in
theorem lk_267_792 : Lk 267 792 (.iconst 1) 0 0 (0) := ⟨1, 0, (congrArg (fun l => pm_look l 792) cq_267).trans rfl⟩
set_option maxRecDepth 100000 in
theorem lk_267_793 : Lk 267 793 (.iadd) 0 0 (0) := ⟨1, 0, (congrArg (fun l => pm_look l 793) cq_267).trans rfl⟩
set_option maxRecDepth 100000 in
theorem lk_267_794 : Lk 267 794 (.iaload) 0 0 (0) := ⟨1, 0, (congrArg (fun l => pm_look l 794) cq_267).trans rfl⟩
set_option maxRecDepth 100000 in
theorem lk_267_795 : Lk 267 795 (.aload_n 0) 0 0 (0) := ⟨1, 0, (congrArg (fun l => pm_look l 795) cq_267).trans rfl⟩
set_option maxRecDepth 100000 in
theorem lk_267_796 : Lk 267 796 (.iload_n 3) 0 0 (0) := ⟨1, 0, (congrArg (fun l => pm_look l 796) cq_267).trans rfl⟩
set_option maxRecDepth 100000 in
theorem lk_267_797 : Lk 267 797 (.iconst 2) 0 0 (0) := ⟨1, 0, (congrArg (fun l => pm_look l 797) cq_267).trans rfl⟩
set_option maxRecDepth 100000 in
theorem lk_267_798 : Lk 267 798 (.iadd) 0 0 (0) := ⟨1, 0, (congrArg (fun l => pm_look l 798) cq_267).trans rfl⟩
set_option maxRecDepth 100000 in
theorem lk_267_799 : Lk 267 799 (.iaload) 0 0 (0) := ⟨1, 0, (congrArg (fun l => pm_look l 799) cq_267).trans rfl⟩
set_option maxRecDepth 100000 in
theorem lk_267_800 : Lk 267 800 (.aload_n 0) 0 0 (0) := ⟨1, 0, (congrArg (fun l => pm_look l 800) cq_267).trans rfl⟩
set_option maxRecDepth 100000 in
theorem lk_267_801 : Lk 267 801 (.iload_n 3) 0 0 (0) := ⟨1, 0, (congrArg (fun l => pm_look l 801) cq_267).trans rfl⟩
set_option maxRecDepth 100000 in
theorem lk_267_802 : Lk 267 802 (.iconst 3) 0 0 (0) := ⟨1, 0, (congrArg (fun l => pm_look l 802) cq_267).trans rfl⟩
set_option maxRecDepth 100000 in
theorem lk_267_803 : Lk 267 803 (.iadd) 0 0 (0) := ⟨1, 0, (congrArg (fun l => pm_look l 803) cq_267).trans rfl⟩
set_option maxRecDepth 100000 in
theorem lk_267_804 : Lk 267 804 (.iaload) 0 0 (0) := ⟨1, 0, (congrArg (fun l => pm_look l 804) cq_267).trans rfl⟩
set_option maxRecDepth 100000 in
theorem lk_267_805 : Lk 267 805 (.invokevirtual 96) 138 0 (0) := ⟨3, 1033, (congrArg (fun l => pm_look l 805) cq_267).trans rfl⟩
set_option maxRecDepth 100000 in
theorem lk_267_808 : Lk 267 808 (.aload_n 2) 0 0 (0) := ⟨1, 0, (congrArg (fun l => pm_look l 808) cq_267).trans rfl⟩
set_option maxRecDepth 100000 in
theorem lk_267_809 : Lk 267 809 (.aload_n 0) 0 0 (0) := ⟨1, 0, (congrArg (fun l => pm_look l 809) cq_267).trans rfl⟩
set_option maxRecDepth 100000 in
theorem lk_267_810 : Lk 267 810 (.iload_n 3) 0 0 (0) := ⟨1, 0, (congrArg (fun l => pm_look l 810) cq_267).trans rfl⟩
set_option maxRecDepth 100000 in
theorem lk_267_811 : Lk 267 811 (.iconst 1) 0 0 (0) := ⟨1, 0, (congrArg (fun l => pm_look l 811) cq_267).trans rfl⟩
set_option maxRecDepth 100000 in
theorem lk_267_812 : Lk 267 812 (.iadd) 0 0 (0) := ⟨1, 0, (congrArg (fun l => pm_look l 812) cq_267).trans rfl⟩
set_option maxRecDepth 100000 in
theorem lk_267_813 : Lk 267 813 (.iaload) 0 0 (0) := ⟨1, 0, (congrArg (fun l => pm_look l 813) cq_267).trans rfl⟩
set_option maxRecDepth 100000 in
theorem lk_267_814 : Lk 267 814 (.aload_n 0) 0 0 (0) := ⟨1, 0, (congrArg (fun l => pm_look l 814) cq_267).trans rfl⟩
set_option maxRecDepth 100000 in
theorem lk_267_815 : Lk 267 815 (.iload_n 3) 0 0 (0) := ⟨1, 0, (congrArg (fun l => pm_look l 815) cq_267).trans rfl⟩
set_option maxRecDepth 100000 in
theorem lk_267_816 : Lk 267 816 (.iconst 2) 0 0 (0) := ⟨1, 0, (congrArg (fun l => pm_look l 816) cq_267).trans rfl⟩
set_option maxRecDepth 100000 in
theorem lk_267_817 : Lk 267 817 (.iadd) 0 0 (0) := ⟨1, 0, (congrArg (fun l => pm_look l 817) cq_267).trans rfl⟩
set_option maxRecDepth 100000 in
theorem lk_267_818 : Lk 267 818 (.iaload) 0 0 (0) := ⟨1, 0, (congrArg (fun l => pm_look l 818) cq_267).trans rfl⟩
set_option maxRecDepth 100000 in
theorem lk_267_819 : Lk 267 819 (.aload_n 0) 0 0 (0) := ⟨1, 0, (congrArg (fun l => pm_look l 819) cq_267).trans rfl⟩
set_option maxRecDepth 100000 in
theorem lk_267_820 : Lk 267 820 (.iload_n 3) 0 0 (0) := ⟨1, 0, (congrArg (fun l => pm_look l 820) cq_267).trans rfl⟩
set_option maxRecDepth 100000 in
theorem lk_267_821 : Lk 267 821 (.iconst 3) 0 0 (0) := ⟨1, 0, (congrArg (fun l => pm_look l 821) cq_267).trans rfl⟩
set_option maxRecDepth 100000 in
theorem lk_267_822 : Lk 267 822 (.iadd) 0 0 (0) := ⟨1, 0, (congrArg (fun l => pm_look l 822) cq_267).trans rfl⟩
set_option maxRecDepth 100000 in
theorem lk_267_823 : Lk 267 823 (.iaload) 0 0 (0) := ⟨1, 0, (congrArg (fun l => pm_look l 823) cq_267).trans rfl⟩
set_option maxRecDepth 100000 in
theorem lk_267_824 : Lk 267 824 (.invokevirtual 99) 245 0 (0) := ⟨3, 1759, (congrArg (fun l => pm_look l 824) cq_267).trans rfl⟩
set_option maxRecDepth 100000 in
theorem lk_267_827 : Lk 267 827 (.if_icmp .eq 454) 0 0 (0) := ⟨3, 0, (congrArg (fun l => pm_look l 827) cq_267).trans rfl⟩
set_option maxRecDepth 100000 in
theorem lk_267_830 : Lk 267 830 (.iconst 0) 0 0 (0) := ⟨1, 0, (congrArg (fun l => pm_look l 830) cq_267).trans rfl⟩
set_option maxRecDepth 100000 in
theorem lk_267_831 : Lk 267 831 (.ireturn) 1 0 (0) := ⟨1, 0, (congrArg (fun l => pm_look l 831) cq_267).trans rfl⟩
set_option maxRecDepth 100000 in
theorem lk_267_832 : Lk 267 832 (.aload_n 1) 0 0 (0) := ⟨1, 0, (congrArg (fun l => pm_look l 832) cq_267).trans rfl⟩
set_option maxRecDepth 100000 in
theorem lk_267_833 : Lk 267 833 (.aload_n 0) 0 0 (0) := ⟨1, 0, (congrArg (fun l => pm_look l 833) cq_267).trans rfl⟩
set_option maxRecDepth 100000 in
theorem lk_267_834 : Lk 267 834 (.iload_n 3) 0 0 (0) := ⟨1, 0, (congrArg (fun l => pm_look l 834) cq_267).trans rfl⟩
set_option maxRecDepth 100000 in
theorem lk_267_835 : Lk 267 835 (.iconst 1) 0 0 (0) := ⟨1, 0, (congrArg (fun l => pm_look l 835) cq_267).trans rfl⟩
set_option maxRecDepth 100000 in
theorem lk_267_836 : Lk 267 836 (.iadd) 0 0 (0) := ⟨1, 0, (congrArg (fun l => pm_look l 836) cq_267).trans rfl⟩
set_option maxRecDepth 100000 in
theorem lk_267_837 : Lk 267 837 (.iaload) 0 0 (0) := ⟨1, 0, (congrArg (fun l => pm_look l 837) cq_267).trans rfl⟩
set_option maxRecDepth 100000 in
theorem lk_267_838 : Lk 267 838 (.invokevirtual 100) 139 0 (0) := ⟨3, 1055, (congrArg (fun l => pm_look l 838) cq_267).trans rfl⟩
set_option maxRecDepth 100000 in
theorem lk_267_841 : Lk 267 841 (.aload_n 2) 0 0 (0) := ⟨1, 0, (congrArg (fun l => pm_look l 841) cq_267).trans rfl⟩
set_option maxRecDepth 100000 in
theorem lk_267_842 : Lk 267 842 (.aload_n 0) 0 0 (0) := ⟨1, 0, (congrArg (fun l => pm_look l 842) cq_267).trans rfl⟩
set_option maxRecDepth 100000 in
theorem lk_267_843 : Lk 267 843 (.iload_n 3) 0 0 (0) := ⟨1, 0, (congrArg (fun l => pm_look l 843) cq_267).trans rfl⟩
set_option maxRecDepth 100000 in
theorem lk_267_844 : Lk 267 844 (.iconst 1) 0 0 (0) := ⟨1, 0, (congrArg (fun l => pm_look l 844) cq_267).trans rfl⟩
set_option maxRecDepth 100000 in
theorem lk_267_845 : Lk 267 845 (.iadd) 0 0 (0) := ⟨1, 0, (congrArg (fun l => pm_look l 845) cq_267).trans rfl⟩
set_option maxRecDepth 100000 in
theorem lk_267_846 : Lk 267 846 (.iaload) 0 0 (0) := ⟨1, 0, (congrArg (fun l => pm_look l 846) cq_267).trans rfl⟩
set_option maxRecDepth 100000 in
theorem lk_267_847 : Lk 267 847 (.invokevirtual 103) 241 0 (0) := ⟨3, 1755, (congrArg (fun l => pm_look l 847) cq_267).trans rfl⟩
set_option maxRecDepth 100000 in
theorem lk_267_850 : Lk 267 850 (.if_icmp .eq 431) 0 0 (0) := ⟨3, 0, (congrArg (fun l => pm_look l 850) cq_267).trans rfl⟩
set_option maxRecDepth 100000 in
theorem lk_267_853 : Lk 267 853 (.iconst 0) 0 0 (0) := ⟨1, 0, (congrArg (fun l => pm_look l 853) cq_267).trans rfl⟩
set_option maxRecDepth 100000 in
theorem lk_267_854 : Lk 267 854 (.ireturn) 1 0 (0) := ⟨1, 0, (congrArg (fun l => pm_look l 854) cq_267).trans rfl⟩
set_option maxRecDepth 100000 in
theorem lk_267_855 : Lk 267 855 (.aload_n 1) 0 0 (0) := ⟨1, 0, (congrArg (fun l => pm_look l 855) cq_267).trans rfl⟩
set_option maxRecDepth 100000 in
theorem lk_267_856 : Lk 267 856 (.aload_n 0) 0 0 (0) := ⟨1, 0, (congrArg (fun l => pm_look l 856) cq_267).trans rfl⟩
set_option maxRecDepth 100000 in
theorem lk_267_857 : Lk 267 857 (.iload_n 3) 0 0 (0) := ⟨1, 0, (congrArg (fun l => pm_look l 857) cq_267).trans rfl⟩
set_option maxRecDepth 100000 in
theorem lk_267_858 : Lk 267 858 (.iconst 1) 0 0 (0) := ⟨1, 0, (congrArg (fun l => pm_look l 858) cq_267).trans rfl⟩
set_option maxRecDepth 100000 in
theorem lk_267_859 : Lk 267 859 (.iadd) 0 0 (0) := ⟨1, 0, (congrArg (fun l => pm_look l 859) cq_267).trans rfl⟩
set_option maxRecDepth 100000 in
theorem lk_267_860 : Lk 267 860 (.iaload) 0 0 (0) := ⟨1, 0, (congrArg (fun l => pm_look l 860) cq_267).trans rfl⟩
set_option maxRecDepth 100000 in
theorem lk_267_861 : Lk 267 861 (.invokevirtual 104) 140 0 (0) := ⟨3, 1106, (congrArg (fun l => pm_look l 861) cq_267).trans rfl⟩
set_option maxRecDepth 100000 in
theorem lk_267_864 : Lk 267 864 (.aload_n 2) 0 0 (0) := ⟨1, 0, (congrArg (fun l => pm_look l 864) cq_267).trans rfl⟩
set_option maxRecDepth 100000 in
theorem lk_267_865 : Lk 267 865 (.aload_n 0) 0 0 (0) := ⟨1, 0, (congrArg (fun l => pm_look l 865) cq_267).trans rfl⟩
set_option maxRecDepth 100000 in
theorem lk_267_866 : Lk 267 866 (.iload_n 3) 0 0 (0) := ⟨1, 0, (congrArg (fun l => pm_look l 866) cq_267).trans rfl⟩
set_option maxRecDepth 100000 in
theorem lk_267_867 : Lk 267 867 (.iconst 1) 0 0 (0) := ⟨1, 0, (congrArg (fun l => pm_look l 867) cq_267).trans rfl⟩
set_option maxRecDepth 100000 in
theorem lk_267_868 : Lk 267 868 (.iadd) 0 0 (0) := ⟨1, 0, (congrArg (fun l => pm_look l 868) cq_267).trans rfl⟩
set_option maxRecDepth 100000 in
theorem lk_267_869 : Lk 267 869 (.iaload) 0 0 (0) := ⟨1, 0, (congrArg (fun l => pm_look l 869) cq_267).trans rfl⟩
set_option maxRecDepth 100000 in
theorem lk_267_870 : Lk 267 870 (.invokevirtual 107) 246 0 (0) := ⟨3, 1775, (congrArg (fun l => pm_look l 870) cq_267).trans rfl⟩
set_option maxRecDepth 100000 in
theorem lk_267_873 : Lk 267 873 (.if_icmp .eq 408) 0 0 (0) := ⟨3, 0, (congrArg (fun l => pm_look l 873) cq_267).trans rfl⟩
set_option maxRecDepth 100000 in
theorem lk_267_876 : Lk 267 876 (.iconst 0) 0 0 (0) := ⟨1, 0, (congrArg (fun l => pm_look l 876) cq_267).trans rfl⟩
set_option maxRecDepth 100000 in
theorem lk_267_877 : Lk 267 877 (.ireturn) 1 0 (0) := ⟨1, 0, (congrArg (fun l => pm_look l 877) cq_267).trans rfl⟩
set_option maxRecDepth 100000 in
theorem lk_267_878 : Lk 267 878 (.aload_n 1) 0 0 (0) := ⟨1, 0, (congrArg (fun l => pm_look l 878) cq_267).trans rfl⟩
set_option maxRecDepth 100000 in
theorem lk_267_879 : Lk 267 879 (.aload_n 0) 0 0 (0) := ⟨1, 0, (congrArg (fun l => pm_look l 879) cq_267).trans rfl⟩
set_option maxRecDepth 100000 in
theorem lk_267_880 : Lk 267 880 (.iload_n 3) 0 0 (0) := ⟨1, 0, (congrArg (fun l => pm_look l 880) cq_267).trans rfl⟩
set_option maxRecDepth 100000 in
theorem lk_267_881 : Lk 267 881 (.iconst 1) 0 0 (0) := ⟨1, 0, (congrArg (fun l => pm_look l 881) cq_267).trans rfl⟩
set_option maxRecDepth 100000 in
theorem lk_267_882 : Lk 267 882 (.iadd) 0 0 (0) := ⟨1, 0, (congrArg (fun l => pm_look l 882) cq_267).trans rfl⟩
set_option maxRecDepth 100000 in
theorem lk_267_883 : Lk 267 883 (.iaload) 0 0 (0) := ⟨1, 0, (congrArg (fun l => pm_look l 883) cq_267).trans rfl⟩
set_option maxRecDepth 100000 in
theorem lk_267_884 : Lk 267 884 (.aload_n 0) 0 0 (0) := ⟨1, 0, (congrArg (fun l => pm_look l 884) cq_267).trans rfl⟩
set_option maxRecDepth 100000 in
theorem lk_267_885 : Lk 267 885 (.iload_n 3) 0 0 (0) := ⟨1, 0, (congrArg (fun l => pm_look l 885) cq_267).trans rfl⟩
set_option maxRecDepth 100000 in
theorem lk_267_886 : Lk 267 886 (.iconst 2) 0 0 (0) := ⟨1, 0, (congrArg (fun l => pm_look l 886) cq_267).trans rfl⟩
set_option maxRecDepth 100000 in
theorem lk_267_887 : Lk 267 887 (.iadd) 0 0 (0) := ⟨1, 0, (congrArg (fun l => pm_look l 887) cq_267).trans rfl⟩
set_option maxRecDepth 100000 in
theorem lk_267_888 : Lk 267 888 (.iaload) 0 0 (0) := ⟨1, 0, (congrArg (fun l => pm_look l 888) cq_267).trans rfl⟩
set_option maxRecDepth 100000 in
theorem lk_267_889 : Lk 267 889 (.aload_n 0) 0 0 (0) := ⟨1, 0, (congrArg (fun l => pm_look l 889) cq_267).trans rfl⟩
set_option maxRecDepth 100000 in
theorem lk_267_890 : Lk 267 890 (.iload_n 3) 0 0 (0) := ⟨1, 0, (congrArg (fun l => pm_look l 890) cq_267).trans rfl⟩
set_option maxRecDepth 100000 in
theorem lk_267_891 : Lk 267 891 (.iconst 3) 0 0 (0) := ⟨1, 0, (congrArg (fun l => pm_look l 891) cq_267).trans rfl⟩
set_option maxRecDepth 100000 in
theorem lk_267_892 : Lk 267 892 (.iadd) 0 0 (0) := ⟨1, 0, (congrArg (fun l => pm_look l 892) cq_267).trans rfl⟩
set_option maxRecDepth 100000 in
theorem lk_267_893 : Lk 267 893 (.iaload) 0 0 (0) := ⟨1, 0, (congrArg (fun l => pm_look l 893) cq_267).trans rfl⟩
set_option maxRecDepth 100000 in
theorem lk_267_894 : Lk 267 894 (.invokevirtual 108) 141 0 (0) := ⟨3, 1122, (congrArg (fun l => pm_look l 894) cq_267).trans rfl⟩
set_option maxRecDepth 100000 in
theorem lk_267_897 : Lk 267 897 (.aload_n 2) 0 0 (0) := ⟨1, 0, (congrArg (fun l => pm_look l 897) cq_267).trans rfl⟩
set_option maxRecDepth 100000 in
theorem lk_267_898 : Lk 267 898 (.aload_n 0) 0 0 (0) := ⟨1, 0, (congrArg (fun l => pm_look l 898) cq_267).trans rfl⟩
set_option maxRecDepth 100000 in
theorem lk_267_899 : Lk 267 899 (.iload_n 3) 0 0 (0) := ⟨1, 0, (congrArg (fun l => pm_look l 899) cq_267).trans rfl⟩
set_option maxRecDepth 100000 in
theorem lk_267_900 : Lk 267 900 (.iconst 1) 0 0 (0) := ⟨1, 0, (congrArg (fun l => pm_look l 900) cq_267).trans rfl⟩
set_option maxRecDepth 100000 in
theorem lk_267_901 : Lk 267 901 (.iadd) 0 0 (0) := ⟨1, 0, (congrArg (fun l => pm_look l 901) cq_267).trans rfl⟩
set_option maxRecDepth 100000 in
theorem lk_267_902 : Lk 267 902 (.iaload) 0 0 (0) := ⟨1, 0, (congrArg (fun l => pm_look l 902) cq_267).trans rfl⟩
set_option maxRecDepth 100000 in
theorem lk_267_903 : Lk 267 903 (.aload_n 0) 0 0 (0) := ⟨1, 0, (congrArg (fun l => pm_look l 903) cq_267).trans rfl⟩
set_option maxRecDepth 100000 in
theorem lk_267_904 : Lk 267 904 (.iload_n 3) 0 0 (0) := ⟨1, 0, (congrArg (fun l => pm_look l 904) cq_267).trans rfl⟩
set_option maxRecDepth 100000 in
theorem lk_267_905 : Lk 267 905 (.iconst 2) 0 0 (0) := ⟨1, 0, (congrArg (fun l => pm_look l 905) cq_267).trans rfl⟩
set_option maxRecDepth 100000 in
theorem lk_267_906 : Lk 267 906 (.iadd) 0 0 (0) := ⟨1, 0, (congrArg (fun l => pm_look l 906) cq_267).trans rfl⟩
set_option maxRecDepth 100000 in
theorem lk_267_907 : Lk 267 907 (.iaload) 0 0 (0) := ⟨1, 0, (congrArg (fun l => pm_look l 907) cq_267).trans rfl⟩
set_option maxRecDepth 100000 in
theorem lk_267_908 : Lk 267 908 (.aload_n 0) 0 0 (0) := ⟨1, 0, (congrArg (fun l => pm_look l 908) cq_267).trans rfl⟩
set_option maxRecDepth 100000 in
theorem lk_267_909 : Lk 267 909 (.iload_n 3) 0 0 (0) := ⟨1, 0, (congrArg (fun l => pm_look l 909) cq_267).trans rfl⟩
set_option maxRecDepth 100000 in
theorem lk_267_910 : Lk 267 910 (.iconst 3) 0 0 (0) := ⟨1, 0, (congrArg (fun l => pm_look l 910) cq_267).trans rfl⟩
set_option maxRecDepth 100000 in
theorem lk_267_911 : Lk 267 911 (.iadd) 0 0 (0) := ⟨1, 0, (congrArg (fun l => pm_look l 911) cq_267).trans rfl⟩
set_option maxRecDepth 100000 in
theorem lk_267_912 : Lk 267 912 (.iaload) 0 0 (0) := ⟨1, 0, (congrArg (fun l => pm_look l 912) cq_267).trans rfl⟩
set_option maxRecDepth 100000 in
theorem lk_267_913 : Lk 267 913 (.invokevirtual 111) 249 0 (0) := ⟨3, 1779, (congrArg (fun l => pm_look l 913) cq_267).trans rfl⟩
set_option maxRecDepth 100000 in
theorem lk_267_916 : Lk 267 916 (.if_icmp .eq 365) 0 0 (0) := ⟨3, 0, (congrArg (fun l => pm_look l 916) cq_267).trans rfl⟩
set_option maxRecDepth 100000 in
theorem lk_267_919 : Lk 267 919 (.iconst 0) 0 0 (0) := ⟨1, 0, (congrArg (fun l => pm_look l 919) cq_267).trans rfl⟩
set_option maxRecDepth 100000 in
theorem lk_267_920 : Lk 267 920 (.ireturn) 1 0 (0) := ⟨1, 0, (congrArg (fun l => pm_look l 920) cq_267).trans rfl⟩
set_option maxRecDepth 100000 in
theorem lk_267_921 : Lk 267 921 (.aload_n 1) 0 0 (0) := ⟨1, 0, (congrArg (fun l => pm_look l 921) cq_267).trans rfl⟩
set_option maxRecDepth 100000 in
theorem lk_267_922 : Lk 267 922 (.aload_n 0) 0 0 (0) := ⟨1, 0, (congrArg (fun l => pm_look l 922) cq_267).trans rfl⟩
set_option maxRecDepth 100000 in
theorem lk_267_923 : Lk 267 923 (.iload_n 3) 0 0 (0) := ⟨1, 0, (congrArg (fun l => pm_look l 923) cq_267).trans rfl⟩
set_option maxRecDepth 100000 in
theorem lk_267_924 : Lk 267 924 (.iconst 1) 0 0 (0) := ⟨1, 0, (congrArg (fun l => pm_look l 924) cq_267).trans rfl⟩
set_option maxRecDepth 100000 in
theorem lk_267_925 : Lk 267 925 (.iadd) 0 0 (0) := ⟨1, 0, (congrArg (fun l => pm_look l 925) cq_267).trans rfl⟩
set_option maxRecDepth 100000 in
theorem lk_267_926 : Lk 267 926 (.iaload) 0 0 (0) := ⟨1, 0, (congrArg (fun l => pm_look l 926) cq_267).trans rfl⟩
set_option maxRecDepth 100000 in
theorem lk_267_927 : Lk 267 927 (.aload_n 0) 0 0 (0) := ⟨1, 0, (congrArg (fun l => pm_look l 927) cq_267).trans rfl⟩
set_option maxRecDepth 100000 in
theorem lk_267_928 : Lk 267 928 (.iload_n 3) 0 0 (0) := ⟨1, 0, (congrArg (fun l => pm_look l 928) cq_267).trans rfl⟩
set_option maxRecDepth 100000 in
theorem lk_267_929 : Lk 267 929 (.iconst 2) 0 0 (0) := ⟨1, 0, (congrArg (fun l => pm_look l 929) cq_267).trans rfl⟩
set_option maxRecDepth 100000 in
theorem lk_267_930 : Lk 267 930 (.iadd) 0 0 (0) := ⟨1, 0, (congrArg (fun l => pm_look l 930) cq_267).trans rfl⟩
set_option maxRecDepth 100000 in
theorem lk_267_931 : Lk 267 931 (.iaload) 0 0 (0) := ⟨1, 0, (congrArg (fun l => pm_look l 931) cq_267).trans rfl⟩
set_option maxRecDepth 100000 in
theorem lk_267_932 : Lk 267 932 (.aload_n 0) 0 0 (0) := ⟨1, 0, (congrArg (fun l => pm_look l 932) cq_267).trans rfl⟩
set_option maxRecDepth 100000 in
theorem lk_267_933 : Lk 267 933 (.iload_n 3) 0 0 (0) := ⟨1, 0, (congrArg (fun l => pm_look l 933) cq_267).trans rfl⟩
set_option maxRecDepth 100000 in
theorem lk_267_934 : Lk 267 934 (.iconst 3) 0 0 (0) := ⟨1, 0, (congrArg (fun l => pm_look l 934) cq_267).trans rfl⟩
set_option maxRecDepth 100000 in
theorem lk_267_935 : Lk 267 935 (.iadd) 0 0 (0) := ⟨1, 0, (congrArg (fun l => pm_look l 935) cq_267).trans rfl⟩
set_option maxRecDepth 100000 in
theorem lk_267_936 : Lk 267 936 (.iaload) 0 0 (0) := ⟨1, 0, (congrArg (fun l => pm_look l 936) cq_267).trans rfl⟩
set_option maxRecDepth 100000 in
theorem lk_267_937 : Lk 267 937 (.invokevirtual 112) 142 0 (0) := ⟨3, 1147, (congrArg (fun l => pm_look l 937) cq_267).trans rfl⟩
set_option maxRecDepth 100000 in
theorem lk_267_940 : Lk 267 940 (.aload_n 2) 0 0 (0) := ⟨1, 0, (congrArg (fun l => pm_look l 940) cq_267).trans rfl⟩
set_option maxRecDepth 100000 in
theorem lk_267_941 : Lk 267 941 (.aload_n 0) 0 0 (0) := ⟨1, 0, (congrArg (fun l => pm_look l 941) cq_267).trans rfl⟩
set_option maxRecDepth 100000 in
theorem lk_267_942 : Lk 267 942 (.iload_n 3) 0 0 (0) := ⟨1, 0, (congrArg (fun l => pm_look l 942) cq_267).trans rfl⟩
set_option maxRecDepth 100000 in
theorem lk_267_943 : Lk 267 943 (.iconst 1) 0 0 (0) := ⟨1, 0, (congrArg (fun l => pm_look l 943) cq_267).trans rfl⟩
set_option maxRecDepth 100000 in
theorem lk_267_944 : Lk 267 944 (.iadd) 0 0 (0) := ⟨1, 0, (congrArg (fun l => pm_look l 944) cq_267).trans rfl⟩
set_option maxRecDepth 100000 in
theorem lk_267_945 : Lk 267 945 (.iaload) 0 0 (0) := ⟨1, 0, (congrArg (fun l => pm_look l 945) cq_267).trans rfl⟩
set_option maxRecDepth 100000 in
theorem lk_267_946 : Lk 267 946 (.aload_n 0) 0 0 (0) := ⟨1, 0, (congrArg (fun l => pm_look l 946) cq_267).trans rfl⟩
set_option maxRecDepth 100000 in
theorem lk_267_947 : Lk 267 947 (.iload_n 3) 0 0 (0) := ⟨1, 0, (congrArg (fun l => pm_look l 947) cq_267).trans rfl⟩
set_option maxRecDepth 100000 in
theorem lk_267_948 : Lk 267 948 (.iconst 2) 0 0 (0) := ⟨1, 0, (congrArg (fun l => pm_look l 948) cq_267).trans rfl⟩
set_option maxRecDepth 100000 in
theorem lk_267_949 : Lk 267 949 (.iadd) 0 0 (0) := ⟨1, 0, (congrArg (fun l => pm_look l 949) cq_267).trans rfl⟩
set_option maxRecDepth 100000 in
theorem lk_267_950 : Lk 267 950 (.iaload) 0 0 (0) := ⟨1, 0, (congrArg (fun l => pm_look l 950) cq_267).trans rfl⟩
set_option maxRecDepth 100000 in
theorem lk_267_951 : Lk 267 951 (.aload_n 0) 0 0 (0) := ⟨1, 0, (congrArg (fun l => pm_look l 951) cq_267).trans rfl⟩
set_option maxRecDepth 100000 in
theorem lk_267_952 : Lk 267 952 (.iload_n 3) 0 0 (0) := ⟨1, 0, (congrArg (fun l => pm_look l 952) cq_267).trans rfl⟩
set_option maxRecDepth 100000 in
theorem lk_267_953 : Lk 267 953 (.iconst 3) 0 0 (0) := ⟨1, 0, (congrArg (fun l => pm_look l 953) cq_267).trans rfl⟩
set_option maxRecDepth 100000 in
theorem lk_267_954 : Lk 267 954 (.iadd) 0 0 (0) := ⟨1, 0, (congrArg (fun l => pm_look l 954) cq_267).trans rfl⟩
set_option maxRecDepth 100000 in
theorem lk_267_955 : Lk 267 955 (.iaload) 0 0 (0) := ⟨1, 0, (congrArg (fun l => pm_look l 955) cq_267).trans rfl⟩
set_option maxRecDepth 100000 in
theorem lk_267_956 : Lk 267 956 (.invokevirtual 115) 250 0 (0) := ⟨3, 1795, (congrArg (fun l => pm_look l 956) cq_267).trans rfl⟩
set_option maxRecDepth 100000 in
theorem lk_267_959 : Lk 267 959 (.if_icmp .eq 322) 0 0 (0) := ⟨3, 0, (congrArg (fun l => pm_look l 959) cq_267).trans rfl⟩
set_option maxRecDepth 100000 in
theorem lk_267_962 : Lk 267 962 (.iconst 0) 0 0 (0) := ⟨1, 0, (congrArg (fun l => pm_look l 962) cq_267).trans rfl⟩
set_option maxRecDepth 100000 in
theorem lk_267_963 : Lk 267 963 (.ireturn) 1 0 (0) := ⟨1, 0, (congrArg (fun l => pm_look l 963) cq_267).trans rfl⟩
set_option maxRecDepth 100000 in
theorem lk_267_964 : Lk 267 964 (.aload_n 1) 0 0 (0) := ⟨1, 0, (congrArg (fun l => pm_look l 964) cq_267).trans rfl⟩
set_option maxRecDepth 100000 in
theorem lk_267_965 : Lk 267 965 (.aload_n 0) 0 0 (0) := ⟨1, 0, (congrArg (fun l => pm_look l 965) cq_267).trans rfl⟩
set_option maxRecDepth 100000 in
theorem lk_267_966 : Lk 267 966 (.iload_n 3) 0 0 (0) := ⟨1, 0, (congrArg (fun l => pm_look l 966) cq_267).trans rfl⟩
set_option maxRecDepth 100000 in
theorem lk_267_967 : Lk 267 967 (.iconst 1) 0 0 (0) := ⟨1, 0, (congrArg (fun l => pm_look l 967) cq_267).trans rfl⟩
set_option maxRecDepth 100000 in
theorem lk_267_968 : Lk 267 968 (.iadd) 0 0 (0) := ⟨1, 0, (congrArg (fun l => pm_look l 968) cq_267).trans rfl⟩
set_option maxRecDepth 100000 in
theorem lk_267_969 : Lk 267 969 (.iaload) 0 0 (0) := ⟨1, 0, (congrArg (fun l => pm_look l 969) cq_267).trans rfl⟩
set_option maxRecDepth 100000 in
theorem lk_267_970 : Lk 267 970 (.aload_n 0) 0 0 (0) := ⟨1, 0, (congrArg (fun l => pm_look l 970) cq_267).trans rfl⟩
set_option maxRecDepth 100000 in
theorem lk_267_971 : Lk 267 971 (.iload_n 3) 0 0 (0) := ⟨1, 0, (congrArg (fun l => pm_look l 971) cq_267).trans rfl⟩
set_option maxRecDepth 100000 in
theorem lk_267_972 : Lk 267 972 (.iconst 2) 0 0 (0) := ⟨1, 0, (congrArg (fun l => pm_look l 972) cq_267).trans rfl⟩
set_option maxRecDepth 100000 in
theorem lk_267_973 : Lk 267 973 (.iadd) 0 0 (0) := ⟨1, 0, (congrArg (fun l => pm_look l 973) cq_267).trans rfl⟩
set_option maxRecDepth 100000 in
theorem lk_267_974 : Lk 267 974 (.iaload) 0 0 (0) := ⟨1, 0, (congrArg (fun l => pm_look l 974) cq_267).trans rfl⟩
set_option maxRecDepth 100000 in
theorem lk_267_975 : Lk 267 975 (.aload_n 0) 0 0 (0) := ⟨1, 0, (congrArg (fun l => pm_look l 975) cq_267).trans rfl⟩
set_option maxRecDepth 100000 in
theorem lk_267_976 : Lk 267 976 (.iload_n 3) 0 0 (0) := ⟨1, 0, (congrArg (fun l => pm_look l 976) cq_267).trans rfl⟩
set_option maxRecDepth 100000 in
theorem lk_267_977 : Lk 267 977 (.iconst 3) 0 0 (0) := ⟨1, 0, (congrArg (fun l => pm_look l 977) cq_267).trans rfl⟩
set_option maxRecDepth 100000 in
theorem lk_267_978 : Lk 267 978 (.iadd) 0 0 (0) := ⟨1, 0, (congrArg (fun l => pm_look l 978) cq_267).trans rfl⟩
set_option maxRecDepth 100000 in
theorem lk_267_979 : Lk 267 979 (.iaload) 0 0 (0) := ⟨1, 0, (congrArg (fun l => pm_look l 979) cq_267).trans rfl⟩
set_option maxRecDepth 100000 in
theorem lk_267_980 : Lk 267 980 (.invokevirtual 116) 143 0 (0) := ⟨3, 1152, (congrArg (fun l => pm_look l 980) cq_267).trans rfl⟩
set_option maxRecDepth 100000 in
theorem lk_267_983 : Lk 267 983 (.aload_n 2) 0 0 (0) := ⟨1, 0, (congrArg (fun l => pm_look l 983) cq_267).trans rfl⟩
set_option maxRecDepth 100000 in
theorem lk_267_984 : Lk 267 984 (.aload_n 0) 0 0 (0) := ⟨1, 0, (congrArg (fun l => pm_look l 984) cq_267).trans rfl⟩
set_option maxRecDepth 100000 in
theorem lk_267_985 : Lk 267 985 (.iload_n 3) 0 0 (0) := ⟨1, 0, (congrArg (fun l => pm_look l 985) cq_267).trans rfl⟩
set_option maxRecDepth 100000 in
theorem lk_267_986 : Lk 267 986 (.iconst 1) 0 0 (0) := ⟨1, 0, (congrArg (fun l => pm_look l 986) cq_267).trans rfl⟩
set_option maxRecDepth 100000 in
theorem lk_267_987 : Lk 267 987 (.iadd) 0 0 (0) := ⟨1, 0, (congrArg (fun l => pm_look l 987) cq_267).trans rfl⟩
set_option maxRecDepth 100000 in
theorem lk_267_988 : Lk 267 988 (.iaload) 0 0 (0) := ⟨1, 0, (congrArg (fun l => pm_look l 988) cq_267).trans rfl⟩
set_option maxRecDepth 100000 in
theorem lk_267_989 : Lk 267 989 (.aload_n 0) 0 0 (0) := ⟨1, 0, (congrArg (fun l => pm_look l 989) cq_267).trans rfl⟩
set_option maxRecDepth 100000 in
theorem lk_267_990 : Lk 267 990 (.iload_n 3) 0 0 (0) := ⟨1, 0, (congrArg (fun l => pm_look l 990) cq_267).trans rfl⟩
set_option maxRecDepth 100000 in
theorem lk_267_991 : Lk 267 991 (.iconst 2) 0 0 (0) := ⟨1, 0, (congrArg (fun l => pm_look l 991) cq_267).trans rfl⟩
set_option maxRecDepth 100000 in
theorem lk_267_992 : Lk 267 992 (.iadd) 0 0 (0) := ⟨1, 0, (congrArg (fun l => pm_look l 992) cq_267).trans rfl⟩
set_option maxRecDepth 100000 in
theorem lk_267_993 : Lk 267 993 (.iaload) 0 0 (0) := ⟨1, 0, (congrArg (fun l => pm_look l 993) cq_267).trans rfl⟩
set_option maxRecDepth 100000 in
theorem lk_267_994 : Lk 267 994 (.aload_n 0) 0 0 (0) := ⟨1, 0, (congrArg (fun l => pm_look l 994) cq_267).trans rfl⟩
set_option maxRecDepth 100000 in
theorem lk_267_995 : Lk 267 995 (.iload_n 3) 0 0 (0) := ⟨1, 0, (congrArg (fun l => pm_look l 995) cq_267).trans rfl⟩
set_option maxRecDepth 100000 in
theorem lk_267_996 : Lk 267 996 (.iconst 3) 0 0 (0) := ⟨1, 0, (congrArg (fun l => pm_look l 996) cq_267).trans rfl⟩
set_option maxRecDepth 100000 in
theorem lk_267_997 : Lk 267 997 (.iadd) 0 0 (0) := ⟨1, 0, (congrArg (fun l => pm_look l 997) cq_267).trans rfl⟩
set_option maxRecDepth 100000 in
theorem lk_267_998 : Lk 267 998 (.iaload) 0 0 (0) := ⟨1, 0, (congrArg (fun l => pm_look l 998) cq_267).trans rfl⟩
set_option maxRecDepth 100000 in
theorem lk_267_999 : Lk 267 999 (.invokevirtual 119) 251 0 (0) := ⟨3, 1799, (congrArg (fun l => pm_look l 999) cq_267).trans rfl⟩
set_option maxRecDepth 100000 in
theorem lk_267_1002 : Lk 267 1002 (.if_icmp .eq 279) 0 0 (0) := ⟨3, 0, (congrArg (fun l => pm_look l 1002) cq_267).trans rfl⟩
set_option maxRecDepth 100000 in
theorem lk_267_1005 : Lk 267 1005 (.iconst 0) 0 0 (0) := ⟨1, 0, (congrArg (fun l => pm_look l 1005) cq_267).trans rfl⟩
set_option maxRecDepth 100000 in
theorem lk_267_1006 : Lk 267 1006 (.ireturn) 1 0 (0) := ⟨1, 0, (congrArg (fun l => pm_look l 1006) cq_267).trans rfl⟩
set_option maxRecDepth 100000 in
theorem lk_267_1007 : Lk 267 1007 (.aload_n 1) 0 0 (0) := ⟨1, 0, (congrArg (fun l => pm_look l 1007) cq_267).trans rfl⟩
set_option maxRecDepth 100000 in
theorem lk_267_1008 : Lk 267 1008 (.aload_n 0) 0 0 (0) := ⟨1, 0, (congrArg (fun l => pm_look l 1008) cq_267).trans rfl⟩
set_option maxRecDepth 100000 in
theorem lk_267_1009 : Lk 267 1009 (.iload_n 3) 0 0 (0) := ⟨1, 0, (congrArg (fun l => pm_look l 1009) cq_267).trans rfl⟩
set_option maxRecDepth 100000 in
theorem lk_267_1010 : Lk 267 1010 (.iconst 1) 0 0 (0) := ⟨1, 0, (congrArg (fun l => pm_look l 1010) cq_267).trans rfl⟩
set_option maxRecDepth 100000 in
theorem lk_267_1011 : Lk 267 1011 (.iadd) 0 0 (0) := ⟨1, 0, (congrArg (fun l => pm_look l 1011) cq_267).trans rfl⟩
set_option maxRecDepth 100000 in
theorem lk_267_1012 : Lk 267 1012 (.iaload) 0 0 (0) := ⟨1, 0, (congrArg (fun l => pm_look l 1012) cq_267).trans rfl⟩
set_option maxRecDepth 100000 in
theorem lk_267_1013 : Lk 267 1013 (.aload_n 0) 0 0 (0) := ⟨1, 0, (congrArg (fun l => pm_look l 1013) cq_267).trans rfl⟩
set_option maxRecDepth 100000 in
theorem lk_267_1014 : Lk 267 1014 (.iload_n 3) 0 0 (0) := ⟨1, 0, (congrArg (fun l => pm_look l 1014) cq_267).trans rfl⟩
set_option maxRecDepth 100000 in
theorem lk_267_1015 : Lk 267 1015 (.iconst 2) 0 0 (0) := ⟨1, 0, (congrArg (fun l => pm_look l 1015) cq_267).trans rfl⟩
set_option maxRecDepth 100000 in
theorem lk_267_1016 : Lk 267 1016 (.iadd) 0 0 (0) := ⟨1, 0, (congrArg (fun l => pm_look l 1016) cq_267).trans rfl⟩
set_option maxRecDepth 100000 in
theorem lk_267_1017 : Lk 267 1017 (.iaload) 0 0 (0) := ⟨1, 0, (congrArg (fun l => pm_look l 1017) cq_267).trans rfl⟩
set_option maxRecDepth 100000 in
theorem lk_267_1018 : Lk 267 1018 (.aload_n 0) 0 0 (0) := ⟨1, 0, (congrArg (fun l => pm_look l 1018) cq_267).trans rfl⟩
set_option maxRecDepth 100000 in
theorem lk_267_1019 : Lk 267 1019 (.iload_n 3) 0 0 (0) := ⟨1, 0, (congrArg (fun l => pm_look l 1019) cq_267).trans rfl⟩
set_option maxRecDepth 100000 in
theorem lk_267_1020 : Lk 267 1020 (.iconst 3) 0 0 (0) := ⟨1, 0, (congrArg (fun l => pm_look l 1020) cq_267).trans rfl⟩
set_option maxRecDepth 100000 in
theorem lk_267_1021 : Lk 267 1021 (.iadd) 0 0 (0) := ⟨1, 0, (congrArg (fun l => pm_look l 1021) cq_267).trans rfl⟩
set_option maxRecDepth 100000 in
theorem lk_267_1022 : Lk 267 1022 (.iaload) 0 0 (0) := ⟨1, 0, (congrArg (fun l => pm_look l 1022) cq_267).trans rfl⟩
set_option maxRecDepth 100000 in
theorem lk_267_1023 : Lk 267 1023 (.aload_n 0) 0 0 (0) := ⟨1, 0, (congrArg (fun l => pm_look l 1023) cq_267).trans rfl⟩
set_option maxRecDepth 100000 in
theorem lk_267_1024 : Lk 267 1024 (.iload_n 3) 0 0 (0) := ⟨1, 0, (congrArg (fun l => pm_look l 1024) cq_267).trans rfl⟩
set_option maxRecDepth 100000 in
theorem lk_267_1025 : Lk 267 1025 (.iconst 4) 0 0 (0) := ⟨1, 0, (congrArg (fun l => pm_look l 1025) cq_267).trans rfl⟩
set_option maxRecDepth 100000 in
theorem lk_267_1026 : Lk 267 1026 (.iadd) 0 0 (0) := ⟨1, 0, (congrArg (fun l => pm_look l 1026) cq_267).trans rfl⟩
set_option maxRecDepth 100000 in
theorem lk_267_1027 : Lk 267 1027 (.iaload) 0 0 (0) := ⟨1, 0, (congrArg (fun l => pm_look l 1027) cq_267).trans rfl⟩
set_option maxRecDepth 100000 in
theorem lk_267_1028 : Lk 267 1028 (.invokevirtual 120) 144 0 (0) := ⟨3, 1156, (congrArg (fun l => pm_look l 1028) cq_267).trans rfl⟩
set_option maxRecDepth 100000 in
theorem lk_267_1031 : Lk 267 1031 (.aload_n 2) 0 0 (0) := ⟨1, 0, (congrArg (fun l => pm_look l 1031) cq_267).trans rfl⟩
set_option maxRecDepth 100000 in
theorem lk_267_1032 : Lk 267 1032 (.aload_n 0) 0 0 (0) := ⟨1, 0, (congrArg (fun l => pm_look l 1032) cq_267).trans rfl⟩
set_option maxRecDepth 100000 in
theorem lk_267_1033 : Lk 267 1033 (.iload_n 3) 0 0 (0) := ⟨1, 0, (congrArg (fun l => pm_look l 1033) cq_267).trans rfl⟩
set_option maxRecDepth 100000 in
theorem lk_267_1034 : Lk 267 1034 (.iconst 1) 0 0 (0) := ⟨1, 0, (congrArg (fun l => pm_look l 1034) cq_267).trans rfl⟩
set_option maxRecDepth 100000 in
theorem lk_267_1035 : Lk 267 1035 (.iadd) 0 0 (0) := ⟨1, 0, (congrArg (fun l => pm_look l 1035) cq_267).trans rfl⟩
set_option maxRecDepth 100000 in
theorem lk_267_1036 : Lk 267 1036 (.iaload) 0 0 (0) := ⟨1, 0, (congrArg (fun l => pm_look l 1036) cq_267).trans rfl⟩
set_option maxRecDepth 100000 in
theorem lk_267_1037 : Lk 267 1037 (.aload_n 0) 0 0 (0) := ⟨1, 0, (congrArg (fun l => pm_look l 1037) cq_267).trans rfl⟩
set_option maxRecDepth 100000 in
theorem lk_267_1038 : Lk 267 1038 (.iload_n 3) 0 0 (0) := ⟨1, 0, (congrArg (fun l => pm_look l 1038) cq_267).trans rfl⟩
set_option maxRecDepth 100000 in
theorem lk_267_1039 : Lk 267 1039 (.iconst 2) 0 0 (0) := ⟨1, 0, (congrArg (fun l => pm_look l 1039) cq_267).trans rfl⟩
set_option maxRecDepth 100000 in
theorem lk_267_1040 : Lk 267 1040 (.iadd) 0 0 (0) := ⟨1, 0, (congrArg (fun l => pm_look l 1040) cq_267).trans rfl⟩
set_option maxRecDepth 100000 in
theorem lk_267_1041 : Lk 267 1041 (.iaload) 0 0 (0) := ⟨1, 0, (congrArg (fun l => pm_look l 1041) cq_267).trans rfl⟩
set_option maxRecDepth 100000 in
theorem lk_267_1042 : Lk 267 1042 (.aload_n 0) 0 0 (0) := ⟨1, 0, (congrArg (fun l => pm_look l 1042) cq_267).trans rfl⟩
set_option maxRecDepth 100000 in
theorem lk_267_1043 : Lk 267 1043 (.iload_n 3) 0 0 (0) := ⟨1, 0, (congrArg (fun l => pm_look l 1043) cq_267).trans rfl⟩
set_option maxRecDepth 100000 in
theorem lk_267_1044 : Lk 267 1044 (.iconst 3) 0 0 (0) := ⟨1, 0, (congrArg (fun l => pm_look l 1044) cq_267).trans rfl⟩
set_option maxRecDepth 100000 in
theorem lk_267_1045 : Lk 267 1045 (.iadd) 0 0 (0) := ⟨1, 0, (congrArg (fun l => pm_look l 1045) cq_267).trans rfl⟩
set_option maxRecDepth 100000 in
theorem lk_267_1046 : Lk 267 1046 (.iaload) 0 0 (0) := ⟨1, 0, (congrArg (fun l => pm_look l 1046) cq_267).trans rfl⟩
set_option maxRecDepth 100000 in
theorem lk_267_1047 : Lk 267 1047 (.aload_n 0) 0 0 (0) := ⟨1, 0, (congrArg (fun l => pm_look l 1047) cq_267).trans rfl⟩
set_option maxRecDepth 100000 in
theorem lk_267_1048 : Lk 267 1048 (.iload_n 3) 0 0 (0) := ⟨1, 0, (congrArg (fun l => pm_look l 1048) cq_267).trans rfl⟩
set_option maxRecDepth 100000 in
theorem lk_267_1049 : Lk 267 1049 (.iconst 4) 0 0 (0) := ⟨1, 0, (congrArg (fun l => pm_look l 1049) cq_267).trans rfl⟩
set_option maxRecDepth 100000 in
theorem lk_267_1050 : Lk 267 1050 (.iadd) 0 0 (0) := ⟨1, 0, (congrArg (fun l => pm_look l 1050) cq_267).trans rfl⟩
set_option maxRecDepth 100000 in
theorem lk_267_1051 : Lk 267 1051 (.iaload) 0 0 (0) := ⟨1, 0, (congrArg (fun l => pm_look l 1051) cq_267).trans rfl⟩
set_option maxRecDepth 100000 in
theorem lk_267_1052 : Lk 267 1052 (.invokevirtual 124) 252 0 (0) := ⟨3, 1803, (congrArg (fun l => pm_look l 1052) cq_267).trans rfl⟩
set_option maxRecDepth 100000 in
theorem lk_267_1055 : Lk 267 1055 (.if_icmp .eq 226) 0 0 (0) := ⟨3, 0, (congrArg (fun l => pm_look l 1055) cq_267).trans rfl⟩
set_option maxRecDepth 100000 in
theorem lk_267_1058 : Lk 267 1058 (.iconst 0) 0 0 (0) := ⟨1, 0, (congrArg (fun l => pm_look l 1058) cq_267).trans rfl⟩
set_option maxRecDepth 100000 in
theorem lk_267_1059 : Lk 267 1059 (.ireturn) 1 0 (0) := ⟨1, 0, (congrArg (fun l => pm_look l 1059) cq_267).trans rfl⟩
set_option maxRecDepth 100000 in
theorem lk_267_1060 : Lk 267 1060 (.aload_n 1) 0 0 (0) := ⟨1, 0, (congrArg (fun l => pm_look l 1060) cq_267).trans rfl⟩
set_option maxRecDepth 100000 in
theorem lk_267_1061 : Lk 267 1061 (.aload_n 0) 0 0 (0) := ⟨1, 0, (congrArg (fun l => pm_look l 1061) cq_267).trans rfl⟩
set_option maxRecDepth 100000 in
theorem lk_267_1062 : Lk 267 1062 (.iload_n 3) 0 0 (0) := ⟨1, 0, (congrArg (fun l => pm_look l 1062) cq_267).trans rfl⟩
set_option maxRecDepth 100000 in
theorem lk_267_1063 : Lk 267 1063 (.iconst 1) 0 0 (0) := ⟨1, 0, (congrArg (fun l => pm_look l 1063) cq_267).trans rfl⟩
set_option maxRecDepth 100000 in
theorem lk_267_1064 : Lk 267 1064 (.iadd) 0 0 (0) := ⟨1, 0, (congrArg (fun l => pm_look l 1064) cq_267).trans rfl⟩
set_option maxRecDepth 100000 in
theorem lk_267_1065 : Lk 267 1065 (.iaload) 0 0 (0) := ⟨1, 0, (congrArg (fun l => pm_look l 1065) cq_267).trans rfl⟩
set_option maxRecDepth 100000 in
theorem lk_267_1066 : Lk 267 1066 (.aload_n 0) 0 0 (0) := ⟨1, 0, (congrArg (fun l => pm_look l 1066) cq_267).trans rfl⟩
set_option maxRecDepth 100000 in
theorem lk_267_1067 : Lk 267 1067 (.iload_n 3) 0 0 (0) := ⟨1, 0, (congrArg (fun l => pm_look l 1067) cq_267).trans rfl⟩
set_option maxRecDepth 100000 in
theorem lk_267_1068 : Lk 267 1068 (.iconst 2) 0 0 (0) := ⟨1, 0, (congrArg (fun l => pm_look l 1068) cq_267).trans rfl⟩
set_option maxRecDepth 100000 in
theorem lk_267_1069 : Lk 267 1069 (.iadd) 0 0 (0) := ⟨1, 0, (congrArg (fun l => pm_look l 1069) cq_267).trans rfl⟩
set_option maxRecDepth 100000 in
theorem lk_267_1070 : Lk 267 1070 (.iaload) 0 0 (0) := ⟨1, 0, (congrArg (fun l => pm_look l 1070) cq_267).trans rfl⟩
set_option maxRecDepth 100000 in
theorem lk_267_1071 : Lk 267 1071 (.invokevirtual 125) 145 0 (0) := ⟨3, 1164, (congrArg (fun l => pm_look l 1071) cq_267).trans rfl⟩
set_option maxRecDepth 100000 in
theorem lk_267_1074 : Lk 267 1074 (.aload_n 2) 0 0 (0) := ⟨1, 0, (congrArg (fun l => pm_look l 1074) cq_267).trans rfl⟩
set_option maxRecDepth 100000 in
theorem lk_267_1075 : Lk 267 1075 (.aload_n 0) 0 0 (0) := ⟨1, 0, (congrArg (fun l => pm_look l 1075) cq_267).trans rfl⟩
set_option maxRecDepth 100000 in
theorem lk_267_1076 : Lk 267 1076 (.iload_n 3) 0 0 (0) := ⟨1, 0, (congrArg (fun l => pm_look l 1076) cq_267).trans rfl⟩
set_option maxRecDepth 100000 in
theorem lk_267_1077 : Lk 267 1077 (.iconst 1) 0 0 (0) := ⟨1, 0, (congrArg (fun l => pm_look l 1077) cq_267).trans rfl⟩
set_option maxRecDepth 100000 in
theorem lk_267_1078 : Lk 267 1078 (.iadd) 0 0 (0) := ⟨1, 0, (congrArg (fun l => pm_look l 1078) cq_267).trans rfl⟩
set_option maxRecDepth 100000 in
theorem lk_267_1079 : Lk 267 1079 (.iaload) 0 0 (0) := ⟨1, 0, (congrArg (fun l => pm_look l 1079) cq_267).trans rfl⟩
set_option maxRecDepth 100000 in
theorem lk_267_1080 : Lk 267 1080 (.aload_n 0) 0 0 (0) := ⟨1, 0, (congrArg (fun l => pm_look l 1080) cq_267).trans rfl⟩
set_option maxRecDepth 100000 in
theorem lk_267_1081 : Lk 267 1081 (.iload_n 3) 0 0 (0) := ⟨1, 0, (congrArg (fun l => pm_look l 1081) cq_267).trans rfl⟩
set_option maxRecDepth 100000 in
theorem lk_267_1082 : Lk 267 1082 (.iconst 2) 0 0 (0) := ⟨1, 0, (congrArg (fun l => pm_look l 1082) cq_267).trans rfl⟩
set_option maxRecDepth 100000 in
theorem lk_267_1083 : Lk 267 1083 (.iadd) 0 0 (0) := ⟨1, 0, (congrArg (fun l => pm_look l 1083) cq_267).trans rfl⟩
set_option maxRecDepth 100000 in
theorem lk_267_1084 : Lk 267 1084 (.iaload) 0 0 (0) := ⟨1, 0, (congrArg (fun l => pm_look l 1084) cq_267).trans rfl⟩
set_option maxRecDepth 100000 in
theorem lk_267_1085 : Lk 267 1085 (.invokevirtual 128) 256 0 (0) := ⟨3, 1807, (congrArg (fun l => pm_look l 1085) cq_267).trans rfl⟩
set_option maxRecDepth 100000 in
theorem lk_267_1088 : Lk 267 1088 (.if_icmp .eq 193) 0 0 (0) := ⟨3, 0, (congrArg (fun l => pm_look l 1088) cq_267).trans rfl⟩
set_option maxRecDepth 100000 in
theorem lk_267_1091 : Lk 267 1091 (.iconst 0) 0 0 (0) := ⟨1, 0, (congrArg (fun l => pm_look l 1091) cq_267).trans rfl⟩
set_option maxRecDepth 100000 in
theorem lk_267_1092 : Lk 267 1092 (.ireturn) 1 0 (0) := ⟨1, 0, (congrArg (fun l => pm_look l 1092) cq_267).trans rfl⟩
set_option maxRecDepth 100000 in
theorem lk_267_1093 : Lk 267 1093 (.aload_n 1) 0 0 (0) := ⟨1, 0, (congrArg (fun l => pm_look l 1093) cq_267).trans rfl⟩
set_option maxRecDepth 100000 in
theorem lk_267_1094 : Lk 267 1094 (.aload_n 0) 0 0 (0) := ⟨1, 0, (congrArg (fun l => pm_look l 1094) cq_267).trans rfl⟩
set_option maxRecDepth 100000 in
theorem lk_267_1095 : Lk 267 1095 (.iload_n 3) 0 0 (0) := ⟨1, 0, (congrArg (fun l => pm_look l 1095) cq_267).trans rfl⟩
set_option maxRecDepth 100000 in
theorem lk_267_1096 : Lk 267 1096 (.iconst 1) 0 0 (0) := ⟨1, 0, (congrArg (fun l => pm_look l 1096) cq_267).trans rfl⟩
set_option maxRecDepth 100000 in
theorem lk_267_1097 : Lk 267 1097 (.iadd) 0 0 (0) := ⟨1, 0, (congrArg (fun l => pm_look l 1097) cq_267).trans rfl⟩
set_option maxRecDepth 100000 in
theorem lk_267_1098 : Lk 267 1098 (.iaload) 0 0 (0) := ⟨1, 0, (congrArg (fun l => pm_look l 1098) cq_267).trans rfl⟩
set_option maxRecDepth 100000 in
theorem lk_267_1099 : Lk 267 1099 (.aload_n 0) 0 0 (0) := ⟨1, 0, (congrArg (fun l => pm_look l 1099) cq_267).trans rfl⟩
set_option maxRecDepth 100000 in
theorem lk_267_1100 : Lk 267 1100 (.iload_n 3) 0 0 (0) := ⟨1, 0, (congrArg (fun l => pm_look l 1100) cq_267).trans rfl⟩
set_option maxRecDepth 100000 in
theorem lk_267_1101 : Lk 267 1101 (.iconst 2) 0 0 (0) := ⟨1, 0, (congrArg (fun l => pm_look l 1101) cq_267).trans rfl⟩
set_option maxRecDepth 100000 in
theorem lk_267_1102 : Lk 267 1102 (.iadd) 0 0 (0) := ⟨1, 0, (congrArg (fun l => pm_look l 1102) cq_267).trans rfl⟩
set_option maxRecDepth 100000 in
theorem lk_267_1103 : Lk 267 1103 (.iaload) 0 0 (0) := ⟨1, 0, (congrArg (fun l => pm_look l 1103) cq_267).trans rfl⟩
set_option maxRecDepth 100000 in
theorem lk_267_1104 : Lk 267 1104 (.aload_n 0) 0 0 (0) := ⟨1, 0, (congrArg (fun l => pm_look l 1104) cq_267).trans rfl⟩
set_option maxRecDepth 100000 in
theorem lk_267_1105 : Lk 267 1105 (.iload_n 3) 0 0 (0) := ⟨1, 0, (congrArg (fun l => pm_look l 1105) cq_267).trans rfl⟩
set_option maxRecDepth 100000 in
theorem lk_267_1106 : Lk 267 1106 (.iconst 3) 0 0 (0) := ⟨1, 0, (congrArg (fun l => pm_look l 1106) cq_267).trans rfl⟩
set_option maxRecDepth 100000 in
theorem lk_267_1107 : Lk 267 1107 (.iadd) 0 0 (0) := ⟨1, 0, (congrArg (fun l => pm_look l 1107) cq_267).trans rfl⟩
set_option maxRecDepth 100000 in
theorem lk_267_1108 : Lk 267 1108 (.iaload) 0 0 (0) := ⟨1, 0, (congrArg (fun l => pm_look l 1108) cq_267).trans rfl⟩
set_option maxRecDepth 100000 in
theorem lk_267_1109 : Lk 267 1109 (.invokevirtual 129) 146 0 (0) := ⟨3, 1203, (congrArg (fun l => pm_look l 1109) cq_267).trans rfl⟩
set_option maxRecDepth 100000 in
theorem lk_267_1112 : Lk 267 1112 (.aload_n 2) 0 0 (0) := ⟨1, 0, (congrArg (fun l => pm_look l 1112) cq_267).trans rfl⟩
set_option maxRecDepth 100000 in
theorem lk_267_1113 : Lk 267 1113 (.aload_n 0) 0 0 (0) := ⟨1, 0, (congrArg (fun l => pm_look l 1113) cq_267).trans rfl⟩
set_option maxRecDepth 100000 in
theorem lk_267_1114 : Lk 267 1114 (.iload_n 3) 0 0 (0) := ⟨1, 0, (congrArg (fun l => pm_look l 1114) cq_267).trans rfl⟩
set_option maxRecDepth 100000 in
theorem lk_267_1115 : Lk 267 1115 (.iconst 1) 0 0 (0) := ⟨1, 0, (congrArg (fun l => pm_look l 1115) cq_267).trans rfl⟩
set_option maxRecDepth 100000 in
theorem lk_267_1116 : Lk 267 1116 (.iadd) 0 0 (0) := ⟨1, 0, (congrArg (fun l => pm_look l 1116) cq_267).trans rfl⟩
set_option maxRecDepth 100000 in
theorem lk_267_1117 : Lk 267 1117 (.iaload) 0 0 (0) := ⟨1, 0, (congrArg (fun l => pm_look l 1117) cq_267).trans rfl⟩
set_option maxRecDepth 100000 in
theorem lk_267_1118 : Lk 267 1118 (.aload_n 0) 0 0 (0) := ⟨1, 0, (congrArg (fun l => pm_look l 1118) cq_267).trans rfl⟩
set_option maxRecDepth 100000 in
theorem lk_267_1119 : Lk 267 1119 (.iload_n 3) 0 0 (0) := ⟨1, 0, (congrArg (fun l => pm_look l 1119) cq_267).trans rfl⟩
set_option maxRecDepth 100000 in
theorem lk_267_1120 : Lk 267 1120 (.iconst 2) 0 0 (0) := ⟨1, 0, (congrArg (fun l => pm_look l 1120) cq_267).trans rfl⟩
set_option maxRecDepth 100000 in
theorem lk_267_1121 : Lk 267 1121 (.iadd) 0 0 (0) := ⟨1, 0, (congrArg (fun l => pm_look l 1121) cq_267).trans rfl⟩
set_option maxRecDepth 100000 in
theorem lk_267_1122 : Lk 267 1122 (.iaload) 0 0 (0) := ⟨1, 0, (congrArg (fun l => pm_look l 1122) cq_267).trans rfl⟩
set_option maxRecDepth 100000 in
theorem lk_267_1123 : Lk 267 1123 (.aload_n 0) 0 0 (0) := ⟨1, 0, (congrArg (fun l => pm_look l 1123) cq_267).trans rfl⟩
set_option maxRecDepth 100000 in
theorem lk_267_1124 : Lk 267 1124 (.iload_n 3) 0 0 (0) := ⟨1, 0, (congrArg (fun l => pm_look l 1124) cq_267).trans rfl⟩
set_option maxRecDepth 100000 in
theorem lk_267_1125 : Lk 267 1125 (.iconst 3) 0 0 (0) := ⟨1, 0, (congrArg (fun l => pm_look l 1125) cq_267).trans rfl⟩
set_option maxRecDepth 100000 in
theorem lk_267_1126 : Lk 267 1126 (.iadd) 0 0 (0) := ⟨1, 0, (congrArg (fun l => pm_look l 1126) cq_267).trans rfl⟩
set_option maxRecDepth 100000 in
theorem lk_267_1127 : Lk 267 1127 (.iaload) 0 0 (0) := ⟨1, 0, (congrArg (fun l => pm_look l 1127) cq_267).trans rfl⟩
set_option maxRecDepth 100000 in
theorem lk_267_1128 : Lk 267 1128 (.invokevirtual 132) 257 0 (0) := ⟨3, 1823, (congrArg (fun l => pm_look l 1128) cq_267).trans rfl⟩
set_option maxRecDepth 100000 in
theorem lk_267_1131 : Lk 267 1131 (.if_icmp .eq 150) 0 0 (0) := ⟨3, 0, (congrArg (fun l => pm_look l 1131) cq_267).trans rfl⟩
set_option maxRecDepth 100000 in
theorem lk_267_1134 : Lk 267 1134 (.iconst 0) 0 0 (0) := ⟨1, 0, (congrArg (fun l => pm_look l 1134) cq_267).trans rfl⟩
set_option maxRecDepth 100000 in
theorem lk_267_1135 : Lk 267 1135 (.ireturn) 1 0 (0) := ⟨1, 0, (congrArg (fun l => pm_look l 1135) cq_267).trans rfl⟩
set_option maxRecDepth 100000 in
theorem lk_267_1136 : Lk 267 1136 (.aload_n 1) 0 0 (0) := ⟨1, 0, (congrArg (fun l => pm_look l 1136) cq_267).trans rfl⟩
set_option maxRecDepth 100000 in
theorem lk_267_1137 : Lk 267 1137 (.aload_n 0) 0 0 (0) := ⟨1, 0, (congrArg (fun l => pm_look l 1137) cq_267).trans rfl⟩
set_option maxRecDepth 100000 in
theorem lk_267_1138 : Lk 267 1138 (.iload_n 3) 0 0 (0) := ⟨1, 0, (congrArg (fun l => pm_look l 1138) cq_267).trans rfl⟩
set_option maxRecDepth 100000 in
theorem lk_267_1139 : Lk 267 1139 (.iconst 1) 0 0 (0) := ⟨1, 0, (congrArg (fun l => pm_look l 1139) cq_267).trans rfl⟩
set_option maxRecDepth 100000 in
theorem lk_267_1140 : Lk 267 1140 (.iadd) 0 0 (0) := ⟨1, 0, (congrArg (fun l => pm_look l 1140) cq_267).trans rfl⟩
set_option maxRecDepth 100000 in
theorem lk_267_1141 : Lk 267 1141 (.iaload) 0 0 (0) := ⟨1, 0, (congrArg (fun l => pm_look l 1141) cq_267).trans rfl⟩
set_option maxRecDepth 100000 in
theorem lk_267_1142 : Lk 267 1142 (.aload_n 0) 0 0 (0) := ⟨1, 0, (congrArg (fun l => pm_look l 1142) cq_267).trans rfl⟩
set_option maxRecDepth 100000 in
theorem lk_267_1143 : Lk 267 1143 (.iload_n 3) 0 0 (0) := ⟨1, 0, (congrArg (fun l => pm_look l 1143) cq_267).trans rfl⟩
set_option maxRecDepth 100000 in
theorem lk_267_1144 : Lk 267 1144 (.iconst 2) 0 0 (0) := ⟨1, 0, (congrArg (fun l => pm_look l 1144) cq_267).trans rfl⟩
set_option maxRecDepth 100000 in
theorem lk_267_1145 : Lk 267 1145 (.iadd) 0 0 (0) := ⟨1, 0, (congrArg (fun l => pm_look l 1145) cq_267).trans rfl⟩
set_option maxRecDepth 100000 in
theorem lk_267_1146 : Lk 267 1146 (.iaload) 0 0 (0) := ⟨1, 0, (congrArg (fun l => pm_look l 1146) cq_267).trans rfl⟩
set_option maxRecDepth 100000 in
theorem lk_267_1147 : Lk 267 1147 (.aload_n 0) 0 0 (0) := ⟨1, 0, (congrArg (fun l => pm_look l 1147) cq_267).trans rfl⟩
set_option maxRecDepth 100000 in
theorem lk_267_1148 : Lk 267 1148 (.iload_n 3) 0 0 (0) := ⟨1, 0, (congrArg (fun l => pm_look l 1148) cq_267).trans rfl⟩
set_option maxRecDepth 100000 in
theorem lk_267_1149 : Lk 267 1149 (.iconst 3) 0 0 (0) := ⟨1, 0, (congrArg (fun l => pm_look l 1149) cq_267).trans rfl⟩
set_option maxRecDepth 100000 in
theorem lk_267_1150 : Lk 267 1150 (.iadd) 0 0 (0) := ⟨1, 0, (congrArg (fun l => pm_look l 1150) cq_267).trans rfl⟩
set_option maxRecDepth 100000 in
theorem lk_267_1151 : Lk 267 1151 (.iaload) 0 0 (0) := ⟨1, 0, (congrArg (fun l => pm_look l 1151) cq_267).trans rfl⟩
set_option maxRecDepth 100000 in
theorem lk_267_1152 : Lk 267 1152 (.invokevirtual 133) 147 0 (0) := ⟨3, 1208, (congrArg (fun l => pm_look l 1152) cq_267).trans rfl⟩
set_option maxRecDepth 100000 in
theorem lk_267_1155 : Lk 267 1155 (.aload_n 2) 0 0 (0) := ⟨1, 0, (congrArg (fun l => pm_look l 1155) cq_267).trans rfl⟩
set_option maxRecDepth 100000 in
theorem lk_267_1156 : Lk 267 1156 (.aload_n 0) 0 0 (0) := ⟨1, 0, (congrArg (fun l => pm_look l 1156) cq_267).trans rfl⟩
set_option maxRecDepth 100000 in
theorem lk_267_1157 : Lk 267 1157 (.iload_n 3) 0 0 (0) := ⟨1, 0, (congrArg (fun l => pm_look l 1157) cq_267).trans rfl⟩
set_option maxRecDepth 100000 in
theorem lk_267_1158 : Lk 267 1158 (.iconst 1) 0 0 (0) := ⟨1, 0, (congrArg (fun l => pm_look l 1158) cq_267).trans rfl⟩
set_option maxRecDepth 100000 in
theorem lk_267_1159 : Lk 267 1159 (.iadd) 0 0 (0) := ⟨1, 0, (congrArg (fun l => pm_look l 1159) cq_267).trans rfl⟩
set_option maxRecDepth 100000 in
theorem lk_267_1160 : Lk 267 1160 (.iaload) 0 0 (0) := ⟨1, 0, (congrArg (fun l => pm_look l 1160) cq_267).trans rfl⟩
set_option maxRecDepth 100000 in
theorem lk_267_1161 : Lk 267 1161 (.aload_n 0) 0 0 (0) := ⟨1, 0, (congrArg (fun l => pm_look l 1161) cq_267).trans rfl⟩
set_option maxRecDepth 100000 in
theorem lk_267_1162 : Lk 267 1162 (.iload_n 3) 0 0 (0) := ⟨1, 0, (congrArg (fun l => pm_look l 1162) cq_267).trans rfl⟩
set_option maxRecDepth 100000 in
theorem lk_267_1163 : Lk 267 1163 (.iconst 2) 0 0 (0) := ⟨1, 0, (congrArg (fun l => pm_look l 1163) cq_267).trans rfl⟩
set_option maxRecDepth 100000 in
theorem lk_267_1164 : Lk 267 1164 (.iadd) 0 0 (0) := ⟨1, 0, (congrArg (fun l => pm_look l 1164) cq_267).trans rfl⟩
set_option maxRecDepth 100000 in
theorem lk_267_1165 : Lk 267 1165 (.iaload) 0 0 (0) := ⟨1, 0, (congrArg (fun l => pm_look l 1165) cq_267).trans rfl⟩
set_option maxRecDepth 100000 in
theorem lk_267_1166 : Lk 267 1166 (.aload_n 0) 0 0 (0) := ⟨1, 0, (congrArg (fun l => pm_look l 1166) cq_267).trans rfl⟩
set_option maxRecDepth 100000 in
theorem lk_267_1167 : Lk 267 1167 (.iload_n 3) 0 0 (0) := ⟨1, 0, (congrArg (fun l => pm_look l 1167) cq_267).trans rfl⟩
set_option maxRecDepth 100000 in
theorem lk_267_1168 : Lk 267 1168 (.iconst 3) 0 0 (0) := ⟨1, 0, (congrArg (fun l => pm_look l 1168) cq_267).trans rfl⟩
set_option maxRecDepth 100000 in
theorem lk_267_1169 : Lk 267 1169 (.iadd) 0 0 (0) := ⟨1, 0, (congrArg (fun l => pm_look l 1169) cq_267).trans rfl⟩
set_option maxRecDepth 100000 in
theorem lk_267_1170 : Lk 267 1170 (.iaload) 0 0 (0) := ⟨1, 0, (congrArg (fun l => pm_look l 1170) cq_267).trans rfl⟩
set_option maxRecDepth 100000 in
theorem lk_267_1171 : Lk 267 1171 (.invokevirtual 136) 258 0 (0) := ⟨3, 1827, (congrArg (fun l => pm_look l 1171) cq_267).trans rfl⟩
set_option maxRecDepth 100000 in
theorem lk_267_1174 : Lk 267 1174 (.if_icmp .eq 107) 0 0 (0) := ⟨3, 0, (congrArg (fun l => pm_look l 1174) cq_267).trans rfl⟩
set_option maxRecDepth 100000 in
theorem lk_267_1177 : Lk 267 1177 (.iconst 0) 0 0 (0) := ⟨1, 0, (congrArg (fun l => pm_look l 1177) cq_267).trans rfl⟩
set_option maxRecDepth 100000 in
theorem lk_267_1178 : Lk 267 1178 (.ireturn) 1 0 (0) := ⟨1, 0, (congrArg (fun l => pm_look l 1178) cq_267).trans rfl⟩
set_option maxRecDepth 100000 in
theorem lk_267_1179 : Lk 267 1179 (.aload_n 1) 0 0 (0) := ⟨1, 0, (congrArg (fun l => pm_look l 1179) cq_267).trans rfl⟩
set_option maxRecDepth 100000 in
theorem lk_267_1180 : Lk 267 1180 (.aload_n 0) 0 0 (0) := ⟨1, 0, (congrArg (fun l => pm_look l 1180) cq_267).trans rfl⟩
set_option maxRecDepth 100000 in
theorem lk_267_1181 : Lk 267 1181 (.iload_n 3) 0 0 (0) := ⟨1, 0, (congrArg (fun l => pm_look l 1181) cq_267).trans rfl⟩
set_option maxRecDepth 100000 in
theorem lk_267_1182 : Lk 267 1182 (.iconst 1) 0 0 (0) := ⟨1, 0, (congrArg (fun l => pm_look l 1182) cq_267).trans rfl⟩
set_option maxRecDepth 100000 in
theorem lk_267_1183 : Lk 267 1183 (.iadd) 0 0 (0) := ⟨1, 0, (congrArg (fun l => pm_look l 1183) cq_267).trans rfl⟩
set_option maxRecDepth 100000 in
theorem lk_267_1184 : Lk 267 1184 (.iaload) 0 0 (0) := ⟨1, 0, (congrArg (fun l => pm_look l 1184) cq_267).trans rfl⟩
set_option maxRecDepth 100000 in
theorem lk_267_1185 : Lk 267 1185 (.aload_n 0) 0 0 (0) := ⟨1, 0, (congrArg (fun l => pm_look l 1185) cq_267).trans rfl⟩
set_option maxRecDepth 100000 in
theorem lk_267_1186 : Lk 267 1186 (.iload_n 3) 0 0 (0) := ⟨1, 0, (congrArg (fun l => pm_look l 1186) cq_267).trans rfl⟩
set_option maxRecDepth 100000 in
theorem lk_267_1187 : Lk 267 1187 (.iconst 2) 0 0 (0) := ⟨1, 0, (congrArg (fun l => pm_look l 1187) cq_267).trans rfl⟩
set_option maxRecDepth 100000 in
theorem lk_267_1188 : Lk 267 1188 (.iadd) 0 0 (0) := ⟨1, 0, (congrArg (fun l => pm_look l 1188) cq_267).trans rfl⟩
set_option maxRecDepth 100000 in
theorem lk_267_1189 : Lk 267 1189 (.iaload) 0 0 (0) := ⟨1, 0, (congrArg (fun l => pm_look l 1189) cq_267).trans rfl⟩
set_option maxRecDepth 100000 in
theorem lk_267_1190 : Lk 267 1190 (.invokevirtual 137) 148 0 (0) := ⟨3, 1217, (congrArg (fun l => pm_look l 1190) cq_267).trans rfl⟩
set_option maxRecDepth 100000 in
theorem lk_267_1193 : Lk 267 1193 (.aload_n 2) 0 0 (0) := ⟨1, 0, (congrArg (fun l => pm_look l 1193) cq_267).trans rfl⟩
set_option maxRecDepth 100000 in
theorem lk_267_1194 : Lk 267 1194 (.aload_n 0) 0 0 (0) := ⟨1, 0, (congrArg (fun l => pm_look l 1194) cq_267).trans rfl⟩
set_option maxRecDepth 100000 in
theorem lk_267_1195 : Lk 267 1195 (.iload_n 3) 0 0 (0) := ⟨1, 0, (congrArg (fun l => pm_look l 1195) cq_267).trans rfl⟩
set_option maxRecDepth 100000 in
theorem lk_267_1196 : Lk 267 1196 (.iconst 1) 0 0 (0) := ⟨1, 0, (congrArg (fun l => pm_look l 1196) cq_267).trans rfl⟩
set_option maxRecDepth 100000 in
theorem lk_267_1197 : Lk 267 1197 (.iadd) 0 0 (0) := ⟨1, 0, (congrArg (fun l => pm_look l 1197) cq_267).trans rfl⟩
set_option maxRecDepth 100000 in
theorem lk_267_1198 : Lk 267 1198 (.iaload) 0 0 (0) := ⟨1, 0, (congrArg (fun l => pm_look l 1198) cq_267).trans rfl⟩
set_option maxRecDepth 100000 in
theorem lk_267_1199 : Lk 267 1199 (.aload_n 0) 0 0 (0) := ⟨1, 0, (congrArg (fun l => pm_look l 1199) cq_267).trans rfl⟩
set_option maxRecDepth 100000 in
theorem lk_267_1200 : Lk 267 1200 (.iload_n 3) 0 0 (0) := ⟨1, 0, (congrArg (fun l => pm_look l 1200) cq_267).trans rfl⟩
set_option maxRecDepth 100000 in
theorem lk_267_1201 : Lk 267 1201 (.iconst 2) 0 0 (0) := ⟨1, 0, (congrArg (fun l => pm_look l 1201) cq_267).trans rfl⟩
set_option maxRecDepth 100000 in
theorem lk_267_1202 : Lk 267 1202 (.iadd) 0 0 (0) := ⟨1, 0, (congrArg (fun l => pm_look l 1202) cq_267).trans rfl⟩
set_option maxRecDepth 100000 in
theorem lk_267_1203 : Lk 267 1203 (.iaload) 0 0 (0) := ⟨1, 0, (congrArg (fun l => pm_look l 1203) cq_267).trans rfl⟩
set_option maxRecDepth 100000 in
theorem lk_267_1204 : Lk 267 1204 (.invokevirtual 140) 259 0 (0) := ⟨3, 1831, (congrArg (fun l => pm_look l 1204) cq_267).trans rfl⟩
set_option maxRecDepth 100000 in
theorem lk_267_1207 : Lk 267 1207 (.if_icmp .eq 74) 0 0 (0) := ⟨3, 0, (congrArg (fun l => pm_look l 1207) cq_267).trans rfl⟩
set_option maxRecDepth 100000 in
theorem lk_267_1210 : Lk 267 1210 (.iconst 0) 0 0 (0) := ⟨1, 0, (congrArg (fun l => pm_look l 1210) cq_267).trans rfl⟩
set_option maxRecDepth 100000 in
theorem lk_267_1211 : Lk 267 1211 (.ireturn) 1 0 (0) := ⟨1, 0, (congrArg (fun l => pm_look l 1211) cq_267).trans rfl⟩
set_option maxRecDepth 100000 in
theorem lk_267_1212 : Lk 267 1212 (.aload_n 1) 0 0 (0) := ⟨1, 0, (congrArg (fun l => pm_look l 1212) cq_267).trans rfl⟩
set_option maxRecDepth 100000 in
theorem lk_267_1213 : Lk 267 1213 (.aload_n 0) 0 0 (0) := ⟨1, 0, (congrArg (fun l => pm_look l 1213) cq_267).trans rfl⟩
set_option maxRecDepth 100000 in
theorem lk_267_1214 : Lk 267 1214 (.iload_n 3) 0 0 (0) := ⟨1, 0, (congrArg (fun l => pm_look l 1214) cq_267).trans rfl⟩
set_option maxRecDepth 100000 in
theorem lk_267_1215 : Lk 267 1215 (.iconst 1) 0 0 (0) := ⟨1, 0, (congrArg (fun l => pm_look l 1215) cq_267).trans rfl⟩
set_option maxRecDepth 100000 in
theorem lk_267_1216 : Lk 267 1216 (.iadd) 0 0 (0) := ⟨1, 0, (congrArg (fun l => pm_look l 1216) cq_267).trans rfl⟩
set_option maxRecDepth 100000 in
theorem lk_267_1217 : Lk 267 1217 (.iaload) 0 0 (0) := ⟨1, 0, (congrArg (fun l => pm_look l 1217) cq_267).trans rfl⟩
set_option maxRecDepth 100000 in
theorem lk_267_1218 : Lk 267 1218 (.aload_n 0) 0 0 (0) := ⟨1, 0, (congrArg (fun l => pm_look l 1218) cq_267).trans rfl⟩
set_option maxRecDepth 100000 in
theorem lk_267_1219 : Lk 267 1219 (.iload_n 3) 0 0 (0) := ⟨1, 0, (congrArg (fun l => pm_look l 1219) cq_267).trans rfl⟩
set_option maxRecDepth 100000 in
theorem lk_267_1220 : Lk 267 1220 (.iconst 2) 0 0 (0) := ⟨1, 0, (congrArg (fun l => pm_look l 1220) cq_267).trans rfl⟩
set_option maxRecDepth 100000 in
theorem lk_267_1221 : Lk 267 1221 (.iadd) 0 0 (0) := ⟨1, 0, (congrArg (fun l => pm_look l 1221) cq_267).trans rfl⟩
set_option maxRecDepth 100000 in
theorem lk_267_1222 : Lk 267 1222 (.iaload) 0 0 (0) := ⟨1, 0, (congrArg (fun l => pm_look l 1222) cq_267).trans rfl⟩
set_option maxRecDepth 100000 in
theorem lk_267_1223 : Lk 267 1223 (.aload_n 0) 0 0 (0) := ⟨1, 0, (congrArg (fun l => pm_look l 1223) cq_267).trans rfl⟩
set_option maxRecDepth 100000 in
theorem lk_267_1224 : Lk 267 1224 (.iload_n 3) 0 0 (0) := ⟨1, 0, (congrArg (fun l => pm_look l 1224) cq_267).trans rfl⟩
set_option maxRecDepth 100000 in
theorem lk_267_1225 : Lk 267 1225 (.iconst 3) 0 0 (0) := ⟨1, 0, (congrArg (fun l => pm_look l 1225) cq_267).trans rfl⟩
set_option maxRecDepth 100000 in
theorem lk_267_1226 : Lk 267 1226 (.iadd) 0 0 (0) := ⟨1, 0, (congrArg (fun l => pm_look l 1226) cq_267).trans rfl⟩
set_option maxRecDepth 100000 in
theorem lk_267_1227 : Lk 267 1227 (.iaload) 0 0 (0) := ⟨1, 0, (congrArg (fun l => pm_look l 1227) cq_267).trans rfl⟩
set_option maxRecDepth 100000 in
theorem lk_267_1228 : Lk 267 1228 (.invokevirtual 141) 149 0 (0) := ⟨3, 1221, (congrArg (fun l => pm_look l 1228) cq_267).trans rfl⟩
set_option maxRecDepth 100000 in
theorem lk_267_1231 : Lk 267 1231 (.aload_n 2) 0 0 (0) := ⟨1, 0, (congrArg (fun l => pm_look l 1231) cq_267).trans rfl⟩
set_option maxRecDepth 100000 in
theorem lk_267_1232 : Lk 267 1232 (.aload_n 0) 0 0 (0) := ⟨1, 0, (congrArg (fun l => pm_look l 1232) cq_267).trans rfl⟩
set_option maxRecDepth 100000 in
theorem lk_267_1233 : Lk 267 1233 (.iload_n 3) 0 0 (0) := ⟨1, 0, (congrArg (fun l => pm_look l 1233) cq_267).trans rfl⟩
set_option maxRecDepth 100000 in
theorem lk_267_1234 : Lk 267 1234 (.iconst 1) 0 0 (0) := ⟨1, 0, (congrArg (fun l => pm_look l 1234) cq_267).trans rfl⟩
set_option maxRecDepth 100000 in
theorem lk_267_1235 : Lk 267 1235 (.iadd) 0 0 (0) := ⟨1, 0, (congrArg (fun l => pm_look l 1235) cq_267).trans rfl⟩
set_option maxRecDepth 100000 in
theorem lk_267_1236 : Lk 267 1236 (.iaload) 0 0 (0) := ⟨1, 0, (congrArg (fun l => pm_look l 1236) cq_267).trans rfl⟩
set_option maxRecDepth 100000 in
theorem lk_267_1237 : Lk 267 1237 (.aload_n 0) 0 0 (0) := ⟨1, 0, (congrArg (fun l => pm_look l 1237) cq_267).trans rfl⟩
set_option maxRecDepth 100000 in
theorem lk_267_1238 : Lk 267 1238 (.iload_n 3) 0 0 (0) := ⟨1, 0, (congrArg (fun l => pm_look l 1238) cq_267).trans rfl⟩
set_option maxRecDepth 100000 in
theorem lk_267_1239 : Lk 267 1239 (.iconst 2) 0 0 (0) := ⟨1, 0, (congrArg (fun l => pm_look l 1239) cq_267).trans rfl⟩
set_option maxRecDepth 100000 in
theorem lk_267_1240 : Lk 267 1240 (.iadd) 0 0 (0) := ⟨1, 0, (congrArg (fun l => pm_look l 1240) cq_267).trans rfl⟩
set_option maxRecDepth 100000 in
theorem lk_267_1241 : Lk 267 1241 (.iaload) 0 0 (0) := ⟨1, 0, (congrArg (fun l => pm_look l 1241) cq_267).trans rfl⟩
set_option maxRecDepth 100000 in
theorem lk_267_1242 : Lk 267 1242 (.aload_n 0) 0 0 (0) := ⟨1, 0, (congrArg (fun l => pm_look l 1242) cq_267).trans rfl⟩
set_option maxRecDepth 100000 in
theorem lk_267_1243 : Lk 267 1243 (.iload_n 3) 0 0 (0) := ⟨1, 0, (congrArg (fun l => pm_look l 1243) cq_267).trans rfl⟩
set_option maxRecDepth 100000 in
theorem lk_267_1244 : Lk 267 1244 (.iconst 3) 0 0 (0) := ⟨1, 0, (congrArg (fun l => pm_look l 1244) cq_267).trans rfl⟩
set_option maxRecDepth 100000 in
theorem lk_267_1245 : Lk 267 1245 (.iadd) 0 0 (0) := ⟨1, 0, (congrArg (fun l => pm_look l 1245) cq_267).trans rfl⟩
set_option maxRecDepth 100000 in
theorem lk_267_1246 : Lk 267 1246 (.iaload) 0 0 (0) := ⟨1, 0, (congrArg (fun l => pm_look l 1246) cq_267).trans rfl⟩
set_option maxRecDepth 100000 in
theorem lk_267_1247 : Lk 267 1247 (.invokevirtual 144) 261 0 (0) := ⟨3, 1835, (congrArg (fun l => pm_look l 1247) cq_267).trans rfl⟩
set_option maxRecDepth 100000 in
theorem lk_267_1250 : Lk 267 1250 (.if_icmp .eq 31) 0 0 (0) := ⟨3, 0, (congrArg (fun l => pm_look l 1250) cq_267).trans rfl⟩
set_option maxRecDepth 100000 in
theorem lk_267_1253 : Lk 267 1253 (.iconst 0) 0 0 (0) := ⟨1, 0, (congrArg (fun l => pm_look l 1253) cq_267).trans rfl⟩
set_option maxRecDepth 100000 in
theorem lk_267_1254 : Lk 267 1254 (.ireturn) 1 0 (0) := ⟨1, 0, (congrArg (fun l => pm_look l 1254) cq_267).trans rfl⟩
set_option maxRecDepth 100000 in
theorem lk_267_1255 : Lk 267 1255 (.aload_n 1) 0 0 (0) := ⟨1, 0, (congrArg (fun l => pm_look l 1255) cq_267).trans rfl⟩
set_option maxRecDepth 100000 in
theorem lk_267_1256 : Lk 267 1256 (.invokevirtual 145) 150 0 (0) := ⟨3, 1229, (congrArg (fun l => pm_look l 1256) cq_267).trans rfl⟩
set_option maxRecDepth 100000 in
theorem lk_267_1259 : Lk 267 1259 (.aload_n 2) 0 0 (0) := ⟨1, 0, (congrArg (fun l => pm_look l 1259) cq_267).trans rfl⟩
set_option maxRecDepth 100000 in
theorem lk_267_1260 : Lk 267 1260 (.invokevirtual 148) 263 0 (0) := ⟨3, 1843, (congrArg (fun l => pm_look l 1260) cq_267).trans rfl⟩
set_option maxRecDepth 100000 in
theorem lk_267_1263 : Lk 267 1263 (.if_icmp .eq 18) 0 0 (0) := ⟨3, 0, (congrArg (fun l => pm_look l 1263) cq_267).trans rfl⟩
set_option maxRecDepth 100000 in
theorem lk_267_1266 : Lk 267 1266 (.iconst 0) 0 0 (0) := ⟨1, 0, (congrArg (fun l => pm_look l 1266) cq_267).trans rfl⟩
set_option maxRecDepth 100000 in
theorem lk_267_1267 : Lk 267 1267 (.ireturn) 1 0 (0) := ⟨1, 0, (congrArg (fun l => pm_look l 1267) cq_267).trans rfl⟩
set_option maxRecDepth 100000 in
theorem lk_267_1268 : Lk 267 1268 (.aload_n 1) 0 0 (0) := ⟨1, 0, (congrArg (fun l => pm_look l 1268) cq_267).trans rfl⟩
set_option maxRecDepth 100000 in
theorem lk_267_1269 : Lk 267 1269 (.invokevirtual 149) 151 0 (0) := ⟨3, 1245, (congrArg (fun l => pm_look l 1269) cq_267).trans rfl⟩
set_option maxRecDepth 100000 in
theorem lk_267_1272 : Lk 267 1272 (.aload_n 2) 0 0 (0) := ⟨1, 0, (congrArg (fun l => pm_look l 1272) cq_267).trans rfl⟩
set_option maxRecDepth 100000 in
theorem lk_267_1273 : Lk 267 1273 (.invokevirtual 153) 264 0 (0) := ⟨3, 1851, (congrArg (fun l => pm_look l 1273) cq_267).trans rfl⟩
set_option maxRecDepth 100000 in
theorem lk_267_1276 : Lk 267 1276 (.if_icmp .eq 5) 0 0 (0) := ⟨3, 0, (congrArg (fun l => pm_look l 1276) cq_267).trans rfl⟩
set_option maxRecDepth 100000 in
theorem lk_267_1279 : Lk 267 1279 (.iconst 0) 0 0 (0) := ⟨1, 0, (congrArg (fun l => pm_look l 1279) cq_267).trans rfl⟩
set_option maxRecDepth 100000 in
theorem lk_267_1280 : Lk 267 1280 (.ireturn) 1 0 (0) := ⟨1, 0, (congrArg (fun l => pm_look l 1280) cq_267).trans rfl⟩
set_option maxRecDepth 100000 in
theorem lk_267_1281 : Lk 267 1281 (.iinc 3 6) 0 0 (0) := ⟨3, 0, (congrArg (fun l => pm_look l 1281) cq_267).trans rfl⟩
set_option maxRecDepth 100000 in
theorem lk_267_1284 : Lk 267 1284 (.goto (-1266)) 0 0 (0) := ⟨3, 0, (congrArg (fun l => pm_look l 1284) cq_267).trans rfl⟩
set_option maxRecDepth 100000 in
theorem lk_267_1287 : Lk 267 1287 (.iconst 1) 0 0 (0) := ⟨1, 0, (congrArg (fun l => pm_look l 1287) cq_267).trans rfl⟩
set_option maxRecDepth 100000 in
theorem lk_267_1288 : Lk 267 1288 (.ireturn) 1 0 (0) := ⟨1, 0, (congrArg (fun l => pm_look l 1288) cq_267).trans rfl⟩
