theorem cq_167 : pm_code 167 = cd_167 := rfl
theorem lk_167_0 : Lk 167 0 (.iload_n 0) 0 0 (0) := ⟨1, 0, (congrArg (fun l => pm_look l 0) cq_167).trans rfl⟩
theorem lk_167_1 : Lk 167 1 (.iload_n 1) 0 0 (0) := ⟨1, 0, (congrArg (fun l => pm_look l 1) cq_167).trans rfl⟩
theorem lk_167_2 : Lk 167 2 (.if_icmp .lt 12) 0 0 (0) := ⟨3, 0, (congrArg (fun l => pm_look l 2) cq_167).trans rfl⟩
theorem lk_167_5 : Lk 167 5 (.iload_n 0) 0 0 (0) := ⟨1, 0, (congrArg (fun l => pm_look l 5) cq_167).trans rfl⟩
theorem lk_167_6 : Lk 167 6 (.iload_n 2) 0 0 (0) := ⟨1, 0, (congrArg (fun l => pm_look l 6) cq_167).trans rfl⟩
theorem lk_167_7 : Lk 167 7 (.if_icmp .gt 7) 0 0 (0) := ⟨3, 0, (congrArg (fun l => pm_look l 7) cq_167).trans rfl⟩
theorem lk_167_10 : Lk 167 10 (.iconst 1) 0 0 (0) := ⟨1, 0, (congrArg (fun l => pm_look l 10) cq_167).trans rfl⟩
theorem lk_167_11 : Lk 167 11 (.goto 4) 0 0 (0) := ⟨3, 0, (congrArg (fun l => pm_look l 11) cq_167).trans rfl⟩
theorem lk_167_14 : Lk 167 14 (.iconst 0) 0 0 (0) := ⟨1, 0, (congrArg (fun l => pm_look l 14) cq_167).trans rfl⟩
theorem lk_167_15 : Lk 167 15 (.ireturn) 1 0 (0) := ⟨1, 0, (congrArg (fun l => pm_look l 15) cq_167).trans rfl⟩
theorem cq_168 : pm_code 168 = cd_168 := rfl
theorem lk_168_0 : Lk 168 0 (.iload_n 0) 0 0 (0) := ⟨1, 0, (congrArg (fun l => pm_look l 0) cq_168).trans rfl⟩
theorem lk_168_1 : Lk 168 1 (.iload_n 1) 0 0 (0) := ⟨1, 0, (congrArg (fun l => pm_look l 1) cq_168).trans rfl⟩
theorem lk_168_2 : Lk 168 2 (.ishr) 0 0 (0) := ⟨1, 0, (congrArg (fun l => pm_look l 2) cq_168).trans rfl⟩
theorem lk_168_3 : Lk 168 3 (.iconst 1) 0 0 (0) := ⟨1, 0, (congrArg (fun l => pm_look l 3) cq_168).trans rfl⟩
theorem lk_168_4 : Lk 168 4 (.iand) 0 0 (0) := ⟨1, 0, (congrArg (fun l => pm_look l 4) cq_168).trans rfl⟩
theorem lk_168_5 : Lk 168 5 (.iconst 1) 0 0 (0) := ⟨1, 0, (congrArg (fun l => pm_look l 5) cq_168).trans rfl⟩
theorem lk_168_6 : Lk 168 6 (.if_icmp .ne 7) 0 0 (0) := ⟨3, 0, (congrArg (fun l => pm_look l 6) cq_168).trans rfl⟩
theorem lk_168_9 : Lk 168 9 (.iconst 1) 0 0 (0) := ⟨1, 0, (congrArg (fun l => pm_look l 9) cq_168).trans rfl⟩
theorem lk_168_10 : Lk 168 10 (.goto 4) 0 0 (0) := ⟨3, 0, (congrArg (fun l => pm_look l 10) cq_168).trans rfl⟩
theorem lk_168_13 : Lk 168 13 (.iconst 0) 0 0 (0) := ⟨1, 0, (congrArg (fun l => pm_look l 13) cq_168).trans rfl⟩
theorem lk_168_14 : Lk 168 14 (.ireturn) 1 0 (0) := ⟨1, 0, (congrArg (fun l => pm_look l 14) cq_168).trans rfl⟩
theorem cq_169 : pm_code 169 = cd_169 := rfl
theorem lk_169_0 : Lk 169 0 (.iload_n 0) 0 0 (0) := ⟨1, 0, (congrArg (fun l => pm_look l 0) cq_169).trans rfl⟩
theorem lk_169_1 : Lk 169 1 (.iload_n 1) 0 0 (0) := ⟨1, 0, (congrArg (fun l => pm_look l 1) cq_169).trans rfl⟩
theorem lk_169_2 : Lk 169 2 (.if_icmp .ge 7) 0 0 (0) := ⟨3, 0, (congrArg (fun l => pm_look l 2) cq_169).trans rfl⟩
theorem lk_169_5 : Lk 169 5 (.iload_n 0) 0 0 (0) := ⟨1, 0, (congrArg (fun l => pm_look l 5) cq_169).trans rfl⟩
theorem lk_169_6 : Lk 169 6 (.goto 4) 0 0 (0) := ⟨3, 0, (congrArg (fun l => pm_look l 6) cq_169).trans rfl⟩
theorem lk_169_9 : Lk 169 9 (.iload_n 1) 0 0 (0) := ⟨1, 0, (congrArg (fun l => pm_look l 9) cq_169).trans rfl⟩
theorem lk_169_10 : Lk 169 10 (.ireturn) 0 0 (0) := ⟨1, 0, (congrArg (fun l => pm_look l 10) cq_169).trans rfl⟩
theorem cq_170 : pm_code 170 = cd_170 := rfl
theorem lk_170_0 : Lk 170 0 (.iload_n 0) 0 0 (0) := ⟨1, 0, (congrArg (fun l => pm_look l 0) cq_170).trans rfl⟩
theorem lk_170_1 : Lk 170 1 (.iload_n 1) 0 0 (0) := ⟨1, 0, (congrArg (fun l => pm_look l 1) cq_170).trans rfl⟩
theorem lk_170_2 : Lk 170 2 (.if_icmp .le 7) 0 0 (0) := ⟨3, 0, (congrArg (fun l => pm_look l 2) cq_170).trans rfl⟩
theorem lk_170_5 : Lk 170 5 (.iload_n 0) 0 0 (0) := ⟨1, 0, (congrArg (fun l => pm_look l 5) cq_170).trans rfl⟩
theorem lk_170_6 : Lk 170 6 (.goto 4) 0 0 (0) := ⟨3, 0, (congrArg (fun l => pm_look l 6) cq_170).trans rfl⟩
theorem lk_170_9 : Lk 170 9 (.iload_n 1) 0 0 (0) := ⟨1, 0, (congrArg (fun l => pm_look l 9) cq_170).trans rfl⟩
theorem lk_170_10 : Lk 170 10 (.ireturn) 0 0 (0) := ⟨1, 0, (congrArg (fun l => pm_look l 10) cq_170).trans rfl⟩
theorem cq_171 : pm_code 171 = cd_171 := rfl
theorem lk_171_0 : Lk 171 0 (.iconst 0) 0 0 (0) := ⟨1, 0, (congrArg (fun l => pm_look l 0) cq_171).trans rfl⟩
theorem lk_171_1 : Lk 171 1 (.istore_n 1) 0 0 (0) := ⟨1, 0, (congrArg (fun l => pm_look l 1) cq_171).trans rfl⟩
theorem lk_171_2 : Lk 171 2 (.iconst 0) 0 0 (0) := ⟨1, 0, (congrArg (fun l => pm_look l 2) cq_171).trans rfl⟩
theorem lk_171_3 : Lk 171 3 (.istore_n 2) 0 0 (0) := ⟨1, 0, (congrArg (fun l => pm_look l 3) cq_171).trans rfl⟩
theorem lk_171_4 : Lk 171 4 (.iload_n 2) 0 0 (0) := ⟨1, 0, (congrArg (fun l => pm_look l 4) cq_171).trans rfl⟩
theorem lk_171_5 : Lk 171 5 (.bipush 12) 0 0 (0) := ⟨2, 0, (congrArg (fun l => pm_look l 5) cq_171).trans rfl⟩
theorem lk_171_7 : Lk 171 7 (.if_icmp .ge 17) 0 0 (0) := ⟨3, 0, (congrArg (fun l => pm_look l 7) cq_171).trans rfl⟩
theorem lk_171_10 : Lk 171 10 (.iload_n 1) 0 0 (0) := ⟨1, 0, (congrArg (fun l => pm_look l 10) cq_171).trans rfl⟩
theorem lk_171_11 : Lk 171 11 (.iload_n 0) 0 0 (0) := ⟨1, 0, (congrArg (fun l => pm_look l 11) cq_171).trans rfl⟩
theorem lk_171_12 : Lk 171 12 (.iload_n 2) 0 0 (0) := ⟨1, 0, (congrArg (fun l => pm_look l 12) cq_171).trans rfl⟩
theorem lk_171_13 : Lk 171 13 (.ishr) 0 0 (0) := ⟨1, 0, (congrArg (fun l => pm_look l 13) cq_171).trans rfl⟩
theorem lk_171_14 : Lk 171 14 (.iconst 1) 0 0 (0) := ⟨1, 0, (congrArg (fun l => pm_look l 14) cq_171).trans rfl⟩
theorem lk_171_15 : Lk 171 15 (.iand) 0 0 (0) := ⟨1, 0, (congrArg (fun l => pm_look l 15) cq_171).trans rfl⟩
theorem lk_171_16 : Lk 171 16 (.iadd) 0 0 (0) := ⟨1, 0, (congrArg (fun l => pm_look l 16) cq_171).trans rfl⟩
theorem lk_171_17 : Lk 171 17 (.istore_n 1) 0 0 (0) := ⟨1, 0, (congrArg (fun l => pm_look l 17) cq_171).trans rfl⟩
theorem lk_171_18 : Lk 171 18 (.iinc 2 1) 0 0 (0) := ⟨3, 0, (congrArg (fun l => pm_look l 18) cq_171).trans rfl⟩
theorem lk_171_21 : Lk 171 21 (.goto (-17)) 0 0 (0) := ⟨3, 0, (congrArg (fun l => pm_look l 21) cq_171).trans rfl⟩
theorem lk_171_24 : Lk 171 24 (.iload_n 1) 0 0 (0) := ⟨1, 0, (congrArg (fun l => pm_look l 24) cq_171).trans rfl⟩
theorem lk_171_25 : Lk 171 25 (.ireturn) 0 0 (0) := ⟨1, 0, (congrArg (fun l => pm_look l 25) cq_171).trans rfl⟩
theorem cq_172 : pm_code 172 = cd_172 := rfl
theorem lk_172_0 : Lk 172 0 (.iload_n 1) 0 0 (0) := ⟨1, 0, (congrArg (fun l => pm_look l 0) cq_172).trans rfl⟩
theorem lk_172_1 : Lk 172 1 (.iconst 0) 0 0 (0) := ⟨1, 0, (congrArg (fun l => pm_look l 1) cq_172).trans rfl⟩
theorem lk_172_2 : Lk 172 2 (.aload_n 0) 0 0 (0) := ⟨1, 0, (congrArg (fun l => pm_look l 2) cq_172).trans rfl⟩
theorem lk_172_3 : Lk 172 3 (.getfield 7) 12 1 (0) := ⟨3, 1258, (congrArg (fun l => pm_look l 3) cq_172).trans rfl⟩
theorem lk_172_6 : Lk 172 6 (.iconst 1) 0 0 (0) := ⟨1, 0, (congrArg (fun l => pm_look l 6) cq_172).trans rfl⟩
theorem lk_172_7 : Lk 172 7 (.isub) 0 0 (0) := ⟨1, 0, (congrArg (fun l => pm_look l 7) cq_172).trans rfl⟩
theorem lk_172_8 : Lk 172 8 (.invokestatic 146) 167 0 (0) := ⟨3, 1483, (congrArg (fun l => pm_look l 8) cq_172).trans rfl⟩
theorem lk_172_11 : Lk 172 11 (.ifCond .eq 21) 0 0 (0) := ⟨3, 0, (congrArg (fun l => pm_look l 11) cq_172).trans rfl⟩
theorem lk_172_14 : Lk 172 14 (.iload_n 2) 0 0 (0) := ⟨1, 0, (congrArg (fun l => pm_look l 14) cq_172).trans rfl⟩
theorem lk_172_15 : Lk 172 15 (.iconst 0) 0 0 (0) := ⟨1, 0, (congrArg (fun l => pm_look l 15) cq_172).trans rfl⟩
theorem lk_172_16 : Lk 172 16 (.aload_n 0) 0 0 (0) := ⟨1, 0, (congrArg (fun l => pm_look l 16) cq_172).trans rfl⟩
theorem lk_172_17 : Lk 172 17 (.getfield 13) 12 2 (0) := ⟨3, 1259, (congrArg (fun l => pm_look l 17) cq_172).trans rfl⟩
theorem lk_172_20 : Lk 172 20 (.iconst 1) 0 0 (0) := ⟨1, 0, (congrArg (fun l => pm_look l 20) cq_172).trans rfl⟩
theorem lk_172_21 : Lk 172 21 (.isub) 0 0 (0) := ⟨1, 0, (congrArg (fun l => pm_look l 21) cq_172).trans rfl⟩
theorem lk_172_22 : Lk 172 22 (.invokestatic 146) 167 0 (0) := ⟨3, 1483, (congrArg (fun l => pm_look l 22) cq_172).trans rfl⟩
theorem lk_172_25 : Lk 172 25 (.ifCond .eq 7) 0 0 (0) := ⟨3, 0, (congrArg (fun l => pm_look l 25) cq_172).trans rfl⟩
theorem lk_172_28 : Lk 172 28 (.iconst 1) 0 0 (0) := ⟨1, 0, (congrArg (fun l => pm_look l 28) cq_172).trans rfl⟩
theorem lk_172_29 : Lk 172 29 (.goto 4) 0 0 (0) := ⟨3, 0, (congrArg (fun l => pm_look l 29) cq_172).trans rfl⟩
theorem lk_172_32 : Lk 172 32 (.iconst 0) 0 0 (0) := ⟨1, 0, (congrArg (fun l => pm_look l 32) cq_172).trans rfl⟩
theorem lk_172_33 : Lk 172 33 (.ireturn) 1 0 (0) := ⟨1, 0, (congrArg (fun l => pm_look l 33) cq_172).trans rfl⟩
theorem cq_173 : pm_code 173 = cd_173 := rfl
theorem lk_173_0 : Lk 173 0 (.iload_n 1) 0 0 (0) := ⟨1, 0, (congrArg (fun l => pm_look l 0) cq_173).trans rfl⟩
theorem lk_173_1 : Lk 173 1 (.iconst 0) 0 0 (0) := ⟨1, 0, (congrArg (fun l => pm_look l 1) cq_173).trans rfl⟩
theorem lk_173_2 : Lk 173 2 (.aload_n 0) 0 0 (0) := ⟨1, 0, (congrArg (fun l => pm_look l 2) cq_173).trans rfl⟩
theorem lk_173_3 : Lk 173 3 (.getfield 150) 12 3 (0) := ⟨3, 1260, (congrArg (fun l => pm_look l 3) cq_173).trans rfl⟩
theorem lk_173_6 : Lk 173 6 (.iconst 1) 0 0 (0) := ⟨1, 0, (congrArg (fun l => pm_look l 6) cq_173).trans rfl⟩
theorem lk_173_7 : Lk 173 7 (.isub) 0 0 (0) := ⟨1, 0, (congrArg (fun l => pm_look l 7) cq_173).trans rfl⟩
theorem lk_173_8 : Lk 173 8 (.invokestatic 146) 167 0 (0) := ⟨3, 1483, (congrArg (fun l => pm_look l 8) cq_173).trans rfl⟩
theorem lk_173_11 : Lk 173 11 (.ireturn) 1 0 (0) := ⟨1, 0, (congrArg (fun l => pm_look l 11) cq_173).trans rfl⟩
theorem cq_174 : pm_code 174 = cd_174 := rfl
theorem lk_174_0 : Lk 174 0 (.aload_n 0) 0 0 (0) := ⟨1, 0, (congrArg (fun l => pm_look l 0) cq_174).trans rfl⟩
theorem lk_174_1 : Lk 174 1 (.getfield 16) 12 7 (2) := ⟨3, 1264, (congrArg (fun l => pm_look l 1) cq_174).trans rfl⟩
theorem lk_174_4 : Lk 174 4 (.bipush 6) 0 0 (0) := ⟨2, 0, (congrArg (fun l => pm_look l 4) cq_174).trans rfl⟩
theorem lk_174_6 : Lk 174 6 (.iload_n 1) 0 0 (0) := ⟨1, 0, (congrArg (fun l => pm_look l 6) cq_174).trans rfl⟩
theorem lk_174_7 : Lk 174 7 (.imul) 0 0 (0) := ⟨1, 0, (congrArg (fun l => pm_look l 7) cq_174).trans rfl⟩
theorem lk_174_8 : Lk 174 8 (.iload_n 2) 0 0 (0) := ⟨1, 0, (congrArg (fun l => pm_look l 8) cq_174).trans rfl⟩
theorem lk_174_9 : Lk 174 9 (.iadd) 0 0 (0) := ⟨1, 0, (congrArg (fun l => pm_look l 9) cq_174).trans rfl⟩
theorem lk_174_10 : Lk 174 10 (.iaload) 0 0 (0) := ⟨1, 0, (congrArg (fun l => pm_look l 10) cq_174).trans rfl⟩
theorem lk_174_11 : Lk 174 11 (.ireturn) 0 0 (0) := ⟨1, 0, (congrArg (fun l => pm_look l 11) cq_174).trans rfl⟩
theorem cq_175 : pm_code 175 = cd_175 := rfl
theorem lk_175_0 : Lk 175 0 (.iconst 1) 0 0 (0) := ⟨1, 0, (congrArg (fun l => pm_look l 0) cq_175).trans rfl⟩
theorem lk_175_1 : Lk 175 1 (.aload_n 0) 0 0 (0) := ⟨1, 0, (congrArg (fun l => pm_look l 1) cq_175).trans rfl⟩
theorem lk_175_2 : Lk 175 2 (.getfield 7) 12 1 (0) := ⟨3, 1258, (congrArg (fun l => pm_look l 2) cq_175).trans rfl⟩
theorem lk_175_5 : Lk 175 5 (.ishl) 0 0 (0) := ⟨1, 0, (congrArg (fun l => pm_look l 5) cq_175).trans rfl⟩
theorem lk_175_6 : Lk 175 6 (.iconst 1) 0 0 (0) := ⟨1, 0, (congrArg (fun l => pm_look l 6) cq_175).trans rfl⟩
theorem lk_175_7 : Lk 175 7 (.isub) 0 0 (0) := ⟨1, 0, (congrArg (fun l => pm_look l 7) cq_175).trans rfl⟩
theorem lk_175_8 : Lk 175 8 (.ireturn) 0 0 (0) := ⟨1, 0, (congrArg (fun l => pm_look l 8) cq_175).trans rfl⟩
theorem cq_176 : pm_code 176 = cd_176 := rfl
theorem lk_176_0 : Lk 176 0 (.iconst 1) 0 0 (0) := ⟨1, 0, (congrArg (fun l => pm_look l 0) cq_176).trans rfl⟩
theorem lk_176_1 : Lk 176 1 (.aload_n 0) 0 0 (0) := ⟨1, 0, (congrArg (fun l => pm_look l 1) cq_176).trans rfl⟩
theorem lk_176_2 : Lk 176 2 (.getfield 13) 12 2 (0) := ⟨3, 1259, (congrArg (fun l => pm_look l 2) cq_176).trans rfl⟩
theorem lk_176_5 : Lk 176 5 (.ishl) 0 0 (0) := ⟨1, 0, (congrArg (fun l => pm_look l 5) cq_176).trans rfl⟩
theorem lk_176_6 : Lk 176 6 (.iconst 1) 0 0 (0) := ⟨1, 0, (congrArg (fun l => pm_look l 6) cq_176).trans rfl⟩
theorem lk_176_7 : Lk 176 7 (.isub) 0 0 (0) := ⟨1, 0, (congrArg (fun l => pm_look l 7) cq_176).trans rfl⟩
theorem lk_176_8 : Lk 176 8 (.ireturn) 0 0 (0) := ⟨1, 0, (congrArg (fun l => pm_look l 8) cq_176).trans rfl⟩
theorem cq_177 : pm_code 177 = cd_177 := rfl
theorem lk_177_0 : Lk 177 0 (.bipush 24) 0 0 (0) := ⟨2, 0, (congrArg (fun l => pm_look l 0) cq_177).trans rfl⟩
theorem lk_177_2 : Lk 177 2 (.istore_n 2) 0 0 (0) := ⟨1, 0, (congrArg (fun l => pm_look l 2) cq_177).trans rfl⟩
theorem lk_177_3 : Lk 177 3 (.iload_n 2) 0 0 (0) := ⟨1, 0, (congrArg (fun l => pm_look l 3) cq_177).trans rfl⟩
theorem lk_177_4 : Lk 177 4 (.ifCond .lt 35) 0 0 (0) := ⟨3, 0, (congrArg (fun l => pm_look l 4) cq_177).trans rfl⟩
theorem lk_177_7 : Lk 177 7 (.aload_n 0) 0 0 (0) := ⟨1, 0, (congrArg (fun l => pm_look l 7) cq_177).trans rfl⟩
theorem lk_177_8 : Lk 177 8 (.getfield 62) 12 22 (2) := ⟨3, 1279, (congrArg (fun l => pm_look l 8) cq_177).trans rfl⟩
theorem lk_177_11 : Lk 177 11 (.aload_n 0) 0 0 (0) := ⟨1, 0, (congrArg (fun l => pm_look l 11) cq_177).trans rfl⟩
theorem lk_177_12 : Lk 177 12 (.getfield 153) 12 23 (0) := ⟨3, 1280, (congrArg (fun l => pm_look l 12) cq_177).trans rfl⟩
theorem lk_177_15 : Lk 177 15 (.iload_n 1) 0 0 (0) := ⟨1, 0, (congrArg (fun l => pm_look l 15) cq_177).trans rfl⟩
theorem lk_177_16 : Lk 177 16 (.iload_n 2) 0 0 (0) := ⟨1, 0, (congrArg (fun l => pm_look l 16) cq_177).trans rfl⟩
theorem lk_177_17 : Lk 177 17 (.ishr) 0 0 (0) := ⟨1, 0, (congrArg (fun l => pm_look l 17) cq_177).trans rfl⟩
theorem lk_177_18 : Lk 177 18 (.sipush 255) 0 0 (0) := ⟨3, 0, (congrArg (fun l => pm_look l 18) cq_177).trans rfl⟩
theorem lk_177_21 : Lk 177 21 (.iand) 0 0 (0) := ⟨1, 0, (congrArg (fun l => pm_look l 21) cq_177).trans rfl⟩
theorem lk_177_22 : Lk 177 22 (.iastore) 0 0 (0) := ⟨1, 0, (congrArg (fun l => pm_look l 22) cq_177).trans rfl⟩
theorem lk_177_23 : Lk 177 23 (.aload_n 0) 0 0 (0) := ⟨1, 0, (congrArg (fun l => pm_look l 23) cq_177).trans rfl⟩
theorem lk_177_24 : Lk 177 24 (.dup) 0 0 (0) := ⟨1, 0, (congrArg (fun l => pm_look l 24) cq_177).trans rfl⟩
theorem lk_177_25 : Lk 177 25 (.getfield 153) 12 23 (0) := ⟨3, 1280, (congrArg (fun l => pm_look l 25) cq_177).trans rfl⟩
theorem lk_177_28 : Lk 177 28 (.iconst 1) 0 0 (0) := ⟨1, 0, (congrArg (fun l => pm_look l 28) cq_177).trans rfl⟩
theorem lk_177_29 : Lk 177 29 (.iadd) 0 0 (0) := ⟨1, 0, (congrArg (fun l => pm_look l 29) cq_177).trans rfl⟩
theorem lk_177_30 : Lk 177 30 (.putfield 153) 12 23 (0) := ⟨3, 1280, (congrArg (fun l => pm_look l 30) cq_177).trans rfl⟩
theorem lk_177_33 : Lk 177 33 (.iinc 2 (-8)) 0 0 (0) := ⟨3, 0, (congrArg (fun l => pm_look l 33) cq_177).trans rfl⟩
theorem lk_177_36 : Lk 177 36 (.goto (-33)) 0 0 (0) := ⟨3, 0, (congrArg (fun l => pm_look l 36) cq_177).trans rfl⟩
theorem lk_177_39 : Lk 177 39 (.return_) 0 0 (0) := ⟨1, 0, (congrArg (fun l => pm_look l 39) cq_177).trans rfl⟩
theorem cq_178 : pm_code 178 = cd_178 := rfl
theorem lk_178_0 : Lk 178 0 (.aload_n 0) 0 0 (0) := ⟨1, 0, (congrArg (fun l => pm_look l 0) cq_178).trans rfl⟩
theorem lk_178_1 : Lk 178 1 (.iconst 0) 0 0 (0) := ⟨1, 0, (congrArg (fun l => pm_look l 1) cq_178).trans rfl⟩
theorem lk_178_2 : Lk 178 2 (.putfield 143) 12 0 (0) := ⟨3, 1257, (congrArg (fun l => pm_look l 2) cq_178).trans rfl⟩
theorem lk_178_5 : Lk 178 5 (.aload_n 0) 0 0 (0) := ⟨1, 0, (congrArg (fun l => pm_look l 5) cq_178).trans rfl⟩
theorem lk_178_6 : Lk 178 6 (.getfield 153) 12 23 (0) := ⟨3, 1280, (congrArg (fun l => pm_look l 6) cq_178).trans rfl⟩
theorem lk_178_9 : Lk 178 9 (.bipush 20) 0 0 (0) := ⟨2, 0, (congrArg (fun l => pm_look l 9) cq_178).trans rfl⟩
theorem lk_178_11 : Lk 178 11 (.iadd) 0 0 (0) := ⟨1, 0, (congrArg (fun l => pm_look l 11) cq_178).trans rfl⟩
theorem lk_178_12 : Lk 178 12 (.sipush 500) 0 0 (0) := ⟨3, 0, (congrArg (fun l => pm_look l 12) cq_178).trans rfl⟩
theorem lk_178_15 : Lk 178 15 (.if_icmp .le 5) 0 0 (0) := ⟨3, 0, (congrArg (fun l => pm_look l 15) cq_178).trans rfl⟩
theorem lk_178_18 : Lk 178 18 (.iconst (-1)) 0 0 (0) := ⟨1, 0, (congrArg (fun l => pm_look l 18) cq_178).trans rfl⟩
theorem lk_178_19 : Lk 178 19 (.ireturn) 0 0 (0) := ⟨1, 0, (congrArg (fun l => pm_look l 19) cq_178).trans rfl⟩
theorem lk_178_20 : Lk 178 20 (.aload_n 0) 0 0 (0) := ⟨1, 0, (congrArg (fun l => pm_look l 20) cq_178).trans rfl⟩
theorem lk_178_21 : Lk 178 21 (.iload_n 1) 0 0 (0) := ⟨1, 0, (congrArg (fun l => pm_look l 21) cq_178).trans rfl⟩
theorem lk_178_22 : Lk 178 22 (.invokevirtual 156) 177 0 (0) := ⟨3, 1475, (congrArg (fun l => pm_look l 22) cq_178).trans rfl⟩
theorem lk_178_25 : Lk 178 25 (.aload_n 0) 0 0 (0) := ⟨1, 0, (congrArg (fun l => pm_look l 25) cq_178).trans rfl⟩
theorem lk_178_26 : Lk 178 26 (.iload_n 2) 0 0 (0) := ⟨1, 0, (congrArg (fun l => pm_look l 26) cq_178).trans rfl⟩
theorem lk_178_27 : Lk 178 27 (.invokevirtual 156) 177 0 (0) := ⟨3, 1475, (congrArg (fun l => pm_look l 27) cq_178).trans rfl⟩
theorem lk_178_30 : Lk 178 30 (.aload_n 0) 0 0 (0) := ⟨1, 0, (congrArg (fun l => pm_look l 30) cq_178).trans rfl⟩
theorem lk_178_31 : Lk 178 31 (.iload_n 3) 0 0 (0) := ⟨1, 0, (congrArg (fun l => pm_look l 31) cq_178).trans rfl⟩
theorem lk_178_32 : Lk 178 32 (.invokevirtual 156) 177 0 (0) := ⟨3, 1475, (congrArg (fun l => pm_look l 32) cq_178).trans rfl⟩
theorem lk_178_35 : Lk 178 35 (.aload_n 0) 0 0 (0) := ⟨1, 0, (congrArg (fun l => pm_look l 35) cq_178).trans rfl⟩
theorem lk_178_36 : Lk 178 36 (.iload 4) 0 0 (0) := ⟨2, 0, (congrArg (fun l => pm_look l 36) cq_178).trans rfl⟩
theorem lk_178_38 : Lk 178 38 (.invokevirtual 156) 177 0 (0) := ⟨3, 1475, (congrArg (fun l => pm_look l 38) cq_178).trans rfl⟩
theorem lk_178_41 : Lk 178 41 (.aload_n 0) 0 0 (0) := ⟨1, 0, (congrArg (fun l => pm_look l 41) cq_178).trans rfl⟩
theorem lk_178_42 : Lk 178 42 (.iload 5) 0 0 (0) := ⟨2, 0, (congrArg (fun l => pm_look l 42) cq_178).trans rfl⟩
theorem lk_178_44 : Lk 178 44 (.invokevirtual 156) 177 0 (0) := ⟨3, 1475, (congrArg (fun l => pm_look l 44) cq_178).trans rfl⟩
theorem lk_178_47 : Lk 178 47 (.aload_n 0) 0 0 (0) := ⟨1, 0, (congrArg (fun l => pm_look l 47) cq_178).trans rfl⟩
theorem lk_178_48 : Lk 178 48 (.getfield 153) 12 23 (0) := ⟨3, 1280, (congrArg (fun l => pm_look l 48) cq_178).trans rfl⟩
theorem lk_178_51 : Lk 178 51 (.ireturn) 0 0 (0) := ⟨1, 0, (congrArg (fun l => pm_look l 51) cq_178).trans rfl⟩
theorem cq_179 : pm_code 179 = cd_179 := rfl
theorem lk_179_0 : Lk 179 0 (.aload_n 0) 0 0 (0) := ⟨1, 0, (congrArg (fun l => pm_look l 0) cq_179).trans rfl⟩
theorem lk_179_1 : Lk 179 1 (.iconst 0) 0 0 (0) := ⟨1, 0, (congrArg (fun l => pm_look l 1) cq_179).trans rfl⟩
theorem lk_179_2 : Lk 179 2 (.putfield 143) 12 0 (0) := ⟨3, 1257, (congrArg (fun l => pm_look l 2) cq_179).trans rfl⟩
theorem lk_179_5 : Lk 179 5 (.iload_n 1) 0 0 (0) := ⟨1, 0, (congrArg (fun l => pm_look l 5) cq_179).trans rfl⟩
theorem lk_179_6 : Lk 179 6 (.iconst 0) 0 0 (0) := ⟨1, 0, (congrArg (fun l => pm_look l 6) cq_179).trans rfl⟩
theorem lk_179_7 : Lk 179 7 (.aload_n 0) 0 0 (0) := ⟨1, 0, (congrArg (fun l => pm_look l 7) cq_179).trans rfl⟩
theorem lk_179_8 : Lk 179 8 (.getfield 153) 12 23 (0) := ⟨3, 1280, (congrArg (fun l => pm_look l 8) cq_179).trans rfl⟩
theorem lk_179_11 : Lk 179 11 (.invokestatic 146) 167 0 (0) := ⟨3, 1483, (congrArg (fun l => pm_look l 11) cq_179).trans rfl⟩
theorem lk_179_14 : Lk 179 14 (.ifCond .ne 5) 0 0 (0) := ⟨3, 0, (congrArg (fun l => pm_look l 14) cq_179).trans rfl⟩
theorem lk_179_17 : Lk 179 17 (.iconst (-1)) 0 0 (0) := ⟨1, 0, (congrArg (fun l => pm_look l 17) cq_179).trans rfl⟩
theorem lk_179_18 : Lk 179 18 (.ireturn) 0 0 (0) := ⟨1, 0, (congrArg (fun l => pm_look l 18) cq_179).trans rfl⟩
theorem lk_179_19 : Lk 179 19 (.aload_n 0) 0 0 (0) := ⟨1, 0, (congrArg (fun l => pm_look l 19) cq_179).trans rfl⟩
theorem lk_179_20 : Lk 179 20 (.iload_n 1) 0 0 (0) := ⟨1, 0, (congrArg (fun l => pm_look l 20) cq_179).trans rfl⟩
theorem lk_179_21 : Lk 179 21 (.putfield 153) 12 23 (0) := ⟨3, 1280, (congrArg (fun l => pm_look l 21) cq_179).trans rfl⟩
theorem lk_179_24 : Lk 179 24 (.iload_n 1) 0 0 (0) := ⟨1, 0, (congrArg (fun l => pm_look l 24) cq_179).trans rfl⟩
theorem lk_179_25 : Lk 179 25 (.ireturn) 0 0 (0) := ⟨1, 0, (congrArg (fun l => pm_look l 25) cq_179).trans rfl⟩
theorem cq_180 : pm_code 180 = cd_180 := rfl
theorem lk_180_0 : Lk 180 0 (.iload_n 1) 0 0 (0) := ⟨1, 0, (congrArg (fun l => pm_look l 0) cq_180).trans rfl⟩
theorem lk_180_1 : Lk 180 1 (.aload_n 0) 0 0 (0) := ⟨1, 0, (congrArg (fun l => pm_look l 1) cq_180).trans rfl⟩
theorem lk_180_2 : Lk 180 2 (.getfield 160) 12 24 (0) := ⟨3, 1281, (congrArg (fun l => pm_look l 2) cq_180).trans rfl⟩
theorem lk_180_5 : Lk 180 5 (.if_icmp .ge 12) 0 0 (0) := ⟨3, 0, (congrArg (fun l => pm_look l 5) cq_180).trans rfl⟩
theorem lk_180_8 : Lk 180 8 (.aload_n 0) 0 0 (0) := ⟨1, 0, (congrArg (fun l => pm_look l 8) cq_180).trans rfl⟩
theorem lk_180_9 : Lk 180 9 (.getfield 62) 12 22 (2) := ⟨3, 1279, (congrArg (fun l => pm_look l 9) cq_180).trans rfl⟩
theorem lk_180_12 : Lk 180 12 (.iload_n 1) 0 0 (0) := ⟨1, 0, (congrArg (fun l => pm_look l 12) cq_180).trans rfl⟩
theorem lk_180_13 : Lk 180 13 (.iaload) 0 0 (0) := ⟨1, 0, (congrArg (fun l => pm_look l 13) cq_180).trans rfl⟩
theorem lk_180_14 : Lk 180 14 (.goto 4) 0 0 (0) := ⟨3, 0, (congrArg (fun l => pm_look l 14) cq_180).trans rfl⟩
theorem lk_180_17 : Lk 180 17 (.iconst (-1)) 0 0 (0) := ⟨1, 0, (congrArg (fun l => pm_look l 17) cq_180).trans rfl⟩
theorem lk_180_18 : Lk 180 18 (.ireturn) 0 0 (0) := ⟨1, 0, (congrArg (fun l => pm_look l 18) cq_180).trans rfl⟩
theorem cq_181 : pm_code 181 = cd_181 := rfl
theorem lk_181_0 : Lk 181 0 (.iload_n 0) 0 0 (0) := ⟨1, 0, (congrArg (fun l => pm_look l 0) cq_181).trans rfl⟩
theorem lk_181_1 : Lk 181 1 (.bipush 97) 0 0 (0) := ⟨2, 0, (congrArg (fun l => pm_look l 1) cq_181).trans rfl⟩
theorem lk_181_3 : Lk 181 3 (.if_icmp .lt 13) 0 0 (0) := ⟨3, 0, (congrArg (fun l => pm_look l 3) cq_181).trans rfl⟩
theorem lk_181_6 : Lk 181 6 (.iload_n 0) 0 0 (0) := ⟨1, 0, (congrArg (fun l => pm_look l 6) cq_181).trans rfl⟩
theorem lk_181_7 : Lk 181 7 (.bipush 122) 0 0 (0) := ⟨2, 0, (congrArg (fun l => pm_look l 7) cq_181).trans rfl⟩
theorem lk_181_9 : Lk 181 9 (.if_icmp .gt 7) 0 0 (0) := ⟨3, 0, (congrArg (fun l => pm_look l 9) cq_181).trans rfl⟩
theorem lk_181_12 : Lk 181 12 (.iconst 1) 0 0 (0) := ⟨1, 0, (congrArg (fun l => pm_look l 12) cq_181).trans rfl⟩
theorem lk_181_13 : Lk 181 13 (.goto 4) 0 0 (0) := ⟨3, 0, (congrArg (fun l => pm_look l 13) cq_181).trans rfl⟩
theorem lk_181_16 : Lk 181 16 (.iconst 0) 0 0 (0) := ⟨1, 0, (congrArg (fun l => pm_look l 16) cq_181).trans rfl⟩
theorem lk_181_17 : Lk 181 17 (.ireturn) 1 0 (0) := ⟨1, 0, (congrArg (fun l => pm_look l 17) cq_181).trans rfl⟩
theorem cq_182 : pm_code 182 = cd_182 := rfl
theorem lk_182_0 : Lk 182 0 (.iload_n 0) 0 0 (0) := ⟨1, 0, (congrArg (fun l => pm_look l 0) cq_182).trans rfl⟩
theorem lk_182_1 : Lk 182 1 (.bipush 48) 0 0 (0) := ⟨2, 0, (congrArg (fun l => pm_look l 1) cq_182).trans rfl⟩
theorem lk_182_3 : Lk 182 3 (.if_icmp .lt 9) 0 0 (0) := ⟨3, 0, (congrArg (fun l => pm_look l 3) cq_182).trans rfl⟩
theorem lk_182_6 : Lk 182 6 (.iload_n 0) 0 0 (0) := ⟨1, 0, (congrArg (fun l => pm_look l 6) cq_182).trans rfl⟩
theorem lk_182_7 : Lk 182 7 (.bipush 57) 0 0 (0) := ⟨2, 0, (congrArg (fun l => pm_look l 7) cq_182).trans rfl⟩
theorem lk_182_9 : Lk 182 9 (.if_icmp .le 9) 0 0 (0) := ⟨3, 0, (congrArg (fun l => pm_look l 9) cq_182).trans rfl⟩
theorem lk_182_12 : Lk 182 12 (.iload_n 0) 0 0 (0) := ⟨1, 0, (congrArg (fun l => pm_look l 12) cq_182).trans rfl⟩
theorem lk_182_13 : Lk 182 13 (.bipush 46) 0 0 (0) := ⟨2, 0, (congrArg (fun l => pm_look l 13) cq_182).trans rfl⟩
theorem lk_182_15 : Lk 182 15 (.if_icmp .ne 7) 0 0 (0) := ⟨3, 0, (congrArg (fun l => pm_look l 15) cq_182).trans rfl⟩
theorem lk_182_18 : Lk 182 18 (.iconst 1) 0 0 (0) := ⟨1, 0, (congrArg (fun l => pm_look l 18) cq_182).trans rfl⟩
theorem lk_182_19 : Lk 182 19 (.goto 4) 0 0 (0) := ⟨3, 0, (congrArg (fun l => pm_look l 19) cq_182).trans rfl⟩
theorem lk_182_22 : Lk 182 22 (.iconst 0) 0 0 (0) := ⟨1, 0, (congrArg (fun l => pm_look l 22) cq_182).trans rfl⟩
theorem lk_182_23 : Lk 182 23 (.ireturn) 1 0 (0) := ⟨1, 0, (congrArg (fun l => pm_look l 23) cq_182).trans rfl⟩
theorem cq_183 : pm_code 183 = cd_183 := rfl
theorem lk_183_0 : Lk 183 0 (.aload_n 0) 0 0 (0) := ⟨1, 0, (congrArg (fun l => pm_look l 0) cq_183).trans rfl⟩
theorem lk_183_1 : Lk 183 1 (.getfield 163) 12 31 (0) := ⟨3, 1288, (congrArg (fun l => pm_look l 1) cq_183).trans rfl⟩
theorem lk_183_4 : Lk 183 4 (.ifCond .ne 7) 0 0 (0) := ⟨3, 0, (congrArg (fun l => pm_look l 4) cq_183).trans rfl⟩
theorem lk_183_7 : Lk 183 7 (.iconst 1) 0 0 (0) := ⟨1, 0, (congrArg (fun l => pm_look l 7) cq_183).trans rfl⟩
theorem lk_183_8 : Lk 183 8 (.goto 4) 0 0 (0) := ⟨3, 0, (congrArg (fun l => pm_look l 8) cq_183).trans rfl⟩
theorem lk_183_11 : Lk 183 11 (.iconst 0) 0 0 (0) := ⟨1, 0, (congrArg (fun l => pm_look l 11) cq_183).trans rfl⟩
theorem lk_183_12 : Lk 183 12 (.ireturn) 1 0 (0) := ⟨1, 0, (congrArg (fun l => pm_look l 12) cq_183).trans rfl⟩
theorem cq_184 : pm_code 184 = cd_184 := rfl
theorem lk_184_0 : Lk 184 0 (.aload_n 0) 0 0 (0) := ⟨1, 0, (congrArg (fun l => pm_look l 0) cq_184).trans rfl⟩
theorem lk_184_1 : Lk 184 1 (.getfield 163) 12 31 (0) := ⟨3, 1288, (congrArg (fun l => pm_look l 1) cq_184).trans rfl⟩
theorem lk_184_4 : Lk 184 4 (.ifCond .ne 28) 0 0 (0) := ⟨3, 0, (congrArg (fun l => pm_look l 4) cq_184).trans rfl⟩
theorem lk_184_7 : Lk 184 7 (.aload_n 0) 0 0 (0) := ⟨1, 0, (congrArg (fun l => pm_look l 7) cq_184).trans rfl⟩
theorem lk_184_8 : Lk 184 8 (.aload_n 0) 0 0 (0) := ⟨1, 0, (congrArg (fun l => pm_look l 8) cq_184).trans rfl⟩
theorem lk_184_9 : Lk 184 9 (.getfield 166) 12 27 (0) := ⟨3, 1284, (congrArg (fun l => pm_look l 9) cq_184).trans rfl⟩
theorem lk_184_12 : Lk 184 12 (.iconst 4) 0 0 (0) := ⟨1, 0, (congrArg (fun l => pm_look l 12) cq_184).trans rfl⟩
theorem lk_184_13 : Lk 184 13 (.if_icmp .ne 7) 0 0 (0) := ⟨3, 0, (congrArg (fun l => pm_look l 13) cq_184).trans rfl⟩
theorem lk_184_16 : Lk 184 16 (.iconst 1) 0 0 (0) := ⟨1, 0, (congrArg (fun l => pm_look l 16) cq_184).trans rfl⟩
theorem lk_184_17 : Lk 184 17 (.goto 4) 0 0 (0) := ⟨3, 0, (congrArg (fun l => pm_look l 17) cq_184).trans rfl⟩
theorem lk_184_20 : Lk 184 20 (.iload_n 1) 0 0 (0) := ⟨1, 0, (congrArg (fun l => pm_look l 20) cq_184).trans rfl⟩
theorem lk_184_21 : Lk 184 21 (.putfield 163) 12 31 (0) := ⟨3, 1288, (congrArg (fun l => pm_look l 21) cq_184).trans rfl⟩
theorem lk_184_24 : Lk 184 24 (.aload_n 0) 0 0 (0) := ⟨1, 0, (congrArg (fun l => pm_look l 24) cq_184).trans rfl⟩
theorem lk_184_25 : Lk 184 25 (.aload_n 0) 0 0 (0) := ⟨1, 0, (congrArg (fun l => pm_look l 25) cq_184).trans rfl⟩
theorem lk_184_26 : Lk 184 26 (.getfield 169) 12 25 (0) := ⟨3, 1282, (congrArg (fun l => pm_look l 26) cq_184).trans rfl⟩
theorem lk_184_29 : Lk 184 29 (.putfield 172) 12 32 (0) := ⟨3, 1289, (congrArg (fun l => pm_look l 29) cq_184).trans rfl⟩
theorem lk_184_32 : Lk 184 32 (.return_) 0 0 (0) := ⟨1, 0, (congrArg (fun l => pm_look l 32) cq_184).trans rfl⟩
theorem cq_185 : pm_code 185 = cd_185 := rfl
theorem lk_185_0 : Lk 185 0 (.aload_n 0) 0 0 (0) := ⟨1, 0, (congrArg (fun l => pm_look l 0) cq_185).trans rfl⟩
theorem lk_185_1 : Lk 185 1 (.invokevirtual 175) 183 0 (0) := ⟨3, 1494, (congrArg (fun l => pm_look l 1) cq_185).trans rfl⟩
theorem lk_185_4 : Lk 185 4 (.ifCond .ne 4) 0 0 (0) := ⟨3, 0, (congrArg (fun l => pm_look l 4) cq_185).trans rfl⟩
theorem lk_185_7 : Lk 185 7 (.return_) 0 0 (0) := ⟨1, 0, (congrArg (fun l => pm_look l 7) cq_185).trans rfl⟩
theorem lk_185_8 : Lk 185 8 (.aload_n 0) 0 0 (0) := ⟨1, 0, (congrArg (fun l => pm_look l 8) cq_185).trans rfl⟩
theorem lk_185_9 : Lk 185 9 (.aload_n 0) 0 0 (0) := ⟨1, 0, (congrArg (fun l => pm_look l 9) cq_185).trans rfl⟩
theorem lk_185_10 : Lk 185 10 (.getfield 179) 12 26 (0) := ⟨3, 1283, (congrArg (fun l => pm_look l 10) cq_185).trans rfl⟩
theorem lk_185_13 : Lk 185 13 (.invokevirtual 182) 180 0 (0) := ⟨3, 1498, (congrArg (fun l => pm_look l 13) cq_185).trans rfl⟩
theorem lk_185_16 : Lk 185 16 (.bipush 32) 0 0 (0) := ⟨2, 0, (congrArg (fun l => pm_look l 16) cq_185).trans rfl⟩
theorem lk_185_18 : Lk 185 18 (.if_icmp .eq 16) 0 0 (0) := ⟨3, 0, (congrArg (fun l => pm_look l 18) cq_185).trans rfl⟩
theorem lk_185_21 : Lk 185 21 (.aload_n 0) 0 0 (0) := ⟨1, 0, (congrArg (fun l => pm_look l 21) cq_185).trans rfl⟩
theorem lk_185_22 : Lk 185 22 (.aload_n 0) 0 0 (0) := ⟨1, 0, (congrArg (fun l => pm_look l 22) cq_185).trans rfl⟩
theorem lk_185_23 : Lk 185 23 (.getfield 179) 12 26 (0) := ⟨3, 1283, (congrArg (fun l => pm_look l 23) cq_185).trans rfl⟩
theorem lk_185_26 : Lk 185 26 (.invokevirtual 182) 180 0 (0) := ⟨3, 1498, (congrArg (fun l => pm_look l 26) cq_185).trans rfl⟩
theorem lk_185_29 : Lk 185 29 (.bipush 10) 0 0 (0) := ⟨2, 0, (congrArg (fun l => pm_look l 29) cq_185).trans rfl⟩
theorem lk_185_31 : Lk 185 31 (.if_icmp .ne 16) 0 0 (0) := ⟨3, 0, (congrArg (fun l => pm_look l 31) cq_185).trans rfl⟩
theorem lk_185_34 : Lk 185 34 (.aload_n 0) 0 0 (0) := ⟨1, 0, (congrArg (fun l => pm_look l 34) cq_185).trans rfl⟩
theorem lk_185_35 : Lk 185 35 (.dup) 0 0 (0) := ⟨1, 0, (congrArg (fun l => pm_look l 35) cq_185).trans rfl⟩
theorem lk_185_36 : Lk 185 36 (.getfield 179) 12 26 (0) := ⟨3, 1283, (congrArg (fun l => pm_look l 36) cq_185).trans rfl⟩
theorem lk_185_39 : Lk 185 39 (.iconst 1) 0 0 (0) := ⟨1, 0, (congrArg (fun l => pm_look l 39) cq_185).trans rfl⟩
theorem lk_185_40 : Lk 185 40 (.iadd) 0 0 (0) := ⟨1, 0, (congrArg (fun l => pm_look l 40) cq_185).trans rfl⟩
theorem lk_185_41 : Lk 185 41 (.putfield 179) 12 26 (0) := ⟨3, 1283, (congrArg (fun l => pm_look l 41) cq_185).trans rfl⟩
theorem lk_185_44 : Lk 185 44 (.goto (-36)) 0 0 (0) := ⟨3, 0, (congrArg (fun l => pm_look l 44) cq_185).trans rfl⟩
theorem lk_185_47 : Lk 185 47 (.aload_n 0) 0 0 (0) := ⟨1, 0, (congrArg (fun l => pm_look l 47) cq_185).trans rfl⟩
theorem lk_185_48 : Lk 185 48 (.aload_n 0) 0 0 (0) := ⟨1, 0, (congrArg (fun l => pm_look l 48) cq_185).trans rfl⟩
theorem lk_185_49 : Lk 185 49 (.getfield 179) 12 26 (0) := ⟨3, 1283, (congrArg (fun l => pm_look l 49) cq_185).trans rfl⟩
theorem lk_185_52 : Lk 185 52 (.putfield 169) 12 25 (0) := ⟨3, 1282, (congrArg (fun l => pm_look l 52) cq_185).trans rfl⟩
theorem lk_185_55 : Lk 185 55 (.aload_n 0) 0 0 (0) := ⟨1, 0, (congrArg (fun l => pm_look l 55) cq_185).trans rfl⟩
theorem lk_185_56 : Lk 185 56 (.aload_n 0) 0 0 (0) := ⟨1, 0, (congrArg (fun l => pm_look l 56) cq_185).trans rfl⟩
theorem lk_185_57 : Lk 185 57 (.getfield 169) 12 25 (0) := ⟨3, 1282, (congrArg (fun l => pm_look l 57) cq_185).trans rfl⟩
theorem lk_185_60 : Lk 185 60 (.invokevirtual 182) 180 0 (0) := ⟨3, 1498, (congrArg (fun l => pm_look l 60) cq_185).trans rfl⟩
theorem lk_185_63 : Lk 185 63 (.istore_n 1) 0 0 (0) := ⟨1, 0, (congrArg (fun l => pm_look l 63) cq_185).trans rfl⟩
theorem lk_185_64 : Lk 185 64 (.aload_n 0) 0 0 (0) := ⟨1, 0, (congrArg (fun l => pm_look l 64) cq_185).trans rfl⟩
theorem lk_185_65 : Lk 185 65 (.iconst 0) 0 0 (0) := ⟨1, 0, (congrArg (fun l => pm_look l 65) cq_185).trans rfl⟩
theorem lk_185_66 : Lk 185 66 (.putfield 186) 12 28 (0) := ⟨3, 1285, (congrArg (fun l => pm_look l 66) cq_185).trans rfl⟩
theorem lk_185_69 : Lk 185 69 (.iload_n 1) 0 0 (0) := ⟨1, 0, (congrArg (fun l => pm_look l 69) cq_185).trans rfl⟩
theorem lk_185_70 : Lk 185 70 (.iconst (-1)) 0 0 (0) := ⟨1, 0, (congrArg (fun l => pm_look l 70) cq_185).trans rfl⟩
theorem lk_185_71 : Lk 185 71 (.if_icmp .ne 11) 0 0 (0) := ⟨3, 0, (congrArg (fun l => pm_look l 71) cq_185).trans rfl⟩
theorem lk_185_74 : Lk 185 74 (.aload_n 0) 0 0 (0) := ⟨1, 0, (congrArg (fun l => pm_look l 74) cq_185).trans rfl⟩
theorem lk_185_75 : Lk 185 75 (.iconst 0) 0 0 (0) := ⟨1, 0, (congrArg (fun l => pm_look l 75) cq_185).trans rfl⟩
theorem lk_185_76 : Lk 185 76 (.putfield 166) 12 27 (0) := ⟨3, 1284, (congrArg (fun l => pm_look l 76) cq_185).trans rfl⟩
theorem lk_185_79 : Lk 185 79 (.goto 192) 0 0 (0) := ⟨3, 0, (congrArg (fun l => pm_look l 79) cq_185).trans rfl⟩
theorem lk_185_82 : Lk 185 82 (.iload_n 1) 0 0 (0) := ⟨1, 0, (congrArg (fun l => pm_look l 82) cq_185).trans rfl⟩
theorem lk_185_83 : Lk 185 83 (.invokestatic 189) 181 0 (0) := ⟨3, 1502, (congrArg (fun l => pm_look l 83) cq_185).trans rfl⟩
theorem lk_185_86 : Lk 185 86 (.ifCond .eq 100) 0 0 (0) := ⟨3, 0, (congrArg (fun l => pm_look l 86) cq_185).trans rfl⟩
theorem lk_185_89 : Lk 185 89 (.aload_n 0) 0 0 (0) := ⟨1, 0, (congrArg (fun l => pm_look l 89) cq_185).trans rfl⟩
theorem lk_185_90 : Lk 185 90 (.aload_n 0) 0 0 (0) := ⟨1, 0, (congrArg (fun l => pm_look l 90) cq_185).trans rfl⟩
theorem lk_185_91 : Lk 185 91 (.getfield 179) 12 26 (0) := ⟨3, 1283, (congrArg (fun l => pm_look l 91) cq_185).trans rfl⟩
theorem lk_185_94 : Lk 185 94 (.invokevirtual 182) 180 0 (0) := ⟨3, 1498, (congrArg (fun l => pm_look l 94) cq_185).trans rfl⟩
theorem lk_185_97 : Lk 185 97 (.invokestatic 189) 181 0 (0) := ⟨3, 1502, (congrArg (fun l => pm_look l 97) cq_185).trans rfl⟩
theorem lk_185_100 : Lk 185 100 (.ifCond .eq 60) 0 0 (0) := ⟨3, 0, (congrArg (fun l => pm_look l 100) cq_185).trans rfl⟩
theorem lk_185_103 : Lk 185 103 (.aload_n 0) 0 0 (0) := ⟨1, 0, (congrArg (fun l => pm_look l 103) cq_185).trans rfl⟩
theorem lk_185_104 : Lk 185 104 (.aload_n 0) 0 0 (0) := ⟨1, 0, (congrArg (fun l => pm_look l 104) cq_185).trans rfl⟩
theorem lk_185_105 : Lk 185 105 (.getfield 179) 12 26 (0) := ⟨3, 1283, (congrArg (fun l => pm_look l 105) cq_185).trans rfl⟩
theorem lk_185_108 : Lk 185 108 (.aload_n 0) 0 0 (0) := ⟨1, 0, (congrArg (fun l => pm_look l 108) cq_185).trans rfl⟩
theorem lk_185_109 : Lk 185 109 (.getfield 169) 12 25 (0) := ⟨3, 1282, (congrArg (fun l => pm_look l 109) cq_185).trans rfl⟩
theorem lk_185_112 : Lk 185 112 (.isub) 0 0 (0) := ⟨1, 0, (congrArg (fun l => pm_look l 112) cq_185).trans rfl⟩
theorem lk_185_113 : Lk 185 113 (.bipush 6) 0 0 (0) := ⟨2, 0, (congrArg (fun l => pm_look l 113) cq_185).trans rfl⟩
theorem lk_185_115 : Lk 185 115 (.if_icmp .ge 25) 0 0 (0) := ⟨3, 0, (congrArg (fun l => pm_look l 115) cq_185).trans rfl⟩
theorem lk_185_118 : Lk 185 118 (.aload_n 0) 0 0 (0) := ⟨1, 0, (congrArg (fun l => pm_look l 118) cq_185).trans rfl⟩
theorem lk_185_119 : Lk 185 119 (.getfield 186) 12 28 (0) := ⟨3, 1285, (congrArg (fun l => pm_look l 119) cq_185).trans rfl⟩
theorem lk_185_122 : Lk 185 122 (.bipush 32) 0 0 (0) := ⟨2, 0, (congrArg (fun l => pm_look l 122) cq_185).trans rfl⟩
theorem lk_185_124 : Lk 185 124 (.imul) 0 0 (0) := ⟨1, 0, (congrArg (fun l => pm_look l 124) cq_185).trans rfl⟩
theorem lk_185_125 : Lk 185 125 (.aload_n 0) 0 0 (0) := ⟨1, 0, (congrArg (fun l => pm_look l 125) cq_185).trans rfl⟩
theorem lk_185_126 : Lk 185 126 (.aload_n 0) 0 0 (0) := ⟨1, 0, (congrArg (fun l => pm_look l 126) cq_185).trans rfl⟩
theorem lk_185_127 : Lk 185 127 (.getfield 179) 12 26 (0) := ⟨3, 1283, (congrArg (fun l => pm_look l 127) cq_185).trans rfl⟩
theorem lk_185_130 : Lk 185 130 (.invokevirtual 182) 180 0 (0) := ⟨3, 1498, (congrArg (fun l => pm_look l 130) cq_185).trans rfl⟩
theorem lk_185_133 : Lk 185 133 (.iadd) 0 0 (0) := ⟨1, 0, (congrArg (fun l => pm_look l 133) cq_185).trans rfl⟩
theorem lk_185_134 : Lk 185 134 (.bipush 96) 0 0 (0) := ⟨2, 0, (congrArg (fun l => pm_look l 134) cq_185).trans rfl⟩
theorem lk_185_136 : Lk 185 136 (.isub) 0 0 (0) := ⟨1, 0, (congrArg (fun l => pm_look l 136) cq_185).trans rfl⟩
theorem lk_185_137 : Lk 185 137 (.goto 7) 0 0 (0) := ⟨3, 0, (congrArg (fun l => pm_look l 137) cq_185).trans rfl⟩
theorem lk_185_140 : Lk 185 140 (.aload_n 0) 0 0 (0) := ⟨1, 0, (congrArg (fun l => pm_look l 140) cq_185).trans rfl⟩
theorem lk_185_141 : Lk 185 141 (.getfield 186) 12 28 (0) := ⟨3, 1285, (congrArg (fun l => pm_look l 141) cq_185).trans rfl⟩
theorem lk_185_144 : Lk 185 144 (.putfield 186) 12 28 (0) := ⟨3, 1285, (congrArg (fun l => pm_look l 144) cq_185).trans rfl⟩
theorem lk_185_147 : Lk 185 147 (.aload_n 0) 0 0 (0) := ⟨1, 0, (congrArg (fun l => pm_look l 147) cq_185).trans rfl⟩
theorem lk_185_148 : Lk 185 148 (.dup) 0 0 (0) := ⟨1, 0, (congrArg (fun l => pm_look l 148) cq_185).trans rfl⟩
theorem lk_185_149 : Lk 185 149 (.getfield 179) 12 26 (0) := ⟨3, 1283, (congrArg (fun l => pm_look l 149) cq_185).trans rfl⟩
theorem lk_185_152 : Lk 185 152 (.iconst 1) 0 0 (0) := ⟨1, 0, (congrArg (fun l => pm_look l 152) cq_185).trans rfl⟩
theorem lk_185_153 : Lk 185 153 (.iadd) 0 0 (0) := ⟨1, 0, (congrArg (fun l => pm_look l 153) cq_185).trans rfl⟩
theorem lk_185_154 : Lk 185 154 (.putfield 179) 12 26 (0) := ⟨3, 1283, (congrArg (fun l => pm_look l 154) cq_185).trans rfl⟩
theorem lk_185_157 : Lk 185 157 (.goto (-68)) 0 0 (0) := ⟨3, 0, (congrArg (fun l => pm_look l 157) cq_185).trans rfl⟩
theorem lk_185_160 : Lk 185 160 (.aload_n 0) 0 0 (0) := ⟨1, 0, (congrArg (fun l => pm_look l 160) cq_185).trans rfl⟩
theorem lk_185_161 : Lk 185 161 (.aload_n 0) 0 0 (0) := ⟨1, 0, (congrArg (fun l => pm_look l 161) cq_185).trans rfl⟩
theorem lk_185_162 : Lk 185 162 (.getfield 179) 12 26 (0) := ⟨3, 1283, (congrArg (fun l => pm_look l 162) cq_185).trans rfl⟩
theorem lk_185_165 : Lk 185 165 (.aload_n 0) 0 0 (0) := ⟨1, 0, (congrArg (fun l => pm_look l 165) cq_185).trans rfl⟩
theorem lk_185_166 : Lk 185 166 (.getfield 169) 12 25 (0) := ⟨3, 1282, (congrArg (fun l => pm_look l 166) cq_185).trans rfl⟩
theorem lk_185_169 : Lk 185 169 (.isub) 0 0 (0) := ⟨1, 0, (congrArg (fun l => pm_look l 169) cq_185).trans rfl⟩
theorem lk_185_170 : Lk 185 170 (.bipush 6) 0 0 (0) := ⟨2, 0, (congrArg (fun l => pm_look l 170) cq_185).trans rfl⟩
theorem lk_185_172 : Lk 185 172 (.if_icmp .le 7) 0 0 (0) := ⟨3, 0, (congrArg (fun l => pm_look l 172) cq_185).trans rfl⟩
theorem lk_185_175 : Lk 185 175 (.iconst 4) 0 0 (0) := ⟨1, 0, (congrArg (fun l => pm_look l 175) cq_185).trans rfl⟩
theorem lk_185_176 : Lk 185 176 (.goto 4) 0 0 (0) := ⟨3, 0, (congrArg (fun l => pm_look l 176) cq_185).trans rfl⟩
theorem lk_185_179 : Lk 185 179 (.iconst 1) 0 0 (0) := ⟨1, 0, (congrArg (fun l => pm_look l 179) cq_185).trans rfl⟩
theorem lk_185_180 : Lk 185 180 (.putfield 166) 12 27 (0) := ⟨3, 1284, (congrArg (fun l => pm_look l 180) cq_185).trans rfl⟩
theorem lk_185_183 : Lk 185 183 (.goto 88) 0 0 (0) := ⟨3, 0, (congrArg (fun l => pm_look l 183) cq_185).trans rfl⟩
theorem lk_185_186 : Lk 185 186 (.iload_n 1) 0 0 (0) := ⟨1, 0, (congrArg (fun l => pm_look l 186) cq_185).trans rfl⟩
theorem lk_185_187 : Lk 185 187 (.invokestatic 193) 182 0 (0) := ⟨3, 1505, (congrArg (fun l => pm_look l 187) cq_185).trans rfl⟩
theorem lk_185_190 : Lk 185 190 (.ifCond .eq 56) 0 0 (0) := ⟨3, 0, (congrArg (fun l => pm_look l 190) cq_185).trans rfl⟩
theorem lk_185_193 : Lk 185 193 (.aload_n 0) 0 0 (0) := ⟨1, 0, (congrArg (fun l => pm_look l 193) cq_185).trans rfl⟩
theorem lk_185_194 : Lk 185 194 (.aload_n 0) 0 0 (0) := ⟨1, 0, (congrArg (fun l => pm_look l 194) cq_185).trans rfl⟩
theorem lk_185_195 : Lk 185 195 (.getfield 179) 12 26 (0) := ⟨3, 1283, (congrArg (fun l => pm_look l 195) cq_185).trans rfl⟩
theorem lk_185_198 : Lk 185 198 (.invokevirtual 182) 180 0 (0) := ⟨3, 1498, (congrArg (fun l => pm_look l 198) cq_185).trans rfl⟩
theorem lk_185_201 : Lk 185 201 (.invokestatic 193) 182 0 (0) := ⟨3, 1505, (congrArg (fun l => pm_look l 201) cq_185).trans rfl⟩
theorem lk_185_204 : Lk 185 204 (.ifCond .eq 16) 0 0 (0) := ⟨3, 0, (congrArg (fun l => pm_look l 204) cq_185).trans rfl⟩
theorem lk_185_207 : Lk 185 207 (.aload_n 0) 0 0 (0) := ⟨1, 0, (congrArg (fun l => pm_look l 207) cq_185).trans rfl⟩
theorem lk_185_208 : Lk 185 208 (.dup) 0 0 (0) := ⟨1, 0, (congrArg (fun l => pm_look l 208) cq_185).trans rfl⟩
theorem lk_185_209 : Lk 185 209 (.getfield 179) 12 26 (0) := ⟨3, 1283, (congrArg (fun l => pm_look l 209) cq_185).trans rfl⟩
theorem lk_185_212 : Lk 185 212 (.iconst 1) 0 0 (0) := ⟨1, 0, (congrArg (fun l => pm_look l 212) cq_185).trans rfl⟩
theorem lk_185_213 : Lk 185 213 (.iadd) 0 0 (0) := ⟨1, 0, (congrArg (fun l => pm_look l 213) cq_185).trans rfl⟩
theorem lk_185_214 : Lk 185 214 (.putfield 179) 12 26 (0) := ⟨3, 1283, (congrArg (fun l => pm_look l 214) cq_185).trans rfl⟩
theorem lk_185_217 : Lk 185 217 (.goto (-24)) 0 0 (0) := ⟨3, 0, (congrArg (fun l => pm_look l 217) cq_185).trans rfl⟩
theorem lk_185_220 : Lk 185 220 (.aload_n 0) 0 0 (0) := ⟨1, 0, (congrArg (fun l => pm_look l 220) cq_185).trans rfl⟩
theorem lk_185_221 : Lk 185 221 (.aload_n 0) 0 0 (0) := ⟨1, 0, (congrArg (fun l => pm_look l 221) cq_185).trans rfl⟩
theorem lk_185_222 : Lk 185 222 (.getfield 179) 12 26 (0) := ⟨3, 1283, (congrArg (fun l => pm_look l 222) cq_185).trans rfl⟩
theorem lk_185_225 : Lk 185 225 (.aload_n 0) 0 0 (0) := ⟨1, 0, (congrArg (fun l => pm_look l 225) cq_185).trans rfl⟩
theorem lk_185_226 : Lk 185 226 (.getfield 169) 12 25 (0) := ⟨3, 1282, (congrArg (fun l => pm_look l 226) cq_185).trans rfl⟩
theorem lk_185_229 : Lk 185 229 (.isub) 0 0 (0) := ⟨1, 0, (congrArg (fun l => pm_look l 229) cq_185).trans rfl⟩
theorem lk_185_230 : Lk 185 230 (.bipush 6) 0 0 (0) := ⟨2, 0, (congrArg (fun l => pm_look l 230) cq_185).trans rfl⟩
theorem lk_185_232 : Lk 185 232 (.if_icmp .le 7) 0 0 (0) := ⟨3, 0, (congrArg (fun l => pm_look l 232) cq_185).trans rfl⟩
theorem lk_185_235 : Lk 185 235 (.iconst 4) 0 0 (0) := ⟨1, 0, (congrArg (fun l => pm_look l 235) cq_185).trans rfl⟩
theorem lk_185_236 : Lk 185 236 (.goto 4) 0 0 (0) := ⟨3, 0, (congrArg (fun l => pm_look l 236) cq_185).trans rfl⟩
theorem lk_185_239 : Lk 185 239 (.iconst 2) 0 0 (0) := ⟨1, 0, (congrArg (fun l => pm_look l 239) cq_185).trans rfl⟩
set_option maxRecDepth 100000 in
theorem lk_185_240 : Lk 185 240 (.putfield 166) 12 27 (0) := ⟨3, 1284, (congrArg (fun l => pm_look l 240) cq_185).trans rfl⟩
set_option maxRecDepth 100000 in
theorem lk_185_243 : Lk 185 243 (.goto 28) 0 0 (0) := ⟨3, 0, (congrArg (fun l => pm_look l 243) cq_185).trans rfl⟩
set_option maxRecDepth 100000 in
theorem lk_185_246 : Lk 185 246 (.aload_n 0) 0 0 (0) := ⟨1, 0, (congrArg (fun l => pm_look l 246) cq_185).trans rfl⟩
set_option maxRecDepth 100000 in
theorem lk_185_247 : Lk 185 247 (.dup) 0 0 (0) := ⟨1, 0, (congrArg (fun l => pm_look l 247) cq_185).trans rfl⟩
set_option maxRecDepth 100000 in
theorem lk_185_248 : Lk 185 248 (.getfield 179) 12 26 (0) := ⟨3, 1283, (congrArg (fun l => pm_look l 248) cq_185).trans rfl⟩
set_option maxRecDepth 100000 in
theorem lk_185_251 : Lk 185 251 (.iconst 1) 0 0 (0) := ⟨1, 0, (congrArg (fun l => pm_look l 251) cq_185).trans rfl⟩
set_option maxRecDepth 100000 in
theorem lk_185_252 : Lk 185 252 (.iadd) 0 0 (0) := ⟨1, 0, (congrArg (fun l => pm_look l 252) cq_185).trans rfl⟩
set_option maxRecDepth 100000 in
theorem lk_185_253 : Lk 185 253 (.putfield 179) 12 26 (0) := ⟨3, 1283, (congrArg (fun l => pm_look l 253) cq_185).trans rfl⟩
set_option maxRecDepth 100000 in
theorem lk_185_256 : Lk 185 256 (.aload_n 0) 0 0 (0) := ⟨1, 0, (congrArg (fun l => pm_look l 256) cq_185).trans rfl⟩
set_option maxRecDepth 100000 in
theorem lk_185_257 : Lk 185 257 (.iload_n 1) 0 0 (0) := ⟨1, 0, (congrArg (fun l => pm_look l 257) cq_185).trans rfl⟩
set_option maxRecDepth 100000 in
theorem lk_185_258 : Lk 185 258 (.bipush 59) 0 0 (0) := ⟨2, 0, (congrArg (fun l => pm_look l 258) cq_185).trans rfl⟩
set_option maxRecDepth 100000 in
theorem lk_185_260 : Lk 185 260 (.if_icmp .ne 7) 0 0 (0) := ⟨3, 0, (congrArg (fun l => pm_look l 260) cq_185).trans rfl⟩
set_option maxRecDepth 100000 in
theorem lk_185_263 : Lk 185 263 (.iconst 3) 0 0 (0) := ⟨1, 0, (congrArg (fun l => pm_look l 263) cq_185).trans rfl⟩
set_option maxRecDepth 100000 in
theorem lk_185_264 : Lk 185 264 (.goto 4) 0 0 (0) := ⟨3, 0, (congrArg (fun l => pm_look l 264) cq_185).trans rfl⟩
set_option maxRecDepth 100000 in
theorem lk_185_267 : Lk 185 267 (.iconst 4) 0 0 (0) := ⟨1, 0, (congrArg (fun l => pm_look l 267) cq_185).trans rfl⟩
set_option maxRecDepth 100000 in
theorem lk_185_268 : Lk 185 268 (.putfield 166) 12 27 (0) := ⟨3, 1284, (congrArg (fun l => pm_look l 268) cq_185).trans rfl⟩
set_option maxRecDepth 100000 in
theorem lk_185_271 : Lk 185 271 (.return_) 0 0 (0) := ⟨1, 0, (congrArg (fun l => pm_look l 271) cq_185).trans rfl⟩
theorem cq_186 : pm_code 186 = cd_186 := rfl
theorem lk_186_0 : Lk 186 0 (.aload_n 0) 0 0 (0) := ⟨1, 0, (congrArg (fun l => pm_look l 0) cq_186).trans rfl⟩
theorem lk_186_1 : Lk 186 1 (.getfield 166) 12 27 (0) := ⟨3, 1284, (congrArg (fun l => pm_look l 1) cq_186).trans rfl⟩
theorem lk_186_4 : Lk 186 4 (.iconst 1) 0 0 (0) := ⟨1, 0, (congrArg (fun l => pm_look l 4) cq_186).trans rfl⟩
theorem lk_186_5 : Lk 186 5 (.if_icmp .ne 15) 0 0 (0) := ⟨3, 0, (congrArg (fun l => pm_look l 5) cq_186).trans rfl⟩
theorem lk_186_8 : Lk 186 8 (.aload_n 0) 0 0 (0) := ⟨1, 0, (congrArg (fun l => pm_look l 8) cq_186).trans rfl⟩
theorem lk_186_9 : Lk 186 9 (.getfield 186) 12 28 (0) := ⟨3, 1285, (congrArg (fun l => pm_look l 9) cq_186).trans rfl⟩
theorem lk_186_12 : Lk 186 12 (.iload_n 1) 0 0 (0) := ⟨1, 0, (congrArg (fun l => pm_look l 12) cq_186).trans rfl⟩
theorem lk_186_13 : Lk 186 13 (.if_icmp .ne 7) 0 0 (0) := ⟨3, 0, (congrArg (fun l => pm_look l 13) cq_186).trans rfl⟩
theorem lk_186_16 : Lk 186 16 (.iconst 1) 0 0 (0) := ⟨1, 0, (congrArg (fun l => pm_look l 16) cq_186).trans rfl⟩
theorem lk_186_17 : Lk 186 17 (.goto 4) 0 0 (0) := ⟨3, 0, (congrArg (fun l => pm_look l 17) cq_186).trans rfl⟩
theorem lk_186_20 : Lk 186 20 (.iconst 0) 0 0 (0) := ⟨1, 0, (congrArg (fun l => pm_look l 20) cq_186).trans rfl⟩
theorem lk_186_21 : Lk 186 21 (.ireturn) 1 0 (0) := ⟨1, 0, (congrArg (fun l => pm_look l 21) cq_186).trans rfl⟩
theorem cq_187 : pm_code 187 = cd_187 := rfl
theorem lk_187_0 : Lk 187 0 (.aload_n 0) 0 0 (0) := ⟨1, 0, (congrArg (fun l => pm_look l 0) cq_187).trans rfl⟩
theorem lk_187_1 : Lk 187 1 (.ldc 196) 0 0 (398374) := ⟨2, 1546, (congrArg (fun l => pm_look l 1) cq_187).trans rfl⟩
theorem lk_187_3 : Lk 187 3 (.invokevirtual 197) 186 0 (0) := ⟨3, 1525, (congrArg (fun l => pm_look l 3) cq_187).trans rfl⟩
theorem lk_187_6 : Lk 187 6 (.ifCond .ne 19) 0 0 (0) := ⟨3, 0, (congrArg (fun l => pm_look l 6) cq_187).trans rfl⟩
theorem lk_187_9 : Lk 187 9 (.aload_n 0) 0 0 (0) := ⟨1, 0, (congrArg (fun l => pm_look l 9) cq_187).trans rfl⟩
theorem lk_187_10 : Lk 187 10 (.iconst 1) 0 0 (0) := ⟨1, 0, (congrArg (fun l => pm_look l 10) cq_187).trans rfl⟩
theorem lk_187_11 : Lk 187 11 (.invokevirtual 197) 186 0 (0) := ⟨3, 1525, (congrArg (fun l => pm_look l 11) cq_187).trans rfl⟩
theorem lk_187_14 : Lk 187 14 (.ifCond .ne 11) 0 0 (0) := ⟨3, 0, (congrArg (fun l => pm_look l 14) cq_187).trans rfl⟩
theorem lk_187_17 : Lk 187 17 (.aload_n 0) 0 0 (0) := ⟨1, 0, (congrArg (fun l => pm_look l 17) cq_187).trans rfl⟩
theorem lk_187_18 : Lk 187 18 (.iconst 2) 0 0 (0) := ⟨1, 0, (congrArg (fun l => pm_look l 18) cq_187).trans rfl⟩
theorem lk_187_19 : Lk 187 19 (.invokevirtual 197) 186 0 (0) := ⟨3, 1525, (congrArg (fun l => pm_look l 19) cq_187).trans rfl⟩
theorem lk_187_22 : Lk 187 22 (.ifCond .eq 7) 0 0 (0) := ⟨3, 0, (congrArg (fun l => pm_look l 22) cq_187).trans rfl⟩
theorem lk_187_25 : Lk 187 25 (.iconst 1) 0 0 (0) := ⟨1, 0, (congrArg (fun l => pm_look l 25) cq_187).trans rfl⟩
theorem lk_187_26 : Lk 187 26 (.goto 4) 0 0 (0) := ⟨3, 0, (congrArg (fun l => pm_look l 26) cq_187).trans rfl⟩
theorem lk_187_29 : Lk 187 29 (.iconst 0) 0 0 (0) := ⟨1, 0, (congrArg (fun l => pm_look l 29) cq_187).trans rfl⟩
theorem lk_187_30 : Lk 187 30 (.ireturn) 1 0 (0) := ⟨1, 0, (congrArg (fun l => pm_look l 30) cq_187).trans rfl⟩
theorem cq_188 : pm_code 188 = cd_188 := rfl
theorem lk_188_0 : Lk 188 0 (.aload_n 0) 0 0 (0) := ⟨1, 0, (congrArg (fun l => pm_look l 0) cq_188).trans rfl⟩
theorem lk_188_1 : Lk 188 1 (.getfield 166) 12 27 (0) := ⟨3, 1284, (congrArg (fun l => pm_look l 1) cq_188).trans rfl⟩
theorem lk_188_4 : Lk 188 4 (.iconst 1) 0 0 (0) := ⟨1, 0, (congrArg (fun l => pm_look l 4) cq_188).trans rfl⟩
theorem lk_188_5 : Lk 188 5 (.if_icmp .ne 32) 0 0 (0) := ⟨3, 0, (congrArg (fun l => pm_look l 5) cq_188).trans rfl⟩
theorem lk_188_8 : Lk 188 8 (.aload_n 0) 0 0 (0) := ⟨1, 0, (congrArg (fun l => pm_look l 8) cq_188).trans rfl⟩
theorem lk_188_9 : Lk 188 9 (.invokevirtual 200) 187 0 (0) := ⟨3, 1542, (congrArg (fun l => pm_look l 9) cq_188).trans rfl⟩
theorem lk_188_12 : Lk 188 12 (.ifCond .ne 25) 0 0 (0) := ⟨3, 0, (congrArg (fun l => pm_look l 12) cq_188).trans rfl⟩
theorem lk_188_15 : Lk 188 15 (.aload_n 0) 0 0 (0) := ⟨1, 0, (congrArg (fun l => pm_look l 15) cq_188).trans rfl⟩
theorem lk_188_16 : Lk 188 16 (.ldc 203) 0 0 (114292) := ⟨2, 1524, (congrArg (fun l => pm_look l 16) cq_188).trans rfl⟩
theorem lk_188_18 : Lk 188 18 (.invokevirtual 197) 186 0 (0) := ⟨3, 1525, (congrArg (fun l => pm_look l 18) cq_188).trans rfl⟩
theorem lk_188_21 : Lk 188 21 (.ifCond .ne 16) 0 0 (0) := ⟨3, 0, (congrArg (fun l => pm_look l 21) cq_188).trans rfl⟩
theorem lk_188_24 : Lk 188 24 (.aload_n 0) 0 0 (0) := ⟨1, 0, (congrArg (fun l => pm_look l 24) cq_188).trans rfl⟩
theorem lk_188_25 : Lk 188 25 (.ldc 204) 0 0 (673957) := ⟨2, 1533, (congrArg (fun l => pm_look l 25) cq_188).trans rfl⟩
theorem lk_188_27 : Lk 188 27 (.invokevirtual 197) 186 0 (0) := ⟨3, 1525, (congrArg (fun l => pm_look l 27) cq_188).trans rfl⟩
theorem lk_188_30 : Lk 188 30 (.ifCond .ne 7) 0 0 (0) := ⟨3, 0, (congrArg (fun l => pm_look l 30) cq_188).trans rfl⟩
theorem lk_188_33 : Lk 188 33 (.iconst 1) 0 0 (0) := ⟨1, 0, (congrArg (fun l => pm_look l 33) cq_188).trans rfl⟩
theorem lk_188_34 : Lk 188 34 (.goto 4) 0 0 (0) := ⟨3, 0, (congrArg (fun l => pm_look l 34) cq_188).trans rfl⟩
theorem lk_188_37 : Lk 188 37 (.iconst 0) 0 0 (0) := ⟨1, 0, (congrArg (fun l => pm_look l 37) cq_188).trans rfl⟩
theorem lk_188_38 : Lk 188 38 (.ireturn) 1 0 (0) := ⟨1, 0, (congrArg (fun l => pm_look l 38) cq_188).trans rfl⟩
theorem cq_189 : pm_code 189 = cd_189 := rfl
theorem lk_189_0 : Lk 189 0 (.aload_n 0) 0 0 (0) := ⟨1, 0, (congrArg (fun l => pm_look l 0) cq_189).trans rfl⟩
theorem lk_189_1 : Lk 189 1 (.invokevirtual 175) 183 0 (0) := ⟨3, 1494, (congrArg (fun l => pm_look l 1) cq_189).trans rfl⟩
theorem lk_189_4 : Lk 189 4 (.ifCond .eq 16) 0 0 (0) := ⟨3, 0, (congrArg (fun l => pm_look l 4) cq_189).trans rfl⟩
theorem lk_189_7 : Lk 189 7 (.aload_n 0) 0 0 (0) := ⟨1, 0, (congrArg (fun l => pm_look l 7) cq_189).trans rfl⟩
theorem lk_189_8 : Lk 189 8 (.getfield 166) 12 27 (0) := ⟨3, 1284, (congrArg (fun l => pm_look l 8) cq_189).trans rfl⟩
theorem lk_189_11 : Lk 189 11 (.iconst 3) 0 0 (0) := ⟨1, 0, (congrArg (fun l => pm_look l 11) cq_189).trans rfl⟩
theorem lk_189_12 : Lk 189 12 (.if_icmp .eq 8) 0 0 (0) := ⟨3, 0, (congrArg (fun l => pm_look l 12) cq_189).trans rfl⟩
theorem lk_189_15 : Lk 189 15 (.aload_n 0) 0 0 (0) := ⟨1, 0, (congrArg (fun l => pm_look l 15) cq_189).trans rfl⟩
theorem lk_189_16 : Lk 189 16 (.iconst 2) 0 0 (0) := ⟨1, 0, (congrArg (fun l => pm_look l 16) cq_189).trans rfl⟩
theorem lk_189_17 : Lk 189 17 (.invokevirtual 205) 184 0 (0) := ⟨3, 1508, (congrArg (fun l => pm_look l 17) cq_189).trans rfl⟩
theorem lk_189_20 : Lk 189 20 (.aload_n 0) 0 0 (0) := ⟨1, 0, (congrArg (fun l => pm_look l 20) cq_189).trans rfl⟩
theorem lk_189_21 : Lk 189 21 (.invokevirtual 208) 185 0 (0) := ⟨3, 1490, (congrArg (fun l => pm_look l 21) cq_189).trans rfl⟩
theorem lk_189_24 : Lk 189 24 (.return_) 0 0 (0) := ⟨1, 0, (congrArg (fun l => pm_look l 24) cq_189).trans rfl⟩
theorem cq_190 : pm_code 190 = cd_190 := rfl
theorem lk_190_0 : Lk 190 0 (.aload_n 0) 0 0 (0) := ⟨1, 0, (congrArg (fun l => pm_look l 0) cq_190).trans rfl⟩
theorem lk_190_1 : Lk 190 1 (.getfield 179) 12 26 (0) := ⟨3, 1283, (congrArg (fun l => pm_look l 1) cq_190).trans rfl⟩
theorem lk_190_4 : Lk 190 4 (.aload_n 0) 0 0 (0) := ⟨1, 0, (congrArg (fun l => pm_look l 4) cq_190).trans rfl⟩
theorem lk_190_5 : Lk 190 5 (.getfield 169) 12 25 (0) := ⟨3, 1282, (congrArg (fun l => pm_look l 5) cq_190).trans rfl⟩
theorem lk_190_8 : Lk 190 8 (.isub) 0 0 (0) := ⟨1, 0, (congrArg (fun l => pm_look l 8) cq_190).trans rfl⟩
theorem lk_190_9 : Lk 190 9 (.istore_n 1) 0 0 (0) := ⟨1, 0, (congrArg (fun l => pm_look l 9) cq_190).trans rfl⟩
theorem lk_190_10 : Lk 190 10 (.aload_n 0) 0 0 (0) := ⟨1, 0, (congrArg (fun l => pm_look l 10) cq_190).trans rfl⟩
theorem lk_190_11 : Lk 190 11 (.getfield 211) 12 4 (0) := ⟨3, 1261, (congrArg (fun l => pm_look l 11) cq_190).trans rfl⟩
theorem lk_190_14 : Lk 190 14 (.ifCond .le 19) 0 0 (0) := ⟨3, 0, (congrArg (fun l => pm_look l 14) cq_190).trans rfl⟩
theorem lk_190_17 : Lk 190 17 (.iload_n 1) 0 0 (0) := ⟨1, 0, (congrArg (fun l => pm_look l 17) cq_190).trans rfl⟩
theorem lk_190_18 : Lk 190 18 (.aload_n 0) 0 0 (0) := ⟨1, 0, (congrArg (fun l => pm_look l 18) cq_190).trans rfl⟩
theorem lk_190_19 : Lk 190 19 (.getfield 214) 12 5 (0) := ⟨3, 1262, (congrArg (fun l => pm_look l 19) cq_190).trans rfl⟩
theorem lk_190_22 : Lk 190 22 (.if_icmp .eq 11) 0 0 (0) := ⟨3, 0, (congrArg (fun l => pm_look l 22) cq_190).trans rfl⟩
theorem lk_190_25 : Lk 190 25 (.aload_n 0) 0 0 (0) := ⟨1, 0, (congrArg (fun l => pm_look l 25) cq_190).trans rfl⟩
theorem lk_190_26 : Lk 190 26 (.iconst 4) 0 0 (0) := ⟨1, 0, (congrArg (fun l => pm_look l 26) cq_190).trans rfl⟩
theorem lk_190_27 : Lk 190 27 (.invokevirtual 205) 184 0 (0) := ⟨3, 1508, (congrArg (fun l => pm_look l 27) cq_190).trans rfl⟩
theorem lk_190_30 : Lk 190 30 (.goto 17) 0 0 (0) := ⟨3, 0, (congrArg (fun l => pm_look l 30) cq_190).trans rfl⟩
theorem lk_190_33 : Lk 190 33 (.aload_n 0) 0 0 (0) := ⟨1, 0, (congrArg (fun l => pm_look l 33) cq_190).trans rfl⟩
theorem lk_190_34 : Lk 190 34 (.getfield 211) 12 4 (0) := ⟨3, 1261, (congrArg (fun l => pm_look l 34) cq_190).trans rfl⟩
theorem lk_190_37 : Lk 190 37 (.bipush 6) 0 0 (0) := ⟨2, 0, (congrArg (fun l => pm_look l 37) cq_190).trans rfl⟩
theorem lk_190_39 : Lk 190 39 (.if_icmp .ne 8) 0 0 (0) := ⟨3, 0, (congrArg (fun l => pm_look l 39) cq_190).trans rfl⟩
theorem lk_190_42 : Lk 190 42 (.aload_n 0) 0 0 (0) := ⟨1, 0, (congrArg (fun l => pm_look l 42) cq_190).trans rfl⟩
theorem lk_190_43 : Lk 190 43 (.iconst 5) 0 0 (0) := ⟨1, 0, (congrArg (fun l => pm_look l 43) cq_190).trans rfl⟩
theorem lk_190_44 : Lk 190 44 (.invokevirtual 205) 184 0 (0) := ⟨3, 1508, (congrArg (fun l => pm_look l 44) cq_190).trans rfl⟩
theorem lk_190_47 : Lk 190 47 (.aload_n 0) 0 0 (0) := ⟨1, 0, (congrArg (fun l => pm_look l 47) cq_190).trans rfl⟩
theorem lk_190_48 : Lk 190 48 (.invokevirtual 175) 183 0 (0) := ⟨3, 1494, (congrArg (fun l => pm_look l 48) cq_190).trans rfl⟩
theorem lk_190_51 : Lk 190 51 (.ifCond .ne 4) 0 0 (0) := ⟨3, 0, (congrArg (fun l => pm_look l 51) cq_190).trans rfl⟩
theorem lk_190_54 : Lk 190 54 (.return_) 0 0 (0) := ⟨1, 0, (congrArg (fun l => pm_look l 54) cq_190).trans rfl⟩
theorem lk_190_55 : Lk 190 55 (.aload_n 0) 0 0 (0) := ⟨1, 0, (congrArg (fun l => pm_look l 55) cq_190).trans rfl⟩
theorem lk_190_56 : Lk 190 56 (.iload_n 1) 0 0 (0) := ⟨1, 0, (congrArg (fun l => pm_look l 56) cq_190).trans rfl⟩
theorem lk_190_57 : Lk 190 57 (.putfield 214) 12 5 (0) := ⟨3, 1262, (congrArg (fun l => pm_look l 57) cq_190).trans rfl⟩
theorem lk_190_60 : Lk 190 60 (.iconst 0) 0 0 (0) := ⟨1, 0, (congrArg (fun l => pm_look l 60) cq_190).trans rfl⟩
theorem lk_190_61 : Lk 190 61 (.istore_n 2) 0 0 (0) := ⟨1, 0, (congrArg (fun l => pm_look l 61) cq_190).trans rfl⟩
theorem lk_190_62 : Lk 190 62 (.iload_n 2) 0 0 (0) := ⟨1, 0, (congrArg (fun l => pm_look l 62) cq_190).trans rfl⟩
theorem lk_190_63 : Lk 190 63 (.iload_n 1) 0 0 (0) := ⟨1, 0, (congrArg (fun l => pm_look l 63) cq_190).trans rfl⟩
theorem lk_190_64 : Lk 190 64 (.if_icmp .ge 49) 0 0 (0) := ⟨3, 0, (congrArg (fun l => pm_look l 64) cq_190).trans rfl⟩
theorem lk_190_67 : Lk 190 67 (.aload_n 0) 0 0 (0) := ⟨1, 0, (congrArg (fun l => pm_look l 67) cq_190).trans rfl⟩
theorem lk_190_68 : Lk 190 68 (.aload_n 0) 0 0 (0) := ⟨1, 0, (congrArg (fun l => pm_look l 68) cq_190).trans rfl⟩
theorem lk_190_69 : Lk 190 69 (.getfield 169) 12 25 (0) := ⟨3, 1282, (congrArg (fun l => pm_look l 69) cq_190).trans rfl⟩
theorem lk_190_72 : Lk 190 72 (.iload_n 2) 0 0 (0) := ⟨1, 0, (congrArg (fun l => pm_look l 72) cq_190).trans rfl⟩
theorem lk_190_73 : Lk 190 73 (.iadd) 0 0 (0) := ⟨1, 0, (congrArg (fun l => pm_look l 73) cq_190).trans rfl⟩
theorem lk_190_74 : Lk 190 74 (.invokevirtual 182) 180 0 (0) := ⟨3, 1498, (congrArg (fun l => pm_look l 74) cq_190).trans rfl⟩
theorem lk_190_77 : Lk 190 77 (.istore_n 3) 0 0 (0) := ⟨1, 0, (congrArg (fun l => pm_look l 77) cq_190).trans rfl⟩
theorem lk_190_78 : Lk 190 78 (.aload_n 0) 0 0 (0) := ⟨1, 0, (congrArg (fun l => pm_look l 78) cq_190).trans rfl⟩
theorem lk_190_79 : Lk 190 79 (.getfield 20) 12 8 (2) := ⟨3, 1265, (congrArg (fun l => pm_look l 79) cq_190).trans rfl⟩
theorem lk_190_82 : Lk 190 82 (.bipush 6) 0 0 (0) := ⟨2, 0, (congrArg (fun l => pm_look l 82) cq_190).trans rfl⟩
theorem lk_190_84 : Lk 190 84 (.aload_n 0) 0 0 (0) := ⟨1, 0, (congrArg (fun l => pm_look l 84) cq_190).trans rfl⟩
theorem lk_190_85 : Lk 190 85 (.getfield 211) 12 4 (0) := ⟨3, 1261, (congrArg (fun l => pm_look l 85) cq_190).trans rfl⟩
theorem lk_190_88 : Lk 190 88 (.imul) 0 0 (0) := ⟨1, 0, (congrArg (fun l => pm_look l 88) cq_190).trans rfl⟩
theorem lk_190_89 : Lk 190 89 (.iload_n 2) 0 0 (0) := ⟨1, 0, (congrArg (fun l => pm_look l 89) cq_190).trans rfl⟩
theorem lk_190_90 : Lk 190 90 (.iadd) 0 0 (0) := ⟨1, 0, (congrArg (fun l => pm_look l 90) cq_190).trans rfl⟩
theorem lk_190_91 : Lk 190 91 (.iload_n 3) 0 0 (0) := ⟨1, 0, (congrArg (fun l => pm_look l 91) cq_190).trans rfl⟩
theorem lk_190_92 : Lk 190 92 (.bipush 46) 0 0 (0) := ⟨2, 0, (congrArg (fun l => pm_look l 92) cq_190).trans rfl⟩
theorem lk_190_94 : Lk 190 94 (.if_icmp .ne 8) 0 0 (0) := ⟨3, 0, (congrArg (fun l => pm_look l 94) cq_190).trans rfl⟩
theorem lk_190_97 : Lk 190 97 (.bipush 10) 0 0 (0) := ⟨2, 0, (congrArg (fun l => pm_look l 97) cq_190).trans rfl⟩
theorem lk_190_99 : Lk 190 99 (.goto 7) 0 0 (0) := ⟨3, 0, (congrArg (fun l => pm_look l 99) cq_190).trans rfl⟩
theorem lk_190_102 : Lk 190 102 (.iload_n 3) 0 0 (0) := ⟨1, 0, (congrArg (fun l => pm_look l 102) cq_190).trans rfl⟩
theorem lk_190_103 : Lk 190 103 (.bipush 48) 0 0 (0) := ⟨2, 0, (congrArg (fun l => pm_look l 103) cq_190).trans rfl⟩
theorem lk_190_105 : Lk 190 105 (.isub) 0 0 (0) := ⟨1, 0, (congrArg (fun l => pm_look l 105) cq_190).trans rfl⟩
theorem lk_190_106 : Lk 190 106 (.iastore) 0 0 (0) := ⟨1, 0, (congrArg (fun l => pm_look l 106) cq_190).trans rfl⟩
theorem lk_190_107 : Lk 190 107 (.iinc 2 1) 0 0 (0) := ⟨3, 0, (congrArg (fun l => pm_look l 107) cq_190).trans rfl⟩
theorem lk_190_110 : Lk 190 110 (.goto (-48)) 0 0 (0) := ⟨3, 0, (congrArg (fun l => pm_look l 110) cq_190).trans rfl⟩
theorem lk_190_113 : Lk 190 113 (.aload_n 0) 0 0 (0) := ⟨1, 0, (congrArg (fun l => pm_look l 113) cq_190).trans rfl⟩
theorem lk_190_114 : Lk 190 114 (.dup) 0 0 (0) := ⟨1, 0, (congrArg (fun l => pm_look l 114) cq_190).trans rfl⟩
theorem lk_190_115 : Lk 190 115 (.getfield 211) 12 4 (0) := ⟨3, 1261, (congrArg (fun l => pm_look l 115) cq_190).trans rfl⟩
theorem lk_190_118 : Lk 190 118 (.iconst 1) 0 0 (0) := ⟨1, 0, (congrArg (fun l => pm_look l 118) cq_190).trans rfl⟩
theorem lk_190_119 : Lk 190 119 (.iadd) 0 0 (0) := ⟨1, 0, (congrArg (fun l => pm_look l 119) cq_190).trans rfl⟩
theorem lk_190_120 : Lk 190 120 (.putfield 211) 12 4 (0) := ⟨3, 1261, (congrArg (fun l => pm_look l 120) cq_190).trans rfl⟩
theorem lk_190_123 : Lk 190 123 (.aload_n 0) 0 0 (0) := ⟨1, 0, (congrArg (fun l => pm_look l 123) cq_190).trans rfl⟩
theorem lk_190_124 : Lk 190 124 (.invokevirtual 208) 185 0 (0) := ⟨3, 1490, (congrArg (fun l => pm_look l 124) cq_190).trans rfl⟩
theorem lk_190_127 : Lk 190 127 (.aload_n 0) 0 0 (0) := ⟨1, 0, (congrArg (fun l => pm_look l 127) cq_190).trans rfl⟩
theorem lk_190_128 : Lk 190 128 (.invokevirtual 217) 189 0 (0) := ⟨3, 1516, (congrArg (fun l => pm_look l 128) cq_190).trans rfl⟩
theorem lk_190_131 : Lk 190 131 (.return_) 0 0 (0) := ⟨1, 0, (congrArg (fun l => pm_look l 131) cq_190).trans rfl⟩
theorem cq_191 : pm_code 191 = cd_191 := rfl
theorem lk_191_0 : Lk 191 0 (.aload_n 0) 0 0 (0) := ⟨1, 0, (congrArg (fun l => pm_look l 0) cq_191).trans rfl⟩
theorem lk_191_1 : Lk 191 1 (.aload_n 0) 0 0 (0) := ⟨1, 0, (congrArg (fun l => pm_look l 1) cq_191).trans rfl⟩
theorem lk_191_2 : Lk 191 2 (.getfield 169) 12 25 (0) := ⟨3, 1282, (congrArg (fun l => pm_look l 2) cq_191).trans rfl⟩
theorem lk_191_5 : Lk 191 5 (.invokevirtual 182) 180 0 (0) := ⟨3, 1498, (congrArg (fun l => pm_look l 5) cq_191).trans rfl⟩
theorem lk_191_8 : Lk 191 8 (.istore_n 2) 0 0 (0) := ⟨1, 0, (congrArg (fun l => pm_look l 8) cq_191).trans rfl⟩
theorem lk_191_9 : Lk 191 9 (.aload_n 0) 0 0 (0) := ⟨1, 0, (congrArg (fun l => pm_look l 9) cq_191).trans rfl⟩
theorem lk_191_10 : Lk 191 10 (.invokevirtual 175) 183 0 (0) := ⟨3, 1494, (congrArg (fun l => pm_look l 10) cq_191).trans rfl⟩
theorem lk_191_13 : Lk 191 13 (.ifCond .eq 19) 0 0 (0) := ⟨3, 0, (congrArg (fun l => pm_look l 13) cq_191).trans rfl⟩
theorem lk_191_16 : Lk 191 16 (.aload_n 0) 0 0 (0) := ⟨1, 0, (congrArg (fun l => pm_look l 16) cq_191).trans rfl⟩
theorem lk_191_17 : Lk 191 17 (.getfield 166) 12 27 (0) := ⟨3, 1284, (congrArg (fun l => pm_look l 17) cq_191).trans rfl⟩
theorem lk_191_20 : Lk 191 20 (.iconst 2) 0 0 (0) := ⟨1, 0, (congrArg (fun l => pm_look l 20) cq_191).trans rfl⟩
theorem lk_191_21 : Lk 191 21 (.if_icmp .eq 11) 0 0 (0) := ⟨3, 0, (congrArg (fun l => pm_look l 21) cq_191).trans rfl⟩
theorem lk_191_24 : Lk 191 24 (.aload_n 0) 0 0 (0) := ⟨1, 0, (congrArg (fun l => pm_look l 24) cq_191).trans rfl⟩
theorem lk_191_25 : Lk 191 25 (.iconst 2) 0 0 (0) := ⟨1, 0, (congrArg (fun l => pm_look l 25) cq_191).trans rfl⟩
theorem lk_191_26 : Lk 191 26 (.invokevirtual 205) 184 0 (0) := ⟨3, 1508, (congrArg (fun l => pm_look l 26) cq_191).trans rfl⟩
theorem lk_191_29 : Lk 191 29 (.goto 42) 0 0 (0) := ⟨3, 0, (congrArg (fun l => pm_look l 29) cq_191).trans rfl⟩
theorem lk_191_32 : Lk 191 32 (.aload_n 0) 0 0 (0) := ⟨1, 0, (congrArg (fun l => pm_look l 32) cq_191).trans rfl⟩
theorem lk_191_33 : Lk 191 33 (.invokevirtual 175) 183 0 (0) := ⟨3, 1494, (congrArg (fun l => pm_look l 33) cq_191).trans rfl⟩
theorem lk_191_36 : Lk 191 36 (.ifCond .eq 35) 0 0 (0) := ⟨3, 0, (congrArg (fun l => pm_look l 36) cq_191).trans rfl⟩
theorem lk_191_39 : Lk 191 39 (.aload_n 0) 0 0 (0) := ⟨1, 0, (congrArg (fun l => pm_look l 39) cq_191).trans rfl⟩
theorem lk_191_40 : Lk 191 40 (.getfield 179) 12 26 (0) := ⟨3, 1283, (congrArg (fun l => pm_look l 40) cq_191).trans rfl⟩
theorem lk_191_43 : Lk 191 43 (.aload_n 0) 0 0 (0) := ⟨1, 0, (congrArg (fun l => pm_look l 43) cq_191).trans rfl⟩
theorem lk_191_44 : Lk 191 44 (.getfield 169) 12 25 (0) := ⟨3, 1282, (congrArg (fun l => pm_look l 44) cq_191).trans rfl⟩
theorem lk_191_47 : Lk 191 47 (.isub) 0 0 (0) := ⟨1, 0, (congrArg (fun l => pm_look l 47) cq_191).trans rfl⟩
theorem lk_191_48 : Lk 191 48 (.iconst 1) 0 0 (0) := ⟨1, 0, (congrArg (fun l => pm_look l 48) cq_191).trans rfl⟩
theorem lk_191_49 : Lk 191 49 (.if_icmp .gt 17) 0 0 (0) := ⟨3, 0, (congrArg (fun l => pm_look l 49) cq_191).trans rfl⟩
theorem lk_191_52 : Lk 191 52 (.iload_n 2) 0 0 (0) := ⟨1, 0, (congrArg (fun l => pm_look l 52) cq_191).trans rfl⟩
theorem lk_191_53 : Lk 191 53 (.bipush 46) 0 0 (0) := ⟨2, 0, (congrArg (fun l => pm_look l 53) cq_191).trans rfl⟩
theorem lk_191_55 : Lk 191 55 (.if_icmp .eq 11) 0 0 (0) := ⟨3, 0, (congrArg (fun l => pm_look l 55) cq_191).trans rfl⟩
theorem lk_191_58 : Lk 191 58 (.iload_n 2) 0 0 (0) := ⟨1, 0, (congrArg (fun l => pm_look l 58) cq_191).trans rfl⟩
theorem lk_191_59 : Lk 191 59 (.bipush 48) 0 0 (0) := ⟨2, 0, (congrArg (fun l => pm_look l 59) cq_191).trans rfl⟩
theorem lk_191_61 : Lk 191 61 (.isub) 0 0 (0) := ⟨1, 0, (congrArg (fun l => pm_look l 61) cq_191).trans rfl⟩
theorem lk_191_62 : Lk 191 62 (.iload_n 1) 0 0 (0) := ⟨1, 0, (congrArg (fun l => pm_look l 62) cq_191).trans rfl⟩
theorem lk_191_63 : Lk 191 63 (.if_icmp .ge 8) 0 0 (0) := ⟨3, 0, (congrArg (fun l => pm_look l 63) cq_191).trans rfl⟩
theorem lk_191_66 : Lk 191 66 (.aload_n 0) 0 0 (0) := ⟨1, 0, (congrArg (fun l => pm_look l 66) cq_191).trans rfl⟩
theorem lk_191_67 : Lk 191 67 (.iconst 4) 0 0 (0) := ⟨1, 0, (congrArg (fun l => pm_look l 67) cq_191).trans rfl⟩
theorem lk_191_68 : Lk 191 68 (.invokevirtual 205) 184 0 (0) := ⟨3, 1508, (congrArg (fun l => pm_look l 68) cq_191).trans rfl⟩
theorem lk_191_71 : Lk 191 71 (.aload_n 0) 0 0 (0) := ⟨1, 0, (congrArg (fun l => pm_look l 71) cq_191).trans rfl⟩
theorem lk_191_72 : Lk 191 72 (.invokevirtual 208) 185 0 (0) := ⟨3, 1490, (congrArg (fun l => pm_look l 72) cq_191).trans rfl⟩
theorem lk_191_75 : Lk 191 75 (.iload_n 2) 0 0 (0) := ⟨1, 0, (congrArg (fun l => pm_look l 75) cq_191).trans rfl⟩
theorem lk_191_76 : Lk 191 76 (.bipush 48) 0 0 (0) := ⟨2, 0, (congrArg (fun l => pm_look l 76) cq_191).trans rfl⟩
theorem lk_191_78 : Lk 191 78 (.isub) 0 0 (0) := ⟨1, 0, (congrArg (fun l => pm_look l 78) cq_191).trans rfl⟩
theorem lk_191_79 : Lk 191 79 (.ireturn) 0 0 (0) := ⟨1, 0, (congrArg (fun l => pm_look l 79) cq_191).trans rfl⟩
theorem cq_192 : pm_code 192 = cd_192 := rfl
theorem lk_192_0 : Lk 192 0 (.iconst 0) 0 0 (0) := ⟨1, 0, (congrArg (fun l => pm_look l 0) cq_192).trans rfl⟩
theorem lk_192_1 : Lk 192 1 (.istore_n 2) 0 0 (0) := ⟨1, 0, (congrArg (fun l => pm_look l 1) cq_192).trans rfl⟩
theorem lk_192_2 : Lk 192 2 (.aload_n 0) 0 0 (0) := ⟨1, 0, (congrArg (fun l => pm_look l 2) cq_192).trans rfl⟩
theorem lk_192_3 : Lk 192 3 (.invokevirtual 175) 183 0 (0) := ⟨3, 1494, (congrArg (fun l => pm_look l 3) cq_192).trans rfl⟩
theorem lk_192_6 : Lk 192 6 (.ifCond .eq 16) 0 0 (0) := ⟨3, 0, (congrArg (fun l => pm_look l 6) cq_192).trans rfl⟩
theorem lk_192_9 : Lk 192 9 (.aload_n 0) 0 0 (0) := ⟨1, 0, (congrArg (fun l => pm_look l 9) cq_192).trans rfl⟩
theorem lk_192_10 : Lk 192 10 (.getfield 166) 12 27 (0) := ⟨3, 1284, (congrArg (fun l => pm_look l 10) cq_192).trans rfl⟩
theorem lk_192_13 : Lk 192 13 (.iconst 2) 0 0 (0) := ⟨1, 0, (congrArg (fun l => pm_look l 13) cq_192).trans rfl⟩
theorem lk_192_14 : Lk 192 14 (.if_icmp .eq 8) 0 0 (0) := ⟨3, 0, (congrArg (fun l => pm_look l 14) cq_192).trans rfl⟩
theorem lk_192_17 : Lk 192 17 (.aload_n 0) 0 0 (0) := ⟨1, 0, (congrArg (fun l => pm_look l 17) cq_192).trans rfl⟩
theorem lk_192_18 : Lk 192 18 (.iconst 2) 0 0 (0) := ⟨1, 0, (congrArg (fun l => pm_look l 18) cq_192).trans rfl⟩
theorem lk_192_19 : Lk 192 19 (.invokevirtual 205) 184 0 (0) := ⟨3, 1508, (congrArg (fun l => pm_look l 19) cq_192).trans rfl⟩
theorem lk_192_22 : Lk 192 22 (.aload_n 0) 0 0 (0) := ⟨1, 0, (congrArg (fun l => pm_look l 22) cq_192).trans rfl⟩
theorem lk_192_23 : Lk 192 23 (.getfield 169) 12 25 (0) := ⟨3, 1282, (congrArg (fun l => pm_look l 23) cq_192).trans rfl⟩
theorem lk_192_26 : Lk 192 26 (.istore_n 3) 0 0 (0) := ⟨1, 0, (congrArg (fun l => pm_look l 26) cq_192).trans rfl⟩
theorem lk_192_27 : Lk 192 27 (.iload_n 3) 0 0 (0) := ⟨1, 0, (congrArg (fun l => pm_look l 27) cq_192).trans rfl⟩
theorem lk_192_28 : Lk 192 28 (.aload_n 0) 0 0 (0) := ⟨1, 0, (congrArg (fun l => pm_look l 28) cq_192).trans rfl⟩
theorem lk_192_29 : Lk 192 29 (.getfield 179) 12 26 (0) := ⟨3, 1283, (congrArg (fun l => pm_look l 29) cq_192).trans rfl⟩
theorem lk_192_32 : Lk 192 32 (.if_icmp .ge 60) 0 0 (0) := ⟨3, 0, (congrArg (fun l => pm_look l 32) cq_192).trans rfl⟩
theorem lk_192_35 : Lk 192 35 (.aload_n 0) 0 0 (0) := ⟨1, 0, (congrArg (fun l => pm_look l 35) cq_192).trans rfl⟩
theorem lk_192_36 : Lk 192 36 (.invokevirtual 175) 183 0 (0) := ⟨3, 1494, (congrArg (fun l => pm_look l 36) cq_192).trans rfl⟩
theorem lk_192_39 : Lk 192 39 (.ifCond .eq 53) 0 0 (0) := ⟨3, 0, (congrArg (fun l => pm_look l 39) cq_192).trans rfl⟩
theorem lk_192_42 : Lk 192 42 (.aload_n 0) 0 0 (0) := ⟨1, 0, (congrArg (fun l => pm_look l 42) cq_192).trans rfl⟩
theorem lk_192_43 : Lk 192 43 (.iload_n 3) 0 0 (0) := ⟨1, 0, (congrArg (fun l => pm_look l 43) cq_192).trans rfl⟩
theorem lk_192_44 : Lk 192 44 (.invokevirtual 182) 180 0 (0) := ⟨3, 1498, (congrArg (fun l => pm_look l 44) cq_192).trans rfl⟩
theorem lk_192_47 : Lk 192 47 (.bipush 48) 0 0 (0) := ⟨2, 0, (congrArg (fun l => pm_look l 47) cq_192).trans rfl⟩
theorem lk_192_49 : Lk 192 49 (.isub) 0 0 (0) := ⟨1, 0, (congrArg (fun l => pm_look l 49) cq_192).trans rfl⟩
theorem lk_192_50 : Lk 192 50 (.istore 4) 0 0 (0) := ⟨2, 0, (congrArg (fun l => pm_look l 50) cq_192).trans rfl⟩
theorem lk_192_52 : Lk 192 52 (.iload 4) 0 0 (0) := ⟨2, 0, (congrArg (fun l => pm_look l 52) cq_192).trans rfl⟩
theorem lk_192_54 : Lk 192 54 (.iconst 0) 0 0 (0) := ⟨1, 0, (congrArg (fun l => pm_look l 54) cq_192).trans rfl⟩
theorem lk_192_55 : Lk 192 55 (.iload_n 1) 0 0 (0) := ⟨1, 0, (congrArg (fun l => pm_look l 55) cq_192).trans rfl⟩
theorem lk_192_56 : Lk 192 56 (.iconst 1) 0 0 (0) := ⟨1, 0, (congrArg (fun l => pm_look l 56) cq_192).trans rfl⟩
theorem lk_192_57 : Lk 192 57 (.isub) 0 0 (0) := ⟨1, 0, (congrArg (fun l => pm_look l 57) cq_192).trans rfl⟩
theorem lk_192_58 : Lk 192 58 (.invokestatic 146) 167 0 (0) := ⟨3, 1483, (congrArg (fun l => pm_look l 58) cq_192).trans rfl⟩
theorem lk_192_61 : Lk 192 61 (.ifCond .eq 10) 0 0 (0) := ⟨3, 0, (congrArg (fun l => pm_look l 61) cq_192).trans rfl⟩
theorem lk_192_64 : Lk 192 64 (.iload_n 2) 0 0 (0) := ⟨1, 0, (congrArg (fun l => pm_look l 64) cq_192).trans rfl⟩
theorem lk_192_65 : Lk 192 65 (.iload 4) 0 0 (0) := ⟨2, 0, (congrArg (fun l => pm_look l 65) cq_192).trans rfl⟩
theorem lk_192_67 : Lk 192 67 (.ishr) 0 0 (0) := ⟨1, 0, (congrArg (fun l => pm_look l 67) cq_192).trans rfl⟩
theorem lk_192_68 : Lk 192 68 (.ifCond .eq 11) 0 0 (0) := ⟨3, 0, (congrArg (fun l => pm_look l 68) cq_192).trans rfl⟩
theorem lk_192_71 : Lk 192 71 (.aload_n 0) 0 0 (0) := ⟨1, 0, (congrArg (fun l => pm_look l 71) cq_192).trans rfl⟩
theorem lk_192_72 : Lk 192 72 (.iconst 4) 0 0 (0) := ⟨1, 0, (congrArg (fun l => pm_look l 72) cq_192).trans rfl⟩
theorem lk_192_73 : Lk 192 73 (.invokevirtual 205) 184 0 (0) := ⟨3, 1508, (congrArg (fun l => pm_look l 73) cq_192).trans rfl⟩
theorem lk_192_76 : Lk 192 76 (.goto 10) 0 0 (0) := ⟨3, 0, (congrArg (fun l => pm_look l 76) cq_192).trans rfl⟩
theorem lk_192_79 : Lk 192 79 (.iload_n 2) 0 0 (0) := ⟨1, 0, (congrArg (fun l => pm_look l 79) cq_192).trans rfl⟩
theorem lk_192_80 : Lk 192 80 (.iconst 1) 0 0 (0) := ⟨1, 0, (congrArg (fun l => pm_look l 80) cq_192).trans rfl⟩
theorem lk_192_81 : Lk 192 81 (.iload 4) 0 0 (0) := ⟨2, 0, (congrArg (fun l => pm_look l 81) cq_192).trans rfl⟩
theorem lk_192_83 : Lk 192 83 (.ishl) 0 0 (0) := ⟨1, 0, (congrArg (fun l => pm_look l 83) cq_192).trans rfl⟩
theorem lk_192_84 : Lk 192 84 (.ior) 0 0 (0) := ⟨1, 0, (congrArg (fun l => pm_look l 84) cq_192).trans rfl⟩
theorem lk_192_85 : Lk 192 85 (.istore_n 2) 0 0 (0) := ⟨1, 0, (congrArg (fun l => pm_look l 85) cq_192).trans rfl⟩
theorem lk_192_86 : Lk 192 86 (.iinc 3 1) 0 0 (0) := ⟨3, 0, (congrArg (fun l => pm_look l 86) cq_192).trans rfl⟩
theorem lk_192_89 : Lk 192 89 (.goto (-62)) 0 0 (0) := ⟨3, 0, (congrArg (fun l => pm_look l 89) cq_192).trans rfl⟩
theorem lk_192_92 : Lk 192 92 (.aload_n 0) 0 0 (0) := ⟨1, 0, (congrArg (fun l => pm_look l 92) cq_192).trans rfl⟩
theorem lk_192_93 : Lk 192 93 (.invokevirtual 208) 185 0 (0) := ⟨3, 1490, (congrArg (fun l => pm_look l 93) cq_192).trans rfl⟩
theorem lk_192_96 : Lk 192 96 (.iload_n 2) 0 0 (0) := ⟨1, 0, (congrArg (fun l => pm_look l 96) cq_192).trans rfl⟩
theorem lk_192_97 : Lk 192 97 (.ireturn) 0 0 (0) := ⟨1, 0, (congrArg (fun l => pm_look l 97) cq_192).trans rfl⟩
theorem cq_193 : pm_code 193 = cd_193 := rfl
theorem lk_193_0 : Lk 193 0 (.iconst 0) 0 0 (0) := ⟨1, 0, (congrArg (fun l => pm_look l 0) cq_193).trans rfl⟩
theorem lk_193_1 : Lk 193 1 (.istore_n 1) 0 0 (0) := ⟨1, 0, (congrArg (fun l => pm_look l 1) cq_193).trans rfl⟩
theorem lk_193_2 : Lk 193 2 (.iload_n 1) 0 0 (0) := ⟨1, 0, (congrArg (fun l => pm_look l 2) cq_193).trans rfl⟩
theorem lk_193_3 : Lk 193 3 (.aload_n 0) 0 0 (0) := ⟨1, 0, (congrArg (fun l => pm_look l 3) cq_193).trans rfl⟩
theorem lk_193_4 : Lk 193 4 (.getfield 220) 12 6 (0) := ⟨3, 1263, (congrArg (fun l => pm_look l 4) cq_193).trans rfl⟩
theorem lk_193_7 : Lk 193 7 (.if_icmp .ge 24) 0 0 (0) := ⟨3, 0, (congrArg (fun l => pm_look l 7) cq_193).trans rfl⟩
theorem lk_193_10 : Lk 193 10 (.aload_n 0) 0 0 (0) := ⟨1, 0, (congrArg (fun l => pm_look l 10) cq_193).trans rfl⟩
theorem lk_193_11 : Lk 193 11 (.getfield 23) 12 9 (2) := ⟨3, 1266, (congrArg (fun l => pm_look l 11) cq_193).trans rfl⟩
theorem lk_193_14 : Lk 193 14 (.iload_n 1) 0 0 (0) := ⟨1, 0, (congrArg (fun l => pm_look l 14) cq_193).trans rfl⟩
theorem lk_193_15 : Lk 193 15 (.iaload) 0 0 (0) := ⟨1, 0, (congrArg (fun l => pm_look l 15) cq_193).trans rfl⟩
theorem lk_193_16 : Lk 193 16 (.aload_n 0) 0 0 (0) := ⟨1, 0, (congrArg (fun l => pm_look l 16) cq_193).trans rfl⟩
theorem lk_193_17 : Lk 193 17 (.getfield 186) 12 28 (0) := ⟨3, 1285, (congrArg (fun l => pm_look l 17) cq_193).trans rfl⟩
theorem lk_193_20 : Lk 193 20 (.if_icmp .ne 5) 0 0 (0) := ⟨3, 0, (congrArg (fun l => pm_look l 20) cq_193).trans rfl⟩
theorem lk_193_23 : Lk 193 23 (.iconst 1) 0 0 (0) := ⟨1, 0, (congrArg (fun l => pm_look l 23) cq_193).trans rfl⟩
theorem lk_193_24 : Lk 193 24 (.ireturn) 1 0 (0) := ⟨1, 0, (congrArg (fun l => pm_look l 24) cq_193).trans rfl⟩
theorem lk_193_25 : Lk 193 25 (.iinc 1 1) 0 0 (0) := ⟨3, 0, (congrArg (fun l => pm_look l 25) cq_193).trans rfl⟩
theorem lk_193_28 : Lk 193 28 (.goto (-26)) 0 0 (0) := ⟨3, 0, (congrArg (fun l => pm_look l 28) cq_193).trans rfl⟩
theorem lk_193_31 : Lk 193 31 (.iconst 0) 0 0 (0) := ⟨1, 0, (congrArg (fun l => pm_look l 31) cq_193).trans rfl⟩
theorem lk_193_32 : Lk 193 32 (.ireturn) 1 0 (0) := ⟨1, 0, (congrArg (fun l => pm_look l 32) cq_193).trans rfl⟩
theorem cq_194 : pm_code 194 = cd_194 := rfl
theorem lk_194_0 : Lk 194 0 (.aload_n 0) 0 0 (0) := ⟨1, 0, (congrArg (fun l => pm_look l 0) cq_194).trans rfl⟩
theorem lk_194_1 : Lk 194 1 (.getfield 220) 12 6 (0) := ⟨3, 1263, (congrArg (fun l => pm_look l 1) cq_194).trans rfl⟩
theorem lk_194_4 : Lk 194 4 (.iconst 4) 0 0 (0) := ⟨1, 0, (congrArg (fun l => pm_look l 4) cq_194).trans rfl⟩
theorem lk_194_5 : Lk 194 5 (.if_icmp .ne 8) 0 0 (0) := ⟨3, 0, (congrArg (fun l => pm_look l 5) cq_194).trans rfl⟩
theorem lk_194_8 : Lk 194 8 (.aload_n 0) 0 0 (0) := ⟨1, 0, (congrArg (fun l => pm_look l 8) cq_194).trans rfl⟩
theorem lk_194_9 : Lk 194 9 (.iconst 5) 0 0 (0) := ⟨1, 0, (congrArg (fun l => pm_look l 9) cq_194).trans rfl⟩
theorem lk_194_10 : Lk 194 10 (.invokevirtual 205) 184 0 (0) := ⟨3, 1508, (congrArg (fun l => pm_look l 10) cq_194).trans rfl⟩
theorem lk_194_13 : Lk 194 13 (.aload_n 0) 0 0 (0) := ⟨1, 0, (congrArg (fun l => pm_look l 13) cq_194).trans rfl⟩
theorem lk_194_14 : Lk 194 14 (.invokevirtual 208) 185 0 (0) := ⟨3, 1490, (congrArg (fun l => pm_look l 14) cq_194).trans rfl⟩
theorem lk_194_17 : Lk 194 17 (.aload_n 0) 0 0 (0) := ⟨1, 0, (congrArg (fun l => pm_look l 17) cq_194).trans rfl⟩
theorem lk_194_18 : Lk 194 18 (.invokevirtual 175) 183 0 (0) := ⟨3, 1494, (congrArg (fun l => pm_look l 18) cq_194).trans rfl⟩
theorem lk_194_21 : Lk 194 21 (.ifCond .eq 18) 0 0 (0) := ⟨3, 0, (congrArg (fun l => pm_look l 21) cq_194).trans rfl⟩
theorem lk_194_24 : Lk 194 24 (.aload_n 0) 0 0 (0) := ⟨1, 0, (congrArg (fun l => pm_look l 24) cq_194).trans rfl⟩
theorem lk_194_25 : Lk 194 25 (.invokevirtual 223) 188 0 (0) := ⟨3, 1538, (congrArg (fun l => pm_look l 25) cq_194).trans rfl⟩
theorem lk_194_28 : Lk 194 28 (.ifCond .ne 11) 0 0 (0) := ⟨3, 0, (congrArg (fun l => pm_look l 28) cq_194).trans rfl⟩
theorem lk_194_31 : Lk 194 31 (.aload_n 0) 0 0 (0) := ⟨1, 0, (congrArg (fun l => pm_look l 31) cq_194).trans rfl⟩
theorem lk_194_32 : Lk 194 32 (.iconst 2) 0 0 (0) := ⟨1, 0, (congrArg (fun l => pm_look l 32) cq_194).trans rfl⟩
theorem lk_194_33 : Lk 194 33 (.invokevirtual 205) 184 0 (0) := ⟨3, 1508, (congrArg (fun l => pm_look l 33) cq_194).trans rfl⟩
theorem lk_194_36 : Lk 194 36 (.goto 22) 0 0 (0) := ⟨3, 0, (congrArg (fun l => pm_look l 36) cq_194).trans rfl⟩
theorem lk_194_39 : Lk 194 39 (.aload_n 0) 0 0 (0) := ⟨1, 0, (congrArg (fun l => pm_look l 39) cq_194).trans rfl⟩
theorem lk_194_40 : Lk 194 40 (.invokevirtual 175) 183 0 (0) := ⟨3, 1494, (congrArg (fun l => pm_look l 40) cq_194).trans rfl⟩
theorem lk_194_43 : Lk 194 43 (.ifCond .eq 15) 0 0 (0) := ⟨3, 0, (congrArg (fun l => pm_look l 43) cq_194).trans rfl⟩
theorem lk_194_46 : Lk 194 46 (.aload_n 0) 0 0 (0) := ⟨1, 0, (congrArg (fun l => pm_look l 46) cq_194).trans rfl⟩
theorem lk_194_47 : Lk 194 47 (.invokevirtual 226) 193 0 (0) := ⟨3, 1547, (congrArg (fun l => pm_look l 47) cq_194).trans rfl⟩
theorem lk_194_50 : Lk 194 50 (.ifCond .eq 8) 0 0 (0) := ⟨3, 0, (congrArg (fun l => pm_look l 50) cq_194).trans rfl⟩
theorem lk_194_53 : Lk 194 53 (.aload_n 0) 0 0 (0) := ⟨1, 0, (congrArg (fun l => pm_look l 53) cq_194).trans rfl⟩
theorem lk_194_54 : Lk 194 54 (.iconst 3) 0 0 (0) := ⟨1, 0, (congrArg (fun l => pm_look l 54) cq_194).trans rfl⟩
theorem lk_194_55 : Lk 194 55 (.invokevirtual 205) 184 0 (0) := ⟨3, 1508, (congrArg (fun l => pm_look l 55) cq_194).trans rfl⟩
theorem lk_194_58 : Lk 194 58 (.aload_n 0) 0 0 (0) := ⟨1, 0, (congrArg (fun l => pm_look l 58) cq_194).trans rfl⟩
theorem lk_194_59 : Lk 194 59 (.invokevirtual 175) 183 0 (0) := ⟨3, 1494, (congrArg (fun l => pm_look l 59) cq_194).trans rfl⟩
theorem lk_194_62 : Lk 194 62 (.ifCond .ne 4) 0 0 (0) := ⟨3, 0, (congrArg (fun l => pm_look l 62) cq_194).trans rfl⟩
theorem lk_194_65 : Lk 194 65 (.return_) 0 0 (0) := ⟨1, 0, (congrArg (fun l => pm_look l 65) cq_194).trans rfl⟩
theorem lk_194_66 : Lk 194 66 (.aload_n 0) 0 0 (0) := ⟨1, 0, (congrArg (fun l => pm_look l 66) cq_194).trans rfl⟩
theorem lk_194_67 : Lk 194 67 (.getfield 23) 12 9 (2) := ⟨3, 1266, (congrArg (fun l => pm_look l 67) cq_194).trans rfl⟩
theorem lk_194_70 : Lk 194 70 (.aload_n 0) 0 0 (0) := ⟨1, 0, (congrArg (fun l => pm_look l 70) cq_194).trans rfl⟩
theorem lk_194_71 : Lk 194 71 (.getfield 220) 12 6 (0) := ⟨3, 1263, (congrArg (fun l => pm_look l 71) cq_194).trans rfl⟩
theorem lk_194_74 : Lk 194 74 (.aload_n 0) 0 0 (0) := ⟨1, 0, (congrArg (fun l => pm_look l 74) cq_194).trans rfl⟩
theorem lk_194_75 : Lk 194 75 (.getfield 186) 12 28 (0) := ⟨3, 1285, (congrArg (fun l => pm_look l 75) cq_194).trans rfl⟩
theorem lk_194_78 : Lk 194 78 (.iastore) 0 0 (0) := ⟨1, 0, (congrArg (fun l => pm_look l 78) cq_194).trans rfl⟩
theorem lk_194_79 : Lk 194 79 (.aload_n 0) 0 0 (0) := ⟨1, 0, (congrArg (fun l => pm_look l 79) cq_194).trans rfl⟩
theorem lk_194_80 : Lk 194 80 (.invokevirtual 208) 185 0 (0) := ⟨3, 1490, (congrArg (fun l => pm_look l 80) cq_194).trans rfl⟩
theorem lk_194_83 : Lk 194 83 (.aload_n 0) 0 0 (0) := ⟨1, 0, (congrArg (fun l => pm_look l 83) cq_194).trans rfl⟩
theorem lk_194_84 : Lk 194 84 (.invokevirtual 229) 195 0 (0) := ⟨3, 1551, (congrArg (fun l => pm_look l 84) cq_194).trans rfl⟩
theorem lk_194_87 : Lk 194 87 (.aload_n 0) 0 0 (0) := ⟨1, 0, (congrArg (fun l => pm_look l 87) cq_194).trans rfl⟩
theorem lk_194_88 : Lk 194 88 (.dup) 0 0 (0) := ⟨1, 0, (congrArg (fun l => pm_look l 88) cq_194).trans rfl⟩
theorem lk_194_89 : Lk 194 89 (.getfield 220) 12 6 (0) := ⟨3, 1263, (congrArg (fun l => pm_look l 89) cq_194).trans rfl⟩
theorem lk_194_92 : Lk 194 92 (.iconst 1) 0 0 (0) := ⟨1, 0, (congrArg (fun l => pm_look l 92) cq_194).trans rfl⟩
theorem lk_194_93 : Lk 194 93 (.iadd) 0 0 (0) := ⟨1, 0, (congrArg (fun l => pm_look l 93) cq_194).trans rfl⟩
theorem lk_194_94 : Lk 194 94 (.putfield 220) 12 6 (0) := ⟨3, 1263, (congrArg (fun l => pm_look l 94) cq_194).trans rfl⟩
theorem lk_194_97 : Lk 194 97 (.return_) 0 0 (0) := ⟨1, 0, (congrArg (fun l => pm_look l 97) cq_194).trans rfl⟩
theorem cq_195 : pm_code 195 = cd_195 := rfl
theorem lk_195_0 : Lk 195 0 (.bipush 31) 0 0 (0) := ⟨2, 0, (congrArg (fun l => pm_look l 0) cq_195).trans rfl⟩
theorem lk_195_2 : Lk 195 2 (.aload_n 0) 0 0 (0) := ⟨1, 0, (congrArg (fun l => pm_look l 2) cq_195).trans rfl⟩
theorem lk_195_3 : Lk 195 3 (.getfield 220) 12 6 (0) := ⟨3, 1263, (congrArg (fun l => pm_look l 3) cq_195).trans rfl⟩
theorem lk_195_6 : Lk 195 6 (.imul) 0 0 (0) := ⟨1, 0, (congrArg (fun l => pm_look l 6) cq_195).trans rfl⟩
theorem lk_195_7 : Lk 195 7 (.istore_n 1) 0 0 (0) := ⟨1, 0, (congrArg (fun l => pm_look l 7) cq_195).trans rfl⟩
theorem lk_195_8 : Lk 195 8 (.iconst 0) 0 0 (0) := ⟨1, 0, (congrArg (fun l => pm_look l 8) cq_195).trans rfl⟩
theorem lk_195_9 : Lk 195 9 (.istore_n 2) 0 0 (0) := ⟨1, 0, (congrArg (fun l => pm_look l 9) cq_195).trans rfl⟩
theorem lk_195_10 : Lk 195 10 (.aload_n 0) 0 0 (0) := ⟨1, 0, (congrArg (fun l => pm_look l 10) cq_195).trans rfl⟩
theorem lk_195_11 : Lk 195 11 (.iconst 0) 0 0 (0) := ⟨1, 0, (congrArg (fun l => pm_look l 11) cq_195).trans rfl⟩
theorem lk_195_12 : Lk 195 12 (.putfield 232) 12 35 (0) := ⟨3, 1292, (congrArg (fun l => pm_look l 12) cq_195).trans rfl⟩
theorem lk_195_15 : Lk 195 15 (.iconst 1) 0 0 (0) := ⟨1, 0, (congrArg (fun l => pm_look l 15) cq_195).trans rfl⟩
theorem lk_195_16 : Lk 195 16 (.istore_n 3) 0 0 (0) := ⟨1, 0, (congrArg (fun l => pm_look l 16) cq_195).trans rfl⟩
theorem lk_195_17 : Lk 195 17 (.iconst 0) 0 0 (0) := ⟨1, 0, (congrArg (fun l => pm_look l 17) cq_195).trans rfl⟩
theorem lk_195_18 : Lk 195 18 (.istore 4) 0 0 (0) := ⟨2, 0, (congrArg (fun l => pm_look l 18) cq_195).trans rfl⟩
theorem lk_195_20 : Lk 195 20 (.iload_n 3) 0 0 (0) := ⟨1, 0, (congrArg (fun l => pm_look l 20) cq_195).trans rfl⟩
theorem lk_195_21 : Lk 195 21 (.ifCond .eq 257) 0 0 (0) := ⟨3, 0, (congrArg (fun l => pm_look l 21) cq_195).trans rfl⟩
theorem lk_195_24 : Lk 195 24 (.aload_n 0) 0 0 (0) := ⟨1, 0, (congrArg (fun l => pm_look l 24) cq_195).trans rfl⟩
theorem lk_195_25 : Lk 195 25 (.invokevirtual 175) 183 0 (0) := ⟨3, 1494, (congrArg (fun l => pm_look l 25) cq_195).trans rfl⟩
theorem lk_195_28 : Lk 195 28 (.ifCond .eq 250) 0 0 (0) := ⟨3, 0, (congrArg (fun l => pm_look l 28) cq_195).trans rfl⟩
theorem lk_195_31 : Lk 195 31 (.aload_n 0) 0 0 (0) := ⟨1, 0, (congrArg (fun l => pm_look l 31) cq_195).trans rfl⟩
theorem lk_195_32 : Lk 195 32 (.invokevirtual 200) 187 0 (0) := ⟨3, 1542, (congrArg (fun l => pm_look l 32) cq_195).trans rfl⟩
theorem lk_195_35 : Lk 195 35 (.ifCond .ne 11) 0 0 (0) := ⟨3, 0, (congrArg (fun l => pm_look l 35) cq_195).trans rfl⟩
theorem lk_195_38 : Lk 195 38 (.aload_n 0) 0 0 (0) := ⟨1, 0, (congrArg (fun l => pm_look l 38) cq_195).trans rfl⟩
theorem lk_195_39 : Lk 195 39 (.iconst 2) 0 0 (0) := ⟨1, 0, (congrArg (fun l => pm_look l 39) cq_195).trans rfl⟩
theorem lk_195_40 : Lk 195 40 (.invokevirtual 205) 184 0 (0) := ⟨3, 1508, (congrArg (fun l => pm_look l 40) cq_195).trans rfl⟩
theorem lk_195_43 : Lk 195 43 (.goto 21) 0 0 (0) := ⟨3, 0, (congrArg (fun l => pm_look l 43) cq_195).trans rfl⟩
theorem lk_195_46 : Lk 195 46 (.iload_n 2) 0 0 (0) := ⟨1, 0, (congrArg (fun l => pm_look l 46) cq_195).trans rfl⟩
theorem lk_195_47 : Lk 195 47 (.bipush 31) 0 0 (0) := ⟨2, 0, (congrArg (fun l => pm_look l 47) cq_195).trans rfl⟩
theorem lk_195_49 : Lk 195 49 (.if_icmp .eq 10) 0 0 (0) := ⟨3, 0, (congrArg (fun l => pm_look l 49) cq_195).trans rfl⟩
theorem lk_195_52 : Lk 195 52 (.iload 4) 0 0 (0) := ⟨2, 0, (congrArg (fun l => pm_look l 52) cq_195).trans rfl⟩
theorem lk_195_54 : Lk 195 54 (.bipush 9) 0 0 (0) := ⟨2, 0, (congrArg (fun l => pm_look l 54) cq_195).trans rfl⟩
theorem lk_195_56 : Lk 195 56 (.if_icmp .ne 8) 0 0 (0) := ⟨3, 0, (congrArg (fun l => pm_look l 56) cq_195).trans rfl⟩
theorem lk_195_59 : Lk 195 59 (.aload_n 0) 0 0 (0) := ⟨1, 0, (congrArg (fun l => pm_look l 59) cq_195).trans rfl⟩
theorem lk_195_60 : Lk 195 60 (.iconst 5) 0 0 (0) := ⟨1, 0, (congrArg (fun l => pm_look l 60) cq_195).trans rfl⟩
theorem lk_195_61 : Lk 195 61 (.invokevirtual 205) 184 0 (0) := ⟨3, 1508, (congrArg (fun l => pm_look l 61) cq_195).trans rfl⟩
theorem lk_195_64 : Lk 195 64 (.aload_n 0) 0 0 (0) := ⟨1, 0, (congrArg (fun l => pm_look l 64) cq_195).trans rfl⟩
theorem lk_195_65 : Lk 195 65 (.invokevirtual 175) 183 0 (0) := ⟨3, 1494, (congrArg (fun l => pm_look l 65) cq_195).trans rfl⟩
theorem lk_195_68 : Lk 195 68 (.ifCond .ne 4) 0 0 (0) := ⟨3, 0, (congrArg (fun l => pm_look l 68) cq_195).trans rfl⟩
theorem lk_195_71 : Lk 195 71 (.return_) 0 0 (0) := ⟨1, 0, (congrArg (fun l => pm_look l 71) cq_195).trans rfl⟩
theorem lk_195_72 : Lk 195 72 (.iload_n 1) 0 0 (0) := ⟨1, 0, (congrArg (fun l => pm_look l 72) cq_195).trans rfl⟩
theorem lk_195_73 : Lk 195 73 (.iload_n 2) 0 0 (0) := ⟨1, 0, (congrArg (fun l => pm_look l 73) cq_195).trans rfl⟩
theorem lk_195_74 : Lk 195 74 (.iadd) 0 0 (0) := ⟨1, 0, (congrArg (fun l => pm_look l 74) cq_195).trans rfl⟩
theorem lk_195_75 : Lk 195 75 (.istore 5) 0 0 (0) := ⟨2, 0, (congrArg (fun l => pm_look l 75) cq_195).trans rfl⟩
theorem lk_195_77 : Lk 195 77 (.aload_n 0) 0 0 (0) := ⟨1, 0, (congrArg (fun l => pm_look l 77) cq_195).trans rfl⟩
theorem lk_195_78 : Lk 195 78 (.getfield 59) 12 21 (2) := ⟨3, 1278, (congrArg (fun l => pm_look l 78) cq_195).trans rfl⟩
theorem lk_195_81 : Lk 195 81 (.iload 5) 0 0 (0) := ⟨2, 0, (congrArg (fun l => pm_look l 81) cq_195).trans rfl⟩
theorem lk_195_83 : Lk 195 83 (.iload 4) 0 0 (0) := ⟨2, 0, (congrArg (fun l => pm_look l 83) cq_195).trans rfl⟩
theorem lk_195_85 : Lk 195 85 (.iastore) 0 0 (0) := ⟨1, 0, (congrArg (fun l => pm_look l 85) cq_195).trans rfl⟩
theorem lk_195_86 : Lk 195 86 (.aload_n 0) 0 0 (0) := ⟨1, 0, (congrArg (fun l => pm_look l 86) cq_195).trans rfl⟩
theorem lk_195_87 : Lk 195 87 (.getfield 56) 12 20 (2) := ⟨3, 1277, (congrArg (fun l => pm_look l 87) cq_195).trans rfl⟩
theorem lk_195_90 : Lk 195 90 (.iload 5) 0 0 (0) := ⟨2, 0, (congrArg (fun l => pm_look l 90) cq_195).trans rfl⟩
theorem lk_195_92 : Lk 195 92 (.iconst (-1)) 0 0 (0) := ⟨1, 0, (congrArg (fun l => pm_look l 92) cq_195).trans rfl⟩
theorem lk_195_93 : Lk 195 93 (.iastore) 0 0 (0) := ⟨1, 0, (congrArg (fun l => pm_look l 93) cq_195).trans rfl⟩
theorem lk_195_94 : Lk 195 94 (.aload_n 0) 0 0 (0) := ⟨1, 0, (congrArg (fun l => pm_look l 94) cq_195).trans rfl⟩
theorem lk_195_95 : Lk 195 95 (.getfield 50) 12 18 (2) := ⟨3, 1275, (congrArg (fun l => pm_look l 95) cq_195).trans rfl⟩
theorem lk_195_98 : Lk 195 98 (.iload 5) 0 0 (0) := ⟨2, 0, (congrArg (fun l => pm_look l 98) cq_195).trans rfl⟩
theorem lk_195_100 : Lk 195 100 (.aload_n 0) 0 0 (0) := ⟨1, 0, (congrArg (fun l => pm_look l 100) cq_195).trans rfl⟩
theorem lk_195_101 : Lk 195 101 (.iconst 1) 0 0 (0) := ⟨1, 0, (congrArg (fun l => pm_look l 101) cq_195).trans rfl⟩
theorem lk_195_102 : Lk 195 102 (.invokevirtual 197) 186 0 (0) := ⟨3, 1525, (congrArg (fun l => pm_look l 102) cq_195).trans rfl⟩
theorem lk_195_105 : Lk 195 105 (.ifCond .eq 7) 0 0 (0) := ⟨3, 0, (congrArg (fun l => pm_look l 105) cq_195).trans rfl⟩
theorem lk_195_108 : Lk 195 108 (.iconst 1) 0 0 (0) := ⟨1, 0, (congrArg (fun l => pm_look l 108) cq_195).trans rfl⟩
theorem lk_195_109 : Lk 195 109 (.goto 16) 0 0 (0) := ⟨3, 0, (congrArg (fun l => pm_look l 109) cq_195).trans rfl⟩
theorem lk_195_112 : Lk 195 112 (.aload_n 0) 0 0 (0) := ⟨1, 0, (congrArg (fun l => pm_look l 112) cq_195).trans rfl⟩
theorem lk_195_113 : Lk 195 113 (.iconst 2) 0 0 (0) := ⟨1, 0, (congrArg (fun l => pm_look l 113) cq_195).trans rfl⟩
theorem lk_195_114 : Lk 195 114 (.invokevirtual 197) 186 0 (0) := ⟨3, 1525, (congrArg (fun l => pm_look l 114) cq_195).trans rfl⟩
theorem lk_195_117 : Lk 195 117 (.ifCond .eq 7) 0 0 (0) := ⟨3, 0, (congrArg (fun l => pm_look l 117) cq_195).trans rfl⟩
theorem lk_195_120 : Lk 195 120 (.iconst 2) 0 0 (0) := ⟨1, 0, (congrArg (fun l => pm_look l 120) cq_195).trans rfl⟩
theorem lk_195_121 : Lk 195 121 (.goto 4) 0 0 (0) := ⟨3, 0, (congrArg (fun l => pm_look l 121) cq_195).trans rfl⟩
theorem lk_195_124 : Lk 195 124 (.iconst 0) 0 0 (0) := ⟨1, 0, (congrArg (fun l => pm_look l 124) cq_195).trans rfl⟩
theorem lk_195_125 : Lk 195 125 (.iastore) 0 0 (0) := ⟨1, 0, (congrArg (fun l => pm_look l 125) cq_195).trans rfl⟩
theorem lk_195_126 : Lk 195 126 (.aload_n 0) 0 0 (0) := ⟨1, 0, (congrArg (fun l => pm_look l 126) cq_195).trans rfl⟩
theorem lk_195_127 : Lk 195 127 (.invokevirtual 208) 185 0 (0) := ⟨3, 1490, (congrArg (fun l => pm_look l 127) cq_195).trans rfl⟩
theorem lk_195_130 : Lk 195 130 (.iinc 2 1) 0 0 (0) := ⟨3, 0, (congrArg (fun l => pm_look l 130) cq_195).trans rfl⟩
theorem lk_195_133 : Lk 195 133 (.aload_n 0) 0 0 (0) := ⟨1, 0, (congrArg (fun l => pm_look l 133) cq_195).trans rfl⟩
theorem lk_195_134 : Lk 195 134 (.getfield 50) 12 18 (2) := ⟨3, 1275, (congrArg (fun l => pm_look l 134) cq_195).trans rfl⟩
theorem lk_195_137 : Lk 195 137 (.iload 5) 0 0 (0) := ⟨2, 0, (congrArg (fun l => pm_look l 137) cq_195).trans rfl⟩
theorem lk_195_139 : Lk 195 139 (.iaload) 0 0 (0) := ⟨1, 0, (congrArg (fun l => pm_look l 139) cq_195).trans rfl⟩
theorem lk_195_140 : Lk 195 140 (.ifCond .eq 63) 0 0 (0) := ⟨3, 0, (congrArg (fun l => pm_look l 140) cq_195).trans rfl⟩
theorem lk_195_143 : Lk 195 143 (.aload_n 0) 0 0 (0) := ⟨1, 0, (congrArg (fun l => pm_look l 143) cq_195).trans rfl⟩
theorem lk_195_144 : Lk 195 144 (.getfield 53) 12 19 (2) := ⟨3, 1276, (congrArg (fun l => pm_look l 144) cq_195).trans rfl⟩
theorem lk_195_147 : Lk 195 147 (.iload 5) 0 0 (0) := ⟨2, 0, (congrArg (fun l => pm_look l 147) cq_195).trans rfl⟩
theorem lk_195_149 : Lk 195 149 (.aload_n 0) 0 0 (0) := ⟨1, 0, (congrArg (fun l => pm_look l 149) cq_195).trans rfl⟩
theorem lk_195_150 : Lk 195 150 (.aload_n 0) 0 0 (0) := ⟨1, 0, (congrArg (fun l => pm_look l 150) cq_195).trans rfl⟩
theorem lk_195_151 : Lk 195 151 (.getfield 50) 12 18 (2) := ⟨3, 1275, (congrArg (fun l => pm_look l 151) cq_195).trans rfl⟩
theorem lk_195_154 : Lk 195 154 (.iload 5) 0 0 (0) := ⟨2, 0, (congrArg (fun l => pm_look l 154) cq_195).trans rfl⟩
theorem lk_195_156 : Lk 195 156 (.iaload) 0 0 (0) := ⟨1, 0, (congrArg (fun l => pm_look l 156) cq_195).trans rfl⟩
theorem lk_195_157 : Lk 195 157 (.iconst 1) 0 0 (0) := ⟨1, 0, (congrArg (fun l => pm_look l 157) cq_195).trans rfl⟩
theorem lk_195_158 : Lk 195 158 (.if_icmp .ne 10) 0 0 (0) := ⟨3, 0, (congrArg (fun l => pm_look l 158) cq_195).trans rfl⟩
theorem lk_195_161 : Lk 195 161 (.aload_n 0) 0 0 (0) := ⟨1, 0, (congrArg (fun l => pm_look l 161) cq_195).trans rfl⟩
theorem lk_195_162 : Lk 195 162 (.getfield 211) 12 4 (0) := ⟨3, 1261, (congrArg (fun l => pm_look l 162) cq_195).trans rfl⟩
theorem lk_195_165 : Lk 195 165 (.goto 7) 0 0 (0) := ⟨3, 0, (congrArg (fun l => pm_look l 165) cq_195).trans rfl⟩
theorem lk_195_168 : Lk 195 168 (.aload_n 0) 0 0 (0) := ⟨1, 0, (congrArg (fun l => pm_look l 168) cq_195).trans rfl⟩
theorem lk_195_169 : Lk 195 169 (.getfield 214) 12 5 (0) := ⟨3, 1262, (congrArg (fun l => pm_look l 169) cq_195).trans rfl⟩
theorem lk_195_172 : Lk 195 172 (.invokevirtual 235) 192 0 (0) := ⟨3, 1555, (congrArg (fun l => pm_look l 172) cq_195).trans rfl⟩
theorem lk_195_175 : Lk 195 175 (.iastore) 0 0 (0) := ⟨1, 0, (congrArg (fun l => pm_look l 175) cq_195).trans rfl⟩
theorem lk_195_176 : Lk 195 176 (.aload_n 0) 0 0 (0) := ⟨1, 0, (congrArg (fun l => pm_look l 176) cq_195).trans rfl⟩
theorem lk_195_177 : Lk 195 177 (.getfield 68) 12 34 (2) := ⟨3, 1291, (congrArg (fun l => pm_look l 177) cq_195).trans rfl⟩
theorem lk_195_180 : Lk 195 180 (.aload_n 0) 0 0 (0) := ⟨1, 0, (congrArg (fun l => pm_look l 180) cq_195).trans rfl⟩
theorem lk_195_181 : Lk 195 181 (.getfield 232) 12 35 (0) := ⟨3, 1292, (congrArg (fun l => pm_look l 181) cq_195).trans rfl⟩
theorem lk_195_184 : Lk 195 184 (.iload 5) 0 0 (0) := ⟨2, 0, (congrArg (fun l => pm_look l 184) cq_195).trans rfl⟩
theorem lk_195_186 : Lk 195 186 (.iastore) 0 0 (0) := ⟨1, 0, (congrArg (fun l => pm_look l 186) cq_195).trans rfl⟩
theorem lk_195_187 : Lk 195 187 (.aload_n 0) 0 0 (0) := ⟨1, 0, (congrArg (fun l => pm_look l 187) cq_195).trans rfl⟩
theorem lk_195_188 : Lk 195 188 (.dup) 0 0 (0) := ⟨1, 0, (congrArg (fun l => pm_look l 188) cq_195).trans rfl⟩
theorem lk_195_189 : Lk 195 189 (.getfield 232) 12 35 (0) := ⟨3, 1292, (congrArg (fun l => pm_look l 189) cq_195).trans rfl⟩
theorem lk_195_192 : Lk 195 192 (.iconst 1) 0 0 (0) := ⟨1, 0, (congrArg (fun l => pm_look l 192) cq_195).trans rfl⟩
theorem lk_195_193 : Lk 195 193 (.iadd) 0 0 (0) := ⟨1, 0, (congrArg (fun l => pm_look l 193) cq_195).trans rfl⟩
theorem lk_195_194 : Lk 195 194 (.putfield 232) 12 35 (0) := ⟨3, 1292, (congrArg (fun l => pm_look l 194) cq_195).trans rfl⟩
theorem lk_195_197 : Lk 195 197 (.iinc 4 1) 0 0 (0) := ⟨3, 0, (congrArg (fun l => pm_look l 197) cq_195).trans rfl⟩
theorem lk_195_200 : Lk 195 200 (.goto (-180)) 0 0 (0) := ⟨3, 0, (congrArg (fun l => pm_look l 200) cq_195).trans rfl⟩
theorem lk_195_203 : Lk 195 203 (.aload_n 0) 0 0 (0) := ⟨1, 0, (congrArg (fun l => pm_look l 203) cq_195).trans rfl⟩
theorem lk_195_204 : Lk 195 204 (.getfield 53) 12 19 (2) := ⟨3, 1276, (congrArg (fun l => pm_look l 204) cq_195).trans rfl⟩
theorem lk_195_207 : Lk 195 207 (.iload 5) 0 0 (0) := ⟨2, 0, (congrArg (fun l => pm_look l 207) cq_195).trans rfl⟩
theorem lk_195_209 : Lk 195 209 (.aload_n 0) 0 0 (0) := ⟨1, 0, (congrArg (fun l => pm_look l 209) cq_195).trans rfl⟩
theorem lk_195_210 : Lk 195 210 (.iconst 0) 0 0 (0) := ⟨1, 0, (congrArg (fun l => pm_look l 210) cq_195).trans rfl⟩
theorem lk_195_211 : Lk 195 211 (.invokevirtual 238) 191 0 (0) := ⟨3, 1529, (congrArg (fun l => pm_look l 211) cq_195).trans rfl⟩
theorem lk_195_214 : Lk 195 214 (.iastore) 0 0 (0) := ⟨1, 0, (congrArg (fun l => pm_look l 214) cq_195).trans rfl⟩
theorem lk_195_215 : Lk 195 215 (.aload_n 0) 0 0 (0) := ⟨1, 0, (congrArg (fun l => pm_look l 215) cq_195).trans rfl⟩
theorem lk_195_216 : Lk 195 216 (.getfield 232) 12 35 (0) := ⟨3, 1292, (congrArg (fun l => pm_look l 216) cq_195).trans rfl⟩
theorem lk_195_219 : Lk 195 219 (.ifCond .le 7) 0 0 (0) := ⟨3, 0, (congrArg (fun l => pm_look l 219) cq_195).trans rfl⟩
theorem lk_195_222 : Lk 195 222 (.iconst 1) 0 0 (0) := ⟨1, 0, (congrArg (fun l => pm_look l 222) cq_195).trans rfl⟩
theorem lk_195_223 : Lk 195 223 (.goto 4) 0 0 (0) := ⟨3, 0, (congrArg (fun l => pm_look l 223) cq_195).trans rfl⟩
set_option maxRecDepth 100000 in
theorem lk_195_226 : Lk 195 226 (.iconst 0) 0 0 (0) := ⟨1, 0, (congrArg (fun l => pm_look l 226) cq_195).trans rfl⟩
set_option maxRecDepth 100000 in
theorem lk_195_227 : Lk 195 227 (.istore_n 3) 0 0 (0) := ⟨1, 0, (congrArg (fun l => pm_look l 227) cq_195).trans rfl⟩
set_option maxRecDepth 100000 in
theorem lk_195_228 : Lk 195 228 (.iload_n 3) 0 0 (0) := ⟨1, 0, (congrArg (fun l => pm_look l 228) cq_195).trans rfl⟩
set_option maxRecDepth 100000 in
theorem lk_195_229 : Lk 195 229 (.ifCond .eq 46) 0 0 (0) := ⟨3, 0, (congrArg (fun l => pm_look l 229) cq_195).trans rfl⟩
set_option maxRecDepth 100000 in
theorem lk_195_232 : Lk 195 232 (.aload_n 0) 0 0 (0) := ⟨1, 0, (congrArg (fun l => pm_look l 232) cq_195).trans rfl⟩
set_option maxRecDepth 100000 in
theorem lk_195_233 : Lk 195 233 (.dup) 0 0 (0) := ⟨1, 0, (congrArg (fun l => pm_look l 233) cq_195).trans rfl⟩
set_option maxRecDepth 100000 in
theorem lk_195_234 : Lk 195 234 (.getfield 232) 12 35 (0) := ⟨3, 1292, (congrArg (fun l => pm_look l 234) cq_195).trans rfl⟩
set_option maxRecDepth 100000 in
theorem lk_195_237 : Lk 195 237 (.iconst 1) 0 0 (0) := ⟨1, 0, (congrArg (fun l => pm_look l 237) cq_195).trans rfl⟩
set_option maxRecDepth 100000 in
theorem lk_195_238 : Lk 195 238 (.isub) 0 0 (0) := ⟨1, 0, (congrArg (fun l => pm_look l 238) cq_195).trans rfl⟩
set_option maxRecDepth 100000 in
theorem lk_195_239 : Lk 195 239 (.putfield 232) 12 35 (0) := ⟨3, 1292, (congrArg (fun l => pm_look l 239) cq_195).trans rfl⟩
set_option maxRecDepth 100000 in
theorem lk_195_242 : Lk 195 242 (.aload_n 0) 0 0 (0) := ⟨1, 0, (congrArg (fun l => pm_look l 242) cq_195).trans rfl⟩
set_option maxRecDepth 100000 in
theorem lk_195_243 : Lk 195 243 (.getfield 56) 12 20 (2) := ⟨3, 1277, (congrArg (fun l => pm_look l 243) cq_195).trans rfl⟩
set_option maxRecDepth 100000 in
theorem lk_195_246 : Lk 195 246 (.aload_n 0) 0 0 (0) := ⟨1, 0, (congrArg (fun l => pm_look l 246) cq_195).trans rfl⟩
set_option maxRecDepth 100000 in
theorem lk_195_247 : Lk 195 247 (.getfield 68) 12 34 (2) := ⟨3, 1291, (congrArg (fun l => pm_look l 247) cq_195).trans rfl⟩
set_option maxRecDepth 100000 in
theorem lk_195_250 : Lk 195 250 (.aload_n 0) 0 0 (0) := ⟨1, 0, (congrArg (fun l => pm_look l 250) cq_195).trans rfl⟩
set_option maxRecDepth 100000 in
theorem lk_195_251 : Lk 195 251 (.getfield 232) 12 35 (0) := ⟨3, 1292, (congrArg (fun l => pm_look l 251) cq_195).trans rfl⟩
set_option maxRecDepth 100000 in
theorem lk_195_254 : Lk 195 254 (.iaload) 0 0 (0) := ⟨1, 0, (congrArg (fun l => pm_look l 254) cq_195).trans rfl⟩
set_option maxRecDepth 100000 in
theorem lk_195_255 : Lk 195 255 (.iload_n 2) 0 0 (0) := ⟨1, 0, (congrArg (fun l => pm_look l 255) cq_195).trans rfl⟩
set_option maxRecDepth 100000 in
theorem lk_195_256 : Lk 195 256 (.iastore) 0 0 (0) := ⟨1, 0, (congrArg (fun l => pm_look l 256) cq_195).trans rfl⟩
set_option maxRecDepth 100000 in
theorem lk_195_257 : Lk 195 257 (.aload_n 0) 0 0 (0) := ⟨1, 0, (congrArg (fun l => pm_look l 257) cq_195).trans rfl⟩
set_option maxRecDepth 100000 in
theorem lk_195_258 : Lk 195 258 (.getfield 59) 12 21 (2) := ⟨3, 1278, (congrArg (fun l => pm_look l 258) cq_195).trans rfl⟩
set_option maxRecDepth 100000 in
theorem lk_195_261 : Lk 195 261 (.aload_n 0) 0 0 (0) := ⟨1, 0, (congrArg (fun l => pm_look l 261) cq_195).trans rfl⟩
set_option maxRecDepth 100000 in
theorem lk_195_262 : Lk 195 262 (.getfield 68) 12 34 (2) := ⟨3, 1291, (congrArg (fun l => pm_look l 262) cq_195).trans rfl⟩
set_option maxRecDepth 100000 in
theorem lk_195_265 : Lk 195 265 (.aload_n 0) 0 0 (0) := ⟨1, 0, (congrArg (fun l => pm_look l 265) cq_195).trans rfl⟩
set_option maxRecDepth 100000 in
theorem lk_195_266 : Lk 195 266 (.getfield 232) 12 35 (0) := ⟨3, 1292, (congrArg (fun l => pm_look l 266) cq_195).trans rfl⟩
set_option maxRecDepth 100000 in
theorem lk_195_269 : Lk 195 269 (.iaload) 0 0 (0) := ⟨1, 0, (congrArg (fun l => pm_look l 269) cq_195).trans rfl⟩
set_option maxRecDepth 100000 in
theorem lk_195_270 : Lk 195 270 (.iaload) 0 0 (0) := ⟨1, 0, (congrArg (fun l => pm_look l 270) cq_195).trans rfl⟩
set_option maxRecDepth 100000 in
theorem lk_195_271 : Lk 195 271 (.iconst 1) 0 0 (0) := ⟨1, 0, (congrArg (fun l => pm_look l 271) cq_195).trans rfl⟩
set_option maxRecDepth 100000 in
theorem lk_195_272 : Lk 195 272 (.iadd) 0 0 (0) := ⟨1, 0, (congrArg (fun l => pm_look l 272) cq_195).trans rfl⟩
set_option maxRecDepth 100000 in
theorem lk_195_273 : Lk 195 273 (.istore 4) 0 0 (0) := ⟨2, 0, (congrArg (fun l => pm_look l 273) cq_195).trans rfl⟩
set_option maxRecDepth 100000 in
theorem lk_195_275 : Lk 195 275 (.goto (-255)) 0 0 (0) := ⟨3, 0, (congrArg (fun l => pm_look l 275) cq_195).trans rfl⟩
set_option maxRecDepth 100000 in
theorem lk_195_278 : Lk 195 278 (.aload_n 0) 0 0 (0) := ⟨1, 0, (congrArg (fun l => pm_look l 278) cq_195).trans rfl⟩
set_option maxRecDepth 100000 in
theorem lk_195_279 : Lk 195 279 (.getfield 47) 12 17 (2) := ⟨3, 1274, (congrArg (fun l => pm_look l 279) cq_195).trans rfl⟩
set_option maxRecDepth 100000 in
theorem lk_195_282 : Lk 195 282 (.aload_n 0) 0 0 (0) := ⟨1, 0, (congrArg (fun l => pm_look l 282) cq_195).trans rfl⟩
set_option maxRecDepth 100000 in
theorem lk_195_283 : Lk 195 283 (.getfield 220) 12 6 (0) := ⟨3, 1263, (congrArg (fun l => pm_look l 283) cq_195).trans rfl⟩
set_option maxRecDepth 100000 in
theorem lk_195_286 : Lk 195 286 (.iload_n 2) 0 0 (0) := ⟨1, 0, (congrArg (fun l => pm_look l 286) cq_195).trans rfl⟩
set_option maxRecDepth 100000 in
theorem lk_195_287 : Lk 195 287 (.iastore) 0 0 (0) := ⟨1, 0, (congrArg (fun l => pm_look l 287) cq_195).trans rfl⟩
set_option maxRecDepth 100000 in
theorem lk_195_288 : Lk 195 288 (.return_) 0 0 (0) := ⟨1, 0, (congrArg (fun l => pm_look l 288) cq_195).trans rfl⟩
theorem cq_196 : pm_code 196 = cd_196 := rfl
theorem lk_196_0 : Lk 196 0 (.aload_n 0) 0 0 (0) := ⟨1, 0, (congrArg (fun l => pm_look l 0) cq_196).trans rfl⟩
theorem lk_196_1 : Lk 196 1 (.ldc 203) 0 0 (114292) := ⟨2, 1524, (congrArg (fun l => pm_look l 1) cq_196).trans rfl⟩
theorem lk_196_3 : Lk 196 3 (.invokevirtual 197) 186 0 (0) := ⟨3, 1525, (congrArg (fun l => pm_look l 3) cq_196).trans rfl⟩
theorem lk_196_6 : Lk 196 6 (.ifCond .eq 44) 0 0 (0) := ⟨3, 0, (congrArg (fun l => pm_look l 6) cq_196).trans rfl⟩
theorem lk_196_9 : Lk 196 9 (.aload_n 0) 0 0 (0) := ⟨1, 0, (congrArg (fun l => pm_look l 9) cq_196).trans rfl⟩
theorem lk_196_10 : Lk 196 10 (.getfield 241) 12 33 (0) := ⟨3, 1290, (congrArg (fun l => pm_look l 10) cq_196).trans rfl⟩
theorem lk_196_13 : Lk 196 13 (.ifCond .ne 37) 0 0 (0) := ⟨3, 0, (congrArg (fun l => pm_look l 13) cq_196).trans rfl⟩
theorem lk_196_16 : Lk 196 16 (.aload_n 0) 0 0 (0) := ⟨1, 0, (congrArg (fun l => pm_look l 16) cq_196).trans rfl⟩
theorem lk_196_17 : Lk 196 17 (.iconst 1) 0 0 (0) := ⟨1, 0, (congrArg (fun l => pm_look l 17) cq_196).trans rfl⟩
theorem lk_196_18 : Lk 196 18 (.putfield 241) 12 33 (0) := ⟨3, 1290, (congrArg (fun l => pm_look l 18) cq_196).trans rfl⟩
theorem lk_196_21 : Lk 196 21 (.aload_n 0) 0 0 (0) := ⟨1, 0, (congrArg (fun l => pm_look l 21) cq_196).trans rfl⟩
theorem lk_196_22 : Lk 196 22 (.invokevirtual 208) 185 0 (0) := ⟨3, 1490, (congrArg (fun l => pm_look l 22) cq_196).trans rfl⟩
theorem lk_196_25 : Lk 196 25 (.aload_n 0) 0 0 (0) := ⟨1, 0, (congrArg (fun l => pm_look l 25) cq_196).trans rfl⟩
theorem lk_196_26 : Lk 196 26 (.getfield 29) 12 11 (2) := ⟨3, 1268, (congrArg (fun l => pm_look l 26) cq_196).trans rfl⟩
theorem lk_196_29 : Lk 196 29 (.iconst 1) 0 0 (0) := ⟨1, 0, (congrArg (fun l => pm_look l 29) cq_196).trans rfl⟩
theorem lk_196_30 : Lk 196 30 (.aload_n 0) 0 0 (0) := ⟨1, 0, (congrArg (fun l => pm_look l 30) cq_196).trans rfl⟩
theorem lk_196_31 : Lk 196 31 (.iconst 1) 0 0 (0) := ⟨1, 0, (congrArg (fun l => pm_look l 31) cq_196).trans rfl⟩
theorem lk_196_32 : Lk 196 32 (.invokevirtual 238) 191 0 (0) := ⟨3, 1529, (congrArg (fun l => pm_look l 32) cq_196).trans rfl⟩
theorem lk_196_35 : Lk 196 35 (.iastore) 0 0 (0) := ⟨1, 0, (congrArg (fun l => pm_look l 35) cq_196).trans rfl⟩
theorem lk_196_36 : Lk 196 36 (.aload_n 0) 0 0 (0) := ⟨1, 0, (congrArg (fun l => pm_look l 36) cq_196).trans rfl⟩
theorem lk_196_37 : Lk 196 37 (.getfield 29) 12 11 (2) := ⟨3, 1268, (congrArg (fun l => pm_look l 37) cq_196).trans rfl⟩
theorem lk_196_40 : Lk 196 40 (.iconst 2) 0 0 (0) := ⟨1, 0, (congrArg (fun l => pm_look l 40) cq_196).trans rfl⟩
theorem lk_196_41 : Lk 196 41 (.aload_n 0) 0 0 (0) := ⟨1, 0, (congrArg (fun l => pm_look l 41) cq_196).trans rfl⟩
theorem lk_196_42 : Lk 196 42 (.iconst 1) 0 0 (0) := ⟨1, 0, (congrArg (fun l => pm_look l 42) cq_196).trans rfl⟩
theorem lk_196_43 : Lk 196 43 (.invokevirtual 238) 191 0 (0) := ⟨3, 1529, (congrArg (fun l => pm_look l 43) cq_196).trans rfl⟩
theorem lk_196_46 : Lk 196 46 (.iastore) 0 0 (0) := ⟨1, 0, (congrArg (fun l => pm_look l 46) cq_196).trans rfl⟩
theorem lk_196_47 : Lk 196 47 (.goto 24) 0 0 (0) := ⟨3, 0, (congrArg (fun l => pm_look l 47) cq_196).trans rfl⟩
theorem lk_196_50 : Lk 196 50 (.aload_n 0) 0 0 (0) := ⟨1, 0, (congrArg (fun l => pm_look l 50) cq_196).trans rfl⟩
theorem lk_196_51 : Lk 196 51 (.ldc 204) 0 0 (673957) := ⟨2, 1533, (congrArg (fun l => pm_look l 51) cq_196).trans rfl⟩
theorem lk_196_53 : Lk 196 53 (.invokevirtual 197) 186 0 (0) := ⟨3, 1525, (congrArg (fun l => pm_look l 53) cq_196).trans rfl⟩
theorem lk_196_56 : Lk 196 56 (.ifCond .eq 10) 0 0 (0) := ⟨3, 0, (congrArg (fun l => pm_look l 56) cq_196).trans rfl⟩
theorem lk_196_59 : Lk 196 59 (.aload_n 0) 0 0 (0) := ⟨1, 0, (congrArg (fun l => pm_look l 59) cq_196).trans rfl⟩
theorem lk_196_60 : Lk 196 60 (.invokevirtual 245) 194 0 (0) := ⟨3, 1534, (congrArg (fun l => pm_look l 60) cq_196).trans rfl⟩
theorem lk_196_63 : Lk 196 63 (.goto 8) 0 0 (0) := ⟨3, 0, (congrArg (fun l => pm_look l 63) cq_196).trans rfl⟩
theorem lk_196_66 : Lk 196 66 (.aload_n 0) 0 0 (0) := ⟨1, 0, (congrArg (fun l => pm_look l 66) cq_196).trans rfl⟩
theorem lk_196_67 : Lk 196 67 (.iconst 2) 0 0 (0) := ⟨1, 0, (congrArg (fun l => pm_look l 67) cq_196).trans rfl⟩
theorem lk_196_68 : Lk 196 68 (.invokevirtual 205) 184 0 (0) := ⟨3, 1508, (congrArg (fun l => pm_look l 68) cq_196).trans rfl⟩
theorem lk_196_71 : Lk 196 71 (.aload_n 0) 0 0 (0) := ⟨1, 0, (congrArg (fun l => pm_look l 71) cq_196).trans rfl⟩
theorem lk_196_72 : Lk 196 72 (.invokevirtual 217) 189 0 (0) := ⟨3, 1516, (congrArg (fun l => pm_look l 72) cq_196).trans rfl⟩
theorem lk_196_75 : Lk 196 75 (.return_) 0 0 (0) := ⟨1, 0, (congrArg (fun l => pm_look l 75) cq_196).trans rfl⟩
theorem cq_197 : pm_code 197 = cd_197 := rfl
theorem lk_197_0 : Lk 197 0 (.aload_n 0) 0 0 (0) := ⟨1, 0, (congrArg (fun l => pm_look l 0) cq_197).trans rfl⟩
theorem lk_197_1 : Lk 197 1 (.iconst 0) 0 0 (0) := ⟨1, 0, (congrArg (fun l => pm_look l 1) cq_197).trans rfl⟩
theorem lk_197_2 : Lk 197 2 (.putfield 143) 12 0 (0) := ⟨3, 1257, (congrArg (fun l => pm_look l 2) cq_197).trans rfl⟩
theorem lk_197_5 : Lk 197 5 (.aload_n 0) 0 0 (0) := ⟨1, 0, (congrArg (fun l => pm_look l 5) cq_197).trans rfl⟩
theorem lk_197_6 : Lk 197 6 (.aload_n 0) 0 0 (0) := ⟨1, 0, (congrArg (fun l => pm_look l 6) cq_197).trans rfl⟩
theorem lk_197_7 : Lk 197 7 (.getfield 153) 12 23 (0) := ⟨3, 1280, (congrArg (fun l => pm_look l 7) cq_197).trans rfl⟩
theorem lk_197_10 : Lk 197 10 (.putfield 160) 12 24 (0) := ⟨3, 1281, (congrArg (fun l => pm_look l 10) cq_197).trans rfl⟩
theorem lk_197_13 : Lk 197 13 (.aload_n 0) 0 0 (0) := ⟨1, 0, (congrArg (fun l => pm_look l 13) cq_197).trans rfl⟩
theorem lk_197_14 : Lk 197 14 (.iconst 0) 0 0 (0) := ⟨1, 0, (congrArg (fun l => pm_look l 14) cq_197).trans rfl⟩
theorem lk_197_15 : Lk 197 15 (.putfield 153) 12 23 (0) := ⟨3, 1280, (congrArg (fun l => pm_look l 15) cq_197).trans rfl⟩
theorem lk_197_18 : Lk 197 18 (.aload_n 0) 0 0 (0) := ⟨1, 0, (congrArg (fun l => pm_look l 18) cq_197).trans rfl⟩
theorem lk_197_19 : Lk 197 19 (.iconst 0) 0 0 (0) := ⟨1, 0, (congrArg (fun l => pm_look l 19) cq_197).trans rfl⟩
theorem lk_197_20 : Lk 197 20 (.putfield 179) 12 26 (0) := ⟨3, 1283, (congrArg (fun l => pm_look l 20) cq_197).trans rfl⟩
theorem lk_197_23 : Lk 197 23 (.aload_n 0) 0 0 (0) := ⟨1, 0, (congrArg (fun l => pm_look l 23) cq_197).trans rfl⟩
theorem lk_197_24 : Lk 197 24 (.iconst 0) 0 0 (0) := ⟨1, 0, (congrArg (fun l => pm_look l 24) cq_197).trans rfl⟩
theorem lk_197_25 : Lk 197 25 (.putfield 163) 12 31 (0) := ⟨3, 1288, (congrArg (fun l => pm_look l 25) cq_197).trans rfl⟩
theorem lk_197_28 : Lk 197 28 (.aload_n 0) 0 0 (0) := ⟨1, 0, (congrArg (fun l => pm_look l 28) cq_197).trans rfl⟩
theorem lk_197_29 : Lk 197 29 (.iconst 0) 0 0 (0) := ⟨1, 0, (congrArg (fun l => pm_look l 29) cq_197).trans rfl⟩
theorem lk_197_30 : Lk 197 30 (.putfield 211) 12 4 (0) := ⟨3, 1261, (congrArg (fun l => pm_look l 30) cq_197).trans rfl⟩
theorem lk_197_33 : Lk 197 33 (.aload_n 0) 0 0 (0) := ⟨1, 0, (congrArg (fun l => pm_look l 33) cq_197).trans rfl⟩
theorem lk_197_34 : Lk 197 34 (.iconst 0) 0 0 (0) := ⟨1, 0, (congrArg (fun l => pm_look l 34) cq_197).trans rfl⟩
theorem lk_197_35 : Lk 197 35 (.putfield 214) 12 5 (0) := ⟨3, 1262, (congrArg (fun l => pm_look l 35) cq_197).trans rfl⟩
theorem lk_197_38 : Lk 197 38 (.aload_n 0) 0 0 (0) := ⟨1, 0, (congrArg (fun l => pm_look l 38) cq_197).trans rfl⟩
theorem lk_197_39 : Lk 197 39 (.iconst 0) 0 0 (0) := ⟨1, 0, (congrArg (fun l => pm_look l 39) cq_197).trans rfl⟩
theorem lk_197_40 : Lk 197 40 (.putfield 220) 12 6 (0) := ⟨3, 1263, (congrArg (fun l => pm_look l 40) cq_197).trans rfl⟩
theorem lk_197_43 : Lk 197 43 (.aload_n 0) 0 0 (0) := ⟨1, 0, (congrArg (fun l => pm_look l 43) cq_197).trans rfl⟩
theorem lk_197_44 : Lk 197 44 (.iconst 0) 0 0 (0) := ⟨1, 0, (congrArg (fun l => pm_look l 44) cq_197).trans rfl⟩
theorem lk_197_45 : Lk 197 45 (.putfield 241) 12 33 (0) := ⟨3, 1290, (congrArg (fun l => pm_look l 45) cq_197).trans rfl⟩
theorem lk_197_48 : Lk 197 48 (.aload_n 0) 0 0 (0) := ⟨1, 0, (congrArg (fun l => pm_look l 48) cq_197).trans rfl⟩
theorem lk_197_49 : Lk 197 49 (.getfield 29) 12 11 (2) := ⟨3, 1268, (congrArg (fun l => pm_look l 49) cq_197).trans rfl⟩
theorem lk_197_52 : Lk 197 52 (.iconst 1) 0 0 (0) := ⟨1, 0, (congrArg (fun l => pm_look l 52) cq_197).trans rfl⟩
theorem lk_197_53 : Lk 197 53 (.iconst 1) 0 0 (0) := ⟨1, 0, (congrArg (fun l => pm_look l 53) cq_197).trans rfl⟩
theorem lk_197_54 : Lk 197 54 (.iastore) 0 0 (0) := ⟨1, 0, (congrArg (fun l => pm_look l 54) cq_197).trans rfl⟩
theorem lk_197_55 : Lk 197 55 (.aload_n 0) 0 0 (0) := ⟨1, 0, (congrArg (fun l => pm_look l 55) cq_197).trans rfl⟩
theorem lk_197_56 : Lk 197 56 (.getfield 29) 12 11 (2) := ⟨3, 1268, (congrArg (fun l => pm_look l 56) cq_197).trans rfl⟩
theorem lk_197_59 : Lk 197 59 (.iconst 2) 0 0 (0) := ⟨1, 0, (congrArg (fun l => pm_look l 59) cq_197).trans rfl⟩
theorem lk_197_60 : Lk 197 60 (.iconst 1) 0 0 (0) := ⟨1, 0, (congrArg (fun l => pm_look l 60) cq_197).trans rfl⟩
theorem lk_197_61 : Lk 197 61 (.iastore) 0 0 (0) := ⟨1, 0, (congrArg (fun l => pm_look l 61) cq_197).trans rfl⟩
theorem lk_197_62 : Lk 197 62 (.aload_n 0) 0 0 (0) := ⟨1, 0, (congrArg (fun l => pm_look l 62) cq_197).trans rfl⟩
theorem lk_197_63 : Lk 197 63 (.invokevirtual 208) 185 0 (0) := ⟨3, 1490, (congrArg (fun l => pm_look l 63) cq_197).trans rfl⟩
theorem lk_197_66 : Lk 197 66 (.aload_n 0) 0 0 (0) := ⟨1, 0, (congrArg (fun l => pm_look l 66) cq_197).trans rfl⟩
theorem lk_197_67 : Lk 197 67 (.getfield 166) 12 27 (0) := ⟨3, 1284, (congrArg (fun l => pm_look l 67) cq_197).trans rfl⟩
theorem lk_197_70 : Lk 197 70 (.iconst 2) 0 0 (0) := ⟨1, 0, (congrArg (fun l => pm_look l 70) cq_197).trans rfl⟩
theorem lk_197_71 : Lk 197 71 (.if_icmp .eq 8) 0 0 (0) := ⟨3, 0, (congrArg (fun l => pm_look l 71) cq_197).trans rfl⟩
theorem lk_197_74 : Lk 197 74 (.aload_n 0) 0 0 (0) := ⟨1, 0, (congrArg (fun l => pm_look l 74) cq_197).trans rfl⟩
theorem lk_197_75 : Lk 197 75 (.iconst 2) 0 0 (0) := ⟨1, 0, (congrArg (fun l => pm_look l 75) cq_197).trans rfl⟩
theorem lk_197_76 : Lk 197 76 (.invokevirtual 205) 184 0 (0) := ⟨3, 1508, (congrArg (fun l => pm_look l 76) cq_197).trans rfl⟩
theorem lk_197_79 : Lk 197 79 (.aload_n 0) 0 0 (0) := ⟨1, 0, (congrArg (fun l => pm_look l 79) cq_197).trans rfl⟩
theorem lk_197_80 : Lk 197 80 (.invokevirtual 175) 183 0 (0) := ⟨3, 1494, (congrArg (fun l => pm_look l 80) cq_197).trans rfl⟩
theorem lk_197_83 : Lk 197 83 (.ifCond .eq 18) 0 0 (0) := ⟨3, 0, (congrArg (fun l => pm_look l 83) cq_197).trans rfl⟩
theorem lk_197_86 : Lk 197 86 (.aload_n 0) 0 0 (0) := ⟨1, 0, (congrArg (fun l => pm_look l 86) cq_197).trans rfl⟩
theorem lk_197_87 : Lk 197 87 (.getfield 166) 12 27 (0) := ⟨3, 1284, (congrArg (fun l => pm_look l 87) cq_197).trans rfl⟩
theorem lk_197_90 : Lk 197 90 (.iconst 2) 0 0 (0) := ⟨1, 0, (congrArg (fun l => pm_look l 90) cq_197).trans rfl⟩
theorem lk_197_91 : Lk 197 91 (.if_icmp .ne 10) 0 0 (0) := ⟨3, 0, (congrArg (fun l => pm_look l 91) cq_197).trans rfl⟩
theorem lk_197_94 : Lk 197 94 (.aload_n 0) 0 0 (0) := ⟨1, 0, (congrArg (fun l => pm_look l 94) cq_197).trans rfl⟩
theorem lk_197_95 : Lk 197 95 (.invokevirtual 248) 190 0 (0) := ⟨3, 1512, (congrArg (fun l => pm_look l 95) cq_197).trans rfl⟩
theorem lk_197_98 : Lk 197 98 (.goto (-19)) 0 0 (0) := ⟨3, 0, (congrArg (fun l => pm_look l 98) cq_197).trans rfl⟩
theorem lk_197_101 : Lk 197 101 (.aload_n 0) 0 0 (0) := ⟨1, 0, (congrArg (fun l => pm_look l 101) cq_197).trans rfl⟩
theorem lk_197_102 : Lk 197 102 (.invokevirtual 175) 183 0 (0) := ⟨3, 1494, (congrArg (fun l => pm_look l 102) cq_197).trans rfl⟩
theorem lk_197_105 : Lk 197 105 (.ifCond .eq 17) 0 0 (0) := ⟨3, 0, (congrArg (fun l => pm_look l 105) cq_197).trans rfl⟩
theorem lk_197_108 : Lk 197 108 (.aload_n 0) 0 0 (0) := ⟨1, 0, (congrArg (fun l => pm_look l 108) cq_197).trans rfl⟩
theorem lk_197_109 : Lk 197 109 (.getfield 166) 12 27 (0) := ⟨3, 1284, (congrArg (fun l => pm_look l 109) cq_197).trans rfl⟩
theorem lk_197_112 : Lk 197 112 (.ifCond .eq 10) 0 0 (0) := ⟨3, 0, (congrArg (fun l => pm_look l 112) cq_197).trans rfl⟩
theorem lk_197_115 : Lk 197 115 (.aload_n 0) 0 0 (0) := ⟨1, 0, (congrArg (fun l => pm_look l 115) cq_197).trans rfl⟩
theorem lk_197_116 : Lk 197 116 (.invokevirtual 251) 196 0 (0) := ⟨3, 1520, (congrArg (fun l => pm_look l 116) cq_197).trans rfl⟩
theorem lk_197_119 : Lk 197 119 (.goto (-18)) 0 0 (0) := ⟨3, 0, (congrArg (fun l => pm_look l 119) cq_197).trans rfl⟩
theorem lk_197_122 : Lk 197 122 (.aload_n 0) 0 0 (0) := ⟨1, 0, (congrArg (fun l => pm_look l 122) cq_197).trans rfl⟩
theorem lk_197_123 : Lk 197 123 (.aload_n 0) 0 0 (0) := ⟨1, 0, (congrArg (fun l => pm_look l 123) cq_197).trans rfl⟩
theorem lk_197_124 : Lk 197 124 (.getfield 163) 12 31 (0) := ⟨3, 1288, (congrArg (fun l => pm_look l 124) cq_197).trans rfl⟩
theorem lk_197_127 : Lk 197 127 (.putfield 254) 12 29 (0) := ⟨3, 1286, (congrArg (fun l => pm_look l 127) cq_197).trans rfl⟩
theorem lk_197_130 : Lk 197 130 (.aload_n 0) 0 0 (0) := ⟨1, 0, (congrArg (fun l => pm_look l 130) cq_197).trans rfl⟩
theorem lk_197_131 : Lk 197 131 (.aload_n 0) 0 0 (0) := ⟨1, 0, (congrArg (fun l => pm_look l 131) cq_197).trans rfl⟩
theorem lk_197_132 : Lk 197 132 (.invokevirtual 175) 183 0 (0) := ⟨3, 1494, (congrArg (fun l => pm_look l 132) cq_197).trans rfl⟩
theorem lk_197_135 : Lk 197 135 (.ifCond .eq 7) 0 0 (0) := ⟨3, 0, (congrArg (fun l => pm_look l 135) cq_197).trans rfl⟩
theorem lk_197_138 : Lk 197 138 (.iconst (-1)) 0 0 (0) := ⟨1, 0, (congrArg (fun l => pm_look l 138) cq_197).trans rfl⟩
theorem lk_197_139 : Lk 197 139 (.goto 7) 0 0 (0) := ⟨3, 0, (congrArg (fun l => pm_look l 139) cq_197).trans rfl⟩
theorem lk_197_142 : Lk 197 142 (.aload_n 0) 0 0 (0) := ⟨1, 0, (congrArg (fun l => pm_look l 142) cq_197).trans rfl⟩
theorem lk_197_143 : Lk 197 143 (.getfield 172) 12 32 (0) := ⟨3, 1289, (congrArg (fun l => pm_look l 143) cq_197).trans rfl⟩
theorem lk_197_146 : Lk 197 146 (.putfield 65) 12 30 (0) := ⟨3, 1287, (congrArg (fun l => pm_look l 146) cq_197).trans rfl⟩
theorem lk_197_149 : Lk 197 149 (.aload_n 0) 0 0 (0) := ⟨1, 0, (congrArg (fun l => pm_look l 149) cq_197).trans rfl⟩
theorem lk_197_150 : Lk 197 150 (.invokevirtual 175) 183 0 (0) := ⟨3, 1494, (congrArg (fun l => pm_look l 150) cq_197).trans rfl⟩
theorem lk_197_153 : Lk 197 153 (.ifCond .ne 5) 0 0 (0) := ⟨3, 0, (congrArg (fun l => pm_look l 153) cq_197).trans rfl⟩
theorem lk_197_156 : Lk 197 156 (.iconst (-1)) 0 0 (0) := ⟨1, 0, (congrArg (fun l => pm_look l 156) cq_197).trans rfl⟩
theorem lk_197_157 : Lk 197 157 (.ireturn) 0 0 (0) := ⟨1, 0, (congrArg (fun l => pm_look l 157) cq_197).trans rfl⟩
theorem lk_197_158 : Lk 197 158 (.aload_n 0) 0 0 (0) := ⟨1, 0, (congrArg (fun l => pm_look l 158) cq_197).trans rfl⟩
theorem lk_197_159 : Lk 197 159 (.invokevirtual 257) 198 0 (0) := ⟨3, 1559, (congrArg (fun l => pm_look l 159) cq_197).trans rfl⟩
theorem lk_197_162 : Lk 197 162 (.aload_n 0) 0 0 (0) := ⟨1, 0, (congrArg (fun l => pm_look l 162) cq_197).trans rfl⟩
theorem lk_197_163 : Lk 197 163 (.getfield 150) 12 3 (0) := ⟨3, 1260, (congrArg (fun l => pm_look l 163) cq_197).trans rfl⟩
theorem lk_197_166 : Lk 197 166 (.ireturn) 0 0 (0) := ⟨1, 0, (congrArg (fun l => pm_look l 166) cq_197).trans rfl⟩
theorem cq_198 : pm_code 198 = cd_198 := rfl
theorem lk_198_0 : Lk 198 0 (.aload_n 0) 0 0 (0) := ⟨1, 0, (congrArg (fun l => pm_look l 0) cq_198).trans rfl⟩
theorem lk_198_1 : Lk 198 1 (.aload_n 0) 0 0 (0) := ⟨1, 0, (congrArg (fun l => pm_look l 1) cq_198).trans rfl⟩
theorem lk_198_2 : Lk 198 2 (.getfield 211) 12 4 (0) := ⟨3, 1261, (congrArg (fun l => pm_look l 2) cq_198).trans rfl⟩
theorem lk_198_5 : Lk 198 5 (.putfield 7) 12 1 (0) := ⟨3, 1258, (congrArg (fun l => pm_look l 5) cq_198).trans rfl⟩
theorem lk_198_8 : Lk 198 8 (.aload_n 0) 0 0 (0) := ⟨1, 0, (congrArg (fun l => pm_look l 8) cq_198).trans rfl⟩
theorem lk_198_9 : Lk 198 9 (.aload_n 0) 0 0 (0) := ⟨1, 0, (congrArg (fun l => pm_look l 9) cq_198).trans rfl⟩
theorem lk_198_10 : Lk 198 10 (.getfield 214) 12 5 (0) := ⟨3, 1262, (congrArg (fun l => pm_look l 10) cq_198).trans rfl⟩
theorem lk_198_13 : Lk 198 13 (.putfield 13) 12 2 (0) := ⟨3, 1259, (congrArg (fun l => pm_look l 13) cq_198).trans rfl⟩
theorem lk_198_16 : Lk 198 16 (.aload_n 0) 0 0 (0) := ⟨1, 0, (congrArg (fun l => pm_look l 16) cq_198).trans rfl⟩
theorem lk_198_17 : Lk 198 17 (.aload_n 0) 0 0 (0) := ⟨1, 0, (congrArg (fun l => pm_look l 17) cq_198).trans rfl⟩
theorem lk_198_18 : Lk 198 18 (.getfield 220) 12 6 (0) := ⟨3, 1263, (congrArg (fun l => pm_look l 18) cq_198).trans rfl⟩
theorem lk_198_21 : Lk 198 21 (.putfield 150) 12 3 (0) := ⟨3, 1260, (congrArg (fun l => pm_look l 21) cq_198).trans rfl⟩
theorem lk_198_24 : Lk 198 24 (.iconst 0) 0 0 (0) := ⟨1, 0, (congrArg (fun l => pm_look l 24) cq_198).trans rfl⟩
theorem lk_198_25 : Lk 198 25 (.istore_n 1) 0 0 (0) := ⟨1, 0, (congrArg (fun l => pm_look l 25) cq_198).trans rfl⟩
theorem lk_198_26 : Lk 198 26 (.iload_n 1) 0 0 (0) := ⟨1, 0, (congrArg (fun l => pm_look l 26) cq_198).trans rfl⟩
theorem lk_198_27 : Lk 198 27 (.bipush 36) 0 0 (0) := ⟨2, 0, (congrArg (fun l => pm_look l 27) cq_198).trans rfl⟩
theorem lk_198_29 : Lk 198 29 (.if_icmp .ge 48) 0 0 (0) := ⟨3, 0, (congrArg (fun l => pm_look l 29) cq_198).trans rfl⟩
theorem lk_198_32 : Lk 198 32 (.aload_n 0) 0 0 (0) := ⟨1, 0, (congrArg (fun l => pm_look l 32) cq_198).trans rfl⟩
theorem lk_198_33 : Lk 198 33 (.getfield 16) 12 7 (2) := ⟨3, 1264, (congrArg (fun l => pm_look l 33) cq_198).trans rfl⟩
theorem lk_198_36 : Lk 198 36 (.iload_n 1) 0 0 (0) := ⟨1, 0, (congrArg (fun l => pm_look l 36) cq_198).trans rfl⟩
theorem lk_198_37 : Lk 198 37 (.iload_n 1) 0 0 (0) := ⟨1, 0, (congrArg (fun l => pm_look l 37) cq_198).trans rfl⟩
theorem lk_198_38 : Lk 198 38 (.bipush 6) 0 0 (0) := ⟨2, 0, (congrArg (fun l => pm_look l 38) cq_198).trans rfl⟩
theorem lk_198_40 : Lk 198 40 (.idiv) 0 0 (0) := ⟨1, 0, (congrArg (fun l => pm_look l 40) cq_198).trans rfl⟩
theorem lk_198_41 : Lk 198 41 (.aload_n 0) 0 0 (0) := ⟨1, 0, (congrArg (fun l => pm_look l 41) cq_198).trans rfl⟩
theorem lk_198_42 : Lk 198 42 (.getfield 7) 12 1 (0) := ⟨3, 1258, (congrArg (fun l => pm_look l 42) cq_198).trans rfl⟩
theorem lk_198_45 : Lk 198 45 (.if_icmp .ge 23) 0 0 (0) := ⟨3, 0, (congrArg (fun l => pm_look l 45) cq_198).trans rfl⟩
theorem lk_198_48 : Lk 198 48 (.iload_n 1) 0 0 (0) := ⟨1, 0, (congrArg (fun l => pm_look l 48) cq_198).trans rfl⟩
theorem lk_198_49 : Lk 198 49 (.bipush 6) 0 0 (0) := ⟨2, 0, (congrArg (fun l => pm_look l 49) cq_198).trans rfl⟩
theorem lk_198_51 : Lk 198 51 (.irem) 0 0 (0) := ⟨1, 0, (congrArg (fun l => pm_look l 51) cq_198).trans rfl⟩
theorem lk_198_52 : Lk 198 52 (.aload_n 0) 0 0 (0) := ⟨1, 0, (congrArg (fun l => pm_look l 52) cq_198).trans rfl⟩
theorem lk_198_53 : Lk 198 53 (.getfield 13) 12 2 (0) := ⟨3, 1259, (congrArg (fun l => pm_look l 53) cq_198).trans rfl⟩
theorem lk_198_56 : Lk 198 56 (.if_icmp .ge 12) 0 0 (0) := ⟨3, 0, (congrArg (fun l => pm_look l 56) cq_198).trans rfl⟩
theorem lk_198_59 : Lk 198 59 (.aload_n 0) 0 0 (0) := ⟨1, 0, (congrArg (fun l => pm_look l 59) cq_198).trans rfl⟩
theorem lk_198_60 : Lk 198 60 (.getfield 20) 12 8 (2) := ⟨3, 1265, (congrArg (fun l => pm_look l 60) cq_198).trans rfl⟩
theorem lk_198_63 : Lk 198 63 (.iload_n 1) 0 0 (0) := ⟨1, 0, (congrArg (fun l => pm_look l 63) cq_198).trans rfl⟩
theorem lk_198_64 : Lk 198 64 (.iaload) 0 0 (0) := ⟨1, 0, (congrArg (fun l => pm_look l 64) cq_198).trans rfl⟩
theorem lk_198_65 : Lk 198 65 (.goto 5) 0 0 (0) := ⟨3, 0, (congrArg (fun l => pm_look l 65) cq_198).trans rfl⟩
theorem lk_198_68 : Lk 198 68 (.bipush 10) 0 0 (0) := ⟨2, 0, (congrArg (fun l => pm_look l 68) cq_198).trans rfl⟩
theorem lk_198_70 : Lk 198 70 (.iastore) 0 0 (0) := ⟨1, 0, (congrArg (fun l => pm_look l 70) cq_198).trans rfl⟩
theorem lk_198_71 : Lk 198 71 (.iinc 1 1) 0 0 (0) := ⟨3, 0, (congrArg (fun l => pm_look l 71) cq_198).trans rfl⟩
theorem lk_198_74 : Lk 198 74 (.goto (-48)) 0 0 (0) := ⟨3, 0, (congrArg (fun l => pm_look l 74) cq_198).trans rfl⟩
theorem lk_198_77 : Lk 198 77 (.aload_n 0) 0 0 (0) := ⟨1, 0, (congrArg (fun l => pm_look l 77) cq_198).trans rfl⟩
theorem lk_198_78 : Lk 198 78 (.getfield 26) 12 10 (2) := ⟨3, 1267, (congrArg (fun l => pm_look l 78) cq_198).trans rfl⟩
theorem lk_198_81 : Lk 198 81 (.iconst 1) 0 0 (0) := ⟨1, 0, (congrArg (fun l => pm_look l 81) cq_198).trans rfl⟩
theorem lk_198_82 : Lk 198 82 (.aload_n 0) 0 0 (0) := ⟨1, 0, (congrArg (fun l => pm_look l 82) cq_198).trans rfl⟩
theorem lk_198_83 : Lk 198 83 (.getfield 29) 12 11 (2) := ⟨3, 1268, (congrArg (fun l => pm_look l 83) cq_198).trans rfl⟩
theorem lk_198_86 : Lk 198 86 (.iconst 1) 0 0 (0) := ⟨1, 0, (congrArg (fun l => pm_look l 86) cq_198).trans rfl⟩
theorem lk_198_87 : Lk 198 87 (.iaload) 0 0 (0) := ⟨1, 0, (congrArg (fun l => pm_look l 87) cq_198).trans rfl⟩
theorem lk_198_88 : Lk 198 88 (.iastore) 0 0 (0) := ⟨1, 0, (congrArg (fun l => pm_look l 88) cq_198).trans rfl⟩
theorem lk_198_89 : Lk 198 89 (.aload_n 0) 0 0 (0) := ⟨1, 0, (congrArg (fun l => pm_look l 89) cq_198).trans rfl⟩
theorem lk_198_90 : Lk 198 90 (.getfield 26) 12 10 (2) := ⟨3, 1267, (congrArg (fun l => pm_look l 90) cq_198).trans rfl⟩
theorem lk_198_93 : Lk 198 93 (.iconst 2) 0 0 (0) := ⟨1, 0, (congrArg (fun l => pm_look l 93) cq_198).trans rfl⟩
theorem lk_198_94 : Lk 198 94 (.aload_n 0) 0 0 (0) := ⟨1, 0, (congrArg (fun l => pm_look l 94) cq_198).trans rfl⟩
theorem lk_198_95 : Lk 198 95 (.getfield 29) 12 11 (2) := ⟨3, 1268, (congrArg (fun l => pm_look l 95) cq_198).trans rfl⟩
theorem lk_198_98 : Lk 198 98 (.iconst 2) 0 0 (0) := ⟨1, 0, (congrArg (fun l => pm_look l 98) cq_198).trans rfl⟩
theorem lk_198_99 : Lk 198 99 (.iaload) 0 0 (0) := ⟨1, 0, (congrArg (fun l => pm_look l 99) cq_198).trans rfl⟩
theorem lk_198_100 : Lk 198 100 (.iastore) 0 0 (0) := ⟨1, 0, (congrArg (fun l => pm_look l 100) cq_198).trans rfl⟩
theorem lk_198_101 : Lk 198 101 (.iconst 0) 0 0 (0) := ⟨1, 0, (congrArg (fun l => pm_look l 101) cq_198).trans rfl⟩
theorem lk_198_102 : Lk 198 102 (.istore_n 1) 0 0 (0) := ⟨1, 0, (congrArg (fun l => pm_look l 102) cq_198).trans rfl⟩
theorem lk_198_103 : Lk 198 103 (.iload_n 1) 0 0 (0) := ⟨1, 0, (congrArg (fun l => pm_look l 103) cq_198).trans rfl⟩
theorem lk_198_104 : Lk 198 104 (.iconst 4) 0 0 (0) := ⟨1, 0, (congrArg (fun l => pm_look l 104) cq_198).trans rfl⟩
theorem lk_198_105 : Lk 198 105 (.if_icmp .ge 21) 0 0 (0) := ⟨3, 0, (congrArg (fun l => pm_look l 105) cq_198).trans rfl⟩
theorem lk_198_108 : Lk 198 108 (.aload_n 0) 0 0 (0) := ⟨1, 0, (congrArg (fun l => pm_look l 108) cq_198).trans rfl⟩
theorem lk_198_109 : Lk 198 109 (.getfield 32) 12 12 (2) := ⟨3, 1269, (congrArg (fun l => pm_look l 109) cq_198).trans rfl⟩
theorem lk_198_112 : Lk 198 112 (.iload_n 1) 0 0 (0) := ⟨1, 0, (congrArg (fun l => pm_look l 112) cq_198).trans rfl⟩
theorem lk_198_113 : Lk 198 113 (.aload_n 0) 0 0 (0) := ⟨1, 0, (congrArg (fun l => pm_look l 113) cq_198).trans rfl⟩
theorem lk_198_114 : Lk 198 114 (.getfield 47) 12 17 (2) := ⟨3, 1274, (congrArg (fun l => pm_look l 114) cq_198).trans rfl⟩
theorem lk_198_117 : Lk 198 117 (.iload_n 1) 0 0 (0) := ⟨1, 0, (congrArg (fun l => pm_look l 117) cq_198).trans rfl⟩
theorem lk_198_118 : Lk 198 118 (.iaload) 0 0 (0) := ⟨1, 0, (congrArg (fun l => pm_look l 118) cq_198).trans rfl⟩
theorem lk_198_119 : Lk 198 119 (.iastore) 0 0 (0) := ⟨1, 0, (congrArg (fun l => pm_look l 119) cq_198).trans rfl⟩
theorem lk_198_120 : Lk 198 120 (.iinc 1 1) 0 0 (0) := ⟨3, 0, (congrArg (fun l => pm_look l 120) cq_198).trans rfl⟩
theorem lk_198_123 : Lk 198 123 (.goto (-20)) 0 0 (0) := ⟨3, 0, (congrArg (fun l => pm_look l 123) cq_198).trans rfl⟩
theorem lk_198_126 : Lk 198 126 (.iconst 0) 0 0 (0) := ⟨1, 0, (congrArg (fun l => pm_look l 126) cq_198).trans rfl⟩
theorem lk_198_127 : Lk 198 127 (.istore_n 1) 0 0 (0) := ⟨1, 0, (congrArg (fun l => pm_look l 127) cq_198).trans rfl⟩
theorem lk_198_128 : Lk 198 128 (.iload_n 1) 0 0 (0) := ⟨1, 0, (congrArg (fun l => pm_look l 128) cq_198).trans rfl⟩
theorem lk_198_129 : Lk 198 129 (.bipush 124) 0 0 (0) := ⟨2, 0, (congrArg (fun l => pm_look l 129) cq_198).trans rfl⟩
theorem lk_198_131 : Lk 198 131 (.if_icmp .ge 57) 0 0 (0) := ⟨3, 0, (congrArg (fun l => pm_look l 131) cq_198).trans rfl⟩
theorem lk_198_134 : Lk 198 134 (.aload_n 0) 0 0 (0) := ⟨1, 0, (congrArg (fun l => pm_look l 134) cq_198).trans rfl⟩
theorem lk_198_135 : Lk 198 135 (.getfield 35) 12 13 (2) := ⟨3, 1270, (congrArg (fun l => pm_look l 135) cq_198).trans rfl⟩
theorem lk_198_138 : Lk 198 138 (.iload_n 1) 0 0 (0) := ⟨1, 0, (congrArg (fun l => pm_look l 138) cq_198).trans rfl⟩
theorem lk_198_139 : Lk 198 139 (.aload_n 0) 0 0 (0) := ⟨1, 0, (congrArg (fun l => pm_look l 139) cq_198).trans rfl⟩
theorem lk_198_140 : Lk 198 140 (.getfield 50) 12 18 (2) := ⟨3, 1275, (congrArg (fun l => pm_look l 140) cq_198).trans rfl⟩
theorem lk_198_143 : Lk 198 143 (.iload_n 1) 0 0 (0) := ⟨1, 0, (congrArg (fun l => pm_look l 143) cq_198).trans rfl⟩
theorem lk_198_144 : Lk 198 144 (.iaload) 0 0 (0) := ⟨1, 0, (congrArg (fun l => pm_look l 144) cq_198).trans rfl⟩
theorem lk_198_145 : Lk 198 145 (.iastore) 0 0 (0) := ⟨1, 0, (congrArg (fun l => pm_look l 145) cq_198).trans rfl⟩
theorem lk_198_146 : Lk 198 146 (.aload_n 0) 0 0 (0) := ⟨1, 0, (congrArg (fun l => pm_look l 146) cq_198).trans rfl⟩
theorem lk_198_147 : Lk 198 147 (.getfield 38) 12 14 (2) := ⟨3, 1271, (congrArg (fun l => pm_look l 147) cq_198).trans rfl⟩
theorem lk_198_150 : Lk 198 150 (.iload_n 1) 0 0 (0) := ⟨1, 0, (congrArg (fun l => pm_look l 150) cq_198).trans rfl⟩
theorem lk_198_151 : Lk 198 151 (.aload_n 0) 0 0 (0) := ⟨1, 0, (congrArg (fun l => pm_look l 151) cq_198).trans rfl⟩
theorem lk_198_152 : Lk 198 152 (.getfield 53) 12 19 (2) := ⟨3, 1276, (congrArg (fun l => pm_look l 152) cq_198).trans rfl⟩
theorem lk_198_155 : Lk 198 155 (.iload_n 1) 0 0 (0) := ⟨1, 0, (congrArg (fun l => pm_look l 155) cq_198).trans rfl⟩
theorem lk_198_156 : Lk 198 156 (.iaload) 0 0 (0) := ⟨1, 0, (congrArg (fun l => pm_look l 156) cq_198).trans rfl⟩
theorem lk_198_157 : Lk 198 157 (.iastore) 0 0 (0) := ⟨1, 0, (congrArg (fun l => pm_look l 157) cq_198).trans rfl⟩
theorem lk_198_158 : Lk 198 158 (.aload_n 0) 0 0 (0) := ⟨1, 0, (congrArg (fun l => pm_look l 158) cq_198).trans rfl⟩
theorem lk_198_159 : Lk 198 159 (.getfield 41) 12 15 (2) := ⟨3, 1272, (congrArg (fun l => pm_look l 159) cq_198).trans rfl⟩
theorem lk_198_162 : Lk 198 162 (.iload_n 1) 0 0 (0) := ⟨1, 0, (congrArg (fun l => pm_look l 162) cq_198).trans rfl⟩
theorem lk_198_163 : Lk 198 163 (.aload_n 0) 0 0 (0) := ⟨1, 0, (congrArg (fun l => pm_look l 163) cq_198).trans rfl⟩
theorem lk_198_164 : Lk 198 164 (.getfield 56) 12 20 (2) := ⟨3, 1277, (congrArg (fun l => pm_look l 164) cq_198).trans rfl⟩
theorem lk_198_167 : Lk 198 167 (.iload_n 1) 0 0 (0) := ⟨1, 0, (congrArg (fun l => pm_look l 167) cq_198).trans rfl⟩
theorem lk_198_168 : Lk 198 168 (.iaload) 0 0 (0) := ⟨1, 0, (congrArg (fun l => pm_look l 168) cq_198).trans rfl⟩
theorem lk_198_169 : Lk 198 169 (.iastore) 0 0 (0) := ⟨1, 0, (congrArg (fun l => pm_look l 169) cq_198).trans rfl⟩
theorem lk_198_170 : Lk 198 170 (.aload_n 0) 0 0 (0) := ⟨1, 0, (congrArg (fun l => pm_look l 170) cq_198).trans rfl⟩
theorem lk_198_171 : Lk 198 171 (.getfield 44) 12 16 (2) := ⟨3, 1273, (congrArg (fun l => pm_look l 171) cq_198).trans rfl⟩
theorem lk_198_174 : Lk 198 174 (.iload_n 1) 0 0 (0) := ⟨1, 0, (congrArg (fun l => pm_look l 174) cq_198).trans rfl⟩
theorem lk_198_175 : Lk 198 175 (.aload_n 0) 0 0 (0) := ⟨1, 0, (congrArg (fun l => pm_look l 175) cq_198).trans rfl⟩
theorem lk_198_176 : Lk 198 176 (.getfield 59) 12 21 (2) := ⟨3, 1278, (congrArg (fun l => pm_look l 176) cq_198).trans rfl⟩
theorem lk_198_179 : Lk 198 179 (.iload_n 1) 0 0 (0) := ⟨1, 0, (congrArg (fun l => pm_look l 179) cq_198).trans rfl⟩
theorem lk_198_180 : Lk 198 180 (.iaload) 0 0 (0) := ⟨1, 0, (congrArg (fun l => pm_look l 180) cq_198).trans rfl⟩
theorem lk_198_181 : Lk 198 181 (.iastore) 0 0 (0) := ⟨1, 0, (congrArg (fun l => pm_look l 181) cq_198).trans rfl⟩
theorem lk_198_182 : Lk 198 182 (.iinc 1 1) 0 0 (0) := ⟨3, 0, (congrArg (fun l => pm_look l 182) cq_198).trans rfl⟩
theorem lk_198_185 : Lk 198 185 (.goto (-57)) 0 0 (0) := ⟨3, 0, (congrArg (fun l => pm_look l 185) cq_198).trans rfl⟩
theorem lk_198_188 : Lk 198 188 (.aload_n 0) 0 0 (0) := ⟨1, 0, (congrArg (fun l => pm_look l 188) cq_198).trans rfl⟩
theorem lk_198_189 : Lk 198 189 (.iconst 0) 0 0 (0) := ⟨1, 0, (congrArg (fun l => pm_look l 189) cq_198).trans rfl⟩
theorem lk_198_190 : Lk 198 190 (.putfield 260) 12 70 (0) := ⟨3, 1327, (congrArg (fun l => pm_look l 190) cq_198).trans rfl⟩
theorem lk_198_193 : Lk 198 193 (.aload_n 0) 0 0 (0) := ⟨1, 0, (congrArg (fun l => pm_look l 193) cq_198).trans rfl⟩
theorem lk_198_194 : Lk 198 194 (.iconst 0) 0 0 (0) := ⟨1, 0, (congrArg (fun l => pm_look l 194) cq_198).trans rfl⟩
theorem lk_198_195 : Lk 198 195 (.putfield 263) 12 49 (0) := ⟨3, 1306, (congrArg (fun l => pm_look l 195) cq_198).trans rfl⟩
theorem lk_198_198 : Lk 198 198 (.return_) 0 0 (0) := ⟨1, 0, (congrArg (fun l => pm_look l 198) cq_198).trans rfl⟩
theorem cq_199 : pm_code 199 = cd_199 := rfl
theorem lk_199_0 : Lk 199 0 (.aload_n 0) 0 0 (0) := ⟨1, 0, (congrArg (fun l => pm_look l 0) cq_199).trans rfl⟩
theorem lk_199_1 : Lk 199 1 (.iconst 0) 0 0 (0) := ⟨1, 0, (congrArg (fun l => pm_look l 1) cq_199).trans rfl⟩
theorem lk_199_2 : Lk 199 2 (.putfield 143) 12 0 (0) := ⟨3, 1257, (congrArg (fun l => pm_look l 2) cq_199).trans rfl⟩
theorem lk_199_5 : Lk 199 5 (.iload_n 1) 0 0 (0) := ⟨1, 0, (congrArg (fun l => pm_look l 5) cq_199).trans rfl⟩
theorem lk_199_6 : Lk 199 6 (.ifCond .ne 10) 0 0 (0) := ⟨3, 0, (congrArg (fun l => pm_look l 6) cq_199).trans rfl⟩
theorem lk_199_9 : Lk 199 9 (.aload_n 0) 0 0 (0) := ⟨1, 0, (congrArg (fun l => pm_look l 9) cq_199).trans rfl⟩
theorem lk_199_10 : Lk 199 10 (.getfield 254) 12 29 (0) := ⟨3, 1286, (congrArg (fun l => pm_look l 10) cq_199).trans rfl⟩
theorem lk_199_13 : Lk 199 13 (.goto 16) 0 0 (0) := ⟨3, 0, (congrArg (fun l => pm_look l 13) cq_199).trans rfl⟩
theorem lk_199_16 : Lk 199 16 (.iload_n 1) 0 0 (0) := ⟨1, 0, (congrArg (fun l => pm_look l 16) cq_199).trans rfl⟩
theorem lk_199_17 : Lk 199 17 (.iconst 1) 0 0 (0) := ⟨1, 0, (congrArg (fun l => pm_look l 17) cq_199).trans rfl⟩
theorem lk_199_18 : Lk 199 18 (.if_icmp .ne 10) 0 0 (0) := ⟨3, 0, (congrArg (fun l => pm_look l 18) cq_199).trans rfl⟩
theorem lk_199_21 : Lk 199 21 (.aload_n 0) 0 0 (0) := ⟨1, 0, (congrArg (fun l => pm_look l 21) cq_199).trans rfl⟩
theorem lk_199_22 : Lk 199 22 (.getfield 65) 12 30 (0) := ⟨3, 1287, (congrArg (fun l => pm_look l 22) cq_199).trans rfl⟩
theorem lk_199_25 : Lk 199 25 (.goto 4) 0 0 (0) := ⟨3, 0, (congrArg (fun l => pm_look l 25) cq_199).trans rfl⟩
theorem lk_199_28 : Lk 199 28 (.iconst (-1)) 0 0 (0) := ⟨1, 0, (congrArg (fun l => pm_look l 28) cq_199).trans rfl⟩
theorem lk_199_29 : Lk 199 29 (.ireturn) 0 0 (0) := ⟨1, 0, (congrArg (fun l => pm_look l 29) cq_199).trans rfl⟩
theorem cq_200 : pm_code 200 = cd_200 := rfl
theorem lk_200_0 : Lk 200 0 (.iconst 0) 0 0 (0) := ⟨1, 0, (congrArg (fun l => pm_look l 0) cq_200).trans rfl⟩
theorem lk_200_1 : Lk 200 1 (.istore_n 3) 0 0 (0) := ⟨1, 0, (congrArg (fun l => pm_look l 1) cq_200).trans rfl⟩
theorem lk_200_2 : Lk 200 2 (.iconst 0) 0 0 (0) := ⟨1, 0, (congrArg (fun l => pm_look l 2) cq_200).trans rfl⟩
theorem lk_200_3 : Lk 200 3 (.istore 4) 0 0 (0) := ⟨2, 0, (congrArg (fun l => pm_look l 3) cq_200).trans rfl⟩
theorem lk_200_5 : Lk 200 5 (.iload 4) 0 0 (0) := ⟨2, 0, (congrArg (fun l => pm_look l 5) cq_200).trans rfl⟩
theorem lk_200_7 : Lk 200 7 (.aload_n 0) 0 0 (0) := ⟨1, 0, (congrArg (fun l => pm_look l 7) cq_200).trans rfl⟩
theorem lk_200_8 : Lk 200 8 (.getfield 7) 12 1 (0) := ⟨3, 1258, (congrArg (fun l => pm_look l 8) cq_200).trans rfl⟩
theorem lk_200_11 : Lk 200 11 (.if_icmp .ge 62) 0 0 (0) := ⟨3, 0, (congrArg (fun l => pm_look l 11) cq_200).trans rfl⟩
theorem lk_200_14 : Lk 200 14 (.iconst 0) 0 0 (0) := ⟨1, 0, (congrArg (fun l => pm_look l 14) cq_200).trans rfl⟩
theorem lk_200_15 : Lk 200 15 (.istore 5) 0 0 (0) := ⟨2, 0, (congrArg (fun l => pm_look l 15) cq_200).trans rfl⟩
theorem lk_200_17 : Lk 200 17 (.iload 5) 0 0 (0) := ⟨2, 0, (congrArg (fun l => pm_look l 17) cq_200).trans rfl⟩
theorem lk_200_19 : Lk 200 19 (.aload_n 0) 0 0 (0) := ⟨1, 0, (congrArg (fun l => pm_look l 19) cq_200).trans rfl⟩
theorem lk_200_20 : Lk 200 20 (.getfield 13) 12 2 (0) := ⟨3, 1259, (congrArg (fun l => pm_look l 20) cq_200).trans rfl⟩
theorem lk_200_23 : Lk 200 23 (.if_icmp .ge 44) 0 0 (0) := ⟨3, 0, (congrArg (fun l => pm_look l 23) cq_200).trans rfl⟩
theorem lk_200_26 : Lk 200 26 (.iload_n 3) 0 0 (0) := ⟨1, 0, (congrArg (fun l => pm_look l 26) cq_200).trans rfl⟩
theorem lk_200_27 : Lk 200 27 (.iload_n 1) 0 0 (0) := ⟨1, 0, (congrArg (fun l => pm_look l 27) cq_200).trans rfl⟩
theorem lk_200_28 : Lk 200 28 (.iload 4) 0 0 (0) := ⟨2, 0, (congrArg (fun l => pm_look l 28) cq_200).trans rfl⟩
theorem lk_200_30 : Lk 200 30 (.invokestatic 266) 168 0 (0) := ⟨3, 1583, (congrArg (fun l => pm_look l 30) cq_200).trans rfl⟩
theorem lk_200_33 : Lk 200 33 (.ifCond .eq 25) 0 0 (0) := ⟨3, 0, (congrArg (fun l => pm_look l 33) cq_200).trans rfl⟩
theorem lk_200_36 : Lk 200 36 (.iload_n 2) 0 0 (0) := ⟨1, 0, (congrArg (fun l => pm_look l 36) cq_200).trans rfl⟩
theorem lk_200_37 : Lk 200 37 (.iload 5) 0 0 (0) := ⟨2, 0, (congrArg (fun l => pm_look l 37) cq_200).trans rfl⟩
theorem lk_200_39 : Lk 200 39 (.invokestatic 266) 168 0 (0) := ⟨3, 1583, (congrArg (fun l => pm_look l 39) cq_200).trans rfl⟩
theorem lk_200_42 : Lk 200 42 (.ifCond .eq 16) 0 0 (0) := ⟨3, 0, (congrArg (fun l => pm_look l 42) cq_200).trans rfl⟩
theorem lk_200_45 : Lk 200 45 (.iconst 1) 0 0 (0) := ⟨1, 0, (congrArg (fun l => pm_look l 45) cq_200).trans rfl⟩
theorem lk_200_46 : Lk 200 46 (.aload_n 0) 0 0 (0) := ⟨1, 0, (congrArg (fun l => pm_look l 46) cq_200).trans rfl⟩
theorem lk_200_47 : Lk 200 47 (.iload 4) 0 0 (0) := ⟨2, 0, (congrArg (fun l => pm_look l 47) cq_200).trans rfl⟩
theorem lk_200_49 : Lk 200 49 (.iload 5) 0 0 (0) := ⟨2, 0, (congrArg (fun l => pm_look l 49) cq_200).trans rfl⟩
theorem lk_200_51 : Lk 200 51 (.invokevirtual 270) 174 0 (0) := ⟨3, 1586, (congrArg (fun l => pm_look l 51) cq_200).trans rfl⟩
theorem lk_200_54 : Lk 200 54 (.ishl) 0 0 (0) := ⟨1, 0, (congrArg (fun l => pm_look l 54) cq_200).trans rfl⟩
theorem lk_200_55 : Lk 200 55 (.goto 4) 0 0 (0) := ⟨3, 0, (congrArg (fun l => pm_look l 55) cq_200).trans rfl⟩
theorem lk_200_58 : Lk 200 58 (.iconst 0) 0 0 (0) := ⟨1, 0, (congrArg (fun l => pm_look l 58) cq_200).trans rfl⟩
theorem lk_200_59 : Lk 200 59 (.ior) 0 0 (0) := ⟨1, 0, (congrArg (fun l => pm_look l 59) cq_200).trans rfl⟩
theorem lk_200_60 : Lk 200 60 (.istore_n 3) 0 0 (0) := ⟨1, 0, (congrArg (fun l => pm_look l 60) cq_200).trans rfl⟩
theorem lk_200_61 : Lk 200 61 (.iinc 5 1) 0 0 (0) := ⟨3, 0, (congrArg (fun l => pm_look l 61) cq_200).trans rfl⟩
theorem lk_200_64 : Lk 200 64 (.goto (-47)) 0 0 (0) := ⟨3, 0, (congrArg (fun l => pm_look l 64) cq_200).trans rfl⟩
theorem lk_200_67 : Lk 200 67 (.iinc 4 1) 0 0 (0) := ⟨3, 0, (congrArg (fun l => pm_look l 67) cq_200).trans rfl⟩
theorem lk_200_70 : Lk 200 70 (.goto (-65)) 0 0 (0) := ⟨3, 0, (congrArg (fun l => pm_look l 70) cq_200).trans rfl⟩
theorem lk_200_73 : Lk 200 73 (.iload_n 3) 0 0 (0) := ⟨1, 0, (congrArg (fun l => pm_look l 73) cq_200).trans rfl⟩
theorem lk_200_74 : Lk 200 74 (.sipush (-1025)) 0 0 (0) := ⟨3, 0, (congrArg (fun l => pm_look l 74) cq_200).trans rfl⟩
theorem lk_200_77 : Lk 200 77 (.iand) 0 0 (0) := ⟨1, 0, (congrArg (fun l => pm_look l 77) cq_200).trans rfl⟩
theorem lk_200_78 : Lk 200 78 (.ireturn) 0 0 (0) := ⟨1, 0, (congrArg (fun l => pm_look l 78) cq_200).trans rfl⟩
theorem cq_201 : pm_code 201 = cd_201 := rfl
theorem lk_201_0 : Lk 201 0 (.iconst 0) 0 0 (0) := ⟨1, 0, (congrArg (fun l => pm_look l 0) cq_201).trans rfl⟩
theorem lk_201_1 : Lk 201 1 (.istore 4) 0 0 (0) := ⟨2, 0, (congrArg (fun l => pm_look l 1) cq_201).trans rfl⟩
theorem lk_201_3 : Lk 201 3 (.iconst 0) 0 0 (0) := ⟨1, 0, (congrArg (fun l => pm_look l 3) cq_201).trans rfl⟩
theorem lk_201_4 : Lk 201 4 (.istore 5) 0 0 (0) := ⟨2, 0, (congrArg (fun l => pm_look l 4) cq_201).trans rfl⟩
theorem lk_201_6 : Lk 201 6 (.iload 5) 0 0 (0) := ⟨2, 0, (congrArg (fun l => pm_look l 6) cq_201).trans rfl⟩
theorem lk_201_8 : Lk 201 8 (.aload_n 0) 0 0 (0) := ⟨1, 0, (congrArg (fun l => pm_look l 8) cq_201).trans rfl⟩
theorem lk_201_9 : Lk 201 9 (.getfield 7) 12 1 (0) := ⟨3, 1258, (congrArg (fun l => pm_look l 9) cq_201).trans rfl⟩
theorem lk_201_12 : Lk 201 12 (.if_icmp .ge 67) 0 0 (0) := ⟨3, 0, (congrArg (fun l => pm_look l 12) cq_201).trans rfl⟩
theorem lk_201_15 : Lk 201 15 (.iconst 0) 0 0 (0) := ⟨1, 0, (congrArg (fun l => pm_look l 15) cq_201).trans rfl⟩
theorem lk_201_16 : Lk 201 16 (.istore 6) 0 0 (0) := ⟨2, 0, (congrArg (fun l => pm_look l 16) cq_201).trans rfl⟩
theorem lk_201_18 : Lk 201 18 (.iload 6) 0 0 (0) := ⟨2, 0, (congrArg (fun l => pm_look l 18) cq_201).trans rfl⟩
theorem lk_201_20 : Lk 201 20 (.aload_n 0) 0 0 (0) := ⟨1, 0, (congrArg (fun l => pm_look l 20) cq_201).trans rfl⟩
theorem lk_201_21 : Lk 201 21 (.getfield 13) 12 2 (0) := ⟨3, 1259, (congrArg (fun l => pm_look l 21) cq_201).trans rfl⟩
theorem lk_201_24 : Lk 201 24 (.if_icmp .ge 49) 0 0 (0) := ⟨3, 0, (congrArg (fun l => pm_look l 24) cq_201).trans rfl⟩
theorem lk_201_27 : Lk 201 27 (.iload 4) 0 0 (0) := ⟨2, 0, (congrArg (fun l => pm_look l 27) cq_201).trans rfl⟩
theorem lk_201_29 : Lk 201 29 (.iload_n 1) 0 0 (0) := ⟨1, 0, (congrArg (fun l => pm_look l 29) cq_201).trans rfl⟩
theorem lk_201_30 : Lk 201 30 (.iload 5) 0 0 (0) := ⟨2, 0, (congrArg (fun l => pm_look l 30) cq_201).trans rfl⟩
theorem lk_201_32 : Lk 201 32 (.invokestatic 266) 168 0 (0) := ⟨3, 1583, (congrArg (fun l => pm_look l 32) cq_201).trans rfl⟩
theorem lk_201_35 : Lk 201 35 (.ifCond .eq 28) 0 0 (0) := ⟨3, 0, (congrArg (fun l => pm_look l 35) cq_201).trans rfl⟩
theorem lk_201_38 : Lk 201 38 (.iload_n 2) 0 0 (0) := ⟨1, 0, (congrArg (fun l => pm_look l 38) cq_201).trans rfl⟩
theorem lk_201_39 : Lk 201 39 (.iload 6) 0 0 (0) := ⟨2, 0, (congrArg (fun l => pm_look l 39) cq_201).trans rfl⟩
theorem lk_201_41 : Lk 201 41 (.invokestatic 266) 168 0 (0) := ⟨3, 1583, (congrArg (fun l => pm_look l 41) cq_201).trans rfl⟩
theorem lk_201_44 : Lk 201 44 (.ifCond .eq 19) 0 0 (0) := ⟨3, 0, (congrArg (fun l => pm_look l 44) cq_201).trans rfl⟩
theorem lk_201_47 : Lk 201 47 (.aload_n 0) 0 0 (0) := ⟨1, 0, (congrArg (fun l => pm_look l 47) cq_201).trans rfl⟩
theorem lk_201_48 : Lk 201 48 (.iload 5) 0 0 (0) := ⟨2, 0, (congrArg (fun l => pm_look l 48) cq_201).trans rfl⟩
theorem lk_201_50 : Lk 201 50 (.iload 6) 0 0 (0) := ⟨2, 0, (congrArg (fun l => pm_look l 50) cq_201).trans rfl⟩
theorem lk_201_52 : Lk 201 52 (.invokevirtual 270) 174 0 (0) := ⟨3, 1586, (congrArg (fun l => pm_look l 52) cq_201).trans rfl⟩
theorem lk_201_55 : Lk 201 55 (.iload_n 3) 0 0 (0) := ⟨1, 0, (congrArg (fun l => pm_look l 55) cq_201).trans rfl⟩
theorem lk_201_56 : Lk 201 56 (.if_icmp .ne 7) 0 0 (0) := ⟨3, 0, (congrArg (fun l => pm_look l 56) cq_201).trans rfl⟩
theorem lk_201_59 : Lk 201 59 (.iconst 1) 0 0 (0) := ⟨1, 0, (congrArg (fun l => pm_look l 59) cq_201).trans rfl⟩
theorem lk_201_60 : Lk 201 60 (.goto 4) 0 0 (0) := ⟨3, 0, (congrArg (fun l => pm_look l 60) cq_201).trans rfl⟩
theorem lk_201_63 : Lk 201 63 (.iconst 0) 0 0 (0) := ⟨1, 0, (congrArg (fun l => pm_look l 63) cq_201).trans rfl⟩
theorem lk_201_64 : Lk 201 64 (.iadd) 0 0 (0) := ⟨1, 0, (congrArg (fun l => pm_look l 64) cq_201).trans rfl⟩
theorem lk_201_65 : Lk 201 65 (.istore 4) 0 0 (0) := ⟨2, 0, (congrArg (fun l => pm_look l 65) cq_201).trans rfl⟩
theorem lk_201_67 : Lk 201 67 (.iinc 6 1) 0 0 (0) := ⟨3, 0, (congrArg (fun l => pm_look l 67) cq_201).trans rfl⟩
theorem lk_201_70 : Lk 201 70 (.goto (-52)) 0 0 (0) := ⟨3, 0, (congrArg (fun l => pm_look l 70) cq_201).trans rfl⟩
theorem lk_201_73 : Lk 201 73 (.iinc 5 1) 0 0 (0) := ⟨3, 0, (congrArg (fun l => pm_look l 73) cq_201).trans rfl⟩
theorem lk_201_76 : Lk 201 76 (.goto (-70)) 0 0 (0) := ⟨3, 0, (congrArg (fun l => pm_look l 76) cq_201).trans rfl⟩
theorem lk_201_79 : Lk 201 79 (.iload 4) 0 0 (0) := ⟨2, 0, (congrArg (fun l => pm_look l 79) cq_201).trans rfl⟩
theorem lk_201_81 : Lk 201 81 (.ireturn) 0 0 (0) := ⟨1, 0, (congrArg (fun l => pm_look l 81) cq_201).trans rfl⟩
theorem cq_202 : pm_code 202 = cd_202 := rfl
theorem lk_202_0 : Lk 202 0 (.iload_n 1) 0 0 (0) := ⟨1, 0, (congrArg (fun l => pm_look l 0) cq_202).trans rfl⟩
theorem lk_202_1 : Lk 202 1 (.invokestatic 274) 171 0 (0) := ⟨3, 1606, (congrArg (fun l => pm_look l 1) cq_202).trans rfl⟩
theorem lk_202_4 : Lk 202 4 (.iload_n 2) 0 0 (0) := ⟨1, 0, (congrArg (fun l => pm_look l 4) cq_202).trans rfl⟩
theorem lk_202_5 : Lk 202 5 (.invokestatic 274) 171 0 (0) := ⟨3, 1606, (congrArg (fun l => pm_look l 5) cq_202).trans rfl⟩
theorem lk_202_8 : Lk 202 8 (.imul) 0 0 (0) := ⟨1, 0, (congrArg (fun l => pm_look l 8) cq_202).trans rfl⟩
theorem lk_202_9 : Lk 202 9 (.aload_n 0) 0 0 (0) := ⟨1, 0, (congrArg (fun l => pm_look l 9) cq_202).trans rfl⟩
theorem lk_202_10 : Lk 202 10 (.iload_n 1) 0 0 (0) := ⟨1, 0, (congrArg (fun l => pm_look l 10) cq_202).trans rfl⟩
theorem lk_202_11 : Lk 202 11 (.iload_n 2) 0 0 (0) := ⟨1, 0, (congrArg (fun l => pm_look l 11) cq_202).trans rfl⟩
theorem lk_202_12 : Lk 202 12 (.bipush 10) 0 0 (0) := ⟨2, 0, (congrArg (fun l => pm_look l 12) cq_202).trans rfl⟩
theorem lk_202_14 : Lk 202 14 (.invokevirtual 277) 201 0 (0) := ⟨3, 1590, (congrArg (fun l => pm_look l 14) cq_202).trans rfl⟩
theorem lk_202_17 : Lk 202 17 (.isub) 0 0 (0) := ⟨1, 0, (congrArg (fun l => pm_look l 17) cq_202).trans rfl⟩
theorem lk_202_18 : Lk 202 18 (.ireturn) 0 0 (0) := ⟨1, 0, (congrArg (fun l => pm_look l 18) cq_202).trans rfl⟩
theorem cq_203 : pm_code 203 = cd_203 := rfl
theorem lk_203_0 : Lk 203 0 (.aload_n 0) 0 0 (0) := ⟨1, 0, (congrArg (fun l => pm_look l 0) cq_203).trans rfl⟩
theorem lk_203_1 : Lk 203 1 (.iconst 0) 0 0 (0) := ⟨1, 0, (congrArg (fun l => pm_look l 1) cq_203).trans rfl⟩
theorem lk_203_2 : Lk 203 2 (.putfield 143) 12 0 (0) := ⟨3, 1257, (congrArg (fun l => pm_look l 2) cq_203).trans rfl⟩
theorem lk_203_5 : Lk 203 5 (.iload_n 1) 0 0 (0) := ⟨1, 0, (congrArg (fun l => pm_look l 5) cq_203).trans rfl⟩
theorem lk_203_6 : Lk 203 6 (.tableswitch 117 0 8 #[50, 55, 60, 65, 70, 75, 82, 89, 102]) 0 0 (0) := ⟨50, 0, (congrArg (fun l => pm_look l 6) cq_203).trans rfl⟩
theorem lk_203_56 : Lk 203 56 (.aload_n 0) 0 0 (0) := ⟨1, 0, (congrArg (fun l => pm_look l 56) cq_203).trans rfl⟩
theorem lk_203_57 : Lk 203 57 (.getfield 7) 12 1 (0) := ⟨3, 1258, (congrArg (fun l => pm_look l 57) cq_203).trans rfl⟩
theorem lk_203_60 : Lk 203 60 (.ireturn) 0 0 (0) := ⟨1, 0, (congrArg (fun l => pm_look l 60) cq_203).trans rfl⟩
theorem lk_203_61 : Lk 203 61 (.aload_n 0) 0 0 (0) := ⟨1, 0, (congrArg (fun l => pm_look l 61) cq_203).trans rfl⟩
theorem lk_203_62 : Lk 203 62 (.getfield 13) 12 2 (0) := ⟨3, 1259, (congrArg (fun l => pm_look l 62) cq_203).trans rfl⟩
theorem lk_203_65 : Lk 203 65 (.ireturn) 0 0 (0) := ⟨1, 0, (congrArg (fun l => pm_look l 65) cq_203).trans rfl⟩
theorem lk_203_66 : Lk 203 66 (.aload_n 0) 0 0 (0) := ⟨1, 0, (congrArg (fun l => pm_look l 66) cq_203).trans rfl⟩
theorem lk_203_67 : Lk 203 67 (.getfield 150) 12 3 (0) := ⟨3, 1260, (congrArg (fun l => pm_look l 67) cq_203).trans rfl⟩
theorem lk_203_70 : Lk 203 70 (.ireturn) 0 0 (0) := ⟨1, 0, (congrArg (fun l => pm_look l 70) cq_203).trans rfl⟩
theorem lk_203_71 : Lk 203 71 (.aload_n 0) 0 0 (0) := ⟨1, 0, (congrArg (fun l => pm_look l 71) cq_203).trans rfl⟩
theorem lk_203_72 : Lk 203 72 (.getfield 260) 12 70 (0) := ⟨3, 1327, (congrArg (fun l => pm_look l 72) cq_203).trans rfl⟩
theorem lk_203_75 : Lk 203 75 (.ireturn) 0 0 (0) := ⟨1, 0, (congrArg (fun l => pm_look l 75) cq_203).trans rfl⟩
theorem lk_203_76 : Lk 203 76 (.aload_n 0) 0 0 (0) := ⟨1, 0, (congrArg (fun l => pm_look l 76) cq_203).trans rfl⟩
theorem lk_203_77 : Lk 203 77 (.getfield 153) 12 23 (0) := ⟨3, 1280, (congrArg (fun l => pm_look l 77) cq_203).trans rfl⟩
theorem lk_203_80 : Lk 203 80 (.ireturn) 0 0 (0) := ⟨1, 0, (congrArg (fun l => pm_look l 80) cq_203).trans rfl⟩
theorem lk_203_81 : Lk 203 81 (.aload_n 0) 0 0 (0) := ⟨1, 0, (congrArg (fun l => pm_look l 81) cq_203).trans rfl⟩
theorem lk_203_82 : Lk 203 82 (.getfield 26) 12 10 (2) := ⟨3, 1267, (congrArg (fun l => pm_look l 82) cq_203).trans rfl⟩
theorem lk_203_85 : Lk 203 85 (.iconst 1) 0 0 (0) := ⟨1, 0, (congrArg (fun l => pm_look l 85) cq_203).trans rfl⟩
theorem lk_203_86 : Lk 203 86 (.iaload) 0 0 (0) := ⟨1, 0, (congrArg (fun l => pm_look l 86) cq_203).trans rfl⟩
theorem lk_203_87 : Lk 203 87 (.ireturn) 0 0 (0) := ⟨1, 0, (congrArg (fun l => pm_look l 87) cq_203).trans rfl⟩
theorem lk_203_88 : Lk 203 88 (.aload_n 0) 0 0 (0) := ⟨1, 0, (congrArg (fun l => pm_look l 88) cq_203).trans rfl⟩
theorem lk_203_89 : Lk 203 89 (.getfield 26) 12 10 (2) := ⟨3, 1267, (congrArg (fun l => pm_look l 89) cq_203).trans rfl⟩
theorem lk_203_92 : Lk 203 92 (.iconst 2) 0 0 (0) := ⟨1, 0, (congrArg (fun l => pm_look l 92) cq_203).trans rfl⟩
theorem lk_203_93 : Lk 203 93 (.iaload) 0 0 (0) := ⟨1, 0, (congrArg (fun l => pm_look l 93) cq_203).trans rfl⟩
theorem lk_203_94 : Lk 203 94 (.ireturn) 0 0 (0) := ⟨1, 0, (congrArg (fun l => pm_look l 94) cq_203).trans rfl⟩
theorem lk_203_95 : Lk 203 95 (.aload_n 0) 0 0 (0) := ⟨1, 0, (congrArg (fun l => pm_look l 95) cq_203).trans rfl⟩
theorem lk_203_96 : Lk 203 96 (.aload_n 0) 0 0 (0) := ⟨1, 0, (congrArg (fun l => pm_look l 96) cq_203).trans rfl⟩
theorem lk_203_97 : Lk 203 97 (.invokevirtual 281) 175 0 (0) := ⟨3, 1571, (congrArg (fun l => pm_look l 97) cq_203).trans rfl⟩
theorem lk_203_100 : Lk 203 100 (.aload_n 0) 0 0 (0) := ⟨1, 0, (congrArg (fun l => pm_look l 100) cq_203).trans rfl⟩
theorem lk_203_101 : Lk 203 101 (.invokevirtual 285) 176 0 (0) := ⟨3, 1575, (congrArg (fun l => pm_look l 101) cq_203).trans rfl⟩
theorem lk_203_104 : Lk 203 104 (.invokevirtual 288) 200 0 (0) := ⟨3, 1579, (congrArg (fun l => pm_look l 104) cq_203).trans rfl⟩
theorem lk_203_107 : Lk 203 107 (.ireturn) 0 0 (0) := ⟨1, 0, (congrArg (fun l => pm_look l 107) cq_203).trans rfl⟩
theorem lk_203_108 : Lk 203 108 (.aload_n 0) 0 0 (0) := ⟨1, 0, (congrArg (fun l => pm_look l 108) cq_203).trans rfl⟩
theorem lk_203_109 : Lk 203 109 (.aload_n 0) 0 0 (0) := ⟨1, 0, (congrArg (fun l => pm_look l 109) cq_203).trans rfl⟩
theorem lk_203_110 : Lk 203 110 (.invokevirtual 281) 175 0 (0) := ⟨3, 1571, (congrArg (fun l => pm_look l 110) cq_203).trans rfl⟩
theorem lk_203_113 : Lk 203 113 (.aload_n 0) 0 0 (0) := ⟨1, 0, (congrArg (fun l => pm_look l 113) cq_203).trans rfl⟩
theorem lk_203_114 : Lk 203 114 (.invokevirtual 285) 176 0 (0) := ⟨3, 1575, (congrArg (fun l => pm_look l 114) cq_203).trans rfl⟩
theorem lk_203_117 : Lk 203 117 (.bipush 10) 0 0 (0) := ⟨2, 0, (congrArg (fun l => pm_look l 117) cq_203).trans rfl⟩
theorem lk_203_119 : Lk 203 119 (.invokevirtual 277) 201 0 (0) := ⟨3, 1590, (congrArg (fun l => pm_look l 119) cq_203).trans rfl⟩
theorem lk_203_122 : Lk 203 122 (.ireturn) 0 0 (0) := ⟨1, 0, (congrArg (fun l => pm_look l 122) cq_203).trans rfl⟩
theorem lk_203_123 : Lk 203 123 (.iconst (-1)) 0 0 (0) := ⟨1, 0, (congrArg (fun l => pm_look l 123) cq_203).trans rfl⟩
theorem lk_203_124 : Lk 203 124 (.ireturn) 0 0 (0) := ⟨1, 0, (congrArg (fun l => pm_look l 124) cq_203).trans rfl⟩
theorem cq_204 : pm_code 204 = cd_204 := rfl
theorem lk_204_0 : Lk 204 0 (.aload_n 0) 0 0 (0) := ⟨1, 0, (congrArg (fun l => pm_look l 0) cq_204).trans rfl⟩
theorem lk_204_1 : Lk 204 1 (.iconst 0) 0 0 (0) := ⟨1, 0, (congrArg (fun l => pm_look l 1) cq_204).trans rfl⟩
theorem lk_204_2 : Lk 204 2 (.putfield 143) 12 0 (0) := ⟨3, 1257, (congrArg (fun l => pm_look l 2) cq_204).trans rfl⟩
theorem lk_204_5 : Lk 204 5 (.aload_n 0) 0 0 (0) := ⟨1, 0, (congrArg (fun l => pm_look l 5) cq_204).trans rfl⟩
theorem lk_204_6 : Lk 204 6 (.iload_n 1) 0 0 (0) := ⟨1, 0, (congrArg (fun l => pm_look l 6) cq_204).trans rfl⟩
theorem lk_204_7 : Lk 204 7 (.iload_n 2) 0 0 (0) := ⟨1, 0, (congrArg (fun l => pm_look l 7) cq_204).trans rfl⟩
theorem lk_204_8 : Lk 204 8 (.invokevirtual 291) 172 0 (0) := ⟨3, 1598, (congrArg (fun l => pm_look l 8) cq_204).trans rfl⟩
theorem lk_204_11 : Lk 204 11 (.ifCond .eq 12) 0 0 (0) := ⟨3, 0, (congrArg (fun l => pm_look l 11) cq_204).trans rfl⟩
theorem lk_204_14 : Lk 204 14 (.aload_n 0) 0 0 (0) := ⟨1, 0, (congrArg (fun l => pm_look l 14) cq_204).trans rfl⟩
theorem lk_204_15 : Lk 204 15 (.iload_n 1) 0 0 (0) := ⟨1, 0, (congrArg (fun l => pm_look l 15) cq_204).trans rfl⟩
theorem lk_204_16 : Lk 204 16 (.iload_n 2) 0 0 (0) := ⟨1, 0, (congrArg (fun l => pm_look l 16) cq_204).trans rfl⟩
theorem lk_204_17 : Lk 204 17 (.invokevirtual 270) 174 0 (0) := ⟨3, 1586, (congrArg (fun l => pm_look l 17) cq_204).trans rfl⟩
theorem lk_204_20 : Lk 204 20 (.goto 4) 0 0 (0) := ⟨3, 0, (congrArg (fun l => pm_look l 20) cq_204).trans rfl⟩
theorem lk_204_23 : Lk 204 23 (.iconst (-1)) 0 0 (0) := ⟨1, 0, (congrArg (fun l => pm_look l 23) cq_204).trans rfl⟩
theorem lk_204_24 : Lk 204 24 (.ireturn) 0 0 (0) := ⟨1, 0, (congrArg (fun l => pm_look l 24) cq_204).trans rfl⟩
theorem cq_205 : pm_code 205 = cd_205 := rfl
theorem lk_205_0 : Lk 205 0 (.iload_n 0) 0 0 (0) := ⟨1, 0, (congrArg (fun l => pm_look l 0) cq_205).trans rfl⟩
theorem lk_205_1 : Lk 205 1 (.iconst 0) 0 0 (0) := ⟨1, 0, (congrArg (fun l => pm_look l 1) cq_205).trans rfl⟩
theorem lk_205_2 : Lk 205 2 (.bipush 9) 0 0 (0) := ⟨2, 0, (congrArg (fun l => pm_look l 2) cq_205).trans rfl⟩
theorem lk_205_4 : Lk 205 4 (.invokestatic 146) 167 0 (0) := ⟨3, 1483, (congrArg (fun l => pm_look l 4) cq_205).trans rfl⟩
theorem lk_205_7 : Lk 205 7 (.ireturn) 1 0 (0) := ⟨1, 0, (congrArg (fun l => pm_look l 7) cq_205).trans rfl⟩
theorem cq_206 : pm_code 206 = cd_206 := rfl
theorem lk_206_0 : Lk 206 0 (.iconst 0) 0 0 (0) := ⟨1, 0, (congrArg (fun l => pm_look l 0) cq_206).trans rfl⟩
theorem lk_206_1 : Lk 206 1 (.istore_n 1) 0 0 (0) := ⟨1, 0, (congrArg (fun l => pm_look l 1) cq_206).trans rfl⟩
theorem lk_206_2 : Lk 206 2 (.iload_n 0) 0 0 (0) := ⟨1, 0, (congrArg (fun l => pm_look l 2) cq_206).trans rfl⟩
theorem lk_206_3 : Lk 206 3 (.iload_n 1) 0 0 (0) := ⟨1, 0, (congrArg (fun l => pm_look l 3) cq_206).trans rfl⟩
theorem lk_206_4 : Lk 206 4 (.invokestatic 266) 168 0 (0) := ⟨3, 1583, (congrArg (fun l => pm_look l 4) cq_206).trans rfl⟩
theorem lk_206_7 : Lk 206 7 (.ifCond .ne 9) 0 0 (0) := ⟨3, 0, (congrArg (fun l => pm_look l 7) cq_206).trans rfl⟩
theorem lk_206_10 : Lk 206 10 (.iinc 1 1) 0 0 (0) := ⟨3, 0, (congrArg (fun l => pm_look l 10) cq_206).trans rfl⟩
theorem lk_206_13 : Lk 206 13 (.goto (-11)) 0 0 (0) := ⟨3, 0, (congrArg (fun l => pm_look l 13) cq_206).trans rfl⟩
theorem lk_206_16 : Lk 206 16 (.iload_n 1) 0 0 (0) := ⟨1, 0, (congrArg (fun l => pm_look l 16) cq_206).trans rfl⟩
theorem lk_206_17 : Lk 206 17 (.ireturn) 0 0 (0) := ⟨1, 0, (congrArg (fun l => pm_look l 17) cq_206).trans rfl⟩
theorem cq_207 : pm_code 207 = cd_207 := rfl
theorem lk_207_0 : Lk 207 0 (.aload_n 0) 0 0 (0) := ⟨1, 0, (congrArg (fun l => pm_look l 0) cq_207).trans rfl⟩
theorem lk_207_1 : Lk 207 1 (.iconst 0) 0 0 (0) := ⟨1, 0, (congrArg (fun l => pm_look l 1) cq_207).trans rfl⟩
theorem lk_207_2 : Lk 207 2 (.putfield 143) 12 0 (0) := ⟨3, 1257, (congrArg (fun l => pm_look l 2) cq_207).trans rfl⟩
theorem lk_207_5 : Lk 207 5 (.iload_n 1) 0 0 (0) := ⟨1, 0, (congrArg (fun l => pm_look l 5) cq_207).trans rfl⟩
theorem lk_207_6 : Lk 207 6 (.iconst 1) 0 0 (0) := ⟨1, 0, (congrArg (fun l => pm_look l 6) cq_207).trans rfl⟩
theorem lk_207_7 : Lk 207 7 (.aload_n 0) 0 0 (0) := ⟨1, 0, (congrArg (fun l => pm_look l 7) cq_207).trans rfl⟩
theorem lk_207_8 : Lk 207 8 (.invokevirtual 281) 175 0 (0) := ⟨3, 1571, (congrArg (fun l => pm_look l 8) cq_207).trans rfl⟩
theorem lk_207_11 : Lk 207 11 (.invokestatic 146) 167 0 (0) := ⟨3, 1483, (congrArg (fun l => pm_look l 11) cq_207).trans rfl⟩
theorem lk_207_14 : Lk 207 14 (.ifCond .eq 15) 0 0 (0) := ⟨3, 0, (congrArg (fun l => pm_look l 14) cq_207).trans rfl⟩
theorem lk_207_17 : Lk 207 17 (.iload_n 2) 0 0 (0) := ⟨1, 0, (congrArg (fun l => pm_look l 17) cq_207).trans rfl⟩
theorem lk_207_18 : Lk 207 18 (.iconst 1) 0 0 (0) := ⟨1, 0, (congrArg (fun l => pm_look l 18) cq_207).trans rfl⟩
theorem lk_207_19 : Lk 207 19 (.aload_n 0) 0 0 (0) := ⟨1, 0, (congrArg (fun l => pm_look l 19) cq_207).trans rfl⟩
theorem lk_207_20 : Lk 207 20 (.invokevirtual 285) 176 0 (0) := ⟨3, 1575, (congrArg (fun l => pm_look l 20) cq_207).trans rfl⟩
theorem lk_207_23 : Lk 207 23 (.invokestatic 146) 167 0 (0) := ⟨3, 1483, (congrArg (fun l => pm_look l 23) cq_207).trans rfl⟩
theorem lk_207_26 : Lk 207 26 (.ifCond .ne 5) 0 0 (0) := ⟨3, 0, (congrArg (fun l => pm_look l 26) cq_207).trans rfl⟩
theorem lk_207_29 : Lk 207 29 (.iconst (-1)) 0 0 (0) := ⟨1, 0, (congrArg (fun l => pm_look l 29) cq_207).trans rfl⟩
theorem lk_207_30 : Lk 207 30 (.ireturn) 0 0 (0) := ⟨1, 0, (congrArg (fun l => pm_look l 30) cq_207).trans rfl⟩
theorem lk_207_31 : Lk 207 31 (.aload_n 0) 0 0 (0) := ⟨1, 0, (congrArg (fun l => pm_look l 31) cq_207).trans rfl⟩
theorem lk_207_32 : Lk 207 32 (.iload_n 1) 0 0 (0) := ⟨1, 0, (congrArg (fun l => pm_look l 32) cq_207).trans rfl⟩
theorem lk_207_33 : Lk 207 33 (.iload_n 2) 0 0 (0) := ⟨1, 0, (congrArg (fun l => pm_look l 33) cq_207).trans rfl⟩
theorem lk_207_34 : Lk 207 34 (.invokevirtual 288) 200 0 (0) := ⟨3, 1579, (congrArg (fun l => pm_look l 34) cq_207).trans rfl⟩
theorem lk_207_37 : Lk 207 37 (.istore 4) 0 0 (0) := ⟨2, 0, (congrArg (fun l => pm_look l 37) cq_207).trans rfl⟩
theorem lk_207_39 : Lk 207 39 (.iload 4) 0 0 (0) := ⟨2, 0, (congrArg (fun l => pm_look l 39) cq_207).trans rfl⟩
theorem lk_207_41 : Lk 207 41 (.invokestatic 274) 171 0 (0) := ⟨3, 1606, (congrArg (fun l => pm_look l 41) cq_207).trans rfl⟩
theorem lk_207_44 : Lk 207 44 (.istore 5) 0 0 (0) := ⟨2, 0, (congrArg (fun l => pm_look l 44) cq_207).trans rfl⟩
theorem lk_207_46 : Lk 207 46 (.iload_n 3) 0 0 (0) := ⟨1, 0, (congrArg (fun l => pm_look l 46) cq_207).trans rfl⟩
theorem lk_207_47 : Lk 207 47 (.tableswitch 77 0 3 #[29, 41, 67, 74]) 0 0 (0) := ⟨29, 0, (congrArg (fun l => pm_look l 47) cq_207).trans rfl⟩
theorem lk_207_76 : Lk 207 76 (.iload 5) 0 0 (0) := ⟨2, 0, (congrArg (fun l => pm_look l 76) cq_207).trans rfl⟩
theorem lk_207_78 : Lk 207 78 (.iconst 2) 0 0 (0) := ⟨1, 0, (congrArg (fun l => pm_look l 78) cq_207).trans rfl⟩
theorem lk_207_79 : Lk 207 79 (.if_icmp .ge 7) 0 0 (0) := ⟨3, 0, (congrArg (fun l => pm_look l 79) cq_207).trans rfl⟩
theorem lk_207_82 : Lk 207 82 (.iconst 1) 0 0 (0) := ⟨1, 0, (congrArg (fun l => pm_look l 82) cq_207).trans rfl⟩
theorem lk_207_83 : Lk 207 83 (.goto 4) 0 0 (0) := ⟨3, 0, (congrArg (fun l => pm_look l 83) cq_207).trans rfl⟩
theorem lk_207_86 : Lk 207 86 (.iconst 0) 0 0 (0) := ⟨1, 0, (congrArg (fun l => pm_look l 86) cq_207).trans rfl⟩
theorem lk_207_87 : Lk 207 87 (.ireturn) 0 0 (0) := ⟨1, 0, (congrArg (fun l => pm_look l 87) cq_207).trans rfl⟩
theorem lk_207_88 : Lk 207 88 (.iload 5) 0 0 (0) := ⟨2, 0, (congrArg (fun l => pm_look l 88) cq_207).trans rfl⟩
theorem lk_207_90 : Lk 207 90 (.iconst 1) 0 0 (0) := ⟨1, 0, (congrArg (fun l => pm_look l 90) cq_207).trans rfl⟩
theorem lk_207_91 : Lk 207 91 (.if_icmp .le 7) 0 0 (0) := ⟨3, 0, (congrArg (fun l => pm_look l 91) cq_207).trans rfl⟩
theorem lk_207_94 : Lk 207 94 (.iconst (-1)) 0 0 (0) := ⟨1, 0, (congrArg (fun l => pm_look l 94) cq_207).trans rfl⟩
theorem lk_207_95 : Lk 207 95 (.goto 18) 0 0 (0) := ⟨3, 0, (congrArg (fun l => pm_look l 95) cq_207).trans rfl⟩
theorem lk_207_98 : Lk 207 98 (.iload 5) 0 0 (0) := ⟨2, 0, (congrArg (fun l => pm_look l 98) cq_207).trans rfl⟩
theorem lk_207_100 : Lk 207 100 (.ifCond .ne 8) 0 0 (0) := ⟨3, 0, (congrArg (fun l => pm_look l 100) cq_207).trans rfl⟩
theorem lk_207_103 : Lk 207 103 (.bipush 10) 0 0 (0) := ⟨2, 0, (congrArg (fun l => pm_look l 103) cq_207).trans rfl⟩
theorem lk_207_105 : Lk 207 105 (.goto 8) 0 0 (0) := ⟨3, 0, (congrArg (fun l => pm_look l 105) cq_207).trans rfl⟩
theorem lk_207_108 : Lk 207 108 (.iload 4) 0 0 (0) := ⟨2, 0, (congrArg (fun l => pm_look l 108) cq_207).trans rfl⟩
theorem lk_207_110 : Lk 207 110 (.invokestatic 294) 206 0 (0) := ⟨3, 1609, (congrArg (fun l => pm_look l 110) cq_207).trans rfl⟩
theorem lk_207_113 : Lk 207 113 (.ireturn) 0 0 (0) := ⟨1, 0, (congrArg (fun l => pm_look l 113) cq_207).trans rfl⟩
theorem lk_207_114 : Lk 207 114 (.aload_n 0) 0 0 (0) := ⟨1, 0, (congrArg (fun l => pm_look l 114) cq_207).trans rfl⟩
theorem lk_207_115 : Lk 207 115 (.iload_n 1) 0 0 (0) := ⟨1, 0, (congrArg (fun l => pm_look l 115) cq_207).trans rfl⟩
theorem lk_207_116 : Lk 207 116 (.iload_n 2) 0 0 (0) := ⟨1, 0, (congrArg (fun l => pm_look l 116) cq_207).trans rfl⟩
theorem lk_207_117 : Lk 207 117 (.invokevirtual 297) 202 0 (0) := ⟨3, 1612, (congrArg (fun l => pm_look l 117) cq_207).trans rfl⟩
theorem lk_207_120 : Lk 207 120 (.ireturn) 0 0 (0) := ⟨1, 0, (congrArg (fun l => pm_look l 120) cq_207).trans rfl⟩
theorem lk_207_121 : Lk 207 121 (.iload 5) 0 0 (0) := ⟨2, 0, (congrArg (fun l => pm_look l 121) cq_207).trans rfl⟩
theorem lk_207_123 : Lk 207 123 (.ireturn) 0 0 (0) := ⟨1, 0, (congrArg (fun l => pm_look l 123) cq_207).trans rfl⟩
theorem lk_207_124 : Lk 207 124 (.iconst (-1)) 0 0 (0) := ⟨1, 0, (congrArg (fun l => pm_look l 124) cq_207).trans rfl⟩
theorem lk_207_125 : Lk 207 125 (.ireturn) 0 0 (0) := ⟨1, 0, (congrArg (fun l => pm_look l 125) cq_207).trans rfl⟩
theorem cq_208 : pm_code 208 = cd_208 := rfl
theorem lk_208_0 : Lk 208 0 (.iconst 0) 0 0 (0) := ⟨1, 0, (congrArg (fun l => pm_look l 0) cq_208).trans rfl⟩
theorem lk_208_1 : Lk 208 1 (.istore_n 3) 0 0 (0) := ⟨1, 0, (congrArg (fun l => pm_look l 1) cq_208).trans rfl⟩
theorem lk_208_2 : Lk 208 2 (.iconst 0) 0 0 (0) := ⟨1, 0, (congrArg (fun l => pm_look l 2) cq_208).trans rfl⟩
theorem lk_208_3 : Lk 208 3 (.istore 4) 0 0 (0) := ⟨2, 0, (congrArg (fun l => pm_look l 3) cq_208).trans rfl⟩
theorem lk_208_5 : Lk 208 5 (.iload 4) 0 0 (0) := ⟨2, 0, (congrArg (fun l => pm_look l 5) cq_208).trans rfl⟩
theorem lk_208_7 : Lk 208 7 (.aload_n 0) 0 0 (0) := ⟨1, 0, (congrArg (fun l => pm_look l 7) cq_208).trans rfl⟩
theorem lk_208_8 : Lk 208 8 (.getfield 13) 12 2 (0) := ⟨3, 1259, (congrArg (fun l => pm_look l 8) cq_208).trans rfl⟩
theorem lk_208_11 : Lk 208 11 (.if_icmp .ge 38) 0 0 (0) := ⟨3, 0, (congrArg (fun l => pm_look l 11) cq_208).trans rfl⟩
theorem lk_208_14 : Lk 208 14 (.iload_n 3) 0 0 (0) := ⟨1, 0, (congrArg (fun l => pm_look l 14) cq_208).trans rfl⟩
theorem lk_208_15 : Lk 208 15 (.aload_n 0) 0 0 (0) := ⟨1, 0, (congrArg (fun l => pm_look l 15) cq_208).trans rfl⟩
theorem lk_208_16 : Lk 208 16 (.iload_n 1) 0 0 (0) := ⟨1, 0, (congrArg (fun l => pm_look l 16) cq_208).trans rfl⟩
theorem lk_208_17 : Lk 208 17 (.iconst 1) 0 0 (0) := ⟨1, 0, (congrArg (fun l => pm_look l 17) cq_208).trans rfl⟩
theorem lk_208_18 : Lk 208 18 (.iload 4) 0 0 (0) := ⟨2, 0, (congrArg (fun l => pm_look l 18) cq_208).trans rfl⟩
theorem lk_208_20 : Lk 208 20 (.ishl) 0 0 (0) := ⟨1, 0, (congrArg (fun l => pm_look l 20) cq_208).trans rfl⟩
theorem lk_208_21 : Lk 208 21 (.invokevirtual 288) 200 0 (0) := ⟨3, 1579, (congrArg (fun l => pm_look l 21) cq_208).trans rfl⟩
theorem lk_208_24 : Lk 208 24 (.iconst 1) 0 0 (0) := ⟨1, 0, (congrArg (fun l => pm_look l 24) cq_208).trans rfl⟩
theorem lk_208_25 : Lk 208 25 (.iload_n 2) 0 0 (0) := ⟨1, 0, (congrArg (fun l => pm_look l 25) cq_208).trans rfl⟩
theorem lk_208_26 : Lk 208 26 (.ishl) 0 0 (0) := ⟨1, 0, (congrArg (fun l => pm_look l 26) cq_208).trans rfl⟩
theorem lk_208_27 : Lk 208 27 (.iconst (-1)) 0 0 (0) := ⟨1, 0, (congrArg (fun l => pm_look l 27) cq_208).trans rfl⟩
theorem lk_208_28 : Lk 208 28 (.ixor) 0 0 (0) := ⟨1, 0, (congrArg (fun l => pm_look l 28) cq_208).trans rfl⟩
theorem lk_208_29 : Lk 208 29 (.iand) 0 0 (0) := ⟨1, 0, (congrArg (fun l => pm_look l 29) cq_208).trans rfl⟩
theorem lk_208_30 : Lk 208 30 (.ifCond .ne 10) 0 0 (0) := ⟨3, 0, (congrArg (fun l => pm_look l 30) cq_208).trans rfl⟩
theorem lk_208_33 : Lk 208 33 (.iconst 1) 0 0 (0) := ⟨1, 0, (congrArg (fun l => pm_look l 33) cq_208).trans rfl⟩
theorem lk_208_34 : Lk 208 34 (.iload 4) 0 0 (0) := ⟨2, 0, (congrArg (fun l => pm_look l 34) cq_208).trans rfl⟩
theorem lk_208_36 : Lk 208 36 (.ishl) 0 0 (0) := ⟨1, 0, (congrArg (fun l => pm_look l 36) cq_208).trans rfl⟩
theorem lk_208_37 : Lk 208 37 (.goto 4) 0 0 (0) := ⟨3, 0, (congrArg (fun l => pm_look l 37) cq_208).trans rfl⟩
theorem lk_208_40 : Lk 208 40 (.iconst 0) 0 0 (0) := ⟨1, 0, (congrArg (fun l => pm_look l 40) cq_208).trans rfl⟩
theorem lk_208_41 : Lk 208 41 (.ior) 0 0 (0) := ⟨1, 0, (congrArg (fun l => pm_look l 41) cq_208).trans rfl⟩
theorem lk_208_42 : Lk 208 42 (.istore_n 3) 0 0 (0) := ⟨1, 0, (congrArg (fun l => pm_look l 42) cq_208).trans rfl⟩
theorem lk_208_43 : Lk 208 43 (.iinc 4 1) 0 0 (0) := ⟨3, 0, (congrArg (fun l => pm_look l 43) cq_208).trans rfl⟩
theorem lk_208_46 : Lk 208 46 (.goto (-41)) 0 0 (0) := ⟨3, 0, (congrArg (fun l => pm_look l 46) cq_208).trans rfl⟩
theorem lk_208_49 : Lk 208 49 (.iload_n 3) 0 0 (0) := ⟨1, 0, (congrArg (fun l => pm_look l 49) cq_208).trans rfl⟩
theorem lk_208_50 : Lk 208 50 (.ireturn) 0 0 (0) := ⟨1, 0, (congrArg (fun l => pm_look l 50) cq_208).trans rfl⟩
theorem cq_209 : pm_code 209 = cd_209 := rfl
theorem lk_209_0 : Lk 209 0 (.aload_n 0) 0 0 (0) := ⟨1, 0, (congrArg (fun l => pm_look l 0) cq_209).trans rfl⟩
theorem lk_209_1 : Lk 209 1 (.iconst 0) 0 0 (0) := ⟨1, 0, (congrArg (fun l => pm_look l 1) cq_209).trans rfl⟩
theorem lk_209_2 : Lk 209 2 (.putfield 143) 12 0 (0) := ⟨3, 1257, (congrArg (fun l => pm_look l 2) cq_209).trans rfl⟩
theorem lk_209_5 : Lk 209 5 (.iload_n 1) 0 0 (0) := ⟨1, 0, (congrArg (fun l => pm_look l 5) cq_209).trans rfl⟩
theorem lk_209_6 : Lk 209 6 (.invokestatic 300) 205 0 (0) := ⟨3, 1620, (congrArg (fun l => pm_look l 6) cq_209).trans rfl⟩
theorem lk_209_9 : Lk 209 9 (.ifCond .eq 12) 0 0 (0) := ⟨3, 0, (congrArg (fun l => pm_look l 9) cq_209).trans rfl⟩
theorem lk_209_12 : Lk 209 12 (.iload_n 2) 0 0 (0) := ⟨1, 0, (congrArg (fun l => pm_look l 12) cq_209).trans rfl⟩
theorem lk_209_13 : Lk 209 13 (.iconst 0) 0 0 (0) := ⟨1, 0, (congrArg (fun l => pm_look l 13) cq_209).trans rfl⟩
theorem lk_209_14 : Lk 209 14 (.iconst 2) 0 0 (0) := ⟨1, 0, (congrArg (fun l => pm_look l 14) cq_209).trans rfl⟩
theorem lk_209_15 : Lk 209 15 (.invokestatic 146) 167 0 (0) := ⟨3, 1483, (congrArg (fun l => pm_look l 15) cq_209).trans rfl⟩
theorem lk_209_18 : Lk 209 18 (.ifCond .ne 5) 0 0 (0) := ⟨3, 0, (congrArg (fun l => pm_look l 18) cq_209).trans rfl⟩
theorem lk_209_21 : Lk 209 21 (.iconst (-1)) 0 0 (0) := ⟨1, 0, (congrArg (fun l => pm_look l 21) cq_209).trans rfl⟩
theorem lk_209_22 : Lk 209 22 (.ireturn) 0 0 (0) := ⟨1, 0, (congrArg (fun l => pm_look l 22) cq_209).trans rfl⟩
theorem lk_209_23 : Lk 209 23 (.iconst 0) 0 0 (0) := ⟨1, 0, (congrArg (fun l => pm_look l 23) cq_209).trans rfl⟩
theorem lk_209_24 : Lk 209 24 (.istore_n 3) 0 0 (0) := ⟨1, 0, (congrArg (fun l => pm_look l 24) cq_209).trans rfl⟩
theorem lk_209_25 : Lk 209 25 (.iconst 0) 0 0 (0) := ⟨1, 0, (congrArg (fun l => pm_look l 25) cq_209).trans rfl⟩
theorem lk_209_26 : Lk 209 26 (.istore 4) 0 0 (0) := ⟨2, 0, (congrArg (fun l => pm_look l 26) cq_209).trans rfl⟩
theorem lk_209_28 : Lk 209 28 (.iconst 0) 0 0 (0) := ⟨1, 0, (congrArg (fun l => pm_look l 28) cq_209).trans rfl⟩
theorem lk_209_29 : Lk 209 29 (.istore 5) 0 0 (0) := ⟨2, 0, (congrArg (fun l => pm_look l 29) cq_209).trans rfl⟩
theorem lk_209_31 : Lk 209 31 (.iconst 1) 0 0 (0) := ⟨1, 0, (congrArg (fun l => pm_look l 31) cq_209).trans rfl⟩
theorem lk_209_32 : Lk 209 32 (.istore 6) 0 0 (0) := ⟨2, 0, (congrArg (fun l => pm_look l 32) cq_209).trans rfl⟩
theorem lk_209_34 : Lk 209 34 (.iload 6) 0 0 (0) := ⟨2, 0, (congrArg (fun l => pm_look l 34) cq_209).trans rfl⟩
theorem lk_209_36 : Lk 209 36 (.aload_n 0) 0 0 (0) := ⟨1, 0, (congrArg (fun l => pm_look l 36) cq_209).trans rfl⟩
theorem lk_209_37 : Lk 209 37 (.invokevirtual 281) 175 0 (0) := ⟨3, 1571, (congrArg (fun l => pm_look l 37) cq_209).trans rfl⟩
theorem lk_209_40 : Lk 209 40 (.if_icmp .gt 73) 0 0 (0) := ⟨3, 0, (congrArg (fun l => pm_look l 40) cq_209).trans rfl⟩
theorem lk_209_43 : Lk 209 43 (.iconst 1) 0 0 (0) := ⟨1, 0, (congrArg (fun l => pm_look l 43) cq_209).trans rfl⟩
theorem lk_209_44 : Lk 209 44 (.istore 7) 0 0 (0) := ⟨2, 0, (congrArg (fun l => pm_look l 44) cq_209).trans rfl⟩
theorem lk_209_46 : Lk 209 46 (.iload 7) 0 0 (0) := ⟨2, 0, (congrArg (fun l => pm_look l 46) cq_209).trans rfl⟩
theorem lk_209_48 : Lk 209 48 (.aload_n 0) 0 0 (0) := ⟨1, 0, (congrArg (fun l => pm_look l 48) cq_209).trans rfl⟩
theorem lk_209_49 : Lk 209 49 (.invokevirtual 285) 176 0 (0) := ⟨3, 1575, (congrArg (fun l => pm_look l 49) cq_209).trans rfl⟩
theorem lk_209_52 : Lk 209 52 (.if_icmp .gt 55) 0 0 (0) := ⟨3, 0, (congrArg (fun l => pm_look l 52) cq_209).trans rfl⟩
theorem lk_209_55 : Lk 209 55 (.iload 7) 0 0 (0) := ⟨2, 0, (congrArg (fun l => pm_look l 55) cq_209).trans rfl⟩
theorem lk_209_57 : Lk 209 57 (.aload_n 0) 0 0 (0) := ⟨1, 0, (congrArg (fun l => pm_look l 57) cq_209).trans rfl⟩
theorem lk_209_58 : Lk 209 58 (.iload 6) 0 0 (0) := ⟨2, 0, (congrArg (fun l => pm_look l 58) cq_209).trans rfl⟩
theorem lk_209_60 : Lk 209 60 (.iload_n 1) 0 0 (0) := ⟨1, 0, (congrArg (fun l => pm_look l 60) cq_209).trans rfl⟩
theorem lk_209_61 : Lk 209 61 (.invokevirtual 303) 208 0 (0) := ⟨3, 1623, (congrArg (fun l => pm_look l 61) cq_209).trans rfl⟩
theorem lk_209_64 : Lk 209 64 (.iconst (-1)) 0 0 (0) := ⟨1, 0, (congrArg (fun l => pm_look l 64) cq_209).trans rfl⟩
theorem lk_209_65 : Lk 209 65 (.ixor) 0 0 (0) := ⟨1, 0, (congrArg (fun l => pm_look l 65) cq_209).trans rfl⟩
theorem lk_209_66 : Lk 209 66 (.iand) 0 0 (0) := ⟨1, 0, (congrArg (fun l => pm_look l 66) cq_209).trans rfl⟩
theorem lk_209_67 : Lk 209 67 (.ifCond .eq 6) 0 0 (0) := ⟨3, 0, (congrArg (fun l => pm_look l 67) cq_209).trans rfl⟩
theorem lk_209_70 : Lk 209 70 (.goto 31) 0 0 (0) := ⟨3, 0, (congrArg (fun l => pm_look l 70) cq_209).trans rfl⟩
theorem lk_209_73 : Lk 209 73 (.aload_n 0) 0 0 (0) := ⟨1, 0, (congrArg (fun l => pm_look l 73) cq_209).trans rfl⟩
theorem lk_209_74 : Lk 209 74 (.iload 6) 0 0 (0) := ⟨2, 0, (congrArg (fun l => pm_look l 74) cq_209).trans rfl⟩
theorem lk_209_76 : Lk 209 76 (.iload 7) 0 0 (0) := ⟨2, 0, (congrArg (fun l => pm_look l 76) cq_209).trans rfl⟩
theorem lk_209_78 : Lk 209 78 (.iload_n 1) 0 0 (0) := ⟨1, 0, (congrArg (fun l => pm_look l 78) cq_209).trans rfl⟩
theorem lk_209_79 : Lk 209 79 (.invokevirtual 277) 201 0 (0) := ⟨3, 1590, (congrArg (fun l => pm_look l 79) cq_209).trans rfl⟩
theorem lk_209_82 : Lk 209 82 (.istore 8) 0 0 (0) := ⟨2, 0, (congrArg (fun l => pm_look l 82) cq_209).trans rfl⟩
theorem lk_209_84 : Lk 209 84 (.iload 8) 0 0 (0) := ⟨2, 0, (congrArg (fun l => pm_look l 84) cq_209).trans rfl⟩
theorem lk_209_86 : Lk 209 86 (.iload_n 3) 0 0 (0) := ⟨1, 0, (congrArg (fun l => pm_look l 86) cq_209).trans rfl⟩
theorem lk_209_87 : Lk 209 87 (.if_icmp .le 14) 0 0 (0) := ⟨3, 0, (congrArg (fun l => pm_look l 87) cq_209).trans rfl⟩
theorem lk_209_90 : Lk 209 90 (.iload 8) 0 0 (0) := ⟨2, 0, (congrArg (fun l => pm_look l 90) cq_209).trans rfl⟩
theorem lk_209_92 : Lk 209 92 (.istore_n 3) 0 0 (0) := ⟨1, 0, (congrArg (fun l => pm_look l 92) cq_209).trans rfl⟩
theorem lk_209_93 : Lk 209 93 (.iload 6) 0 0 (0) := ⟨2, 0, (congrArg (fun l => pm_look l 93) cq_209).trans rfl⟩
theorem lk_209_95 : Lk 209 95 (.istore 4) 0 0 (0) := ⟨2, 0, (congrArg (fun l => pm_look l 95) cq_209).trans rfl⟩
theorem lk_209_97 : Lk 209 97 (.iload 7) 0 0 (0) := ⟨2, 0, (congrArg (fun l => pm_look l 97) cq_209).trans rfl⟩
theorem lk_209_99 : Lk 209 99 (.istore 5) 0 0 (0) := ⟨2, 0, (congrArg (fun l => pm_look l 99) cq_209).trans rfl⟩
theorem lk_209_101 : Lk 209 101 (.iinc 7 1) 0 0 (0) := ⟨3, 0, (congrArg (fun l => pm_look l 101) cq_209).trans rfl⟩
theorem lk_209_104 : Lk 209 104 (.goto (-58)) 0 0 (0) := ⟨3, 0, (congrArg (fun l => pm_look l 104) cq_209).trans rfl⟩
theorem lk_209_107 : Lk 209 107 (.iinc 6 1) 0 0 (0) := ⟨3, 0, (congrArg (fun l => pm_look l 107) cq_209).trans rfl⟩
theorem lk_209_110 : Lk 209 110 (.goto (-76)) 0 0 (0) := ⟨3, 0, (congrArg (fun l => pm_look l 110) cq_209).trans rfl⟩
theorem lk_209_113 : Lk 209 113 (.iload_n 3) 0 0 (0) := ⟨1, 0, (congrArg (fun l => pm_look l 113) cq_209).trans rfl⟩
theorem lk_209_114 : Lk 209 114 (.ifCond .ne 7) 0 0 (0) := ⟨3, 0, (congrArg (fun l => pm_look l 114) cq_209).trans rfl⟩
theorem lk_209_117 : Lk 209 117 (.iconst (-1)) 0 0 (0) := ⟨1, 0, (congrArg (fun l => pm_look l 117) cq_209).trans rfl⟩
theorem lk_209_118 : Lk 209 118 (.goto 23) 0 0 (0) := ⟨3, 0, (congrArg (fun l => pm_look l 118) cq_209).trans rfl⟩
theorem lk_209_121 : Lk 209 121 (.iload_n 2) 0 0 (0) := ⟨1, 0, (congrArg (fun l => pm_look l 121) cq_209).trans rfl⟩
theorem lk_209_122 : Lk 209 122 (.ifCond .ne 7) 0 0 (0) := ⟨3, 0, (congrArg (fun l => pm_look l 122) cq_209).trans rfl⟩
theorem lk_209_125 : Lk 209 125 (.iload_n 3) 0 0 (0) := ⟨1, 0, (congrArg (fun l => pm_look l 125) cq_209).trans rfl⟩
theorem lk_209_126 : Lk 209 126 (.goto 15) 0 0 (0) := ⟨3, 0, (congrArg (fun l => pm_look l 126) cq_209).trans rfl⟩
theorem lk_209_129 : Lk 209 129 (.iload_n 2) 0 0 (0) := ⟨1, 0, (congrArg (fun l => pm_look l 129) cq_209).trans rfl⟩
theorem lk_209_130 : Lk 209 130 (.iconst 1) 0 0 (0) := ⟨1, 0, (congrArg (fun l => pm_look l 130) cq_209).trans rfl⟩
theorem lk_209_131 : Lk 209 131 (.if_icmp .ne 8) 0 0 (0) := ⟨3, 0, (congrArg (fun l => pm_look l 131) cq_209).trans rfl⟩
theorem lk_209_134 : Lk 209 134 (.iload 4) 0 0 (0) := ⟨2, 0, (congrArg (fun l => pm_look l 134) cq_209).trans rfl⟩
theorem lk_209_136 : Lk 209 136 (.goto 5) 0 0 (0) := ⟨3, 0, (congrArg (fun l => pm_look l 136) cq_209).trans rfl⟩
theorem lk_209_139 : Lk 209 139 (.iload 5) 0 0 (0) := ⟨2, 0, (congrArg (fun l => pm_look l 139) cq_209).trans rfl⟩
theorem lk_209_141 : Lk 209 141 (.ireturn) 0 0 (0) := ⟨1, 0, (congrArg (fun l => pm_look l 141) cq_209).trans rfl⟩
theorem cq_210 : pm_code 210 = cd_210 := rfl
theorem lk_210_0 : Lk 210 0 (.aload_n 0) 0 0 (0) := ⟨1, 0, (congrArg (fun l => pm_look l 0) cq_210).trans rfl⟩
theorem lk_210_1 : Lk 210 1 (.iconst 0) 0 0 (0) := ⟨1, 0, (congrArg (fun l => pm_look l 1) cq_210).trans rfl⟩
theorem lk_210_2 : Lk 210 2 (.putfield 306) 12 38 (0) := ⟨3, 1295, (congrArg (fun l => pm_look l 2) cq_210).trans rfl⟩
theorem lk_210_5 : Lk 210 5 (.iconst 1) 0 0 (0) := ⟨1, 0, (congrArg (fun l => pm_look l 5) cq_210).trans rfl⟩
theorem lk_210_6 : Lk 210 6 (.istore_n 2) 0 0 (0) := ⟨1, 0, (congrArg (fun l => pm_look l 6) cq_210).trans rfl⟩
theorem lk_210_7 : Lk 210 7 (.iload_n 2) 0 0 (0) := ⟨1, 0, (congrArg (fun l => pm_look l 7) cq_210).trans rfl⟩
theorem lk_210_8 : Lk 210 8 (.aload_n 0) 0 0 (0) := ⟨1, 0, (congrArg (fun l => pm_look l 8) cq_210).trans rfl⟩
theorem lk_210_9 : Lk 210 9 (.invokevirtual 281) 175 0 (0) := ⟨3, 1571, (congrArg (fun l => pm_look l 9) cq_210).trans rfl⟩
theorem lk_210_12 : Lk 210 12 (.if_icmp .gt 129) 0 0 (0) := ⟨3, 0, (congrArg (fun l => pm_look l 12) cq_210).trans rfl⟩
theorem lk_210_15 : Lk 210 15 (.aload_n 0) 0 0 (0) := ⟨1, 0, (congrArg (fun l => pm_look l 15) cq_210).trans rfl⟩
theorem lk_210_16 : Lk 210 16 (.iload_n 2) 0 0 (0) := ⟨1, 0, (congrArg (fun l => pm_look l 16) cq_210).trans rfl⟩
theorem lk_210_17 : Lk 210 17 (.iload_n 1) 0 0 (0) := ⟨1, 0, (congrArg (fun l => pm_look l 17) cq_210).trans rfl⟩
theorem lk_210_18 : Lk 210 18 (.invokevirtual 303) 208 0 (0) := ⟨3, 1623, (congrArg (fun l => pm_look l 18) cq_210).trans rfl⟩
theorem lk_210_21 : Lk 210 21 (.istore_n 3) 0 0 (0) := ⟨1, 0, (congrArg (fun l => pm_look l 21) cq_210).trans rfl⟩
theorem lk_210_22 : Lk 210 22 (.iload_n 3) 0 0 (0) := ⟨1, 0, (congrArg (fun l => pm_look l 22) cq_210).trans rfl⟩
theorem lk_210_23 : Lk 210 23 (.ifCond .eq 17) 0 0 (0) := ⟨3, 0, (congrArg (fun l => pm_look l 23) cq_210).trans rfl⟩
theorem lk_210_26 : Lk 210 26 (.aload_n 0) 0 0 (0) := ⟨1, 0, (congrArg (fun l => pm_look l 26) cq_210).trans rfl⟩
theorem lk_210_27 : Lk 210 27 (.iload_n 2) 0 0 (0) := ⟨1, 0, (congrArg (fun l => pm_look l 27) cq_210).trans rfl⟩
theorem lk_210_28 : Lk 210 28 (.iload_n 3) 0 0 (0) := ⟨1, 0, (congrArg (fun l => pm_look l 28) cq_210).trans rfl⟩
theorem lk_210_29 : Lk 210 29 (.iload_n 1) 0 0 (0) := ⟨1, 0, (congrArg (fun l => pm_look l 29) cq_210).trans rfl⟩
theorem lk_210_30 : Lk 210 30 (.invokevirtual 277) 201 0 (0) := ⟨3, 1590, (congrArg (fun l => pm_look l 30) cq_210).trans rfl⟩
theorem lk_210_33 : Lk 210 33 (.ifCond .le 7) 0 0 (0) := ⟨3, 0, (congrArg (fun l => pm_look l 33) cq_210).trans rfl⟩
theorem lk_210_36 : Lk 210 36 (.iconst 1) 0 0 (0) := ⟨1, 0, (congrArg (fun l => pm_look l 36) cq_210).trans rfl⟩
theorem lk_210_37 : Lk 210 37 (.goto 4) 0 0 (0) := ⟨3, 0, (congrArg (fun l => pm_look l 37) cq_210).trans rfl⟩
theorem lk_210_40 : Lk 210 40 (.iconst 0) 0 0 (0) := ⟨1, 0, (congrArg (fun l => pm_look l 40) cq_210).trans rfl⟩
theorem lk_210_41 : Lk 210 41 (.istore 4) 0 0 (0) := ⟨2, 0, (congrArg (fun l => pm_look l 41) cq_210).trans rfl⟩
theorem lk_210_43 : Lk 210 43 (.iconst 0) 0 0 (0) := ⟨1, 0, (congrArg (fun l => pm_look l 43) cq_210).trans rfl⟩
theorem lk_210_44 : Lk 210 44 (.istore 5) 0 0 (0) := ⟨2, 0, (congrArg (fun l => pm_look l 44) cq_210).trans rfl⟩
theorem lk_210_46 : Lk 210 46 (.iload 5) 0 0 (0) := ⟨2, 0, (congrArg (fun l => pm_look l 46) cq_210).trans rfl⟩
theorem lk_210_48 : Lk 210 48 (.aload_n 0) 0 0 (0) := ⟨1, 0, (congrArg (fun l => pm_look l 48) cq_210).trans rfl⟩
theorem lk_210_49 : Lk 210 49 (.getfield 7) 12 1 (0) := ⟨3, 1258, (congrArg (fun l => pm_look l 49) cq_210).trans rfl⟩
theorem lk_210_52 : Lk 210 52 (.if_icmp .ge 48) 0 0 (0) := ⟨3, 0, (congrArg (fun l => pm_look l 52) cq_210).trans rfl⟩
theorem lk_210_55 : Lk 210 55 (.iload 4) 0 0 (0) := ⟨2, 0, (congrArg (fun l => pm_look l 55) cq_210).trans rfl⟩
theorem lk_210_57 : Lk 210 57 (.ifCond .eq 43) 0 0 (0) := ⟨3, 0, (congrArg (fun l => pm_look l 57) cq_210).trans rfl⟩
theorem lk_210_60 : Lk 210 60 (.iload_n 2) 0 0 (0) := ⟨1, 0, (congrArg (fun l => pm_look l 60) cq_210).trans rfl⟩
theorem lk_210_61 : Lk 210 61 (.iload 5) 0 0 (0) := ⟨2, 0, (congrArg (fun l => pm_look l 61) cq_210).trans rfl⟩
theorem lk_210_63 : Lk 210 63 (.invokestatic 266) 168 0 (0) := ⟨3, 1583, (congrArg (fun l => pm_look l 63) cq_210).trans rfl⟩
theorem lk_210_66 : Lk 210 66 (.ifCond .ne 21) 0 0 (0) := ⟨3, 0, (congrArg (fun l => pm_look l 66) cq_210).trans rfl⟩
theorem lk_210_69 : Lk 210 69 (.aload_n 0) 0 0 (0) := ⟨1, 0, (congrArg (fun l => pm_look l 69) cq_210).trans rfl⟩
theorem lk_210_70 : Lk 210 70 (.iconst 1) 0 0 (0) := ⟨1, 0, (congrArg (fun l => pm_look l 70) cq_210).trans rfl⟩
theorem lk_210_71 : Lk 210 71 (.iload 5) 0 0 (0) := ⟨2, 0, (congrArg (fun l => pm_look l 71) cq_210).trans rfl⟩
theorem lk_210_73 : Lk 210 73 (.ishl) 0 0 (0) := ⟨1, 0, (congrArg (fun l => pm_look l 73) cq_210).trans rfl⟩
theorem lk_210_74 : Lk 210 74 (.iload_n 3) 0 0 (0) := ⟨1, 0, (congrArg (fun l => pm_look l 74) cq_210).trans rfl⟩
theorem lk_210_75 : Lk 210 75 (.invokevirtual 288) 200 0 (0) := ⟨3, 1579, (congrArg (fun l => pm_look l 75) cq_210).trans rfl⟩
theorem lk_210_78 : Lk 210 78 (.iconst 1) 0 0 (0) := ⟨1, 0, (congrArg (fun l => pm_look l 78) cq_210).trans rfl⟩
theorem lk_210_79 : Lk 210 79 (.iload_n 1) 0 0 (0) := ⟨1, 0, (congrArg (fun l => pm_look l 79) cq_210).trans rfl⟩
theorem lk_210_80 : Lk 210 80 (.ishl) 0 0 (0) := ⟨1, 0, (congrArg (fun l => pm_look l 80) cq_210).trans rfl⟩
theorem lk_210_81 : Lk 210 81 (.iconst (-1)) 0 0 (0) := ⟨1, 0, (congrArg (fun l => pm_look l 81) cq_210).trans rfl⟩
theorem lk_210_82 : Lk 210 82 (.ixor) 0 0 (0) := ⟨1, 0, (congrArg (fun l => pm_look l 82) cq_210).trans rfl⟩
theorem lk_210_83 : Lk 210 83 (.iand) 0 0 (0) := ⟨1, 0, (congrArg (fun l => pm_look l 83) cq_210).trans rfl⟩
theorem lk_210_84 : Lk 210 84 (.ifCond .eq 7) 0 0 (0) := ⟨3, 0, (congrArg (fun l => pm_look l 84) cq_210).trans rfl⟩
theorem lk_210_87 : Lk 210 87 (.iconst 1) 0 0 (0) := ⟨1, 0, (congrArg (fun l => pm_look l 87) cq_210).trans rfl⟩
theorem lk_210_88 : Lk 210 88 (.goto 4) 0 0 (0) := ⟨3, 0, (congrArg (fun l => pm_look l 88) cq_210).trans rfl⟩
theorem lk_210_91 : Lk 210 91 (.iconst 0) 0 0 (0) := ⟨1, 0, (congrArg (fun l => pm_look l 91) cq_210).trans rfl⟩
theorem lk_210_92 : Lk 210 92 (.istore 4) 0 0 (0) := ⟨2, 0, (congrArg (fun l => pm_look l 92) cq_210).trans rfl⟩
theorem lk_210_94 : Lk 210 94 (.iinc 5 1) 0 0 (0) := ⟨3, 0, (congrArg (fun l => pm_look l 94) cq_210).trans rfl⟩
theorem lk_210_97 : Lk 210 97 (.goto (-51)) 0 0 (0) := ⟨3, 0, (congrArg (fun l => pm_look l 97) cq_210).trans rfl⟩
theorem lk_210_100 : Lk 210 100 (.iload 4) 0 0 (0) := ⟨2, 0, (congrArg (fun l => pm_look l 100) cq_210).trans rfl⟩
theorem lk_210_102 : Lk 210 102 (.ifCond .eq 33) 0 0 (0) := ⟨3, 0, (congrArg (fun l => pm_look l 102) cq_210).trans rfl⟩
theorem lk_210_105 : Lk 210 105 (.aload_n 0) 0 0 (0) := ⟨1, 0, (congrArg (fun l => pm_look l 105) cq_210).trans rfl⟩
theorem lk_210_106 : Lk 210 106 (.getfield 71) 12 36 (2) := ⟨3, 1293, (congrArg (fun l => pm_look l 106) cq_210).trans rfl⟩
theorem lk_210_109 : Lk 210 109 (.aload_n 0) 0 0 (0) := ⟨1, 0, (congrArg (fun l => pm_look l 109) cq_210).trans rfl⟩
theorem lk_210_110 : Lk 210 110 (.getfield 306) 12 38 (0) := ⟨3, 1295, (congrArg (fun l => pm_look l 110) cq_210).trans rfl⟩
theorem lk_210_113 : Lk 210 113 (.iload_n 2) 0 0 (0) := ⟨1, 0, (congrArg (fun l => pm_look l 113) cq_210).trans rfl⟩
theorem lk_210_114 : Lk 210 114 (.iastore) 0 0 (0) := ⟨1, 0, (congrArg (fun l => pm_look l 114) cq_210).trans rfl⟩
theorem lk_210_115 : Lk 210 115 (.aload_n 0) 0 0 (0) := ⟨1, 0, (congrArg (fun l => pm_look l 115) cq_210).trans rfl⟩
theorem lk_210_116 : Lk 210 116 (.getfield 74) 12 37 (2) := ⟨3, 1294, (congrArg (fun l => pm_look l 116) cq_210).trans rfl⟩
theorem lk_210_119 : Lk 210 119 (.aload_n 0) 0 0 (0) := ⟨1, 0, (congrArg (fun l => pm_look l 119) cq_210).trans rfl⟩
theorem lk_210_120 : Lk 210 120 (.getfield 306) 12 38 (0) := ⟨3, 1295, (congrArg (fun l => pm_look l 120) cq_210).trans rfl⟩
theorem lk_210_123 : Lk 210 123 (.iload_n 3) 0 0 (0) := ⟨1, 0, (congrArg (fun l => pm_look l 123) cq_210).trans rfl⟩
theorem lk_210_124 : Lk 210 124 (.iastore) 0 0 (0) := ⟨1, 0, (congrArg (fun l => pm_look l 124) cq_210).trans rfl⟩
theorem lk_210_125 : Lk 210 125 (.aload_n 0) 0 0 (0) := ⟨1, 0, (congrArg (fun l => pm_look l 125) cq_210).trans rfl⟩
theorem lk_210_126 : Lk 210 126 (.dup) 0 0 (0) := ⟨1, 0, (congrArg (fun l => pm_look l 126) cq_210).trans rfl⟩
theorem lk_210_127 : Lk 210 127 (.getfield 306) 12 38 (0) := ⟨3, 1295, (congrArg (fun l => pm_look l 127) cq_210).trans rfl⟩
theorem lk_210_130 : Lk 210 130 (.iconst 1) 0 0 (0) := ⟨1, 0, (congrArg (fun l => pm_look l 130) cq_210).trans rfl⟩
theorem lk_210_131 : Lk 210 131 (.iadd) 0 0 (0) := ⟨1, 0, (congrArg (fun l => pm_look l 131) cq_210).trans rfl⟩
theorem lk_210_132 : Lk 210 132 (.putfield 306) 12 38 (0) := ⟨3, 1295, (congrArg (fun l => pm_look l 132) cq_210).trans rfl⟩
theorem lk_210_135 : Lk 210 135 (.iinc 2 1) 0 0 (0) := ⟨3, 0, (congrArg (fun l => pm_look l 135) cq_210).trans rfl⟩
theorem lk_210_138 : Lk 210 138 (.goto (-131)) 0 0 (0) := ⟨3, 0, (congrArg (fun l => pm_look l 138) cq_210).trans rfl⟩
theorem lk_210_141 : Lk 210 141 (.return_) 0 0 (0) := ⟨1, 0, (congrArg (fun l => pm_look l 141) cq_210).trans rfl⟩
theorem cq_211 : pm_code 211 = cd_211 := rfl
theorem lk_211_0 : Lk 211 0 (.aload_n 0) 0 0 (0) := ⟨1, 0, (congrArg (fun l => pm_look l 0) cq_211).trans rfl⟩
theorem lk_211_1 : Lk 211 1 (.iconst 0) 0 0 (0) := ⟨1, 0, (congrArg (fun l => pm_look l 1) cq_211).trans rfl⟩
theorem lk_211_2 : Lk 211 2 (.putfield 143) 12 0 (0) := ⟨3, 1257, (congrArg (fun l => pm_look l 2) cq_211).trans rfl⟩
theorem lk_211_5 : Lk 211 5 (.iload_n 1) 0 0 (0) := ⟨1, 0, (congrArg (fun l => pm_look l 5) cq_211).trans rfl⟩
theorem lk_211_6 : Lk 211 6 (.invokestatic 300) 205 0 (0) := ⟨3, 1620, (congrArg (fun l => pm_look l 6) cq_211).trans rfl⟩
theorem lk_211_9 : Lk 211 9 (.ifCond .ne 5) 0 0 (0) := ⟨3, 0, (congrArg (fun l => pm_look l 9) cq_211).trans rfl⟩
theorem lk_211_12 : Lk 211 12 (.iconst (-1)) 0 0 (0) := ⟨1, 0, (congrArg (fun l => pm_look l 12) cq_211).trans rfl⟩
theorem lk_211_13 : Lk 211 13 (.ireturn) 0 0 (0) := ⟨1, 0, (congrArg (fun l => pm_look l 13) cq_211).trans rfl⟩
theorem lk_211_14 : Lk 211 14 (.aload_n 0) 0 0 (0) := ⟨1, 0, (congrArg (fun l => pm_look l 14) cq_211).trans rfl⟩
theorem lk_211_15 : Lk 211 15 (.iload_n 1) 0 0 (0) := ⟨1, 0, (congrArg (fun l => pm_look l 15) cq_211).trans rfl⟩
theorem lk_211_16 : Lk 211 16 (.invokevirtual 309) 210 0 (0) := ⟨3, 1631, (congrArg (fun l => pm_look l 16) cq_211).trans rfl⟩
theorem lk_211_19 : Lk 211 19 (.iload_n 2) 0 0 (0) := ⟨1, 0, (congrArg (fun l => pm_look l 19) cq_211).trans rfl⟩
theorem lk_211_20 : Lk 211 20 (.iconst (-1)) 0 0 (0) := ⟨1, 0, (congrArg (fun l => pm_look l 20) cq_211).trans rfl⟩
theorem lk_211_21 : Lk 211 21 (.if_icmp .ne 8) 0 0 (0) := ⟨3, 0, (congrArg (fun l => pm_look l 21) cq_211).trans rfl⟩
theorem lk_211_24 : Lk 211 24 (.aload_n 0) 0 0 (0) := ⟨1, 0, (congrArg (fun l => pm_look l 24) cq_211).trans rfl⟩
theorem lk_211_25 : Lk 211 25 (.getfield 306) 12 38 (0) := ⟨3, 1295, (congrArg (fun l => pm_look l 25) cq_211).trans rfl⟩
theorem lk_211_28 : Lk 211 28 (.ireturn) 0 0 (0) := ⟨1, 0, (congrArg (fun l => pm_look l 28) cq_211).trans rfl⟩
theorem lk_211_29 : Lk 211 29 (.iload_n 2) 0 0 (0) := ⟨1, 0, (congrArg (fun l => pm_look l 29) cq_211).trans rfl⟩
theorem lk_211_30 : Lk 211 30 (.iconst 0) 0 0 (0) := ⟨1, 0, (congrArg (fun l => pm_look l 30) cq_211).trans rfl⟩
theorem lk_211_31 : Lk 211 31 (.aload_n 0) 0 0 (0) := ⟨1, 0, (congrArg (fun l => pm_look l 31) cq_211).trans rfl⟩
theorem lk_211_32 : Lk 211 32 (.getfield 306) 12 38 (0) := ⟨3, 1295, (congrArg (fun l => pm_look l 32) cq_211).trans rfl⟩
theorem lk_211_35 : Lk 211 35 (.iconst 1) 0 0 (0) := ⟨1, 0, (congrArg (fun l => pm_look l 35) cq_211).trans rfl⟩
theorem lk_211_36 : Lk 211 36 (.isub) 0 0 (0) := ⟨1, 0, (congrArg (fun l => pm_look l 36) cq_211).trans rfl⟩
theorem lk_211_37 : Lk 211 37 (.invokestatic 146) 167 0 (0) := ⟨3, 1483, (congrArg (fun l => pm_look l 37) cq_211).trans rfl⟩
theorem lk_211_40 : Lk 211 40 (.ifCond .ne 7) 0 0 (0) := ⟨3, 0, (congrArg (fun l => pm_look l 40) cq_211).trans rfl⟩
theorem lk_211_43 : Lk 211 43 (.iconst (-1)) 0 0 (0) := ⟨1, 0, (congrArg (fun l => pm_look l 43) cq_211).trans rfl⟩
theorem lk_211_44 : Lk 211 44 (.goto 31) 0 0 (0) := ⟨3, 0, (congrArg (fun l => pm_look l 44) cq_211).trans rfl⟩
theorem lk_211_47 : Lk 211 47 (.iload_n 3) 0 0 (0) := ⟨1, 0, (congrArg (fun l => pm_look l 47) cq_211).trans rfl⟩
theorem lk_211_48 : Lk 211 48 (.ifCond .ne 12) 0 0 (0) := ⟨3, 0, (congrArg (fun l => pm_look l 48) cq_211).trans rfl⟩
theorem lk_211_51 : Lk 211 51 (.aload_n 0) 0 0 (0) := ⟨1, 0, (congrArg (fun l => pm_look l 51) cq_211).trans rfl⟩
theorem lk_211_52 : Lk 211 52 (.getfield 71) 12 36 (2) := ⟨3, 1293, (congrArg (fun l => pm_look l 52) cq_211).trans rfl⟩
theorem lk_211_55 : Lk 211 55 (.iload_n 2) 0 0 (0) := ⟨1, 0, (congrArg (fun l => pm_look l 55) cq_211).trans rfl⟩
theorem lk_211_56 : Lk 211 56 (.iaload) 0 0 (0) := ⟨1, 0, (congrArg (fun l => pm_look l 56) cq_211).trans rfl⟩
theorem lk_211_57 : Lk 211 57 (.goto 18) 0 0 (0) := ⟨3, 0, (congrArg (fun l => pm_look l 57) cq_211).trans rfl⟩
theorem lk_211_60 : Lk 211 60 (.iload_n 3) 0 0 (0) := ⟨1, 0, (congrArg (fun l => pm_look l 60) cq_211).trans rfl⟩
theorem lk_211_61 : Lk 211 61 (.iconst 1) 0 0 (0) := ⟨1, 0, (congrArg (fun l => pm_look l 61) cq_211).trans rfl⟩
theorem lk_211_62 : Lk 211 62 (.if_icmp .ne 12) 0 0 (0) := ⟨3, 0, (congrArg (fun l => pm_look l 62) cq_211).trans rfl⟩
theorem lk_211_65 : Lk 211 65 (.aload_n 0) 0 0 (0) := ⟨1, 0, (congrArg (fun l => pm_look l 65) cq_211).trans rfl⟩
theorem lk_211_66 : Lk 211 66 (.getfield 74) 12 37 (2) := ⟨3, 1294, (congrArg (fun l => pm_look l 66) cq_211).trans rfl⟩
theorem lk_211_69 : Lk 211 69 (.iload_n 2) 0 0 (0) := ⟨1, 0, (congrArg (fun l => pm_look l 69) cq_211).trans rfl⟩
theorem lk_211_70 : Lk 211 70 (.iaload) 0 0 (0) := ⟨1, 0, (congrArg (fun l => pm_look l 70) cq_211).trans rfl⟩
theorem lk_211_71 : Lk 211 71 (.goto 4) 0 0 (0) := ⟨3, 0, (congrArg (fun l => pm_look l 71) cq_211).trans rfl⟩
theorem lk_211_74 : Lk 211 74 (.iconst (-1)) 0 0 (0) := ⟨1, 0, (congrArg (fun l => pm_look l 74) cq_211).trans rfl⟩
theorem lk_211_75 : Lk 211 75 (.ireturn) 0 0 (0) := ⟨1, 0, (congrArg (fun l => pm_look l 75) cq_211).trans rfl⟩
theorem cq_212 : pm_code 212 = cd_212 := rfl
theorem lk_212_0 : Lk 212 0 (.iconst 0) 0 0 (0) := ⟨1, 0, (congrArg (fun l => pm_look l 0) cq_212).trans rfl⟩
theorem lk_212_1 : Lk 212 1 (.istore 4) 0 0 (0) := ⟨2, 0, (congrArg (fun l => pm_look l 1) cq_212).trans rfl⟩
theorem lk_212_3 : Lk 212 3 (.iload 4) 0 0 (0) := ⟨2, 0, (congrArg (fun l => pm_look l 3) cq_212).trans rfl⟩
theorem lk_212_5 : Lk 212 5 (.bipush 36) 0 0 (0) := ⟨2, 0, (congrArg (fun l => pm_look l 5) cq_212).trans rfl⟩
theorem lk_212_7 : Lk 212 7 (.if_icmp .ge 102) 0 0 (0) := ⟨3, 0, (congrArg (fun l => pm_look l 7) cq_212).trans rfl⟩
theorem lk_212_10 : Lk 212 10 (.aload_n 0) 0 0 (0) := ⟨1, 0, (congrArg (fun l => pm_look l 10) cq_212).trans rfl⟩
theorem lk_212_11 : Lk 212 11 (.getfield 16) 12 7 (2) := ⟨3, 1264, (congrArg (fun l => pm_look l 11) cq_212).trans rfl⟩
theorem lk_212_14 : Lk 212 14 (.iload 4) 0 0 (0) := ⟨2, 0, (congrArg (fun l => pm_look l 14) cq_212).trans rfl⟩
theorem lk_212_16 : Lk 212 16 (.iaload) 0 0 (0) := ⟨1, 0, (congrArg (fun l => pm_look l 16) cq_212).trans rfl⟩
theorem lk_212_17 : Lk 212 17 (.iload_n 1) 0 0 (0) := ⟨1, 0, (congrArg (fun l => pm_look l 17) cq_212).trans rfl⟩
theorem lk_212_18 : Lk 212 18 (.if_icmp .ne 7) 0 0 (0) := ⟨3, 0, (congrArg (fun l => pm_look l 18) cq_212).trans rfl⟩
theorem lk_212_21 : Lk 212 21 (.iconst 1) 0 0 (0) := ⟨1, 0, (congrArg (fun l => pm_look l 21) cq_212).trans rfl⟩
theorem lk_212_22 : Lk 212 22 (.goto 4) 0 0 (0) := ⟨3, 0, (congrArg (fun l => pm_look l 22) cq_212).trans rfl⟩
theorem lk_212_25 : Lk 212 25 (.iconst 0) 0 0 (0) := ⟨1, 0, (congrArg (fun l => pm_look l 25) cq_212).trans rfl⟩
theorem lk_212_26 : Lk 212 26 (.istore 5) 0 0 (0) := ⟨2, 0, (congrArg (fun l => pm_look l 26) cq_212).trans rfl⟩
theorem lk_212_28 : Lk 212 28 (.iconst 0) 0 0 (0) := ⟨1, 0, (congrArg (fun l => pm_look l 28) cq_212).trans rfl⟩
theorem lk_212_29 : Lk 212 29 (.istore 6) 0 0 (0) := ⟨2, 0, (congrArg (fun l => pm_look l 29) cq_212).trans rfl⟩
theorem lk_212_31 : Lk 212 31 (.iload 6) 0 0 (0) := ⟨2, 0, (congrArg (fun l => pm_look l 31) cq_212).trans rfl⟩
theorem lk_212_33 : Lk 212 33 (.iload_n 3) 0 0 (0) := ⟨1, 0, (congrArg (fun l => pm_look l 33) cq_212).trans rfl⟩
theorem lk_212_34 : Lk 212 34 (.if_icmp .ge 61) 0 0 (0) := ⟨3, 0, (congrArg (fun l => pm_look l 34) cq_212).trans rfl⟩
theorem lk_212_37 : Lk 212 37 (.iload 5) 0 0 (0) := ⟨2, 0, (congrArg (fun l => pm_look l 37) cq_212).trans rfl⟩
theorem lk_212_39 : Lk 212 39 (.ifCond .eq 56) 0 0 (0) := ⟨3, 0, (congrArg (fun l => pm_look l 39) cq_212).trans rfl⟩
theorem lk_212_42 : Lk 212 42 (.aload_n 0) 0 0 (0) := ⟨1, 0, (congrArg (fun l => pm_look l 42) cq_212).trans rfl⟩
theorem lk_212_43 : Lk 212 43 (.getfield 71) 12 36 (2) := ⟨3, 1293, (congrArg (fun l => pm_look l 43) cq_212).trans rfl⟩
theorem lk_212_46 : Lk 212 46 (.aload_n 2) 0 0 (0) := ⟨1, 0, (congrArg (fun l => pm_look l 46) cq_212).trans rfl⟩
theorem lk_212_47 : Lk 212 47 (.iload 6) 0 0 (0) := ⟨2, 0, (congrArg (fun l => pm_look l 47) cq_212).trans rfl⟩
theorem lk_212_49 : Lk 212 49 (.iaload) 0 0 (0) := ⟨1, 0, (congrArg (fun l => pm_look l 49) cq_212).trans rfl⟩
theorem lk_212_50 : Lk 212 50 (.iaload) 0 0 (0) := ⟨1, 0, (congrArg (fun l => pm_look l 50) cq_212).trans rfl⟩
theorem lk_212_51 : Lk 212 51 (.iload 4) 0 0 (0) := ⟨2, 0, (congrArg (fun l => pm_look l 51) cq_212).trans rfl⟩
theorem lk_212_53 : Lk 212 53 (.bipush 6) 0 0 (0) := ⟨2, 0, (congrArg (fun l => pm_look l 53) cq_212).trans rfl⟩
theorem lk_212_55 : Lk 212 55 (.idiv) 0 0 (0) := ⟨1, 0, (congrArg (fun l => pm_look l 55) cq_212).trans rfl⟩
theorem lk_212_56 : Lk 212 56 (.invokestatic 266) 168 0 (0) := ⟨3, 1583, (congrArg (fun l => pm_look l 56) cq_212).trans rfl⟩
theorem lk_212_59 : Lk 212 59 (.ifCond .eq 23) 0 0 (0) := ⟨3, 0, (congrArg (fun l => pm_look l 59) cq_212).trans rfl⟩
theorem lk_212_62 : Lk 212 62 (.aload_n 0) 0 0 (0) := ⟨1, 0, (congrArg (fun l => pm_look l 62) cq_212).trans rfl⟩
theorem lk_212_63 : Lk 212 63 (.getfield 74) 12 37 (2) := ⟨3, 1294, (congrArg (fun l => pm_look l 63) cq_212).trans rfl⟩
theorem lk_212_66 : Lk 212 66 (.aload_n 2) 0 0 (0) := ⟨1, 0, (congrArg (fun l => pm_look l 66) cq_212).trans rfl⟩
theorem lk_212_67 : Lk 212 67 (.iload 6) 0 0 (0) := ⟨2, 0, (congrArg (fun l => pm_look l 67) cq_212).trans rfl⟩
theorem lk_212_69 : Lk 212 69 (.iaload) 0 0 (0) := ⟨1, 0, (congrArg (fun l => pm_look l 69) cq_212).trans rfl⟩
theorem lk_212_70 : Lk 212 70 (.iaload) 0 0 (0) := ⟨1, 0, (congrArg (fun l => pm_look l 70) cq_212).trans rfl⟩
theorem lk_212_71 : Lk 212 71 (.iload 4) 0 0 (0) := ⟨2, 0, (congrArg (fun l => pm_look l 71) cq_212).trans rfl⟩
theorem lk_212_73 : Lk 212 73 (.bipush 6) 0 0 (0) := ⟨2, 0, (congrArg (fun l => pm_look l 73) cq_212).trans rfl⟩
theorem lk_212_75 : Lk 212 75 (.irem) 0 0 (0) := ⟨1, 0, (congrArg (fun l => pm_look l 75) cq_212).trans rfl⟩
theorem lk_212_76 : Lk 212 76 (.invokestatic 266) 168 0 (0) := ⟨3, 1583, (congrArg (fun l => pm_look l 76) cq_212).trans rfl⟩
theorem lk_212_79 : Lk 212 79 (.ifCond .ne 7) 0 0 (0) := ⟨3, 0, (congrArg (fun l => pm_look l 79) cq_212).trans rfl⟩
theorem lk_212_82 : Lk 212 82 (.iconst 1) 0 0 (0) := ⟨1, 0, (congrArg (fun l => pm_look l 82) cq_212).trans rfl⟩
theorem lk_212_83 : Lk 212 83 (.goto 4) 0 0 (0) := ⟨3, 0, (congrArg (fun l => pm_look l 83) cq_212).trans rfl⟩
theorem lk_212_86 : Lk 212 86 (.iconst 0) 0 0 (0) := ⟨1, 0, (congrArg (fun l => pm_look l 86) cq_212).trans rfl⟩
theorem lk_212_87 : Lk 212 87 (.istore 5) 0 0 (0) := ⟨2, 0, (congrArg (fun l => pm_look l 87) cq_212).trans rfl⟩
theorem lk_212_89 : Lk 212 89 (.iinc 6 1) 0 0 (0) := ⟨3, 0, (congrArg (fun l => pm_look l 89) cq_212).trans rfl⟩
theorem lk_212_92 : Lk 212 92 (.goto (-61)) 0 0 (0) := ⟨3, 0, (congrArg (fun l => pm_look l 92) cq_212).trans rfl⟩
theorem lk_212_95 : Lk 212 95 (.iload 5) 0 0 (0) := ⟨2, 0, (congrArg (fun l => pm_look l 95) cq_212).trans rfl⟩
theorem lk_212_97 : Lk 212 97 (.ifCond .eq 6) 0 0 (0) := ⟨3, 0, (congrArg (fun l => pm_look l 97) cq_212).trans rfl⟩
theorem lk_212_100 : Lk 212 100 (.iload 4) 0 0 (0) := ⟨2, 0, (congrArg (fun l => pm_look l 100) cq_212).trans rfl⟩
theorem lk_212_102 : Lk 212 102 (.ireturn) 0 0 (0) := ⟨1, 0, (congrArg (fun l => pm_look l 102) cq_212).trans rfl⟩
theorem lk_212_103 : Lk 212 103 (.iinc 4 1) 0 0 (0) := ⟨3, 0, (congrArg (fun l => pm_look l 103) cq_212).trans rfl⟩
theorem lk_212_106 : Lk 212 106 (.goto (-103)) 0 0 (0) := ⟨3, 0, (congrArg (fun l => pm_look l 106) cq_212).trans rfl⟩
theorem lk_212_109 : Lk 212 109 (.iconst (-1)) 0 0 (0) := ⟨1, 0, (congrArg (fun l => pm_look l 109) cq_212).trans rfl⟩
theorem lk_212_110 : Lk 212 110 (.ireturn) 0 0 (0) := ⟨1, 0, (congrArg (fun l => pm_look l 110) cq_212).trans rfl⟩
theorem cq_213 : pm_code 213 = cd_213 := rfl
theorem lk_213_0 : Lk 213 0 (.iconst 0) 0 0 (0) := ⟨1, 0, (congrArg (fun l => pm_look l 0) cq_213).trans rfl⟩
theorem lk_213_1 : Lk 213 1 (.istore_n 3) 0 0 (0) := ⟨1, 0, (congrArg (fun l => pm_look l 1) cq_213).trans rfl⟩
theorem lk_213_2 : Lk 213 2 (.iconst 0) 0 0 (0) := ⟨1, 0, (congrArg (fun l => pm_look l 2) cq_213).trans rfl⟩
theorem lk_213_3 : Lk 213 3 (.istore 4) 0 0 (0) := ⟨2, 0, (congrArg (fun l => pm_look l 3) cq_213).trans rfl⟩
theorem lk_213_5 : Lk 213 5 (.aload_n 0) 0 0 (0) := ⟨1, 0, (congrArg (fun l => pm_look l 5) cq_213).trans rfl⟩
theorem lk_213_6 : Lk 213 6 (.iload_n 1) 0 0 (0) := ⟨1, 0, (congrArg (fun l => pm_look l 6) cq_213).trans rfl⟩
theorem lk_213_7 : Lk 213 7 (.aload_n 0) 0 0 (0) := ⟨1, 0, (congrArg (fun l => pm_look l 7) cq_213).trans rfl⟩
theorem lk_213_8 : Lk 213 8 (.getfield 77) 12 39 (2) := ⟨3, 1296, (congrArg (fun l => pm_look l 8) cq_213).trans rfl⟩
theorem lk_213_11 : Lk 213 11 (.iload_n 3) 0 0 (0) := ⟨1, 0, (congrArg (fun l => pm_look l 11) cq_213).trans rfl⟩
theorem lk_213_12 : Lk 213 12 (.invokevirtual 312) 212 0 (0) := ⟨3, 1647, (congrArg (fun l => pm_look l 12) cq_213).trans rfl⟩
theorem lk_213_15 : Lk 213 15 (.istore 5) 0 0 (0) := ⟨2, 0, (congrArg (fun l => pm_look l 15) cq_213).trans rfl⟩
theorem lk_213_17 : Lk 213 17 (.iload 5) 0 0 (0) := ⟨2, 0, (congrArg (fun l => pm_look l 17) cq_213).trans rfl⟩
theorem lk_213_19 : Lk 213 19 (.iconst (-1)) 0 0 (0) := ⟨1, 0, (congrArg (fun l => pm_look l 19) cq_213).trans rfl⟩
theorem lk_213_20 : Lk 213 20 (.if_icmp .ne 5) 0 0 (0) := ⟨3, 0, (congrArg (fun l => pm_look l 20) cq_213).trans rfl⟩
theorem lk_213_23 : Lk 213 23 (.iconst 1) 0 0 (0) := ⟨1, 0, (congrArg (fun l => pm_look l 23) cq_213).trans rfl⟩
theorem lk_213_24 : Lk 213 24 (.ireturn) 1 0 (0) := ⟨1, 0, (congrArg (fun l => pm_look l 24) cq_213).trans rfl⟩
theorem lk_213_25 : Lk 213 25 (.iload_n 3) 0 0 (0) := ⟨1, 0, (congrArg (fun l => pm_look l 25) cq_213).trans rfl⟩
theorem lk_213_26 : Lk 213 26 (.iload_n 2) 0 0 (0) := ⟨1, 0, (congrArg (fun l => pm_look l 26) cq_213).trans rfl⟩
theorem lk_213_27 : Lk 213 27 (.if_icmp .ne 10) 0 0 (0) := ⟨3, 0, (congrArg (fun l => pm_look l 27) cq_213).trans rfl⟩
theorem lk_213_30 : Lk 213 30 (.aload_n 0) 0 0 (0) := ⟨1, 0, (congrArg (fun l => pm_look l 30) cq_213).trans rfl⟩
theorem lk_213_31 : Lk 213 31 (.getfield 306) 12 38 (0) := ⟨3, 1295, (congrArg (fun l => pm_look l 31) cq_213).trans rfl⟩
theorem lk_213_34 : Lk 213 34 (.goto 5) 0 0 (0) := ⟨3, 0, (congrArg (fun l => pm_look l 34) cq_213).trans rfl⟩
theorem lk_213_37 : Lk 213 37 (.iload 4) 0 0 (0) := ⟨2, 0, (congrArg (fun l => pm_look l 37) cq_213).trans rfl⟩
theorem lk_213_39 : Lk 213 39 (.istore 6) 0 0 (0) := ⟨2, 0, (congrArg (fun l => pm_look l 39) cq_213).trans rfl⟩
theorem lk_213_41 : Lk 213 41 (.iload 6) 0 0 (0) := ⟨2, 0, (congrArg (fun l => pm_look l 41) cq_213).trans rfl⟩
theorem lk_213_43 : Lk 213 43 (.aload_n 0) 0 0 (0) := ⟨1, 0, (congrArg (fun l => pm_look l 43) cq_213).trans rfl⟩
theorem lk_213_44 : Lk 213 44 (.getfield 306) 12 38 (0) := ⟨3, 1295, (congrArg (fun l => pm_look l 44) cq_213).trans rfl⟩
theorem lk_213_47 : Lk 213 47 (.if_icmp .ge 45) 0 0 (0) := ⟨3, 0, (congrArg (fun l => pm_look l 47) cq_213).trans rfl⟩
theorem lk_213_50 : Lk 213 50 (.aload_n 0) 0 0 (0) := ⟨1, 0, (congrArg (fun l => pm_look l 50) cq_213).trans rfl⟩
theorem lk_213_51 : Lk 213 51 (.getfield 71) 12 36 (2) := ⟨3, 1293, (congrArg (fun l => pm_look l 51) cq_213).trans rfl⟩
theorem lk_213_54 : Lk 213 54 (.iload 6) 0 0 (0) := ⟨2, 0, (congrArg (fun l => pm_look l 54) cq_213).trans rfl⟩
theorem lk_213_56 : Lk 213 56 (.iaload) 0 0 (0) := ⟨1, 0, (congrArg (fun l => pm_look l 56) cq_213).trans rfl⟩
theorem lk_213_57 : Lk 213 57 (.iload 5) 0 0 (0) := ⟨2, 0, (congrArg (fun l => pm_look l 57) cq_213).trans rfl⟩
theorem lk_213_59 : Lk 213 59 (.bipush 6) 0 0 (0) := ⟨2, 0, (congrArg (fun l => pm_look l 59) cq_213).trans rfl⟩
theorem lk_213_61 : Lk 213 61 (.idiv) 0 0 (0) := ⟨1, 0, (congrArg (fun l => pm_look l 61) cq_213).trans rfl⟩
theorem lk_213_62 : Lk 213 62 (.invokestatic 266) 168 0 (0) := ⟨3, 1583, (congrArg (fun l => pm_look l 62) cq_213).trans rfl⟩
theorem lk_213_65 : Lk 213 65 (.ifCond .eq 21) 0 0 (0) := ⟨3, 0, (congrArg (fun l => pm_look l 65) cq_213).trans rfl⟩
theorem lk_213_68 : Lk 213 68 (.aload_n 0) 0 0 (0) := ⟨1, 0, (congrArg (fun l => pm_look l 68) cq_213).trans rfl⟩
theorem lk_213_69 : Lk 213 69 (.getfield 74) 12 37 (2) := ⟨3, 1294, (congrArg (fun l => pm_look l 69) cq_213).trans rfl⟩
theorem lk_213_72 : Lk 213 72 (.iload 6) 0 0 (0) := ⟨2, 0, (congrArg (fun l => pm_look l 72) cq_213).trans rfl⟩
theorem lk_213_74 : Lk 213 74 (.iaload) 0 0 (0) := ⟨1, 0, (congrArg (fun l => pm_look l 74) cq_213).trans rfl⟩
theorem lk_213_75 : Lk 213 75 (.iload 5) 0 0 (0) := ⟨2, 0, (congrArg (fun l => pm_look l 75) cq_213).trans rfl⟩
theorem lk_213_77 : Lk 213 77 (.bipush 6) 0 0 (0) := ⟨2, 0, (congrArg (fun l => pm_look l 77) cq_213).trans rfl⟩
theorem lk_213_79 : Lk 213 79 (.irem) 0 0 (0) := ⟨1, 0, (congrArg (fun l => pm_look l 79) cq_213).trans rfl⟩
theorem lk_213_80 : Lk 213 80 (.invokestatic 266) 168 0 (0) := ⟨3, 1583, (congrArg (fun l => pm_look l 80) cq_213).trans rfl⟩
theorem lk_213_83 : Lk 213 83 (.ifCond .ne 9) 0 0 (0) := ⟨3, 0, (congrArg (fun l => pm_look l 83) cq_213).trans rfl⟩
theorem lk_213_86 : Lk 213 86 (.iinc 6 1) 0 0 (0) := ⟨3, 0, (congrArg (fun l => pm_look l 86) cq_213).trans rfl⟩
theorem lk_213_89 : Lk 213 89 (.goto (-48)) 0 0 (0) := ⟨3, 0, (congrArg (fun l => pm_look l 89) cq_213).trans rfl⟩
theorem lk_213_92 : Lk 213 92 (.iload 6) 0 0 (0) := ⟨2, 0, (congrArg (fun l => pm_look l 92) cq_213).trans rfl⟩
theorem lk_213_94 : Lk 213 94 (.aload_n 0) 0 0 (0) := ⟨1, 0, (congrArg (fun l => pm_look l 94) cq_213).trans rfl⟩
theorem lk_213_95 : Lk 213 95 (.getfield 306) 12 38 (0) := ⟨3, 1295, (congrArg (fun l => pm_look l 95) cq_213).trans rfl⟩
theorem lk_213_98 : Lk 213 98 (.if_icmp .ge 20) 0 0 (0) := ⟨3, 0, (congrArg (fun l => pm_look l 98) cq_213).trans rfl⟩
theorem lk_213_101 : Lk 213 101 (.aload_n 0) 0 0 (0) := ⟨1, 0, (congrArg (fun l => pm_look l 101) cq_213).trans rfl⟩
theorem lk_213_102 : Lk 213 102 (.getfield 77) 12 39 (2) := ⟨3, 1296, (congrArg (fun l => pm_look l 102) cq_213).trans rfl⟩
theorem lk_213_105 : Lk 213 105 (.iload_n 3) 0 0 (0) := ⟨1, 0, (congrArg (fun l => pm_look l 105) cq_213).trans rfl⟩
theorem lk_213_106 : Lk 213 106 (.iload 6) 0 0 (0) := ⟨2, 0, (congrArg (fun l => pm_look l 106) cq_213).trans rfl⟩
theorem lk_213_108 : Lk 213 108 (.iastore) 0 0 (0) := ⟨1, 0, (congrArg (fun l => pm_look l 108) cq_213).trans rfl⟩
theorem lk_213_109 : Lk 213 109 (.iinc 3 1) 0 0 (0) := ⟨3, 0, (congrArg (fun l => pm_look l 109) cq_213).trans rfl⟩
theorem lk_213_112 : Lk 213 112 (.iconst 0) 0 0 (0) := ⟨1, 0, (congrArg (fun l => pm_look l 112) cq_213).trans rfl⟩
theorem lk_213_113 : Lk 213 113 (.istore 4) 0 0 (0) := ⟨2, 0, (congrArg (fun l => pm_look l 113) cq_213).trans rfl⟩
theorem lk_213_115 : Lk 213 115 (.goto 22) 0 0 (0) := ⟨3, 0, (congrArg (fun l => pm_look l 115) cq_213).trans rfl⟩
theorem lk_213_118 : Lk 213 118 (.iload_n 3) 0 0 (0) := ⟨1, 0, (congrArg (fun l => pm_look l 118) cq_213).trans rfl⟩
theorem lk_213_119 : Lk 213 119 (.ifCond .ne 5) 0 0 (0) := ⟨3, 0, (congrArg (fun l => pm_look l 119) cq_213).trans rfl⟩
theorem lk_213_122 : Lk 213 122 (.iconst 0) 0 0 (0) := ⟨1, 0, (congrArg (fun l => pm_look l 122) cq_213).trans rfl⟩
theorem lk_213_123 : Lk 213 123 (.ireturn) 1 0 (0) := ⟨1, 0, (congrArg (fun l => pm_look l 123) cq_213).trans rfl⟩
theorem lk_213_124 : Lk 213 124 (.iinc 3 (-1)) 0 0 (0) := ⟨3, 0, (congrArg (fun l => pm_look l 124) cq_213).trans rfl⟩
theorem lk_213_127 : Lk 213 127 (.aload_n 0) 0 0 (0) := ⟨1, 0, (congrArg (fun l => pm_look l 127) cq_213).trans rfl⟩
theorem lk_213_128 : Lk 213 128 (.getfield 77) 12 39 (2) := ⟨3, 1296, (congrArg (fun l => pm_look l 128) cq_213).trans rfl⟩
theorem lk_213_131 : Lk 213 131 (.iload_n 3) 0 0 (0) := ⟨1, 0, (congrArg (fun l => pm_look l 131) cq_213).trans rfl⟩
theorem lk_213_132 : Lk 213 132 (.iaload) 0 0 (0) := ⟨1, 0, (congrArg (fun l => pm_look l 132) cq_213).trans rfl⟩
theorem lk_213_133 : Lk 213 133 (.iconst 1) 0 0 (0) := ⟨1, 0, (congrArg (fun l => pm_look l 133) cq_213).trans rfl⟩
theorem lk_213_134 : Lk 213 134 (.iadd) 0 0 (0) := ⟨1, 0, (congrArg (fun l => pm_look l 134) cq_213).trans rfl⟩
theorem lk_213_135 : Lk 213 135 (.istore 4) 0 0 (0) := ⟨2, 0, (congrArg (fun l => pm_look l 135) cq_213).trans rfl⟩
theorem lk_213_137 : Lk 213 137 (.goto (-132)) 0 0 (0) := ⟨3, 0, (congrArg (fun l => pm_look l 137) cq_213).trans rfl⟩
theorem cq_214 : pm_code 214 = cd_214 := rfl
theorem lk_214_0 : Lk 214 0 (.aload_n 0) 0 0 (0) := ⟨1, 0, (congrArg (fun l => pm_look l 0) cq_214).trans rfl⟩
theorem lk_214_1 : Lk 214 1 (.iload_n 1) 0 0 (0) := ⟨1, 0, (congrArg (fun l => pm_look l 1) cq_214).trans rfl⟩
theorem lk_214_2 : Lk 214 2 (.invokevirtual 309) 210 0 (0) := ⟨3, 1631, (congrArg (fun l => pm_look l 2) cq_214).trans rfl⟩
theorem lk_214_5 : Lk 214 5 (.iconst 0) 0 0 (0) := ⟨1, 0, (congrArg (fun l => pm_look l 5) cq_214).trans rfl⟩
theorem lk_214_6 : Lk 214 6 (.istore_n 2) 0 0 (0) := ⟨1, 0, (congrArg (fun l => pm_look l 6) cq_214).trans rfl⟩
theorem lk_214_7 : Lk 214 7 (.iload_n 2) 0 0 (0) := ⟨1, 0, (congrArg (fun l => pm_look l 7) cq_214).trans rfl⟩
theorem lk_214_8 : Lk 214 8 (.bipush 6) 0 0 (0) := ⟨2, 0, (congrArg (fun l => pm_look l 8) cq_214).trans rfl⟩
theorem lk_214_10 : Lk 214 10 (.if_icmp .ge 18) 0 0 (0) := ⟨3, 0, (congrArg (fun l => pm_look l 10) cq_214).trans rfl⟩
theorem lk_214_13 : Lk 214 13 (.aload_n 0) 0 0 (0) := ⟨1, 0, (congrArg (fun l => pm_look l 13) cq_214).trans rfl⟩
theorem lk_214_14 : Lk 214 14 (.iload_n 1) 0 0 (0) := ⟨1, 0, (congrArg (fun l => pm_look l 14) cq_214).trans rfl⟩
theorem lk_214_15 : Lk 214 15 (.iload_n 2) 0 0 (0) := ⟨1, 0, (congrArg (fun l => pm_look l 15) cq_214).trans rfl⟩
theorem lk_214_16 : Lk 214 16 (.invokevirtual 316) 213 0 (0) := ⟨3, 1643, (congrArg (fun l => pm_look l 16) cq_214).trans rfl⟩
theorem lk_214_19 : Lk 214 19 (.ifCond .ne 9) 0 0 (0) := ⟨3, 0, (congrArg (fun l => pm_look l 19) cq_214).trans rfl⟩
theorem lk_214_22 : Lk 214 22 (.iinc 2 1) 0 0 (0) := ⟨3, 0, (congrArg (fun l => pm_look l 22) cq_214).trans rfl⟩
theorem lk_214_25 : Lk 214 25 (.goto (-18)) 0 0 (0) := ⟨3, 0, (congrArg (fun l => pm_look l 25) cq_214).trans rfl⟩
theorem lk_214_28 : Lk 214 28 (.iload_n 2) 0 0 (0) := ⟨1, 0, (congrArg (fun l => pm_look l 28) cq_214).trans rfl⟩
theorem lk_214_29 : Lk 214 29 (.ireturn) 0 0 (0) := ⟨1, 0, (congrArg (fun l => pm_look l 29) cq_214).trans rfl⟩
theorem cq_215 : pm_code 215 = cd_215 := rfl
theorem lk_215_0 : Lk 215 0 (.aload_n 0) 0 0 (0) := ⟨1, 0, (congrArg (fun l => pm_look l 0) cq_215).trans rfl⟩
theorem lk_215_1 : Lk 215 1 (.iconst 0) 0 0 (0) := ⟨1, 0, (congrArg (fun l => pm_look l 1) cq_215).trans rfl⟩
theorem lk_215_2 : Lk 215 2 (.putfield 143) 12 0 (0) := ⟨3, 1257, (congrArg (fun l => pm_look l 2) cq_215).trans rfl⟩
theorem lk_215_5 : Lk 215 5 (.iload_n 1) 0 0 (0) := ⟨1, 0, (congrArg (fun l => pm_look l 5) cq_215).trans rfl⟩
theorem lk_215_6 : Lk 215 6 (.invokestatic 300) 205 0 (0) := ⟨3, 1620, (congrArg (fun l => pm_look l 6) cq_215).trans rfl⟩
theorem lk_215_9 : Lk 215 9 (.ifCond .eq 11) 0 0 (0) := ⟨3, 0, (congrArg (fun l => pm_look l 9) cq_215).trans rfl⟩
theorem lk_215_12 : Lk 215 12 (.aload_n 0) 0 0 (0) := ⟨1, 0, (congrArg (fun l => pm_look l 12) cq_215).trans rfl⟩
theorem lk_215_13 : Lk 215 13 (.iload_n 1) 0 0 (0) := ⟨1, 0, (congrArg (fun l => pm_look l 13) cq_215).trans rfl⟩
theorem lk_215_14 : Lk 215 14 (.invokevirtual 319) 214 0 (0) := ⟨3, 1639, (congrArg (fun l => pm_look l 14) cq_215).trans rfl⟩
theorem lk_215_17 : Lk 215 17 (.goto 4) 0 0 (0) := ⟨3, 0, (congrArg (fun l => pm_look l 17) cq_215).trans rfl⟩
theorem lk_215_20 : Lk 215 20 (.iconst (-1)) 0 0 (0) := ⟨1, 0, (congrArg (fun l => pm_look l 20) cq_215).trans rfl⟩
theorem lk_215_21 : Lk 215 21 (.ireturn) 0 0 (0) := ⟨1, 0, (congrArg (fun l => pm_look l 21) cq_215).trans rfl⟩
theorem cq_216 : pm_code 216 = cd_216 := rfl
theorem lk_216_0 : Lk 216 0 (.iload_n 1) 0 0 (0) := ⟨1, 0, (congrArg (fun l => pm_look l 0) cq_216).trans rfl⟩
theorem lk_216_1 : Lk 216 1 (.bipush 10) 0 0 (0) := ⟨2, 0, (congrArg (fun l => pm_look l 1) cq_216).trans rfl⟩
theorem lk_216_3 : Lk 216 3 (.if_icmp .eq 18) 0 0 (0) := ⟨3, 0, (congrArg (fun l => pm_look l 3) cq_216).trans rfl⟩
theorem lk_216_6 : Lk 216 6 (.iload_n 2) 0 0 (0) := ⟨1, 0, (congrArg (fun l => pm_look l 6) cq_216).trans rfl⟩
theorem lk_216_7 : Lk 216 7 (.bipush 10) 0 0 (0) := ⟨2, 0, (congrArg (fun l => pm_look l 7) cq_216).trans rfl⟩
theorem lk_216_9 : Lk 216 9 (.if_icmp .eq 12) 0 0 (0) := ⟨3, 0, (congrArg (fun l => pm_look l 9) cq_216).trans rfl⟩
theorem lk_216_12 : Lk 216 12 (.iload_n 1) 0 0 (0) := ⟨1, 0, (congrArg (fun l => pm_look l 12) cq_216).trans rfl⟩
theorem lk_216_13 : Lk 216 13 (.iload_n 2) 0 0 (0) := ⟨1, 0, (congrArg (fun l => pm_look l 13) cq_216).trans rfl⟩
theorem lk_216_14 : Lk 216 14 (.if_icmp .eq 7) 0 0 (0) := ⟨3, 0, (congrArg (fun l => pm_look l 14) cq_216).trans rfl⟩
theorem lk_216_17 : Lk 216 17 (.iconst 1) 0 0 (0) := ⟨1, 0, (congrArg (fun l => pm_look l 17) cq_216).trans rfl⟩
theorem lk_216_18 : Lk 216 18 (.goto 4) 0 0 (0) := ⟨3, 0, (congrArg (fun l => pm_look l 18) cq_216).trans rfl⟩
theorem lk_216_21 : Lk 216 21 (.iconst 0) 0 0 (0) := ⟨1, 0, (congrArg (fun l => pm_look l 21) cq_216).trans rfl⟩
theorem lk_216_22 : Lk 216 22 (.ireturn) 1 0 (0) := ⟨1, 0, (congrArg (fun l => pm_look l 22) cq_216).trans rfl⟩
theorem cq_217 : pm_code 217 = cd_217 := rfl
theorem lk_217_0 : Lk 217 0 (.aload_n 0) 0 0 (0) := ⟨1, 0, (congrArg (fun l => pm_look l 0) cq_217).trans rfl⟩
theorem lk_217_1 : Lk 217 1 (.iconst 0) 0 0 (0) := ⟨1, 0, (congrArg (fun l => pm_look l 1) cq_217).trans rfl⟩
theorem lk_217_2 : Lk 217 2 (.putfield 143) 12 0 (0) := ⟨3, 1257, (congrArg (fun l => pm_look l 2) cq_217).trans rfl⟩
theorem lk_217_5 : Lk 217 5 (.iload_n 1) 0 0 (0) := ⟨1, 0, (congrArg (fun l => pm_look l 5) cq_217).trans rfl⟩
theorem lk_217_6 : Lk 217 6 (.ifCond .eq 10) 0 0 (0) := ⟨3, 0, (congrArg (fun l => pm_look l 6) cq_217).trans rfl⟩
theorem lk_217_9 : Lk 217 9 (.aload_n 0) 0 0 (0) := ⟨1, 0, (congrArg (fun l => pm_look l 9) cq_217).trans rfl⟩
theorem lk_217_10 : Lk 217 10 (.getfield 13) 12 2 (0) := ⟨3, 1259, (congrArg (fun l => pm_look l 10) cq_217).trans rfl⟩
theorem lk_217_13 : Lk 217 13 (.goto 7) 0 0 (0) := ⟨3, 0, (congrArg (fun l => pm_look l 13) cq_217).trans rfl⟩
theorem lk_217_16 : Lk 217 16 (.aload_n 0) 0 0 (0) := ⟨1, 0, (congrArg (fun l => pm_look l 16) cq_217).trans rfl⟩
theorem lk_217_17 : Lk 217 17 (.getfield 7) 12 1 (0) := ⟨3, 1258, (congrArg (fun l => pm_look l 17) cq_217).trans rfl⟩
theorem lk_217_20 : Lk 217 20 (.istore 4) 0 0 (0) := ⟨2, 0, (congrArg (fun l => pm_look l 20) cq_217).trans rfl⟩
theorem lk_217_22 : Lk 217 22 (.iload_n 2) 0 0 (0) := ⟨1, 0, (congrArg (fun l => pm_look l 22) cq_217).trans rfl⟩
theorem lk_217_23 : Lk 217 23 (.iconst 0) 0 0 (0) := ⟨1, 0, (congrArg (fun l => pm_look l 23) cq_217).trans rfl⟩
theorem lk_217_24 : Lk 217 24 (.iload 4) 0 0 (0) := ⟨2, 0, (congrArg (fun l => pm_look l 24) cq_217).trans rfl⟩
theorem lk_217_26 : Lk 217 26 (.iconst 1) 0 0 (0) := ⟨1, 0, (congrArg (fun l => pm_look l 26) cq_217).trans rfl⟩
theorem lk_217_27 : Lk 217 27 (.isub) 0 0 (0) := ⟨1, 0, (congrArg (fun l => pm_look l 27) cq_217).trans rfl⟩
theorem lk_217_28 : Lk 217 28 (.invokestatic 146) 167 0 (0) := ⟨3, 1483, (congrArg (fun l => pm_look l 28) cq_217).trans rfl⟩
theorem lk_217_31 : Lk 217 31 (.ifCond .eq 15) 0 0 (0) := ⟨3, 0, (congrArg (fun l => pm_look l 31) cq_217).trans rfl⟩
theorem lk_217_34 : Lk 217 34 (.iload_n 3) 0 0 (0) := ⟨1, 0, (congrArg (fun l => pm_look l 34) cq_217).trans rfl⟩
theorem lk_217_35 : Lk 217 35 (.iconst 0) 0 0 (0) := ⟨1, 0, (congrArg (fun l => pm_look l 35) cq_217).trans rfl⟩
theorem lk_217_36 : Lk 217 36 (.iload 4) 0 0 (0) := ⟨2, 0, (congrArg (fun l => pm_look l 36) cq_217).trans rfl⟩
theorem lk_217_38 : Lk 217 38 (.iconst 1) 0 0 (0) := ⟨1, 0, (congrArg (fun l => pm_look l 38) cq_217).trans rfl⟩
theorem lk_217_39 : Lk 217 39 (.isub) 0 0 (0) := ⟨1, 0, (congrArg (fun l => pm_look l 39) cq_217).trans rfl⟩
theorem lk_217_40 : Lk 217 40 (.invokestatic 146) 167 0 (0) := ⟨3, 1483, (congrArg (fun l => pm_look l 40) cq_217).trans rfl⟩
theorem lk_217_43 : Lk 217 43 (.ifCond .ne 5) 0 0 (0) := ⟨3, 0, (congrArg (fun l => pm_look l 43) cq_217).trans rfl⟩
theorem lk_217_46 : Lk 217 46 (.iconst (-1)) 0 0 (0) := ⟨1, 0, (congrArg (fun l => pm_look l 46) cq_217).trans rfl⟩
theorem lk_217_47 : Lk 217 47 (.ireturn) 0 0 (0) := ⟨1, 0, (congrArg (fun l => pm_look l 47) cq_217).trans rfl⟩
theorem lk_217_48 : Lk 217 48 (.iconst 0) 0 0 (0) := ⟨1, 0, (congrArg (fun l => pm_look l 48) cq_217).trans rfl⟩
theorem lk_217_49 : Lk 217 49 (.istore 5) 0 0 (0) := ⟨2, 0, (congrArg (fun l => pm_look l 49) cq_217).trans rfl⟩
theorem lk_217_51 : Lk 217 51 (.iload 5) 0 0 (0) := ⟨2, 0, (congrArg (fun l => pm_look l 51) cq_217).trans rfl⟩
theorem lk_217_53 : Lk 217 53 (.iload_n 1) 0 0 (0) := ⟨1, 0, (congrArg (fun l => pm_look l 53) cq_217).trans rfl⟩
theorem lk_217_54 : Lk 217 54 (.ifCond .eq 10) 0 0 (0) := ⟨3, 0, (congrArg (fun l => pm_look l 54) cq_217).trans rfl⟩
theorem lk_217_57 : Lk 217 57 (.aload_n 0) 0 0 (0) := ⟨1, 0, (congrArg (fun l => pm_look l 57) cq_217).trans rfl⟩
theorem lk_217_58 : Lk 217 58 (.getfield 7) 12 1 (0) := ⟨3, 1258, (congrArg (fun l => pm_look l 58) cq_217).trans rfl⟩
theorem lk_217_61 : Lk 217 61 (.goto 7) 0 0 (0) := ⟨3, 0, (congrArg (fun l => pm_look l 61) cq_217).trans rfl⟩
theorem lk_217_64 : Lk 217 64 (.aload_n 0) 0 0 (0) := ⟨1, 0, (congrArg (fun l => pm_look l 64) cq_217).trans rfl⟩
theorem lk_217_65 : Lk 217 65 (.getfield 13) 12 2 (0) := ⟨3, 1259, (congrArg (fun l => pm_look l 65) cq_217).trans rfl⟩
theorem lk_217_68 : Lk 217 68 (.if_icmp .ge 62) 0 0 (0) := ⟨3, 0, (congrArg (fun l => pm_look l 68) cq_217).trans rfl⟩
theorem lk_217_71 : Lk 217 71 (.iload_n 1) 0 0 (0) := ⟨1, 0, (congrArg (fun l => pm_look l 71) cq_217).trans rfl⟩
theorem lk_217_72 : Lk 217 72 (.ifCond .eq 24) 0 0 (0) := ⟨3, 0, (congrArg (fun l => pm_look l 72) cq_217).trans rfl⟩
theorem lk_217_75 : Lk 217 75 (.aload_n 0) 0 0 (0) := ⟨1, 0, (congrArg (fun l => pm_look l 75) cq_217).trans rfl⟩
theorem lk_217_76 : Lk 217 76 (.aload_n 0) 0 0 (0) := ⟨1, 0, (congrArg (fun l => pm_look l 76) cq_217).trans rfl⟩
theorem lk_217_77 : Lk 217 77 (.iload 5) 0 0 (0) := ⟨2, 0, (congrArg (fun l => pm_look l 77) cq_217).trans rfl⟩
theorem lk_217_79 : Lk 217 79 (.iload_n 2) 0 0 (0) := ⟨1, 0, (congrArg (fun l => pm_look l 79) cq_217).trans rfl⟩
theorem lk_217_80 : Lk 217 80 (.invokevirtual 270) 174 0 (0) := ⟨3, 1586, (congrArg (fun l => pm_look l 80) cq_217).trans rfl⟩
theorem lk_217_83 : Lk 217 83 (.aload_n 0) 0 0 (0) := ⟨1, 0, (congrArg (fun l => pm_look l 83) cq_217).trans rfl⟩
theorem lk_217_84 : Lk 217 84 (.iload 5) 0 0 (0) := ⟨2, 0, (congrArg (fun l => pm_look l 84) cq_217).trans rfl⟩
theorem lk_217_86 : Lk 217 86 (.iload_n 3) 0 0 (0) := ⟨1, 0, (congrArg (fun l => pm_look l 86) cq_217).trans rfl⟩
theorem lk_217_87 : Lk 217 87 (.invokevirtual 270) 174 0 (0) := ⟨3, 1586, (congrArg (fun l => pm_look l 87) cq_217).trans rfl⟩
theorem lk_217_90 : Lk 217 90 (.invokevirtual 322) 216 0 (0) := ⟨3, 1655, (congrArg (fun l => pm_look l 90) cq_217).trans rfl⟩
theorem lk_217_93 : Lk 217 93 (.goto 21) 0 0 (0) := ⟨3, 0, (congrArg (fun l => pm_look l 93) cq_217).trans rfl⟩
theorem lk_217_96 : Lk 217 96 (.aload_n 0) 0 0 (0) := ⟨1, 0, (congrArg (fun l => pm_look l 96) cq_217).trans rfl⟩
theorem lk_217_97 : Lk 217 97 (.aload_n 0) 0 0 (0) := ⟨1, 0, (congrArg (fun l => pm_look l 97) cq_217).trans rfl⟩
theorem lk_217_98 : Lk 217 98 (.iload_n 2) 0 0 (0) := ⟨1, 0, (congrArg (fun l => pm_look l 98) cq_217).trans rfl⟩
theorem lk_217_99 : Lk 217 99 (.iload 5) 0 0 (0) := ⟨2, 0, (congrArg (fun l => pm_look l 99) cq_217).trans rfl⟩
theorem lk_217_101 : Lk 217 101 (.invokevirtual 270) 174 0 (0) := ⟨3, 1586, (congrArg (fun l => pm_look l 101) cq_217).trans rfl⟩
theorem lk_217_104 : Lk 217 104 (.aload_n 0) 0 0 (0) := ⟨1, 0, (congrArg (fun l => pm_look l 104) cq_217).trans rfl⟩
theorem lk_217_105 : Lk 217 105 (.iload_n 3) 0 0 (0) := ⟨1, 0, (congrArg (fun l => pm_look l 105) cq_217).trans rfl⟩
theorem lk_217_106 : Lk 217 106 (.iload 5) 0 0 (0) := ⟨2, 0, (congrArg (fun l => pm_look l 106) cq_217).trans rfl⟩
theorem lk_217_108 : Lk 217 108 (.invokevirtual 270) 174 0 (0) := ⟨3, 1586, (congrArg (fun l => pm_look l 108) cq_217).trans rfl⟩
theorem lk_217_111 : Lk 217 111 (.invokevirtual 322) 216 0 (0) := ⟨3, 1655, (congrArg (fun l => pm_look l 111) cq_217).trans rfl⟩
theorem lk_217_114 : Lk 217 114 (.istore 6) 0 0 (0) := ⟨2, 0, (congrArg (fun l => pm_look l 114) cq_217).trans rfl⟩
theorem lk_217_116 : Lk 217 116 (.iload 6) 0 0 (0) := ⟨2, 0, (congrArg (fun l => pm_look l 116) cq_217).trans rfl⟩
theorem lk_217_118 : Lk 217 118 (.ifCond .eq 6) 0 0 (0) := ⟨3, 0, (congrArg (fun l => pm_look l 118) cq_217).trans rfl⟩
theorem lk_217_121 : Lk 217 121 (.iload 5) 0 0 (0) := ⟨2, 0, (congrArg (fun l => pm_look l 121) cq_217).trans rfl⟩
theorem lk_217_123 : Lk 217 123 (.ireturn) 0 0 (0) := ⟨1, 0, (congrArg (fun l => pm_look l 123) cq_217).trans rfl⟩
theorem lk_217_124 : Lk 217 124 (.iinc 5 1) 0 0 (0) := ⟨3, 0, (congrArg (fun l => pm_look l 124) cq_217).trans rfl⟩
theorem lk_217_127 : Lk 217 127 (.goto (-76)) 0 0 (0) := ⟨3, 0, (congrArg (fun l => pm_look l 127) cq_217).trans rfl⟩
theorem lk_217_130 : Lk 217 130 (.iconst (-1)) 0 0 (0) := ⟨1, 0, (congrArg (fun l => pm_look l 130) cq_217).trans rfl⟩
theorem lk_217_131 : Lk 217 131 (.ireturn) 0 0 (0) := ⟨1, 0, (congrArg (fun l => pm_look l 131) cq_217).trans rfl⟩
theorem cq_218 : pm_code 218 = cd_218 := rfl
theorem lk_218_0 : Lk 218 0 (.aload_n 0) 0 0 (0) := ⟨1, 0, (congrArg (fun l => pm_look l 0) cq_218).trans rfl⟩
theorem lk_218_1 : Lk 218 1 (.iconst 0) 0 0 (0) := ⟨1, 0, (congrArg (fun l => pm_look l 1) cq_218).trans rfl⟩
theorem lk_218_2 : Lk 218 2 (.putfield 143) 12 0 (0) := ⟨3, 1257, (congrArg (fun l => pm_look l 2) cq_218).trans rfl⟩
theorem lk_218_5 : Lk 218 5 (.aload_n 0) 0 0 (0) := ⟨1, 0, (congrArg (fun l => pm_look l 5) cq_218).trans rfl⟩
theorem lk_218_6 : Lk 218 6 (.iload_n 1) 0 0 (0) := ⟨1, 0, (congrArg (fun l => pm_look l 6) cq_218).trans rfl⟩
theorem lk_218_7 : Lk 218 7 (.iload_n 2) 0 0 (0) := ⟨1, 0, (congrArg (fun l => pm_look l 7) cq_218).trans rfl⟩
theorem lk_218_8 : Lk 218 8 (.invokevirtual 291) 172 0 (0) := ⟨3, 1598, (congrArg (fun l => pm_look l 8) cq_218).trans rfl⟩
theorem lk_218_11 : Lk 218 11 (.ifCond .eq 14) 0 0 (0) := ⟨3, 0, (congrArg (fun l => pm_look l 11) cq_218).trans rfl⟩
theorem lk_218_14 : Lk 218 14 (.aload_n 0) 0 0 (0) := ⟨1, 0, (congrArg (fun l => pm_look l 14) cq_218).trans rfl⟩
theorem lk_218_15 : Lk 218 15 (.iload_n 1) 0 0 (0) := ⟨1, 0, (congrArg (fun l => pm_look l 15) cq_218).trans rfl⟩
theorem lk_218_16 : Lk 218 16 (.iload_n 2) 0 0 (0) := ⟨1, 0, (congrArg (fun l => pm_look l 16) cq_218).trans rfl⟩
theorem lk_218_17 : Lk 218 17 (.invokevirtual 270) 174 0 (0) := ⟨3, 1586, (congrArg (fun l => pm_look l 17) cq_218).trans rfl⟩
theorem lk_218_20 : Lk 218 20 (.bipush 10) 0 0 (0) := ⟨2, 0, (congrArg (fun l => pm_look l 20) cq_218).trans rfl⟩
theorem lk_218_22 : Lk 218 22 (.if_icmp .ne 5) 0 0 (0) := ⟨3, 0, (congrArg (fun l => pm_look l 22) cq_218).trans rfl⟩
theorem lk_218_25 : Lk 218 25 (.iconst (-1)) 0 0 (0) := ⟨1, 0, (congrArg (fun l => pm_look l 25) cq_218).trans rfl⟩
theorem lk_218_26 : Lk 218 26 (.ireturn) 0 0 (0) := ⟨1, 0, (congrArg (fun l => pm_look l 26) cq_218).trans rfl⟩
theorem lk_218_27 : Lk 218 27 (.aload_n 0) 0 0 (0) := ⟨1, 0, (congrArg (fun l => pm_look l 27) cq_218).trans rfl⟩
theorem lk_218_28 : Lk 218 28 (.iload_n 1) 0 0 (0) := ⟨1, 0, (congrArg (fun l => pm_look l 28) cq_218).trans rfl⟩
theorem lk_218_29 : Lk 218 29 (.iload_n 2) 0 0 (0) := ⟨1, 0, (congrArg (fun l => pm_look l 29) cq_218).trans rfl⟩
theorem lk_218_30 : Lk 218 30 (.invokevirtual 270) 174 0 (0) := ⟨3, 1586, (congrArg (fun l => pm_look l 30) cq_218).trans rfl⟩
theorem lk_218_33 : Lk 218 33 (.istore_n 3) 0 0 (0) := ⟨1, 0, (congrArg (fun l => pm_look l 33) cq_218).trans rfl⟩
theorem lk_218_34 : Lk 218 34 (.iconst 0) 0 0 (0) := ⟨1, 0, (congrArg (fun l => pm_look l 34) cq_218).trans rfl⟩
theorem lk_218_35 : Lk 218 35 (.istore 4) 0 0 (0) := ⟨2, 0, (congrArg (fun l => pm_look l 35) cq_218).trans rfl⟩
theorem lk_218_37 : Lk 218 37 (.iconst 1) 0 0 (0) := ⟨1, 0, (congrArg (fun l => pm_look l 37) cq_218).trans rfl⟩
theorem lk_218_38 : Lk 218 38 (.istore 5) 0 0 (0) := ⟨2, 0, (congrArg (fun l => pm_look l 38) cq_218).trans rfl⟩
theorem lk_218_40 : Lk 218 40 (.iload 5) 0 0 (0) := ⟨2, 0, (congrArg (fun l => pm_look l 40) cq_218).trans rfl⟩
theorem lk_218_42 : Lk 218 42 (.aload_n 0) 0 0 (0) := ⟨1, 0, (congrArg (fun l => pm_look l 42) cq_218).trans rfl⟩
theorem lk_218_43 : Lk 218 43 (.invokevirtual 281) 175 0 (0) := ⟨3, 1571, (congrArg (fun l => pm_look l 43) cq_218).trans rfl⟩
theorem lk_218_46 : Lk 218 46 (.if_icmp .gt 57) 0 0 (0) := ⟨3, 0, (congrArg (fun l => pm_look l 46) cq_218).trans rfl⟩
theorem lk_218_49 : Lk 218 49 (.aload_n 0) 0 0 (0) := ⟨1, 0, (congrArg (fun l => pm_look l 49) cq_218).trans rfl⟩
theorem lk_218_50 : Lk 218 50 (.iload 5) 0 0 (0) := ⟨2, 0, (congrArg (fun l => pm_look l 50) cq_218).trans rfl⟩
theorem lk_218_52 : Lk 218 52 (.iload_n 3) 0 0 (0) := ⟨1, 0, (congrArg (fun l => pm_look l 52) cq_218).trans rfl⟩
theorem lk_218_53 : Lk 218 53 (.invokevirtual 303) 208 0 (0) := ⟨3, 1623, (congrArg (fun l => pm_look l 53) cq_218).trans rfl⟩
theorem lk_218_56 : Lk 218 56 (.istore 6) 0 0 (0) := ⟨2, 0, (congrArg (fun l => pm_look l 56) cq_218).trans rfl⟩
theorem lk_218_58 : Lk 218 58 (.iload 5) 0 0 (0) := ⟨2, 0, (congrArg (fun l => pm_look l 58) cq_218).trans rfl⟩
theorem lk_218_60 : Lk 218 60 (.iload_n 1) 0 0 (0) := ⟨1, 0, (congrArg (fun l => pm_look l 60) cq_218).trans rfl⟩
theorem lk_218_61 : Lk 218 61 (.invokestatic 266) 168 0 (0) := ⟨3, 1583, (congrArg (fun l => pm_look l 61) cq_218).trans rfl⟩
theorem lk_218_64 : Lk 218 64 (.ifCond .eq 29) 0 0 (0) := ⟨3, 0, (congrArg (fun l => pm_look l 64) cq_218).trans rfl⟩
theorem lk_218_67 : Lk 218 67 (.iload 6) 0 0 (0) := ⟨2, 0, (congrArg (fun l => pm_look l 67) cq_218).trans rfl⟩
theorem lk_218_69 : Lk 218 69 (.iload_n 2) 0 0 (0) := ⟨1, 0, (congrArg (fun l => pm_look l 69) cq_218).trans rfl⟩
theorem lk_218_70 : Lk 218 70 (.invokestatic 266) 168 0 (0) := ⟨3, 1583, (congrArg (fun l => pm_look l 70) cq_218).trans rfl⟩
theorem lk_218_73 : Lk 218 73 (.ifCond .eq 20) 0 0 (0) := ⟨3, 0, (congrArg (fun l => pm_look l 73) cq_218).trans rfl⟩
theorem lk_218_76 : Lk 218 76 (.iload 4) 0 0 (0) := ⟨2, 0, (congrArg (fun l => pm_look l 76) cq_218).trans rfl⟩
theorem lk_218_78 : Lk 218 78 (.aload_n 0) 0 0 (0) := ⟨1, 0, (congrArg (fun l => pm_look l 78) cq_218).trans rfl⟩
theorem lk_218_79 : Lk 218 79 (.iload 5) 0 0 (0) := ⟨2, 0, (congrArg (fun l => pm_look l 79) cq_218).trans rfl⟩
theorem lk_218_81 : Lk 218 81 (.iload 6) 0 0 (0) := ⟨2, 0, (congrArg (fun l => pm_look l 81) cq_218).trans rfl⟩
theorem lk_218_83 : Lk 218 83 (.iload_n 3) 0 0 (0) := ⟨1, 0, (congrArg (fun l => pm_look l 83) cq_218).trans rfl⟩
theorem lk_218_84 : Lk 218 84 (.invokevirtual 277) 201 0 (0) := ⟨3, 1590, (congrArg (fun l => pm_look l 84) cq_218).trans rfl⟩
theorem lk_218_87 : Lk 218 87 (.invokestatic 325) 170 0 (0) := ⟨3, 1663, (congrArg (fun l => pm_look l 87) cq_218).trans rfl⟩
theorem lk_218_90 : Lk 218 90 (.goto 5) 0 0 (0) := ⟨3, 0, (congrArg (fun l => pm_look l 90) cq_218).trans rfl⟩
theorem lk_218_93 : Lk 218 93 (.iload 4) 0 0 (0) := ⟨2, 0, (congrArg (fun l => pm_look l 93) cq_218).trans rfl⟩
theorem lk_218_95 : Lk 218 95 (.istore 4) 0 0 (0) := ⟨2, 0, (congrArg (fun l => pm_look l 95) cq_218).trans rfl⟩
theorem lk_218_97 : Lk 218 97 (.iinc 5 1) 0 0 (0) := ⟨3, 0, (congrArg (fun l => pm_look l 97) cq_218).trans rfl⟩
theorem lk_218_100 : Lk 218 100 (.goto (-60)) 0 0 (0) := ⟨3, 0, (congrArg (fun l => pm_look l 100) cq_218).trans rfl⟩
theorem lk_218_103 : Lk 218 103 (.iload 4) 0 0 (0) := ⟨2, 0, (congrArg (fun l => pm_look l 103) cq_218).trans rfl⟩
theorem lk_218_105 : Lk 218 105 (.ireturn) 0 0 (0) := ⟨1, 0, (congrArg (fun l => pm_look l 105) cq_218).trans rfl⟩
theorem cq_219 : pm_code 219 = cd_219 := rfl
theorem lk_219_0 : Lk 219 0 (.aload_n 0) 0 0 (0) := ⟨1, 0, (congrArg (fun l => pm_look l 0) cq_219).trans rfl⟩
theorem lk_219_1 : Lk 219 1 (.iload_n 1) 0 0 (0) := ⟨1, 0, (congrArg (fun l => pm_look l 1) cq_219).trans rfl⟩
theorem lk_219_2 : Lk 219 2 (.iload_n 2) 0 0 (0) := ⟨1, 0, (congrArg (fun l => pm_look l 2) cq_219).trans rfl⟩
theorem lk_219_3 : Lk 219 3 (.invokevirtual 270) 174 0 (0) := ⟨3, 1586, (congrArg (fun l => pm_look l 3) cq_219).trans rfl⟩
theorem lk_219_6 : Lk 219 6 (.bipush 10) 0 0 (0) := ⟨2, 0, (congrArg (fun l => pm_look l 6) cq_219).trans rfl⟩
theorem lk_219_8 : Lk 219 8 (.if_icmp .eq 17) 0 0 (0) := ⟨3, 0, (congrArg (fun l => pm_look l 8) cq_219).trans rfl⟩
theorem lk_219_11 : Lk 219 11 (.aload_n 0) 0 0 (0) := ⟨1, 0, (congrArg (fun l => pm_look l 11) cq_219).trans rfl⟩
theorem lk_219_12 : Lk 219 12 (.iload_n 1) 0 0 (0) := ⟨1, 0, (congrArg (fun l => pm_look l 12) cq_219).trans rfl⟩
theorem lk_219_13 : Lk 219 13 (.iload_n 2) 0 0 (0) := ⟨1, 0, (congrArg (fun l => pm_look l 13) cq_219).trans rfl⟩
theorem lk_219_14 : Lk 219 14 (.invokevirtual 270) 174 0 (0) := ⟨3, 1586, (congrArg (fun l => pm_look l 14) cq_219).trans rfl⟩
theorem lk_219_17 : Lk 219 17 (.iload_n 3) 0 0 (0) := ⟨1, 0, (congrArg (fun l => pm_look l 17) cq_219).trans rfl⟩
theorem lk_219_18 : Lk 219 18 (.if_icmp .eq 7) 0 0 (0) := ⟨3, 0, (congrArg (fun l => pm_look l 18) cq_219).trans rfl⟩
theorem lk_219_21 : Lk 219 21 (.iconst 1) 0 0 (0) := ⟨1, 0, (congrArg (fun l => pm_look l 21) cq_219).trans rfl⟩
theorem lk_219_22 : Lk 219 22 (.goto 4) 0 0 (0) := ⟨3, 0, (congrArg (fun l => pm_look l 22) cq_219).trans rfl⟩
theorem lk_219_25 : Lk 219 25 (.iconst 0) 0 0 (0) := ⟨1, 0, (congrArg (fun l => pm_look l 25) cq_219).trans rfl⟩
theorem lk_219_26 : Lk 219 26 (.ireturn) 1 0 (0) := ⟨1, 0, (congrArg (fun l => pm_look l 26) cq_219).trans rfl⟩
theorem cq_220 : pm_code 220 = cd_220 := rfl
theorem lk_220_0 : Lk 220 0 (.aload_n 0) 0 0 (0) := ⟨1, 0, (congrArg (fun l => pm_look l 0) cq_220).trans rfl⟩
theorem lk_220_1 : Lk 220 1 (.getfield 80) 12 40 (2) := ⟨3, 1297, (congrArg (fun l => pm_look l 1) cq_220).trans rfl⟩
theorem lk_220_4 : Lk 220 4 (.iload_n 1) 0 0 (0) := ⟨1, 0, (congrArg (fun l => pm_look l 4) cq_220).trans rfl⟩
theorem lk_220_5 : Lk 220 5 (.iaload) 0 0 (0) := ⟨1, 0, (congrArg (fun l => pm_look l 5) cq_220).trans rfl⟩
theorem lk_220_6 : Lk 220 6 (.iconst (-1)) 0 0 (0) := ⟨1, 0, (congrArg (fun l => pm_look l 6) cq_220).trans rfl⟩
theorem lk_220_7 : Lk 220 7 (.if_icmp .eq 18) 0 0 (0) := ⟨3, 0, (congrArg (fun l => pm_look l 7) cq_220).trans rfl⟩
theorem lk_220_10 : Lk 220 10 (.aload_n 0) 0 0 (0) := ⟨1, 0, (congrArg (fun l => pm_look l 10) cq_220).trans rfl⟩
theorem lk_220_11 : Lk 220 11 (.iload_n 1) 0 0 (0) := ⟨1, 0, (congrArg (fun l => pm_look l 11) cq_220).trans rfl⟩
theorem lk_220_12 : Lk 220 12 (.aload_n 0) 0 0 (0) := ⟨1, 0, (congrArg (fun l => pm_look l 12) cq_220).trans rfl⟩
theorem lk_220_13 : Lk 220 13 (.getfield 80) 12 40 (2) := ⟨3, 1297, (congrArg (fun l => pm_look l 13) cq_220).trans rfl⟩
theorem lk_220_16 : Lk 220 16 (.iload_n 1) 0 0 (0) := ⟨1, 0, (congrArg (fun l => pm_look l 16) cq_220).trans rfl⟩
theorem lk_220_17 : Lk 220 17 (.iaload) 0 0 (0) := ⟨1, 0, (congrArg (fun l => pm_look l 17) cq_220).trans rfl⟩
theorem lk_220_18 : Lk 220 18 (.invokevirtual 270) 174 0 (0) := ⟨3, 1586, (congrArg (fun l => pm_look l 18) cq_220).trans rfl⟩
theorem lk_220_21 : Lk 220 21 (.iload_n 2) 0 0 (0) := ⟨1, 0, (congrArg (fun l => pm_look l 21) cq_220).trans rfl⟩
theorem lk_220_22 : Lk 220 22 (.if_icmp .ne 7) 0 0 (0) := ⟨3, 0, (congrArg (fun l => pm_look l 22) cq_220).trans rfl⟩
theorem lk_220_25 : Lk 220 25 (.iconst 1) 0 0 (0) := ⟨1, 0, (congrArg (fun l => pm_look l 25) cq_220).trans rfl⟩
theorem lk_220_26 : Lk 220 26 (.goto 4) 0 0 (0) := ⟨3, 0, (congrArg (fun l => pm_look l 26) cq_220).trans rfl⟩
theorem lk_220_29 : Lk 220 29 (.iconst 0) 0 0 (0) := ⟨1, 0, (congrArg (fun l => pm_look l 29) cq_220).trans rfl⟩
theorem lk_220_30 : Lk 220 30 (.istore_n 3) 0 0 (0) := ⟨1, 0, (congrArg (fun l => pm_look l 30) cq_220).trans rfl⟩
theorem lk_220_31 : Lk 220 31 (.iconst 0) 0 0 (0) := ⟨1, 0, (congrArg (fun l => pm_look l 31) cq_220).trans rfl⟩
theorem lk_220_32 : Lk 220 32 (.istore 4) 0 0 (0) := ⟨2, 0, (congrArg (fun l => pm_look l 32) cq_220).trans rfl⟩
theorem lk_220_34 : Lk 220 34 (.iload 4) 0 0 (0) := ⟨2, 0, (congrArg (fun l => pm_look l 34) cq_220).trans rfl⟩
theorem lk_220_36 : Lk 220 36 (.iload_n 1) 0 0 (0) := ⟨1, 0, (congrArg (fun l => pm_look l 36) cq_220).trans rfl⟩
theorem lk_220_37 : Lk 220 37 (.if_icmp .ge 72) 0 0 (0) := ⟨3, 0, (congrArg (fun l => pm_look l 37) cq_220).trans rfl⟩
theorem lk_220_40 : Lk 220 40 (.iload_n 3) 0 0 (0) := ⟨1, 0, (congrArg (fun l => pm_look l 40) cq_220).trans rfl⟩
theorem lk_220_41 : Lk 220 41 (.ifCond .eq 68) 0 0 (0) := ⟨3, 0, (congrArg (fun l => pm_look l 41) cq_220).trans rfl⟩
theorem lk_220_44 : Lk 220 44 (.aload_n 0) 0 0 (0) := ⟨1, 0, (congrArg (fun l => pm_look l 44) cq_220).trans rfl⟩
theorem lk_220_45 : Lk 220 45 (.getfield 80) 12 40 (2) := ⟨3, 1297, (congrArg (fun l => pm_look l 45) cq_220).trans rfl⟩
theorem lk_220_48 : Lk 220 48 (.iload_n 1) 0 0 (0) := ⟨1, 0, (congrArg (fun l => pm_look l 48) cq_220).trans rfl⟩
theorem lk_220_49 : Lk 220 49 (.iaload) 0 0 (0) := ⟨1, 0, (congrArg (fun l => pm_look l 49) cq_220).trans rfl⟩
theorem lk_220_50 : Lk 220 50 (.iconst (-1)) 0 0 (0) := ⟨1, 0, (congrArg (fun l => pm_look l 50) cq_220).trans rfl⟩
theorem lk_220_51 : Lk 220 51 (.if_icmp .eq 58) 0 0 (0) := ⟨3, 0, (congrArg (fun l => pm_look l 51) cq_220).trans rfl⟩
theorem lk_220_54 : Lk 220 54 (.aload_n 0) 0 0 (0) := ⟨1, 0, (congrArg (fun l => pm_look l 54) cq_220).trans rfl⟩
theorem lk_220_55 : Lk 220 55 (.getfield 80) 12 40 (2) := ⟨3, 1297, (congrArg (fun l => pm_look l 55) cq_220).trans rfl⟩
theorem lk_220_58 : Lk 220 58 (.iload 4) 0 0 (0) := ⟨2, 0, (congrArg (fun l => pm_look l 58) cq_220).trans rfl⟩
theorem lk_220_60 : Lk 220 60 (.iaload) 0 0 (0) := ⟨1, 0, (congrArg (fun l => pm_look l 60) cq_220).trans rfl⟩
theorem lk_220_61 : Lk 220 61 (.iconst (-1)) 0 0 (0) := ⟨1, 0, (congrArg (fun l => pm_look l 61) cq_220).trans rfl⟩
theorem lk_220_62 : Lk 220 62 (.if_icmp .eq 35) 0 0 (0) := ⟨3, 0, (congrArg (fun l => pm_look l 62) cq_220).trans rfl⟩
theorem lk_220_65 : Lk 220 65 (.aload_n 0) 0 0 (0) := ⟨1, 0, (congrArg (fun l => pm_look l 65) cq_220).trans rfl⟩
theorem lk_220_66 : Lk 220 66 (.iload_n 1) 0 0 (0) := ⟨1, 0, (congrArg (fun l => pm_look l 66) cq_220).trans rfl⟩
theorem lk_220_67 : Lk 220 67 (.aload_n 0) 0 0 (0) := ⟨1, 0, (congrArg (fun l => pm_look l 67) cq_220).trans rfl⟩
theorem lk_220_68 : Lk 220 68 (.getfield 80) 12 40 (2) := ⟨3, 1297, (congrArg (fun l => pm_look l 68) cq_220).trans rfl⟩
theorem lk_220_71 : Lk 220 71 (.iload 4) 0 0 (0) := ⟨2, 0, (congrArg (fun l => pm_look l 71) cq_220).trans rfl⟩
theorem lk_220_73 : Lk 220 73 (.iaload) 0 0 (0) := ⟨1, 0, (congrArg (fun l => pm_look l 73) cq_220).trans rfl⟩
theorem lk_220_74 : Lk 220 74 (.iload_n 2) 0 0 (0) := ⟨1, 0, (congrArg (fun l => pm_look l 74) cq_220).trans rfl⟩
theorem lk_220_75 : Lk 220 75 (.invokevirtual 328) 219 0 (0) := ⟨3, 1678, (congrArg (fun l => pm_look l 75) cq_220).trans rfl⟩
theorem lk_220_78 : Lk 220 78 (.ifCond .ne 19) 0 0 (0) := ⟨3, 0, (congrArg (fun l => pm_look l 78) cq_220).trans rfl⟩
theorem lk_220_81 : Lk 220 81 (.aload_n 0) 0 0 (0) := ⟨1, 0, (congrArg (fun l => pm_look l 81) cq_220).trans rfl⟩
theorem lk_220_82 : Lk 220 82 (.iload 4) 0 0 (0) := ⟨2, 0, (congrArg (fun l => pm_look l 82) cq_220).trans rfl⟩
theorem lk_220_84 : Lk 220 84 (.aload_n 0) 0 0 (0) := ⟨1, 0, (congrArg (fun l => pm_look l 84) cq_220).trans rfl⟩
theorem lk_220_85 : Lk 220 85 (.getfield 80) 12 40 (2) := ⟨3, 1297, (congrArg (fun l => pm_look l 85) cq_220).trans rfl⟩
theorem lk_220_88 : Lk 220 88 (.iload_n 1) 0 0 (0) := ⟨1, 0, (congrArg (fun l => pm_look l 88) cq_220).trans rfl⟩
theorem lk_220_89 : Lk 220 89 (.iaload) 0 0 (0) := ⟨1, 0, (congrArg (fun l => pm_look l 89) cq_220).trans rfl⟩
theorem lk_220_90 : Lk 220 90 (.iload_n 2) 0 0 (0) := ⟨1, 0, (congrArg (fun l => pm_look l 90) cq_220).trans rfl⟩
theorem lk_220_91 : Lk 220 91 (.invokevirtual 328) 219 0 (0) := ⟨3, 1678, (congrArg (fun l => pm_look l 91) cq_220).trans rfl⟩
theorem lk_220_94 : Lk 220 94 (.ifCond .eq 7) 0 0 (0) := ⟨3, 0, (congrArg (fun l => pm_look l 94) cq_220).trans rfl⟩
theorem lk_220_97 : Lk 220 97 (.iconst 1) 0 0 (0) := ⟨1, 0, (congrArg (fun l => pm_look l 97) cq_220).trans rfl⟩
theorem lk_220_98 : Lk 220 98 (.goto 4) 0 0 (0) := ⟨3, 0, (congrArg (fun l => pm_look l 98) cq_220).trans rfl⟩
theorem lk_220_101 : Lk 220 101 (.iconst 0) 0 0 (0) := ⟨1, 0, (congrArg (fun l => pm_look l 101) cq_220).trans rfl⟩
theorem lk_220_102 : Lk 220 102 (.istore_n 3) 0 0 (0) := ⟨1, 0, (congrArg (fun l => pm_look l 102) cq_220).trans rfl⟩
theorem lk_220_103 : Lk 220 103 (.iinc 4 1) 0 0 (0) := ⟨3, 0, (congrArg (fun l => pm_look l 103) cq_220).trans rfl⟩
theorem lk_220_106 : Lk 220 106 (.goto (-72)) 0 0 (0) := ⟨3, 0, (congrArg (fun l => pm_look l 106) cq_220).trans rfl⟩
theorem lk_220_109 : Lk 220 109 (.iload_n 3) 0 0 (0) := ⟨1, 0, (congrArg (fun l => pm_look l 109) cq_220).trans rfl⟩
theorem lk_220_110 : Lk 220 110 (.ireturn) 1 0 (0) := ⟨1, 0, (congrArg (fun l => pm_look l 110) cq_220).trans rfl⟩
theorem cq_221 : pm_code 221 = cd_221 := rfl
theorem lk_221_0 : Lk 221 0 (.iconst 0) 0 0 (0) := ⟨1, 0, (congrArg (fun l => pm_look l 0) cq_221).trans rfl⟩
theorem lk_221_1 : Lk 221 1 (.istore_n 1) 0 0 (0) := ⟨1, 0, (congrArg (fun l => pm_look l 1) cq_221).trans rfl⟩
theorem lk_221_2 : Lk 221 2 (.iconst 0) 0 0 (0) := ⟨1, 0, (congrArg (fun l => pm_look l 2) cq_221).trans rfl⟩
theorem lk_221_3 : Lk 221 3 (.istore_n 2) 0 0 (0) := ⟨1, 0, (congrArg (fun l => pm_look l 3) cq_221).trans rfl⟩
theorem lk_221_4 : Lk 221 4 (.iload_n 2) 0 0 (0) := ⟨1, 0, (congrArg (fun l => pm_look l 4) cq_221).trans rfl⟩
theorem lk_221_5 : Lk 221 5 (.aload_n 0) 0 0 (0) := ⟨1, 0, (congrArg (fun l => pm_look l 5) cq_221).trans rfl⟩
theorem lk_221_6 : Lk 221 6 (.getfield 7) 12 1 (0) := ⟨3, 1258, (congrArg (fun l => pm_look l 6) cq_221).trans rfl⟩
theorem lk_221_9 : Lk 221 9 (.if_icmp .ge 27) 0 0 (0) := ⟨3, 0, (congrArg (fun l => pm_look l 9) cq_221).trans rfl⟩
theorem lk_221_12 : Lk 221 12 (.iload_n 1) 0 0 (0) := ⟨1, 0, (congrArg (fun l => pm_look l 12) cq_221).trans rfl⟩
theorem lk_221_13 : Lk 221 13 (.aload_n 0) 0 0 (0) := ⟨1, 0, (congrArg (fun l => pm_look l 13) cq_221).trans rfl⟩
theorem lk_221_14 : Lk 221 14 (.getfield 80) 12 40 (2) := ⟨3, 1297, (congrArg (fun l => pm_look l 14) cq_221).trans rfl⟩
theorem lk_221_17 : Lk 221 17 (.iload_n 2) 0 0 (0) := ⟨1, 0, (congrArg (fun l => pm_look l 17) cq_221).trans rfl⟩
theorem lk_221_18 : Lk 221 18 (.iaload) 0 0 (0) := ⟨1, 0, (congrArg (fun l => pm_look l 18) cq_221).trans rfl⟩
theorem lk_221_19 : Lk 221 19 (.iconst (-1)) 0 0 (0) := ⟨1, 0, (congrArg (fun l => pm_look l 19) cq_221).trans rfl⟩
theorem lk_221_20 : Lk 221 20 (.if_icmp .ne 7) 0 0 (0) := ⟨3, 0, (congrArg (fun l => pm_look l 20) cq_221).trans rfl⟩
theorem lk_221_23 : Lk 221 23 (.iconst 0) 0 0 (0) := ⟨1, 0, (congrArg (fun l => pm_look l 23) cq_221).trans rfl⟩
theorem lk_221_24 : Lk 221 24 (.goto 4) 0 0 (0) := ⟨3, 0, (congrArg (fun l => pm_look l 24) cq_221).trans rfl⟩
theorem lk_221_27 : Lk 221 27 (.iconst 1) 0 0 (0) := ⟨1, 0, (congrArg (fun l => pm_look l 27) cq_221).trans rfl⟩
theorem lk_221_28 : Lk 221 28 (.iadd) 0 0 (0) := ⟨1, 0, (congrArg (fun l => pm_look l 28) cq_221).trans rfl⟩
theorem lk_221_29 : Lk 221 29 (.istore_n 1) 0 0 (0) := ⟨1, 0, (congrArg (fun l => pm_look l 29) cq_221).trans rfl⟩
theorem lk_221_30 : Lk 221 30 (.iinc 2 1) 0 0 (0) := ⟨3, 0, (congrArg (fun l => pm_look l 30) cq_221).trans rfl⟩
theorem lk_221_33 : Lk 221 33 (.goto (-29)) 0 0 (0) := ⟨3, 0, (congrArg (fun l => pm_look l 33) cq_221).trans rfl⟩
theorem lk_221_36 : Lk 221 36 (.aload_n 0) 0 0 (0) := ⟨1, 0, (congrArg (fun l => pm_look l 36) cq_221).trans rfl⟩
theorem lk_221_37 : Lk 221 37 (.getfield 86) 12 42 (2) := ⟨3, 1299, (congrArg (fun l => pm_look l 37) cq_221).trans rfl⟩
theorem lk_221_40 : Lk 221 40 (.iload_n 1) 0 0 (0) := ⟨1, 0, (congrArg (fun l => pm_look l 40) cq_221).trans rfl⟩
theorem lk_221_41 : Lk 221 41 (.dup2) 0 0 (0) := ⟨1, 0, (congrArg (fun l => pm_look l 41) cq_221).trans rfl⟩
theorem lk_221_42 : Lk 221 42 (.iaload) 0 0 (0) := ⟨1, 0, (congrArg (fun l => pm_look l 42) cq_221).trans rfl⟩
theorem lk_221_43 : Lk 221 43 (.iconst 1) 0 0 (0) := ⟨1, 0, (congrArg (fun l => pm_look l 43) cq_221).trans rfl⟩
theorem lk_221_44 : Lk 221 44 (.iadd) 0 0 (0) := ⟨1, 0, (congrArg (fun l => pm_look l 44) cq_221).trans rfl⟩
theorem lk_221_45 : Lk 221 45 (.iastore) 0 0 (0) := ⟨1, 0, (congrArg (fun l => pm_look l 45) cq_221).trans rfl⟩
theorem lk_221_46 : Lk 221 46 (.iload_n 1) 0 0 (0) := ⟨1, 0, (congrArg (fun l => pm_look l 46) cq_221).trans rfl⟩
theorem lk_221_47 : Lk 221 47 (.aload_n 0) 0 0 (0) := ⟨1, 0, (congrArg (fun l => pm_look l 47) cq_221).trans rfl⟩
theorem lk_221_48 : Lk 221 48 (.getfield 331) 12 43 (0) := ⟨3, 1300, (congrArg (fun l => pm_look l 48) cq_221).trans rfl⟩
theorem lk_221_51 : Lk 221 51 (.if_icmp .le 7) 0 0 (0) := ⟨3, 0, (congrArg (fun l => pm_look l 51) cq_221).trans rfl⟩
theorem lk_221_54 : Lk 221 54 (.iconst 1) 0 0 (0) := ⟨1, 0, (congrArg (fun l => pm_look l 54) cq_221).trans rfl⟩
theorem lk_221_55 : Lk 221 55 (.goto 4) 0 0 (0) := ⟨3, 0, (congrArg (fun l => pm_look l 55) cq_221).trans rfl⟩
theorem lk_221_58 : Lk 221 58 (.iconst 0) 0 0 (0) := ⟨1, 0, (congrArg (fun l => pm_look l 58) cq_221).trans rfl⟩
theorem lk_221_59 : Lk 221 59 (.istore_n 2) 0 0 (0) := ⟨1, 0, (congrArg (fun l => pm_look l 59) cq_221).trans rfl⟩
theorem lk_221_60 : Lk 221 60 (.iload_n 1) 0 0 (0) := ⟨1, 0, (congrArg (fun l => pm_look l 60) cq_221).trans rfl⟩
theorem lk_221_61 : Lk 221 61 (.aload_n 0) 0 0 (0) := ⟨1, 0, (congrArg (fun l => pm_look l 61) cq_221).trans rfl⟩
theorem lk_221_62 : Lk 221 62 (.getfield 331) 12 43 (0) := ⟨3, 1300, (congrArg (fun l => pm_look l 62) cq_221).trans rfl⟩
theorem lk_221_65 : Lk 221 65 (.if_icmp .lt 7) 0 0 (0) := ⟨3, 0, (congrArg (fun l => pm_look l 65) cq_221).trans rfl⟩
theorem lk_221_68 : Lk 221 68 (.iload_n 1) 0 0 (0) := ⟨1, 0, (congrArg (fun l => pm_look l 68) cq_221).trans rfl⟩
theorem lk_221_69 : Lk 221 69 (.ifCond .ne 4) 0 0 (0) := ⟨3, 0, (congrArg (fun l => pm_look l 69) cq_221).trans rfl⟩
theorem lk_221_72 : Lk 221 72 (.return_) 0 0 (0) := ⟨1, 0, (congrArg (fun l => pm_look l 72) cq_221).trans rfl⟩
theorem lk_221_73 : Lk 221 73 (.iconst 0) 0 0 (0) := ⟨1, 0, (congrArg (fun l => pm_look l 73) cq_221).trans rfl⟩
theorem lk_221_74 : Lk 221 74 (.istore_n 3) 0 0 (0) := ⟨1, 0, (congrArg (fun l => pm_look l 74) cq_221).trans rfl⟩
theorem lk_221_75 : Lk 221 75 (.iload_n 2) 0 0 (0) := ⟨1, 0, (congrArg (fun l => pm_look l 75) cq_221).trans rfl⟩
theorem lk_221_76 : Lk 221 76 (.ifCond .ne 7) 0 0 (0) := ⟨3, 0, (congrArg (fun l => pm_look l 76) cq_221).trans rfl⟩
theorem lk_221_79 : Lk 221 79 (.iconst 1) 0 0 (0) := ⟨1, 0, (congrArg (fun l => pm_look l 79) cq_221).trans rfl⟩
theorem lk_221_80 : Lk 221 80 (.goto 4) 0 0 (0) := ⟨3, 0, (congrArg (fun l => pm_look l 80) cq_221).trans rfl⟩
theorem lk_221_83 : Lk 221 83 (.iconst 0) 0 0 (0) := ⟨1, 0, (congrArg (fun l => pm_look l 83) cq_221).trans rfl⟩
theorem lk_221_84 : Lk 221 84 (.istore 4) 0 0 (0) := ⟨2, 0, (congrArg (fun l => pm_look l 84) cq_221).trans rfl⟩
theorem lk_221_86 : Lk 221 86 (.iconst 0) 0 0 (0) := ⟨1, 0, (congrArg (fun l => pm_look l 86) cq_221).trans rfl⟩
theorem lk_221_87 : Lk 221 87 (.istore 5) 0 0 (0) := ⟨2, 0, (congrArg (fun l => pm_look l 87) cq_221).trans rfl⟩
theorem lk_221_89 : Lk 221 89 (.iload 5) 0 0 (0) := ⟨2, 0, (congrArg (fun l => pm_look l 89) cq_221).trans rfl⟩
theorem lk_221_91 : Lk 221 91 (.aload_n 0) 0 0 (0) := ⟨1, 0, (congrArg (fun l => pm_look l 91) cq_221).trans rfl⟩
theorem lk_221_92 : Lk 221 92 (.getfield 7) 12 1 (0) := ⟨3, 1258, (congrArg (fun l => pm_look l 92) cq_221).trans rfl⟩
theorem lk_221_95 : Lk 221 95 (.if_icmp .ge 77) 0 0 (0) := ⟨3, 0, (congrArg (fun l => pm_look l 95) cq_221).trans rfl⟩
theorem lk_221_98 : Lk 221 98 (.aload_n 0) 0 0 (0) := ⟨1, 0, (congrArg (fun l => pm_look l 98) cq_221).trans rfl⟩
theorem lk_221_99 : Lk 221 99 (.getfield 80) 12 40 (2) := ⟨3, 1297, (congrArg (fun l => pm_look l 99) cq_221).trans rfl⟩
theorem lk_221_102 : Lk 221 102 (.iload 5) 0 0 (0) := ⟨2, 0, (congrArg (fun l => pm_look l 102) cq_221).trans rfl⟩
theorem lk_221_104 : Lk 221 104 (.iaload) 0 0 (0) := ⟨1, 0, (congrArg (fun l => pm_look l 104) cq_221).trans rfl⟩
theorem lk_221_105 : Lk 221 105 (.iconst (-1)) 0 0 (0) := ⟨1, 0, (congrArg (fun l => pm_look l 105) cq_221).trans rfl⟩
theorem lk_221_106 : Lk 221 106 (.if_icmp .ne 6) 0 0 (0) := ⟨3, 0, (congrArg (fun l => pm_look l 106) cq_221).trans rfl⟩
theorem lk_221_109 : Lk 221 109 (.goto 57) 0 0 (0) := ⟨3, 0, (congrArg (fun l => pm_look l 109) cq_221).trans rfl⟩
theorem lk_221_112 : Lk 221 112 (.bipush 10) 0 0 (0) := ⟨2, 0, (congrArg (fun l => pm_look l 112) cq_221).trans rfl⟩
theorem lk_221_114 : Lk 221 114 (.iload 5) 0 0 (0) := ⟨2, 0, (congrArg (fun l => pm_look l 114) cq_221).trans rfl⟩
theorem lk_221_116 : Lk 221 116 (.imul) 0 0 (0) := ⟨1, 0, (congrArg (fun l => pm_look l 116) cq_221).trans rfl⟩
theorem lk_221_117 : Lk 221 117 (.aload_n 0) 0 0 (0) := ⟨1, 0, (congrArg (fun l => pm_look l 117) cq_221).trans rfl⟩
theorem lk_221_118 : Lk 221 118 (.getfield 80) 12 40 (2) := ⟨3, 1297, (congrArg (fun l => pm_look l 118) cq_221).trans rfl⟩
theorem lk_221_121 : Lk 221 121 (.iload 5) 0 0 (0) := ⟨2, 0, (congrArg (fun l => pm_look l 121) cq_221).trans rfl⟩
theorem lk_221_123 : Lk 221 123 (.iaload) 0 0 (0) := ⟨1, 0, (congrArg (fun l => pm_look l 123) cq_221).trans rfl⟩
theorem lk_221_124 : Lk 221 124 (.iadd) 0 0 (0) := ⟨1, 0, (congrArg (fun l => pm_look l 124) cq_221).trans rfl⟩
theorem lk_221_125 : Lk 221 125 (.istore 6) 0 0 (0) := ⟨2, 0, (congrArg (fun l => pm_look l 125) cq_221).trans rfl⟩
theorem lk_221_127 : Lk 221 127 (.iload 4) 0 0 (0) := ⟨2, 0, (congrArg (fun l => pm_look l 127) cq_221).trans rfl⟩
theorem lk_221_129 : Lk 221 129 (.ifCond .eq 34) 0 0 (0) := ⟨3, 0, (congrArg (fun l => pm_look l 129) cq_221).trans rfl⟩
theorem lk_221_132 : Lk 221 132 (.iload 6) 0 0 (0) := ⟨2, 0, (congrArg (fun l => pm_look l 132) cq_221).trans rfl⟩
theorem lk_221_134 : Lk 221 134 (.aload_n 0) 0 0 (0) := ⟨1, 0, (congrArg (fun l => pm_look l 134) cq_221).trans rfl⟩
theorem lk_221_135 : Lk 221 135 (.getfield 83) 12 41 (2) := ⟨3, 1298, (congrArg (fun l => pm_look l 135) cq_221).trans rfl⟩
theorem lk_221_138 : Lk 221 138 (.iload_n 3) 0 0 (0) := ⟨1, 0, (congrArg (fun l => pm_look l 138) cq_221).trans rfl⟩
theorem lk_221_139 : Lk 221 139 (.iaload) 0 0 (0) := ⟨1, 0, (congrArg (fun l => pm_look l 139) cq_221).trans rfl⟩
theorem lk_221_140 : Lk 221 140 (.if_icmp .eq 23) 0 0 (0) := ⟨3, 0, (congrArg (fun l => pm_look l 140) cq_221).trans rfl⟩
theorem lk_221_143 : Lk 221 143 (.iconst 0) 0 0 (0) := ⟨1, 0, (congrArg (fun l => pm_look l 143) cq_221).trans rfl⟩
theorem lk_221_144 : Lk 221 144 (.istore 4) 0 0 (0) := ⟨2, 0, (congrArg (fun l => pm_look l 144) cq_221).trans rfl⟩
theorem lk_221_146 : Lk 221 146 (.iload 6) 0 0 (0) := ⟨2, 0, (congrArg (fun l => pm_look l 146) cq_221).trans rfl⟩
theorem lk_221_148 : Lk 221 148 (.aload_n 0) 0 0 (0) := ⟨1, 0, (congrArg (fun l => pm_look l 148) cq_221).trans rfl⟩
theorem lk_221_149 : Lk 221 149 (.getfield 83) 12 41 (2) := ⟨3, 1298, (congrArg (fun l => pm_look l 149) cq_221).trans rfl⟩
theorem lk_221_152 : Lk 221 152 (.iload_n 3) 0 0 (0) := ⟨1, 0, (congrArg (fun l => pm_look l 152) cq_221).trans rfl⟩
theorem lk_221_153 : Lk 221 153 (.iaload) 0 0 (0) := ⟨1, 0, (congrArg (fun l => pm_look l 153) cq_221).trans rfl⟩
theorem lk_221_154 : Lk 221 154 (.if_icmp .ge 7) 0 0 (0) := ⟨3, 0, (congrArg (fun l => pm_look l 154) cq_221).trans rfl⟩
theorem lk_221_157 : Lk 221 157 (.iconst 1) 0 0 (0) := ⟨1, 0, (congrArg (fun l => pm_look l 157) cq_221).trans rfl⟩
theorem lk_221_158 : Lk 221 158 (.goto 4) 0 0 (0) := ⟨3, 0, (congrArg (fun l => pm_look l 158) cq_221).trans rfl⟩
theorem lk_221_161 : Lk 221 161 (.iconst 0) 0 0 (0) := ⟨1, 0, (congrArg (fun l => pm_look l 161) cq_221).trans rfl⟩
theorem lk_221_162 : Lk 221 162 (.istore_n 2) 0 0 (0) := ⟨1, 0, (congrArg (fun l => pm_look l 162) cq_221).trans rfl⟩
theorem lk_221_163 : Lk 221 163 (.iinc 3 1) 0 0 (0) := ⟨3, 0, (congrArg (fun l => pm_look l 163) cq_221).trans rfl⟩
theorem lk_221_166 : Lk 221 166 (.iinc 5 1) 0 0 (0) := ⟨3, 0, (congrArg (fun l => pm_look l 166) cq_221).trans rfl⟩
theorem lk_221_169 : Lk 221 169 (.goto (-80)) 0 0 (0) := ⟨3, 0, (congrArg (fun l => pm_look l 169) cq_221).trans rfl⟩
theorem lk_221_172 : Lk 221 172 (.iconst 0) 0 0 (0) := ⟨1, 0, (congrArg (fun l => pm_look l 172) cq_221).trans rfl⟩
theorem lk_221_173 : Lk 221 173 (.istore_n 3) 0 0 (0) := ⟨1, 0, (congrArg (fun l => pm_look l 173) cq_221).trans rfl⟩
theorem lk_221_174 : Lk 221 174 (.iconst 0) 0 0 (0) := ⟨1, 0, (congrArg (fun l => pm_look l 174) cq_221).trans rfl⟩
theorem lk_221_175 : Lk 221 175 (.istore 5) 0 0 (0) := ⟨2, 0, (congrArg (fun l => pm_look l 175) cq_221).trans rfl⟩
theorem lk_221_177 : Lk 221 177 (.iload 5) 0 0 (0) := ⟨2, 0, (congrArg (fun l => pm_look l 177) cq_221).trans rfl⟩
theorem lk_221_179 : Lk 221 179 (.aload_n 0) 0 0 (0) := ⟨1, 0, (congrArg (fun l => pm_look l 179) cq_221).trans rfl⟩
theorem lk_221_180 : Lk 221 180 (.getfield 7) 12 1 (0) := ⟨3, 1258, (congrArg (fun l => pm_look l 180) cq_221).trans rfl⟩
theorem lk_221_183 : Lk 221 183 (.if_icmp .ge 46) 0 0 (0) := ⟨3, 0, (congrArg (fun l => pm_look l 183) cq_221).trans rfl⟩
theorem lk_221_186 : Lk 221 186 (.iload_n 2) 0 0 (0) := ⟨1, 0, (congrArg (fun l => pm_look l 186) cq_221).trans rfl⟩
theorem lk_221_187 : Lk 221 187 (.ifCond .eq 42) 0 0 (0) := ⟨3, 0, (congrArg (fun l => pm_look l 187) cq_221).trans rfl⟩
theorem lk_221_190 : Lk 221 190 (.aload_n 0) 0 0 (0) := ⟨1, 0, (congrArg (fun l => pm_look l 190) cq_221).trans rfl⟩
theorem lk_221_191 : Lk 221 191 (.getfield 80) 12 40 (2) := ⟨3, 1297, (congrArg (fun l => pm_look l 191) cq_221).trans rfl⟩
theorem lk_221_194 : Lk 221 194 (.iload 5) 0 0 (0) := ⟨2, 0, (congrArg (fun l => pm_look l 194) cq_221).trans rfl⟩
theorem lk_221_196 : Lk 221 196 (.iaload) 0 0 (0) := ⟨1, 0, (congrArg (fun l => pm_look l 196) cq_221).trans rfl⟩
theorem lk_221_197 : Lk 221 197 (.iconst (-1)) 0 0 (0) := ⟨1, 0, (congrArg (fun l => pm_look l 197) cq_221).trans rfl⟩
theorem lk_221_198 : Lk 221 198 (.if_icmp .eq 25) 0 0 (0) := ⟨3, 0, (congrArg (fun l => pm_look l 198) cq_221).trans rfl⟩
theorem lk_221_201 : Lk 221 201 (.aload_n 0) 0 0 (0) := ⟨1, 0, (congrArg (fun l => pm_look l 201) cq_221).trans rfl⟩
theorem lk_221_202 : Lk 221 202 (.getfield 83) 12 41 (2) := ⟨3, 1298, (congrArg (fun l => pm_look l 202) cq_221).trans rfl⟩
theorem lk_221_205 : Lk 221 205 (.iload_n 3) 0 0 (0) := ⟨1, 0, (congrArg (fun l => pm_look l 205) cq_221).trans rfl⟩
theorem lk_221_206 : Lk 221 206 (.bipush 10) 0 0 (0) := ⟨2, 0, (congrArg (fun l => pm_look l 206) cq_221).trans rfl⟩
theorem lk_221_208 : Lk 221 208 (.iload 5) 0 0 (0) := ⟨2, 0, (congrArg (fun l => pm_look l 208) cq_221).trans rfl⟩
theorem lk_221_210 : Lk 221 210 (.imul) 0 0 (0) := ⟨1, 0, (congrArg (fun l => pm_look l 210) cq_221).trans rfl⟩
theorem lk_221_211 : Lk 221 211 (.aload_n 0) 0 0 (0) := ⟨1, 0, (congrArg (fun l => pm_look l 211) cq_221).trans rfl⟩
set_option maxRecDepth 100000 in
theorem lk_221_212 : Lk 221 212 (.getfield 80) 12 40 (2) := ⟨3, 1297, (congrArg (fun l => pm_look l 212) cq_221).trans rfl⟩
set_option maxRecDepth 100000 in
theorem lk_221_215 : Lk 221 215 (.iload 5) 0 0 (0) := ⟨2, 0, (congrArg (fun l => pm_look l 215) cq_221).trans rfl⟩
set_option maxRecDepth 100000 in
theorem lk_221_217 : Lk 221 217 (.iaload) 0 0 (0) := ⟨1, 0, (congrArg (fun l => pm_look l 217) cq_221).trans rfl⟩
set_option maxRecDepth 100000 in
theorem lk_221_218 : Lk 221 218 (.iadd) 0 0 (0) := ⟨1, 0, (congrArg (fun l => pm_look l 218) cq_221).trans rfl⟩
set_option maxRecDepth 100000 in
theorem lk_221_219 : Lk 221 219 (.iastore) 0 0 (0) := ⟨1, 0, (congrArg (fun l => pm_look l 219) cq_221).trans rfl⟩
set_option maxRecDepth 100000 in
theorem lk_221_220 : Lk 221 220 (.iinc 3 1) 0 0 (0) := ⟨3, 0, (congrArg (fun l => pm_look l 220) cq_221).trans rfl⟩
set_option maxRecDepth 100000 in
theorem lk_221_223 : Lk 221 223 (.iinc 5 1) 0 0 (0) := ⟨3, 0, (congrArg (fun l => pm_look l 223) cq_221).trans rfl⟩
set_option maxRecDepth 100000 in
theorem lk_221_226 : Lk 221 226 (.goto (-49)) 0 0 (0) := ⟨3, 0, (congrArg (fun l => pm_look l 226) cq_221).trans rfl⟩
set_option maxRecDepth 100000 in
theorem lk_221_229 : Lk 221 229 (.aload_n 0) 0 0 (0) := ⟨1, 0, (congrArg (fun l => pm_look l 229) cq_221).trans rfl⟩
set_option maxRecDepth 100000 in
theorem lk_221_230 : Lk 221 230 (.iload_n 1) 0 0 (0) := ⟨1, 0, (congrArg (fun l => pm_look l 230) cq_221).trans rfl⟩
set_option maxRecDepth 100000 in
theorem lk_221_231 : Lk 221 231 (.putfield 331) 12 43 (0) := ⟨3, 1300, (congrArg (fun l => pm_look l 231) cq_221).trans rfl⟩
set_option maxRecDepth 100000 in
theorem lk_221_234 : Lk 221 234 (.return_) 0 0 (0) := ⟨1, 0, (congrArg (fun l => pm_look l 234) cq_221).trans rfl⟩
theorem cq_222 : pm_code 222 = cd_222 := rfl
theorem lk_222_0 : Lk 222 0 (.aload_n 0) 0 0 (0) := ⟨1, 0, (congrArg (fun l => pm_look l 0) cq_222).trans rfl⟩
theorem lk_222_1 : Lk 222 1 (.iconst 0) 0 0 (0) := ⟨1, 0, (congrArg (fun l => pm_look l 1) cq_222).trans rfl⟩
theorem lk_222_2 : Lk 222 2 (.putfield 331) 12 43 (0) := ⟨3, 1300, (congrArg (fun l => pm_look l 2) cq_222).trans rfl⟩
theorem lk_222_5 : Lk 222 5 (.iconst 0) 0 0 (0) := ⟨1, 0, (congrArg (fun l => pm_look l 5) cq_222).trans rfl⟩
theorem lk_222_6 : Lk 222 6 (.istore_n 2) 0 0 (0) := ⟨1, 0, (congrArg (fun l => pm_look l 6) cq_222).trans rfl⟩
theorem lk_222_7 : Lk 222 7 (.iload_n 2) 0 0 (0) := ⟨1, 0, (congrArg (fun l => pm_look l 7) cq_222).trans rfl⟩
theorem lk_222_8 : Lk 222 8 (.bipush 7) 0 0 (0) := ⟨2, 0, (congrArg (fun l => pm_look l 8) cq_222).trans rfl⟩
theorem lk_222_10 : Lk 222 10 (.if_icmp .ge 16) 0 0 (0) := ⟨3, 0, (congrArg (fun l => pm_look l 10) cq_222).trans rfl⟩
theorem lk_222_13 : Lk 222 13 (.aload_n 0) 0 0 (0) := ⟨1, 0, (congrArg (fun l => pm_look l 13) cq_222).trans rfl⟩
theorem lk_222_14 : Lk 222 14 (.getfield 86) 12 42 (2) := ⟨3, 1299, (congrArg (fun l => pm_look l 14) cq_222).trans rfl⟩
theorem lk_222_17 : Lk 222 17 (.iload_n 2) 0 0 (0) := ⟨1, 0, (congrArg (fun l => pm_look l 17) cq_222).trans rfl⟩
theorem lk_222_18 : Lk 222 18 (.iconst 0) 0 0 (0) := ⟨1, 0, (congrArg (fun l => pm_look l 18) cq_222).trans rfl⟩
theorem lk_222_19 : Lk 222 19 (.iastore) 0 0 (0) := ⟨1, 0, (congrArg (fun l => pm_look l 19) cq_222).trans rfl⟩
theorem lk_222_20 : Lk 222 20 (.iinc 2 1) 0 0 (0) := ⟨3, 0, (congrArg (fun l => pm_look l 20) cq_222).trans rfl⟩
theorem lk_222_23 : Lk 222 23 (.goto (-16)) 0 0 (0) := ⟨3, 0, (congrArg (fun l => pm_look l 23) cq_222).trans rfl⟩
theorem lk_222_26 : Lk 222 26 (.iconst 0) 0 0 (0) := ⟨1, 0, (congrArg (fun l => pm_look l 26) cq_222).trans rfl⟩
theorem lk_222_27 : Lk 222 27 (.istore_n 2) 0 0 (0) := ⟨1, 0, (congrArg (fun l => pm_look l 27) cq_222).trans rfl⟩
theorem lk_222_28 : Lk 222 28 (.aload_n 0) 0 0 (0) := ⟨1, 0, (congrArg (fun l => pm_look l 28) cq_222).trans rfl⟩
theorem lk_222_29 : Lk 222 29 (.getfield 80) 12 40 (2) := ⟨3, 1297, (congrArg (fun l => pm_look l 29) cq_222).trans rfl⟩
theorem lk_222_32 : Lk 222 32 (.iconst 0) 0 0 (0) := ⟨1, 0, (congrArg (fun l => pm_look l 32) cq_222).trans rfl⟩
theorem lk_222_33 : Lk 222 33 (.bipush (-2)) 0 0 (0) := ⟨2, 0, (congrArg (fun l => pm_look l 33) cq_222).trans rfl⟩
theorem lk_222_35 : Lk 222 35 (.iastore) 0 0 (0) := ⟨1, 0, (congrArg (fun l => pm_look l 35) cq_222).trans rfl⟩
theorem lk_222_36 : Lk 222 36 (.iload_n 2) 0 0 (0) := ⟨1, 0, (congrArg (fun l => pm_look l 36) cq_222).trans rfl⟩
theorem lk_222_37 : Lk 222 37 (.ifCond .lt 72) 0 0 (0) := ⟨3, 0, (congrArg (fun l => pm_look l 37) cq_222).trans rfl⟩
theorem lk_222_40 : Lk 222 40 (.aload_n 0) 0 0 (0) := ⟨1, 0, (congrArg (fun l => pm_look l 40) cq_222).trans rfl⟩
theorem lk_222_41 : Lk 222 41 (.getfield 80) 12 40 (2) := ⟨3, 1297, (congrArg (fun l => pm_look l 41) cq_222).trans rfl⟩
theorem lk_222_44 : Lk 222 44 (.iload_n 2) 0 0 (0) := ⟨1, 0, (congrArg (fun l => pm_look l 44) cq_222).trans rfl⟩
theorem lk_222_45 : Lk 222 45 (.dup2) 0 0 (0) := ⟨1, 0, (congrArg (fun l => pm_look l 45) cq_222).trans rfl⟩
theorem lk_222_46 : Lk 222 46 (.iaload) 0 0 (0) := ⟨1, 0, (congrArg (fun l => pm_look l 46) cq_222).trans rfl⟩
theorem lk_222_47 : Lk 222 47 (.iconst 1) 0 0 (0) := ⟨1, 0, (congrArg (fun l => pm_look l 47) cq_222).trans rfl⟩
theorem lk_222_48 : Lk 222 48 (.iadd) 0 0 (0) := ⟨1, 0, (congrArg (fun l => pm_look l 48) cq_222).trans rfl⟩
theorem lk_222_49 : Lk 222 49 (.iastore) 0 0 (0) := ⟨1, 0, (congrArg (fun l => pm_look l 49) cq_222).trans rfl⟩
theorem lk_222_50 : Lk 222 50 (.aload_n 0) 0 0 (0) := ⟨1, 0, (congrArg (fun l => pm_look l 50) cq_222).trans rfl⟩
theorem lk_222_51 : Lk 222 51 (.getfield 80) 12 40 (2) := ⟨3, 1297, (congrArg (fun l => pm_look l 51) cq_222).trans rfl⟩
theorem lk_222_54 : Lk 222 54 (.iload_n 2) 0 0 (0) := ⟨1, 0, (congrArg (fun l => pm_look l 54) cq_222).trans rfl⟩
theorem lk_222_55 : Lk 222 55 (.iaload) 0 0 (0) := ⟨1, 0, (congrArg (fun l => pm_look l 55) cq_222).trans rfl⟩
theorem lk_222_56 : Lk 222 56 (.aload_n 0) 0 0 (0) := ⟨1, 0, (congrArg (fun l => pm_look l 56) cq_222).trans rfl⟩
theorem lk_222_57 : Lk 222 57 (.getfield 13) 12 2 (0) := ⟨3, 1259, (congrArg (fun l => pm_look l 57) cq_222).trans rfl⟩
theorem lk_222_60 : Lk 222 60 (.if_icmp .ne 9) 0 0 (0) := ⟨3, 0, (congrArg (fun l => pm_look l 60) cq_222).trans rfl⟩
theorem lk_222_63 : Lk 222 63 (.iinc 2 (-1)) 0 0 (0) := ⟨3, 0, (congrArg (fun l => pm_look l 63) cq_222).trans rfl⟩
theorem lk_222_66 : Lk 222 66 (.goto (-30)) 0 0 (0) := ⟨3, 0, (congrArg (fun l => pm_look l 66) cq_222).trans rfl⟩
theorem lk_222_69 : Lk 222 69 (.aload_n 0) 0 0 (0) := ⟨1, 0, (congrArg (fun l => pm_look l 69) cq_222).trans rfl⟩
theorem lk_222_70 : Lk 222 70 (.iload_n 2) 0 0 (0) := ⟨1, 0, (congrArg (fun l => pm_look l 70) cq_222).trans rfl⟩
theorem lk_222_71 : Lk 222 71 (.iload_n 1) 0 0 (0) := ⟨1, 0, (congrArg (fun l => pm_look l 71) cq_222).trans rfl⟩
theorem lk_222_72 : Lk 222 72 (.invokevirtual 334) 220 0 (0) := ⟨3, 1674, (congrArg (fun l => pm_look l 72) cq_222).trans rfl⟩
theorem lk_222_75 : Lk 222 75 (.ifCond .eq (-39)) 0 0 (0) := ⟨3, 0, (congrArg (fun l => pm_look l 75) cq_222).trans rfl⟩
theorem lk_222_78 : Lk 222 78 (.iload_n 2) 0 0 (0) := ⟨1, 0, (congrArg (fun l => pm_look l 78) cq_222).trans rfl⟩
theorem lk_222_79 : Lk 222 79 (.aload_n 0) 0 0 (0) := ⟨1, 0, (congrArg (fun l => pm_look l 79) cq_222).trans rfl⟩
theorem lk_222_80 : Lk 222 80 (.getfield 7) 12 1 (0) := ⟨3, 1258, (congrArg (fun l => pm_look l 80) cq_222).trans rfl⟩
theorem lk_222_83 : Lk 222 83 (.iconst 1) 0 0 (0) := ⟨1, 0, (congrArg (fun l => pm_look l 83) cq_222).trans rfl⟩
theorem lk_222_84 : Lk 222 84 (.isub) 0 0 (0) := ⟨1, 0, (congrArg (fun l => pm_look l 84) cq_222).trans rfl⟩
theorem lk_222_85 : Lk 222 85 (.if_icmp .ne 10) 0 0 (0) := ⟨3, 0, (congrArg (fun l => pm_look l 85) cq_222).trans rfl⟩
theorem lk_222_88 : Lk 222 88 (.aload_n 0) 0 0 (0) := ⟨1, 0, (congrArg (fun l => pm_look l 88) cq_222).trans rfl⟩
theorem lk_222_89 : Lk 222 89 (.invokevirtual 337) 221 0 (0) := ⟨3, 1682, (congrArg (fun l => pm_look l 89) cq_222).trans rfl⟩
theorem lk_222_92 : Lk 222 92 (.goto (-56)) 0 0 (0) := ⟨3, 0, (congrArg (fun l => pm_look l 92) cq_222).trans rfl⟩
theorem lk_222_95 : Lk 222 95 (.iinc 2 1) 0 0 (0) := ⟨3, 0, (congrArg (fun l => pm_look l 95) cq_222).trans rfl⟩
theorem lk_222_98 : Lk 222 98 (.aload_n 0) 0 0 (0) := ⟨1, 0, (congrArg (fun l => pm_look l 98) cq_222).trans rfl⟩
theorem lk_222_99 : Lk 222 99 (.getfield 80) 12 40 (2) := ⟨3, 1297, (congrArg (fun l => pm_look l 99) cq_222).trans rfl⟩
theorem lk_222_102 : Lk 222 102 (.iload_n 2) 0 0 (0) := ⟨1, 0, (congrArg (fun l => pm_look l 102) cq_222).trans rfl⟩
theorem lk_222_103 : Lk 222 103 (.bipush (-2)) 0 0 (0) := ⟨2, 0, (congrArg (fun l => pm_look l 103) cq_222).trans rfl⟩
theorem lk_222_105 : Lk 222 105 (.iastore) 0 0 (0) := ⟨1, 0, (congrArg (fun l => pm_look l 105) cq_222).trans rfl⟩
theorem lk_222_106 : Lk 222 106 (.goto (-70)) 0 0 (0) := ⟨3, 0, (congrArg (fun l => pm_look l 106) cq_222).trans rfl⟩
theorem lk_222_109 : Lk 222 109 (.return_) 0 0 (0) := ⟨1, 0, (congrArg (fun l => pm_look l 109) cq_222).trans rfl⟩
theorem cq_223 : pm_code 223 = cd_223 := rfl
theorem lk_223_0 : Lk 223 0 (.aload_n 0) 0 0 (0) := ⟨1, 0, (congrArg (fun l => pm_look l 0) cq_223).trans rfl⟩
theorem lk_223_1 : Lk 223 1 (.iconst 0) 0 0 (0) := ⟨1, 0, (congrArg (fun l => pm_look l 1) cq_223).trans rfl⟩
theorem lk_223_2 : Lk 223 2 (.putfield 143) 12 0 (0) := ⟨3, 1257, (congrArg (fun l => pm_look l 2) cq_223).trans rfl⟩
theorem lk_223_5 : Lk 223 5 (.iload_n 1) 0 0 (0) := ⟨1, 0, (congrArg (fun l => pm_look l 5) cq_223).trans rfl⟩
theorem lk_223_6 : Lk 223 6 (.invokestatic 300) 205 0 (0) := ⟨3, 1620, (congrArg (fun l => pm_look l 6) cq_223).trans rfl⟩
theorem lk_223_9 : Lk 223 9 (.ifCond .ne 5) 0 0 (0) := ⟨3, 0, (congrArg (fun l => pm_look l 9) cq_223).trans rfl⟩
theorem lk_223_12 : Lk 223 12 (.iconst (-1)) 0 0 (0) := ⟨1, 0, (congrArg (fun l => pm_look l 12) cq_223).trans rfl⟩
theorem lk_223_13 : Lk 223 13 (.ireturn) 0 0 (0) := ⟨1, 0, (congrArg (fun l => pm_look l 13) cq_223).trans rfl⟩
theorem lk_223_14 : Lk 223 14 (.aload_n 0) 0 0 (0) := ⟨1, 0, (congrArg (fun l => pm_look l 14) cq_223).trans rfl⟩
theorem lk_223_15 : Lk 223 15 (.iload_n 1) 0 0 (0) := ⟨1, 0, (congrArg (fun l => pm_look l 15) cq_223).trans rfl⟩
theorem lk_223_16 : Lk 223 16 (.invokevirtual 340) 222 0 (0) := ⟨3, 1670, (congrArg (fun l => pm_look l 16) cq_223).trans rfl⟩
theorem lk_223_19 : Lk 223 19 (.iload_n 2) 0 0 (0) := ⟨1, 0, (congrArg (fun l => pm_look l 19) cq_223).trans rfl⟩
theorem lk_223_20 : Lk 223 20 (.iconst (-1)) 0 0 (0) := ⟨1, 0, (congrArg (fun l => pm_look l 20) cq_223).trans rfl⟩
theorem lk_223_21 : Lk 223 21 (.if_icmp .ne 10) 0 0 (0) := ⟨3, 0, (congrArg (fun l => pm_look l 21) cq_223).trans rfl⟩
theorem lk_223_24 : Lk 223 24 (.aload_n 0) 0 0 (0) := ⟨1, 0, (congrArg (fun l => pm_look l 24) cq_223).trans rfl⟩
theorem lk_223_25 : Lk 223 25 (.getfield 331) 12 43 (0) := ⟨3, 1300, (congrArg (fun l => pm_look l 25) cq_223).trans rfl⟩
theorem lk_223_28 : Lk 223 28 (.goto 27) 0 0 (0) := ⟨3, 0, (congrArg (fun l => pm_look l 28) cq_223).trans rfl⟩
theorem lk_223_31 : Lk 223 31 (.iload_n 2) 0 0 (0) := ⟨1, 0, (congrArg (fun l => pm_look l 31) cq_223).trans rfl⟩
theorem lk_223_32 : Lk 223 32 (.iconst 0) 0 0 (0) := ⟨1, 0, (congrArg (fun l => pm_look l 32) cq_223).trans rfl⟩
theorem lk_223_33 : Lk 223 33 (.aload_n 0) 0 0 (0) := ⟨1, 0, (congrArg (fun l => pm_look l 33) cq_223).trans rfl⟩
theorem lk_223_34 : Lk 223 34 (.getfield 331) 12 43 (0) := ⟨3, 1300, (congrArg (fun l => pm_look l 34) cq_223).trans rfl⟩
theorem lk_223_37 : Lk 223 37 (.iconst 1) 0 0 (0) := ⟨1, 0, (congrArg (fun l => pm_look l 37) cq_223).trans rfl⟩
theorem lk_223_38 : Lk 223 38 (.isub) 0 0 (0) := ⟨1, 0, (congrArg (fun l => pm_look l 38) cq_223).trans rfl⟩
theorem lk_223_39 : Lk 223 39 (.invokestatic 146) 167 0 (0) := ⟨3, 1483, (congrArg (fun l => pm_look l 39) cq_223).trans rfl⟩
theorem lk_223_42 : Lk 223 42 (.ifCond .eq 12) 0 0 (0) := ⟨3, 0, (congrArg (fun l => pm_look l 42) cq_223).trans rfl⟩
theorem lk_223_45 : Lk 223 45 (.aload_n 0) 0 0 (0) := ⟨1, 0, (congrArg (fun l => pm_look l 45) cq_223).trans rfl⟩
theorem lk_223_46 : Lk 223 46 (.getfield 83) 12 41 (2) := ⟨3, 1298, (congrArg (fun l => pm_look l 46) cq_223).trans rfl⟩
theorem lk_223_49 : Lk 223 49 (.iload_n 2) 0 0 (0) := ⟨1, 0, (congrArg (fun l => pm_look l 49) cq_223).trans rfl⟩
theorem lk_223_50 : Lk 223 50 (.iaload) 0 0 (0) := ⟨1, 0, (congrArg (fun l => pm_look l 50) cq_223).trans rfl⟩
theorem lk_223_51 : Lk 223 51 (.goto 4) 0 0 (0) := ⟨3, 0, (congrArg (fun l => pm_look l 51) cq_223).trans rfl⟩
theorem lk_223_54 : Lk 223 54 (.iconst (-1)) 0 0 (0) := ⟨1, 0, (congrArg (fun l => pm_look l 54) cq_223).trans rfl⟩
theorem lk_223_55 : Lk 223 55 (.ireturn) 0 0 (0) := ⟨1, 0, (congrArg (fun l => pm_look l 55) cq_223).trans rfl⟩
theorem cq_224 : pm_code 224 = cd_224 := rfl
theorem lk_224_0 : Lk 224 0 (.aload_n 0) 0 0 (0) := ⟨1, 0, (congrArg (fun l => pm_look l 0) cq_224).trans rfl⟩
theorem lk_224_1 : Lk 224 1 (.iconst 0) 0 0 (0) := ⟨1, 0, (congrArg (fun l => pm_look l 1) cq_224).trans rfl⟩
theorem lk_224_2 : Lk 224 2 (.putfield 143) 12 0 (0) := ⟨3, 1257, (congrArg (fun l => pm_look l 2) cq_224).trans rfl⟩
theorem lk_224_5 : Lk 224 5 (.iload_n 1) 0 0 (0) := ⟨1, 0, (congrArg (fun l => pm_look l 5) cq_224).trans rfl⟩
theorem lk_224_6 : Lk 224 6 (.invokestatic 300) 205 0 (0) := ⟨3, 1620, (congrArg (fun l => pm_look l 6) cq_224).trans rfl⟩
theorem lk_224_9 : Lk 224 9 (.ifCond .eq 13) 0 0 (0) := ⟨3, 0, (congrArg (fun l => pm_look l 9) cq_224).trans rfl⟩
theorem lk_224_12 : Lk 224 12 (.iload_n 2) 0 0 (0) := ⟨1, 0, (congrArg (fun l => pm_look l 12) cq_224).trans rfl⟩
theorem lk_224_13 : Lk 224 13 (.iconst 0) 0 0 (0) := ⟨1, 0, (congrArg (fun l => pm_look l 13) cq_224).trans rfl⟩
theorem lk_224_14 : Lk 224 14 (.bipush 6) 0 0 (0) := ⟨2, 0, (congrArg (fun l => pm_look l 14) cq_224).trans rfl⟩
theorem lk_224_16 : Lk 224 16 (.invokestatic 146) 167 0 (0) := ⟨3, 1483, (congrArg (fun l => pm_look l 16) cq_224).trans rfl⟩
theorem lk_224_19 : Lk 224 19 (.ifCond .ne 5) 0 0 (0) := ⟨3, 0, (congrArg (fun l => pm_look l 19) cq_224).trans rfl⟩
theorem lk_224_22 : Lk 224 22 (.iconst (-1)) 0 0 (0) := ⟨1, 0, (congrArg (fun l => pm_look l 22) cq_224).trans rfl⟩
theorem lk_224_23 : Lk 224 23 (.ireturn) 0 0 (0) := ⟨1, 0, (congrArg (fun l => pm_look l 23) cq_224).trans rfl⟩
theorem lk_224_24 : Lk 224 24 (.aload_n 0) 0 0 (0) := ⟨1, 0, (congrArg (fun l => pm_look l 24) cq_224).trans rfl⟩
theorem lk_224_25 : Lk 224 25 (.iload_n 1) 0 0 (0) := ⟨1, 0, (congrArg (fun l => pm_look l 25) cq_224).trans rfl⟩
theorem lk_224_26 : Lk 224 26 (.invokevirtual 340) 222 0 (0) := ⟨3, 1670, (congrArg (fun l => pm_look l 26) cq_224).trans rfl⟩
theorem lk_224_29 : Lk 224 29 (.aload_n 0) 0 0 (0) := ⟨1, 0, (congrArg (fun l => pm_look l 29) cq_224).trans rfl⟩
theorem lk_224_30 : Lk 224 30 (.getfield 86) 12 42 (2) := ⟨3, 1299, (congrArg (fun l => pm_look l 30) cq_224).trans rfl⟩
theorem lk_224_33 : Lk 224 33 (.iload_n 2) 0 0 (0) := ⟨1, 0, (congrArg (fun l => pm_look l 33) cq_224).trans rfl⟩
theorem lk_224_34 : Lk 224 34 (.iaload) 0 0 (0) := ⟨1, 0, (congrArg (fun l => pm_look l 34) cq_224).trans rfl⟩
theorem lk_224_35 : Lk 224 35 (.ireturn) 0 0 (0) := ⟨1, 0, (congrArg (fun l => pm_look l 35) cq_224).trans rfl⟩
theorem cq_225 : pm_code 225 = cd_225 := rfl
theorem lk_225_0 : Lk 225 0 (.iload_n 0) 0 0 (0) := ⟨1, 0, (congrArg (fun l => pm_look l 0) cq_225).trans rfl⟩
theorem lk_225_1 : Lk 225 1 (.iconst 2) 0 0 (0) := ⟨1, 0, (congrArg (fun l => pm_look l 1) cq_225).trans rfl⟩
theorem lk_225_2 : Lk 225 2 (.bipush 97) 0 0 (0) := ⟨2, 0, (congrArg (fun l => pm_look l 2) cq_225).trans rfl⟩
theorem lk_225_4 : Lk 225 4 (.invokestatic 146) 167 0 (0) := ⟨3, 1483, (congrArg (fun l => pm_look l 4) cq_225).trans rfl⟩
theorem lk_225_7 : Lk 225 7 (.istore_n 1) 0 0 (0) := ⟨1, 0, (congrArg (fun l => pm_look l 7) cq_225).trans rfl⟩
theorem lk_225_8 : Lk 225 8 (.iconst 2) 0 0 (0) := ⟨1, 0, (congrArg (fun l => pm_look l 8) cq_225).trans rfl⟩
theorem lk_225_9 : Lk 225 9 (.istore_n 2) 0 0 (0) := ⟨1, 0, (congrArg (fun l => pm_look l 9) cq_225).trans rfl⟩
theorem lk_225_10 : Lk 225 10 (.iload_n 2) 0 0 (0) := ⟨1, 0, (congrArg (fun l => pm_look l 10) cq_225).trans rfl⟩
theorem lk_225_11 : Lk 225 11 (.iload_n 0) 0 0 (0) := ⟨1, 0, (congrArg (fun l => pm_look l 11) cq_225).trans rfl⟩
theorem lk_225_12 : Lk 225 12 (.if_icmp .ge 25) 0 0 (0) := ⟨3, 0, (congrArg (fun l => pm_look l 12) cq_225).trans rfl⟩
theorem lk_225_15 : Lk 225 15 (.iload_n 1) 0 0 (0) := ⟨1, 0, (congrArg (fun l => pm_look l 15) cq_225).trans rfl⟩
theorem lk_225_16 : Lk 225 16 (.ifCond .eq 21) 0 0 (0) := ⟨3, 0, (congrArg (fun l => pm_look l 16) cq_225).trans rfl⟩
theorem lk_225_19 : Lk 225 19 (.iload_n 0) 0 0 (0) := ⟨1, 0, (congrArg (fun l => pm_look l 19) cq_225).trans rfl⟩
theorem lk_225_20 : Lk 225 20 (.iload_n 2) 0 0 (0) := ⟨1, 0, (congrArg (fun l => pm_look l 20) cq_225).trans rfl⟩
theorem lk_225_21 : Lk 225 21 (.irem) 0 0 (0) := ⟨1, 0, (congrArg (fun l => pm_look l 21) cq_225).trans rfl⟩
theorem lk_225_22 : Lk 225 22 (.ifCond .eq 7) 0 0 (0) := ⟨3, 0, (congrArg (fun l => pm_look l 22) cq_225).trans rfl⟩
theorem lk_225_25 : Lk 225 25 (.iconst 1) 0 0 (0) := ⟨1, 0, (congrArg (fun l => pm_look l 25) cq_225).trans rfl⟩
theorem lk_225_26 : Lk 225 26 (.goto 4) 0 0 (0) := ⟨3, 0, (congrArg (fun l => pm_look l 26) cq_225).trans rfl⟩
theorem lk_225_29 : Lk 225 29 (.iconst 0) 0 0 (0) := ⟨1, 0, (congrArg (fun l => pm_look l 29) cq_225).trans rfl⟩
theorem lk_225_30 : Lk 225 30 (.istore_n 1) 0 0 (0) := ⟨1, 0, (congrArg (fun l => pm_look l 30) cq_225).trans rfl⟩
theorem lk_225_31 : Lk 225 31 (.iinc 2 1) 0 0 (0) := ⟨3, 0, (congrArg (fun l => pm_look l 31) cq_225).trans rfl⟩
theorem lk_225_34 : Lk 225 34 (.goto (-24)) 0 0 (0) := ⟨3, 0, (congrArg (fun l => pm_look l 34) cq_225).trans rfl⟩
theorem lk_225_37 : Lk 225 37 (.iload_n 1) 0 0 (0) := ⟨1, 0, (congrArg (fun l => pm_look l 37) cq_225).trans rfl⟩
theorem lk_225_38 : Lk 225 38 (.ireturn) 1 0 (0) := ⟨1, 0, (congrArg (fun l => pm_look l 38) cq_225).trans rfl⟩
theorem cq_226 : pm_code 226 = cd_226 := rfl
theorem lk_226_0 : Lk 226 0 (.lload_n 0) 0 0 (0) := ⟨1, 0, (congrArg (fun l => pm_look l 0) cq_226).trans rfl⟩
theorem lk_226_1 : Lk 226 1 (.lconst 0) 0 0 (0) := ⟨1, 0, (congrArg (fun l => pm_look l 1) cq_226).trans rfl⟩
theorem lk_226_2 : Lk 226 2 (.lcmp) 0 0 (0) := ⟨1, 0, (congrArg (fun l => pm_look l 2) cq_226).trans rfl⟩
theorem lk_226_3 : Lk 226 3 (.ifCond .ge 8) 0 0 (0) := ⟨3, 0, (congrArg (fun l => pm_look l 3) cq_226).trans rfl⟩
theorem lk_226_6 : Lk 226 6 (.lload_n 0) 0 0 (0) := ⟨1, 0, (congrArg (fun l => pm_look l 6) cq_226).trans rfl⟩
theorem lk_226_7 : Lk 226 7 (.lneg) 0 0 (0) := ⟨1, 0, (congrArg (fun l => pm_look l 7) cq_226).trans rfl⟩
theorem lk_226_8 : Lk 226 8 (.goto 4) 0 0 (0) := ⟨3, 0, (congrArg (fun l => pm_look l 8) cq_226).trans rfl⟩
theorem lk_226_11 : Lk 226 11 (.lload_n 0) 0 0 (0) := ⟨1, 0, (congrArg (fun l => pm_look l 11) cq_226).trans rfl⟩
theorem lk_226_12 : Lk 226 12 (.lstore 4) 0 0 (0) := ⟨2, 0, (congrArg (fun l => pm_look l 12) cq_226).trans rfl⟩
theorem lk_226_14 : Lk 226 14 (.lload_n 2) 0 0 (0) := ⟨1, 0, (congrArg (fun l => pm_look l 14) cq_226).trans rfl⟩
theorem lk_226_15 : Lk 226 15 (.lconst 0) 0 0 (0) := ⟨1, 0, (congrArg (fun l => pm_look l 15) cq_226).trans rfl⟩
theorem lk_226_16 : Lk 226 16 (.lcmp) 0 0 (0) := ⟨1, 0, (congrArg (fun l => pm_look l 16) cq_226).trans rfl⟩
theorem lk_226_17 : Lk 226 17 (.ifCond .ge 8) 0 0 (0) := ⟨3, 0, (congrArg (fun l => pm_look l 17) cq_226).trans rfl⟩
theorem lk_226_20 : Lk 226 20 (.lload_n 2) 0 0 (0) := ⟨1, 0, (congrArg (fun l => pm_look l 20) cq_226).trans rfl⟩
theorem lk_226_21 : Lk 226 21 (.lneg) 0 0 (0) := ⟨1, 0, (congrArg (fun l => pm_look l 21) cq_226).trans rfl⟩
theorem lk_226_22 : Lk 226 22 (.goto 4) 0 0 (0) := ⟨3, 0, (congrArg (fun l => pm_look l 22) cq_226).trans rfl⟩
theorem lk_226_25 : Lk 226 25 (.lload_n 2) 0 0 (0) := ⟨1, 0, (congrArg (fun l => pm_look l 25) cq_226).trans rfl⟩
theorem lk_226_26 : Lk 226 26 (.lstore 6) 0 0 (0) := ⟨2, 0, (congrArg (fun l => pm_look l 26) cq_226).trans rfl⟩
theorem lk_226_28 : Lk 226 28 (.lload 6) 0 0 (0) := ⟨2, 0, (congrArg (fun l => pm_look l 28) cq_226).trans rfl⟩
theorem lk_226_30 : Lk 226 30 (.lconst 0) 0 0 (0) := ⟨1, 0, (congrArg (fun l => pm_look l 30) cq_226).trans rfl⟩
theorem lk_226_31 : Lk 226 31 (.lcmp) 0 0 (0) := ⟨1, 0, (congrArg (fun l => pm_look l 31) cq_226).trans rfl⟩
theorem lk_226_32 : Lk 226 32 (.ifCond .eq 21) 0 0 (0) := ⟨3, 0, (congrArg (fun l => pm_look l 32) cq_226).trans rfl⟩
theorem lk_226_35 : Lk 226 35 (.lload 4) 0 0 (0) := ⟨2, 0, (congrArg (fun l => pm_look l 35) cq_226).trans rfl⟩
theorem lk_226_37 : Lk 226 37 (.lload 6) 0 0 (0) := ⟨2, 0, (congrArg (fun l => pm_look l 37) cq_226).trans rfl⟩
theorem lk_226_39 : Lk 226 39 (.lrem) 0 0 (0) := ⟨1, 0, (congrArg (fun l => pm_look l 39) cq_226).trans rfl⟩
theorem lk_226_40 : Lk 226 40 (.lstore 8) 0 0 (0) := ⟨2, 0, (congrArg (fun l => pm_look l 40) cq_226).trans rfl⟩
theorem lk_226_42 : Lk 226 42 (.lload 6) 0 0 (0) := ⟨2, 0, (congrArg (fun l => pm_look l 42) cq_226).trans rfl⟩
theorem lk_226_44 : Lk 226 44 (.lstore 4) 0 0 (0) := ⟨2, 0, (congrArg (fun l => pm_look l 44) cq_226).trans rfl⟩
theorem lk_226_46 : Lk 226 46 (.lload 8) 0 0 (0) := ⟨2, 0, (congrArg (fun l => pm_look l 46) cq_226).trans rfl⟩
theorem lk_226_48 : Lk 226 48 (.lstore 6) 0 0 (0) := ⟨2, 0, (congrArg (fun l => pm_look l 48) cq_226).trans rfl⟩
theorem lk_226_50 : Lk 226 50 (.goto (-22)) 0 0 (0) := ⟨3, 0, (congrArg (fun l => pm_look l 50) cq_226).trans rfl⟩
theorem lk_226_53 : Lk 226 53 (.lload 4) 0 0 (0) := ⟨2, 0, (congrArg (fun l => pm_look l 53) cq_226).trans rfl⟩
theorem lk_226_55 : Lk 226 55 (.lreturn) 0 0 (0) := ⟨1, 0, (congrArg (fun l => pm_look l 55) cq_226).trans rfl⟩
theorem cq_227 : pm_code 227 = cd_227 := rfl
theorem lk_227_0 : Lk 227 0 (.aload_n 0) 0 0 (0) := ⟨1, 0, (congrArg (fun l => pm_look l 0) cq_227).trans rfl⟩
theorem lk_227_1 : Lk 227 1 (.getfield 89) 12 44 (2) := ⟨3, 1301, (congrArg (fun l => pm_look l 1) cq_227).trans rfl⟩
theorem lk_227_4 : Lk 227 4 (.bipush 6) 0 0 (0) := ⟨2, 0, (congrArg (fun l => pm_look l 4) cq_227).trans rfl⟩
theorem lk_227_6 : Lk 227 6 (.iload_n 1) 0 0 (0) := ⟨1, 0, (congrArg (fun l => pm_look l 6) cq_227).trans rfl⟩
theorem lk_227_7 : Lk 227 7 (.imul) 0 0 (0) := ⟨1, 0, (congrArg (fun l => pm_look l 7) cq_227).trans rfl⟩
theorem lk_227_8 : Lk 227 8 (.iload_n 3) 0 0 (0) := ⟨1, 0, (congrArg (fun l => pm_look l 8) cq_227).trans rfl⟩
theorem lk_227_9 : Lk 227 9 (.iadd) 0 0 (0) := ⟨1, 0, (congrArg (fun l => pm_look l 9) cq_227).trans rfl⟩
theorem lk_227_10 : Lk 227 10 (.laload) 0 0 (0) := ⟨1, 0, (congrArg (fun l => pm_look l 10) cq_227).trans rfl⟩
theorem lk_227_11 : Lk 227 11 (.lstore 5) 0 0 (0) := ⟨2, 0, (congrArg (fun l => pm_look l 11) cq_227).trans rfl⟩
theorem lk_227_13 : Lk 227 13 (.aload_n 0) 0 0 (0) := ⟨1, 0, (congrArg (fun l => pm_look l 13) cq_227).trans rfl⟩
theorem lk_227_14 : Lk 227 14 (.getfield 89) 12 44 (2) := ⟨3, 1301, (congrArg (fun l => pm_look l 14) cq_227).trans rfl⟩
theorem lk_227_17 : Lk 227 17 (.bipush 6) 0 0 (0) := ⟨2, 0, (congrArg (fun l => pm_look l 17) cq_227).trans rfl⟩
theorem lk_227_19 : Lk 227 19 (.iload_n 2) 0 0 (0) := ⟨1, 0, (congrArg (fun l => pm_look l 19) cq_227).trans rfl⟩
theorem lk_227_20 : Lk 227 20 (.imul) 0 0 (0) := ⟨1, 0, (congrArg (fun l => pm_look l 20) cq_227).trans rfl⟩
theorem lk_227_21 : Lk 227 21 (.iload_n 3) 0 0 (0) := ⟨1, 0, (congrArg (fun l => pm_look l 21) cq_227).trans rfl⟩
theorem lk_227_22 : Lk 227 22 (.iadd) 0 0 (0) := ⟨1, 0, (congrArg (fun l => pm_look l 22) cq_227).trans rfl⟩
theorem lk_227_23 : Lk 227 23 (.laload) 0 0 (0) := ⟨1, 0, (congrArg (fun l => pm_look l 23) cq_227).trans rfl⟩
theorem lk_227_24 : Lk 227 24 (.lstore 7) 0 0 (0) := ⟨2, 0, (congrArg (fun l => pm_look l 24) cq_227).trans rfl⟩
theorem lk_227_26 : Lk 227 26 (.lconst 0) 0 0 (0) := ⟨1, 0, (congrArg (fun l => pm_look l 26) cq_227).trans rfl⟩
theorem lk_227_27 : Lk 227 27 (.lstore 9) 0 0 (0) := ⟨2, 0, (congrArg (fun l => pm_look l 27) cq_227).trans rfl⟩
theorem lk_227_29 : Lk 227 29 (.iconst 0) 0 0 (0) := ⟨1, 0, (congrArg (fun l => pm_look l 29) cq_227).trans rfl⟩
theorem lk_227_30 : Lk 227 30 (.istore 11) 0 0 (0) := ⟨2, 0, (congrArg (fun l => pm_look l 30) cq_227).trans rfl⟩
theorem lk_227_32 : Lk 227 32 (.iload 11) 0 0 (0) := ⟨2, 0, (congrArg (fun l => pm_look l 32) cq_227).trans rfl⟩
theorem lk_227_34 : Lk 227 34 (.aload_n 0) 0 0 (0) := ⟨1, 0, (congrArg (fun l => pm_look l 34) cq_227).trans rfl⟩
theorem lk_227_35 : Lk 227 35 (.getfield 13) 12 2 (0) := ⟨3, 1259, (congrArg (fun l => pm_look l 35) cq_227).trans rfl⟩
theorem lk_227_38 : Lk 227 38 (.if_icmp .ge 97) 0 0 (0) := ⟨3, 0, (congrArg (fun l => pm_look l 38) cq_227).trans rfl⟩
theorem lk_227_41 : Lk 227 41 (.aload_n 0) 0 0 (0) := ⟨1, 0, (congrArg (fun l => pm_look l 41) cq_227).trans rfl⟩
theorem lk_227_42 : Lk 227 42 (.getfield 89) 12 44 (2) := ⟨3, 1301, (congrArg (fun l => pm_look l 42) cq_227).trans rfl⟩
theorem lk_227_45 : Lk 227 45 (.bipush 6) 0 0 (0) := ⟨2, 0, (congrArg (fun l => pm_look l 45) cq_227).trans rfl⟩
theorem lk_227_47 : Lk 227 47 (.iload_n 1) 0 0 (0) := ⟨1, 0, (congrArg (fun l => pm_look l 47) cq_227).trans rfl⟩
theorem lk_227_48 : Lk 227 48 (.imul) 0 0 (0) := ⟨1, 0, (congrArg (fun l => pm_look l 48) cq_227).trans rfl⟩
theorem lk_227_49 : Lk 227 49 (.iload 11) 0 0 (0) := ⟨2, 0, (congrArg (fun l => pm_look l 49) cq_227).trans rfl⟩
theorem lk_227_51 : Lk 227 51 (.iadd) 0 0 (0) := ⟨1, 0, (congrArg (fun l => pm_look l 51) cq_227).trans rfl⟩
theorem lk_227_52 : Lk 227 52 (.laload) 0 0 (0) := ⟨1, 0, (congrArg (fun l => pm_look l 52) cq_227).trans rfl⟩
theorem lk_227_53 : Lk 227 53 (.lload 7) 0 0 (0) := ⟨2, 0, (congrArg (fun l => pm_look l 53) cq_227).trans rfl⟩
theorem lk_227_55 : Lk 227 55 (.lmul) 0 0 (0) := ⟨1, 0, (congrArg (fun l => pm_look l 55) cq_227).trans rfl⟩
theorem lk_227_56 : Lk 227 56 (.aload_n 0) 0 0 (0) := ⟨1, 0, (congrArg (fun l => pm_look l 56) cq_227).trans rfl⟩
theorem lk_227_57 : Lk 227 57 (.getfield 89) 12 44 (2) := ⟨3, 1301, (congrArg (fun l => pm_look l 57) cq_227).trans rfl⟩
theorem lk_227_60 : Lk 227 60 (.bipush 6) 0 0 (0) := ⟨2, 0, (congrArg (fun l => pm_look l 60) cq_227).trans rfl⟩
theorem lk_227_62 : Lk 227 62 (.iload_n 2) 0 0 (0) := ⟨1, 0, (congrArg (fun l => pm_look l 62) cq_227).trans rfl⟩
theorem lk_227_63 : Lk 227 63 (.imul) 0 0 (0) := ⟨1, 0, (congrArg (fun l => pm_look l 63) cq_227).trans rfl⟩
theorem lk_227_64 : Lk 227 64 (.iload 11) 0 0 (0) := ⟨2, 0, (congrArg (fun l => pm_look l 64) cq_227).trans rfl⟩
theorem lk_227_66 : Lk 227 66 (.iadd) 0 0 (0) := ⟨1, 0, (congrArg (fun l => pm_look l 66) cq_227).trans rfl⟩
theorem lk_227_67 : Lk 227 67 (.laload) 0 0 (0) := ⟨1, 0, (congrArg (fun l => pm_look l 67) cq_227).trans rfl⟩
theorem lk_227_68 : Lk 227 68 (.lload 5) 0 0 (0) := ⟨2, 0, (congrArg (fun l => pm_look l 68) cq_227).trans rfl⟩
theorem lk_227_70 : Lk 227 70 (.lmul) 0 0 (0) := ⟨1, 0, (congrArg (fun l => pm_look l 70) cq_227).trans rfl⟩
theorem lk_227_71 : Lk 227 71 (.lsub) 0 0 (0) := ⟨1, 0, (congrArg (fun l => pm_look l 71) cq_227).trans rfl⟩
theorem lk_227_72 : Lk 227 72 (.lstore 12) 0 0 (0) := ⟨2, 0, (congrArg (fun l => pm_look l 72) cq_227).trans rfl⟩
theorem lk_227_74 : Lk 227 74 (.aload_n 0) 0 0 (0) := ⟨1, 0, (congrArg (fun l => pm_look l 74) cq_227).trans rfl⟩
theorem lk_227_75 : Lk 227 75 (.getfield 89) 12 44 (2) := ⟨3, 1301, (congrArg (fun l => pm_look l 75) cq_227).trans rfl⟩
theorem lk_227_78 : Lk 227 78 (.bipush 6) 0 0 (0) := ⟨2, 0, (congrArg (fun l => pm_look l 78) cq_227).trans rfl⟩
theorem lk_227_80 : Lk 227 80 (.iload_n 1) 0 0 (0) := ⟨1, 0, (congrArg (fun l => pm_look l 80) cq_227).trans rfl⟩
theorem lk_227_81 : Lk 227 81 (.imul) 0 0 (0) := ⟨1, 0, (congrArg (fun l => pm_look l 81) cq_227).trans rfl⟩
theorem lk_227_82 : Lk 227 82 (.iload 11) 0 0 (0) := ⟨2, 0, (congrArg (fun l => pm_look l 82) cq_227).trans rfl⟩
theorem lk_227_84 : Lk 227 84 (.iadd) 0 0 (0) := ⟨1, 0, (congrArg (fun l => pm_look l 84) cq_227).trans rfl⟩
theorem lk_227_85 : Lk 227 85 (.iload 4) 0 0 (0) := ⟨2, 0, (congrArg (fun l => pm_look l 85) cq_227).trans rfl⟩
theorem lk_227_87 : Lk 227 87 (.ifCond .ne 8) 0 0 (0) := ⟨3, 0, (congrArg (fun l => pm_look l 87) cq_227).trans rfl⟩
theorem lk_227_90 : Lk 227 90 (.lload 12) 0 0 (0) := ⟨2, 0, (congrArg (fun l => pm_look l 90) cq_227).trans rfl⟩
theorem lk_227_92 : Lk 227 92 (.goto 17) 0 0 (0) := ⟨3, 0, (congrArg (fun l => pm_look l 92) cq_227).trans rfl⟩
theorem lk_227_95 : Lk 227 95 (.lload 12) 0 0 (0) := ⟨2, 0, (congrArg (fun l => pm_look l 95) cq_227).trans rfl⟩
theorem lk_227_97 : Lk 227 97 (.iload 4) 0 0 (0) := ⟨2, 0, (congrArg (fun l => pm_look l 97) cq_227).trans rfl⟩
theorem lk_227_99 : Lk 227 99 (.i2l) 0 0 (0) := ⟨1, 0, (congrArg (fun l => pm_look l 99) cq_227).trans rfl⟩
theorem lk_227_100 : Lk 227 100 (.lrem) 0 0 (0) := ⟨1, 0, (congrArg (fun l => pm_look l 100) cq_227).trans rfl⟩
theorem lk_227_101 : Lk 227 101 (.iload 4) 0 0 (0) := ⟨2, 0, (congrArg (fun l => pm_look l 101) cq_227).trans rfl⟩
theorem lk_227_103 : Lk 227 103 (.i2l) 0 0 (0) := ⟨1, 0, (congrArg (fun l => pm_look l 103) cq_227).trans rfl⟩
theorem lk_227_104 : Lk 227 104 (.ladd) 0 0 (0) := ⟨1, 0, (congrArg (fun l => pm_look l 104) cq_227).trans rfl⟩
theorem lk_227_105 : Lk 227 105 (.iload 4) 0 0 (0) := ⟨2, 0, (congrArg (fun l => pm_look l 105) cq_227).trans rfl⟩
theorem lk_227_107 : Lk 227 107 (.i2l) 0 0 (0) := ⟨1, 0, (congrArg (fun l => pm_look l 107) cq_227).trans rfl⟩
theorem lk_227_108 : Lk 227 108 (.lrem) 0 0 (0) := ⟨1, 0, (congrArg (fun l => pm_look l 108) cq_227).trans rfl⟩
theorem lk_227_109 : Lk 227 109 (.lastore) 0 0 (0) := ⟨1, 0, (congrArg (fun l => pm_look l 109) cq_227).trans rfl⟩
theorem lk_227_110 : Lk 227 110 (.lload 9) 0 0 (0) := ⟨2, 0, (congrArg (fun l => pm_look l 110) cq_227).trans rfl⟩
theorem lk_227_112 : Lk 227 112 (.aload_n 0) 0 0 (0) := ⟨1, 0, (congrArg (fun l => pm_look l 112) cq_227).trans rfl⟩
theorem lk_227_113 : Lk 227 113 (.getfield 89) 12 44 (2) := ⟨3, 1301, (congrArg (fun l => pm_look l 113) cq_227).trans rfl⟩
theorem lk_227_116 : Lk 227 116 (.bipush 6) 0 0 (0) := ⟨2, 0, (congrArg (fun l => pm_look l 116) cq_227).trans rfl⟩
theorem lk_227_118 : Lk 227 118 (.iload_n 1) 0 0 (0) := ⟨1, 0, (congrArg (fun l => pm_look l 118) cq_227).trans rfl⟩
theorem lk_227_119 : Lk 227 119 (.imul) 0 0 (0) := ⟨1, 0, (congrArg (fun l => pm_look l 119) cq_227).trans rfl⟩
theorem lk_227_120 : Lk 227 120 (.iload 11) 0 0 (0) := ⟨2, 0, (congrArg (fun l => pm_look l 120) cq_227).trans rfl⟩
theorem lk_227_122 : Lk 227 122 (.iadd) 0 0 (0) := ⟨1, 0, (congrArg (fun l => pm_look l 122) cq_227).trans rfl⟩
theorem lk_227_123 : Lk 227 123 (.laload) 0 0 (0) := ⟨1, 0, (congrArg (fun l => pm_look l 123) cq_227).trans rfl⟩
theorem lk_227_124 : Lk 227 124 (.invokestatic 343) 226 0 (0) := ⟨3, 1705, (congrArg (fun l => pm_look l 124) cq_227).trans rfl⟩
theorem lk_227_127 : Lk 227 127 (.lstore 9) 0 0 (0) := ⟨2, 0, (congrArg (fun l => pm_look l 127) cq_227).trans rfl⟩
theorem lk_227_129 : Lk 227 129 (.iinc 11 1) 0 0 (0) := ⟨3, 0, (congrArg (fun l => pm_look l 129) cq_227).trans rfl⟩
theorem lk_227_132 : Lk 227 132 (.goto (-100)) 0 0 (0) := ⟨3, 0, (congrArg (fun l => pm_look l 132) cq_227).trans rfl⟩
theorem lk_227_135 : Lk 227 135 (.iconst 0) 0 0 (0) := ⟨1, 0, (congrArg (fun l => pm_look l 135) cq_227).trans rfl⟩
theorem lk_227_136 : Lk 227 136 (.istore 11) 0 0 (0) := ⟨2, 0, (congrArg (fun l => pm_look l 136) cq_227).trans rfl⟩
theorem lk_227_138 : Lk 227 138 (.iload 11) 0 0 (0) := ⟨2, 0, (congrArg (fun l => pm_look l 138) cq_227).trans rfl⟩
theorem lk_227_140 : Lk 227 140 (.aload_n 0) 0 0 (0) := ⟨1, 0, (congrArg (fun l => pm_look l 140) cq_227).trans rfl⟩
theorem lk_227_141 : Lk 227 141 (.getfield 13) 12 2 (0) := ⟨3, 1259, (congrArg (fun l => pm_look l 141) cq_227).trans rfl⟩
theorem lk_227_144 : Lk 227 144 (.if_icmp .ge 38) 0 0 (0) := ⟨3, 0, (congrArg (fun l => pm_look l 144) cq_227).trans rfl⟩
theorem lk_227_147 : Lk 227 147 (.lload 9) 0 0 (0) := ⟨2, 0, (congrArg (fun l => pm_look l 147) cq_227).trans rfl⟩
theorem lk_227_149 : Lk 227 149 (.lconst 1) 0 0 (0) := ⟨1, 0, (congrArg (fun l => pm_look l 149) cq_227).trans rfl⟩
theorem lk_227_150 : Lk 227 150 (.lcmp) 0 0 (0) := ⟨1, 0, (congrArg (fun l => pm_look l 150) cq_227).trans rfl⟩
theorem lk_227_151 : Lk 227 151 (.ifCond .le 31) 0 0 (0) := ⟨3, 0, (congrArg (fun l => pm_look l 151) cq_227).trans rfl⟩
theorem lk_227_154 : Lk 227 154 (.iload 4) 0 0 (0) := ⟨2, 0, (congrArg (fun l => pm_look l 154) cq_227).trans rfl⟩
theorem lk_227_156 : Lk 227 156 (.ifCond .ne 26) 0 0 (0) := ⟨3, 0, (congrArg (fun l => pm_look l 156) cq_227).trans rfl⟩
theorem lk_227_159 : Lk 227 159 (.aload_n 0) 0 0 (0) := ⟨1, 0, (congrArg (fun l => pm_look l 159) cq_227).trans rfl⟩
theorem lk_227_160 : Lk 227 160 (.getfield 89) 12 44 (2) := ⟨3, 1301, (congrArg (fun l => pm_look l 160) cq_227).trans rfl⟩
theorem lk_227_163 : Lk 227 163 (.bipush 6) 0 0 (0) := ⟨2, 0, (congrArg (fun l => pm_look l 163) cq_227).trans rfl⟩
theorem lk_227_165 : Lk 227 165 (.iload_n 1) 0 0 (0) := ⟨1, 0, (congrArg (fun l => pm_look l 165) cq_227).trans rfl⟩
theorem lk_227_166 : Lk 227 166 (.imul) 0 0 (0) := ⟨1, 0, (congrArg (fun l => pm_look l 166) cq_227).trans rfl⟩
theorem lk_227_167 : Lk 227 167 (.iload 11) 0 0 (0) := ⟨2, 0, (congrArg (fun l => pm_look l 167) cq_227).trans rfl⟩
theorem lk_227_169 : Lk 227 169 (.iadd) 0 0 (0) := ⟨1, 0, (congrArg (fun l => pm_look l 169) cq_227).trans rfl⟩
theorem lk_227_170 : Lk 227 170 (.dup2) 0 0 (0) := ⟨1, 0, (congrArg (fun l => pm_look l 170) cq_227).trans rfl⟩
theorem lk_227_171 : Lk 227 171 (.laload) 0 0 (0) := ⟨1, 0, (congrArg (fun l => pm_look l 171) cq_227).trans rfl⟩
theorem lk_227_172 : Lk 227 172 (.lload 9) 0 0 (0) := ⟨2, 0, (congrArg (fun l => pm_look l 172) cq_227).trans rfl⟩
theorem lk_227_174 : Lk 227 174 (.ldiv) 0 0 (0) := ⟨1, 0, (congrArg (fun l => pm_look l 174) cq_227).trans rfl⟩
theorem lk_227_175 : Lk 227 175 (.lastore) 0 0 (0) := ⟨1, 0, (congrArg (fun l => pm_look l 175) cq_227).trans rfl⟩
theorem lk_227_176 : Lk 227 176 (.iinc 11 1) 0 0 (0) := ⟨3, 0, (congrArg (fun l => pm_look l 176) cq_227).trans rfl⟩
theorem lk_227_179 : Lk 227 179 (.goto (-41)) 0 0 (0) := ⟨3, 0, (congrArg (fun l => pm_look l 179) cq_227).trans rfl⟩
theorem lk_227_182 : Lk 227 182 (.return_) 0 0 (0) := ⟨1, 0, (congrArg (fun l => pm_look l 182) cq_227).trans rfl⟩
theorem cq_228 : pm_code 228 = cd_228 := rfl
theorem lk_228_0 : Lk 228 0 (.iconst 0) 0 0 (0) := ⟨1, 0, (congrArg (fun l => pm_look l 0) cq_228).trans rfl⟩
theorem lk_228_1 : Lk 228 1 (.istore_n 2) 0 0 (0) := ⟨1, 0, (congrArg (fun l => pm_look l 1) cq_228).trans rfl⟩
theorem lk_228_2 : Lk 228 2 (.iload_n 2) 0 0 (0) := ⟨1, 0, (congrArg (fun l => pm_look l 2) cq_228).trans rfl⟩
theorem lk_228_3 : Lk 228 3 (.bipush 36) 0 0 (0) := ⟨2, 0, (congrArg (fun l => pm_look l 3) cq_228).trans rfl⟩
theorem lk_228_5 : Lk 228 5 (.if_icmp .ge 53) 0 0 (0) := ⟨3, 0, (congrArg (fun l => pm_look l 5) cq_228).trans rfl⟩
theorem lk_228_8 : Lk 228 8 (.aload_n 0) 0 0 (0) := ⟨1, 0, (congrArg (fun l => pm_look l 8) cq_228).trans rfl⟩
theorem lk_228_9 : Lk 228 9 (.getfield 89) 12 44 (2) := ⟨3, 1301, (congrArg (fun l => pm_look l 9) cq_228).trans rfl⟩
theorem lk_228_12 : Lk 228 12 (.iload_n 2) 0 0 (0) := ⟨1, 0, (congrArg (fun l => pm_look l 12) cq_228).trans rfl⟩
theorem lk_228_13 : Lk 228 13 (.aload_n 0) 0 0 (0) := ⟨1, 0, (congrArg (fun l => pm_look l 13) cq_228).trans rfl⟩
theorem lk_228_14 : Lk 228 14 (.getfield 16) 12 7 (2) := ⟨3, 1264, (congrArg (fun l => pm_look l 14) cq_228).trans rfl⟩
theorem lk_228_17 : Lk 228 17 (.iload_n 2) 0 0 (0) := ⟨1, 0, (congrArg (fun l => pm_look l 17) cq_228).trans rfl⟩
theorem lk_228_18 : Lk 228 18 (.iaload) 0 0 (0) := ⟨1, 0, (congrArg (fun l => pm_look l 18) cq_228).trans rfl⟩
theorem lk_228_19 : Lk 228 19 (.bipush 10) 0 0 (0) := ⟨2, 0, (congrArg (fun l => pm_look l 19) cq_228).trans rfl⟩
theorem lk_228_21 : Lk 228 21 (.if_icmp .ne 7) 0 0 (0) := ⟨3, 0, (congrArg (fun l => pm_look l 21) cq_228).trans rfl⟩
theorem lk_228_24 : Lk 228 24 (.lconst 0) 0 0 (0) := ⟨1, 0, (congrArg (fun l => pm_look l 24) cq_228).trans rfl⟩
theorem lk_228_25 : Lk 228 25 (.goto 26) 0 0 (0) := ⟨3, 0, (congrArg (fun l => pm_look l 25) cq_228).trans rfl⟩
theorem lk_228_28 : Lk 228 28 (.iload_n 1) 0 0 (0) := ⟨1, 0, (congrArg (fun l => pm_look l 28) cq_228).trans rfl⟩
theorem lk_228_29 : Lk 228 29 (.ifCond .ne 13) 0 0 (0) := ⟨3, 0, (congrArg (fun l => pm_look l 29) cq_228).trans rfl⟩
theorem lk_228_32 : Lk 228 32 (.aload_n 0) 0 0 (0) := ⟨1, 0, (congrArg (fun l => pm_look l 32) cq_228).trans rfl⟩
theorem lk_228_33 : Lk 228 33 (.getfield 16) 12 7 (2) := ⟨3, 1264, (congrArg (fun l => pm_look l 33) cq_228).trans rfl⟩
theorem lk_228_36 : Lk 228 36 (.iload_n 2) 0 0 (0) := ⟨1, 0, (congrArg (fun l => pm_look l 36) cq_228).trans rfl⟩
theorem lk_228_37 : Lk 228 37 (.iaload) 0 0 (0) := ⟨1, 0, (congrArg (fun l => pm_look l 37) cq_228).trans rfl⟩
theorem lk_228_38 : Lk 228 38 (.i2l) 0 0 (0) := ⟨1, 0, (congrArg (fun l => pm_look l 38) cq_228).trans rfl⟩
theorem lk_228_39 : Lk 228 39 (.goto 12) 0 0 (0) := ⟨3, 0, (congrArg (fun l => pm_look l 39) cq_228).trans rfl⟩
theorem lk_228_42 : Lk 228 42 (.aload_n 0) 0 0 (0) := ⟨1, 0, (congrArg (fun l => pm_look l 42) cq_228).trans rfl⟩
theorem lk_228_43 : Lk 228 43 (.getfield 16) 12 7 (2) := ⟨3, 1264, (congrArg (fun l => pm_look l 43) cq_228).trans rfl⟩
theorem lk_228_46 : Lk 228 46 (.iload_n 2) 0 0 (0) := ⟨1, 0, (congrArg (fun l => pm_look l 46) cq_228).trans rfl⟩
theorem lk_228_47 : Lk 228 47 (.iaload) 0 0 (0) := ⟨1, 0, (congrArg (fun l => pm_look l 47) cq_228).trans rfl⟩
theorem lk_228_48 : Lk 228 48 (.iload_n 1) 0 0 (0) := ⟨1, 0, (congrArg (fun l => pm_look l 48) cq_228).trans rfl⟩
theorem lk_228_49 : Lk 228 49 (.irem) 0 0 (0) := ⟨1, 0, (congrArg (fun l => pm_look l 49) cq_228).trans rfl⟩
theorem lk_228_50 : Lk 228 50 (.i2l) 0 0 (0) := ⟨1, 0, (congrArg (fun l => pm_look l 50) cq_228).trans rfl⟩
theorem lk_228_51 : Lk 228 51 (.lastore) 0 0 (0) := ⟨1, 0, (congrArg (fun l => pm_look l 51) cq_228).trans rfl⟩
theorem lk_228_52 : Lk 228 52 (.iinc 2 1) 0 0 (0) := ⟨3, 0, (congrArg (fun l => pm_look l 52) cq_228).trans rfl⟩
theorem lk_228_55 : Lk 228 55 (.goto (-53)) 0 0 (0) := ⟨3, 0, (congrArg (fun l => pm_look l 55) cq_228).trans rfl⟩
theorem lk_228_58 : Lk 228 58 (.iconst 0) 0 0 (0) := ⟨1, 0, (congrArg (fun l => pm_look l 58) cq_228).trans rfl⟩
theorem lk_228_59 : Lk 228 59 (.istore_n 2) 0 0 (0) := ⟨1, 0, (congrArg (fun l => pm_look l 59) cq_228).trans rfl⟩
theorem lk_228_60 : Lk 228 60 (.iconst 0) 0 0 (0) := ⟨1, 0, (congrArg (fun l => pm_look l 60) cq_228).trans rfl⟩
theorem lk_228_61 : Lk 228 61 (.istore_n 3) 0 0 (0) := ⟨1, 0, (congrArg (fun l => pm_look l 61) cq_228).trans rfl⟩
theorem lk_228_62 : Lk 228 62 (.iload_n 3) 0 0 (0) := ⟨1, 0, (congrArg (fun l => pm_look l 62) cq_228).trans rfl⟩
theorem lk_228_63 : Lk 228 63 (.aload_n 0) 0 0 (0) := ⟨1, 0, (congrArg (fun l => pm_look l 63) cq_228).trans rfl⟩
theorem lk_228_64 : Lk 228 64 (.getfield 13) 12 2 (0) := ⟨3, 1259, (congrArg (fun l => pm_look l 64) cq_228).trans rfl⟩
theorem lk_228_67 : Lk 228 67 (.if_icmp .ge 168) 0 0 (0) := ⟨3, 0, (congrArg (fun l => pm_look l 67) cq_228).trans rfl⟩
theorem lk_228_70 : Lk 228 70 (.iload_n 2) 0 0 (0) := ⟨1, 0, (congrArg (fun l => pm_look l 70) cq_228).trans rfl⟩
theorem lk_228_71 : Lk 228 71 (.aload_n 0) 0 0 (0) := ⟨1, 0, (congrArg (fun l => pm_look l 71) cq_228).trans rfl⟩
theorem lk_228_72 : Lk 228 72 (.getfield 7) 12 1 (0) := ⟨3, 1258, (congrArg (fun l => pm_look l 72) cq_228).trans rfl⟩
theorem lk_228_75 : Lk 228 75 (.if_icmp .ge 160) 0 0 (0) := ⟨3, 0, (congrArg (fun l => pm_look l 75) cq_228).trans rfl⟩
theorem lk_228_78 : Lk 228 78 (.iload_n 2) 0 0 (0) := ⟨1, 0, (congrArg (fun l => pm_look l 78) cq_228).trans rfl⟩
theorem lk_228_79 : Lk 228 79 (.istore 4) 0 0 (0) := ⟨2, 0, (congrArg (fun l => pm_look l 79) cq_228).trans rfl⟩
theorem lk_228_81 : Lk 228 81 (.iload 4) 0 0 (0) := ⟨2, 0, (congrArg (fun l => pm_look l 81) cq_228).trans rfl⟩
theorem lk_228_83 : Lk 228 83 (.aload_n 0) 0 0 (0) := ⟨1, 0, (congrArg (fun l => pm_look l 83) cq_228).trans rfl⟩
theorem lk_228_84 : Lk 228 84 (.getfield 7) 12 1 (0) := ⟨3, 1258, (congrArg (fun l => pm_look l 84) cq_228).trans rfl⟩
theorem lk_228_87 : Lk 228 87 (.if_icmp .ge 26) 0 0 (0) := ⟨3, 0, (congrArg (fun l => pm_look l 87) cq_228).trans rfl⟩
theorem lk_228_90 : Lk 228 90 (.aload_n 0) 0 0 (0) := ⟨1, 0, (congrArg (fun l => pm_look l 90) cq_228).trans rfl⟩
theorem lk_228_91 : Lk 228 91 (.getfield 89) 12 44 (2) := ⟨3, 1301, (congrArg (fun l => pm_look l 91) cq_228).trans rfl⟩
theorem lk_228_94 : Lk 228 94 (.bipush 6) 0 0 (0) := ⟨2, 0, (congrArg (fun l => pm_look l 94) cq_228).trans rfl⟩
theorem lk_228_96 : Lk 228 96 (.iload 4) 0 0 (0) := ⟨2, 0, (congrArg (fun l => pm_look l 96) cq_228).trans rfl⟩
theorem lk_228_98 : Lk 228 98 (.imul) 0 0 (0) := ⟨1, 0, (congrArg (fun l => pm_look l 98) cq_228).trans rfl⟩
theorem lk_228_99 : Lk 228 99 (.iload_n 3) 0 0 (0) := ⟨1, 0, (congrArg (fun l => pm_look l 99) cq_228).trans rfl⟩
theorem lk_228_100 : Lk 228 100 (.iadd) 0 0 (0) := ⟨1, 0, (congrArg (fun l => pm_look l 100) cq_228).trans rfl⟩
theorem lk_228_101 : Lk 228 101 (.laload) 0 0 (0) := ⟨1, 0, (congrArg (fun l => pm_look l 101) cq_228).trans rfl⟩
theorem lk_228_102 : Lk 228 102 (.lconst 0) 0 0 (0) := ⟨1, 0, (congrArg (fun l => pm_look l 102) cq_228).trans rfl⟩
theorem lk_228_103 : Lk 228 103 (.lcmp) 0 0 (0) := ⟨1, 0, (congrArg (fun l => pm_look l 103) cq_228).trans rfl⟩
theorem lk_228_104 : Lk 228 104 (.ifCond .ne 9) 0 0 (0) := ⟨3, 0, (congrArg (fun l => pm_look l 104) cq_228).trans rfl⟩
theorem lk_228_107 : Lk 228 107 (.iinc 4 1) 0 0 (0) := ⟨3, 0, (congrArg (fun l => pm_look l 107) cq_228).trans rfl⟩
theorem lk_228_110 : Lk 228 110 (.goto (-29)) 0 0 (0) := ⟨3, 0, (congrArg (fun l => pm_look l 110) cq_228).trans rfl⟩
theorem lk_228_113 : Lk 228 113 (.iload 4) 0 0 (0) := ⟨2, 0, (congrArg (fun l => pm_look l 113) cq_228).trans rfl⟩
theorem lk_228_115 : Lk 228 115 (.aload_n 0) 0 0 (0) := ⟨1, 0, (congrArg (fun l => pm_look l 115) cq_228).trans rfl⟩
theorem lk_228_116 : Lk 228 116 (.getfield 7) 12 1 (0) := ⟨3, 1258, (congrArg (fun l => pm_look l 116) cq_228).trans rfl⟩
theorem lk_228_119 : Lk 228 119 (.if_icmp .ne 6) 0 0 (0) := ⟨3, 0, (congrArg (fun l => pm_look l 119) cq_228).trans rfl⟩
theorem lk_228_122 : Lk 228 122 (.goto 107) 0 0 (0) := ⟨3, 0, (congrArg (fun l => pm_look l 122) cq_228).trans rfl⟩
theorem lk_228_125 : Lk 228 125 (.iconst 0) 0 0 (0) := ⟨1, 0, (congrArg (fun l => pm_look l 125) cq_228).trans rfl⟩
theorem lk_228_126 : Lk 228 126 (.istore 5) 0 0 (0) := ⟨2, 0, (congrArg (fun l => pm_look l 126) cq_228).trans rfl⟩
theorem lk_228_128 : Lk 228 128 (.iload 5) 0 0 (0) := ⟨2, 0, (congrArg (fun l => pm_look l 128) cq_228).trans rfl⟩
theorem lk_228_130 : Lk 228 130 (.aload_n 0) 0 0 (0) := ⟨1, 0, (congrArg (fun l => pm_look l 130) cq_228).trans rfl⟩
theorem lk_228_131 : Lk 228 131 (.getfield 13) 12 2 (0) := ⟨3, 1259, (congrArg (fun l => pm_look l 131) cq_228).trans rfl⟩
theorem lk_228_134 : Lk 228 134 (.if_icmp .ge 63) 0 0 (0) := ⟨3, 0, (congrArg (fun l => pm_look l 134) cq_228).trans rfl⟩
theorem lk_228_137 : Lk 228 137 (.aload_n 0) 0 0 (0) := ⟨1, 0, (congrArg (fun l => pm_look l 137) cq_228).trans rfl⟩
theorem lk_228_138 : Lk 228 138 (.getfield 89) 12 44 (2) := ⟨3, 1301, (congrArg (fun l => pm_look l 138) cq_228).trans rfl⟩
theorem lk_228_141 : Lk 228 141 (.bipush 6) 0 0 (0) := ⟨2, 0, (congrArg (fun l => pm_look l 141) cq_228).trans rfl⟩
theorem lk_228_143 : Lk 228 143 (.iload 4) 0 0 (0) := ⟨2, 0, (congrArg (fun l => pm_look l 143) cq_228).trans rfl⟩
theorem lk_228_145 : Lk 228 145 (.imul) 0 0 (0) := ⟨1, 0, (congrArg (fun l => pm_look l 145) cq_228).trans rfl⟩
theorem lk_228_146 : Lk 228 146 (.iload 5) 0 0 (0) := ⟨2, 0, (congrArg (fun l => pm_look l 146) cq_228).trans rfl⟩
theorem lk_228_148 : Lk 228 148 (.iadd) 0 0 (0) := ⟨1, 0, (congrArg (fun l => pm_look l 148) cq_228).trans rfl⟩
theorem lk_228_149 : Lk 228 149 (.laload) 0 0 (0) := ⟨1, 0, (congrArg (fun l => pm_look l 149) cq_228).trans rfl⟩
theorem lk_228_150 : Lk 228 150 (.lstore 6) 0 0 (0) := ⟨2, 0, (congrArg (fun l => pm_look l 150) cq_228).trans rfl⟩
theorem lk_228_152 : Lk 228 152 (.aload_n 0) 0 0 (0) := ⟨1, 0, (congrArg (fun l => pm_look l 152) cq_228).trans rfl⟩
theorem lk_228_153 : Lk 228 153 (.getfield 89) 12 44 (2) := ⟨3, 1301, (congrArg (fun l => pm_look l 153) cq_228).trans rfl⟩
theorem lk_228_156 : Lk 228 156 (.bipush 6) 0 0 (0) := ⟨2, 0, (congrArg (fun l => pm_look l 156) cq_228).trans rfl⟩
theorem lk_228_158 : Lk 228 158 (.iload 4) 0 0 (0) := ⟨2, 0, (congrArg (fun l => pm_look l 158) cq_228).trans rfl⟩
theorem lk_228_160 : Lk 228 160 (.imul) 0 0 (0) := ⟨1, 0, (congrArg (fun l => pm_look l 160) cq_228).trans rfl⟩
theorem lk_228_161 : Lk 228 161 (.iload 5) 0 0 (0) := ⟨2, 0, (congrArg (fun l => pm_look l 161) cq_228).trans rfl⟩
theorem lk_228_163 : Lk 228 163 (.iadd) 0 0 (0) := ⟨1, 0, (congrArg (fun l => pm_look l 163) cq_228).trans rfl⟩
theorem lk_228_164 : Lk 228 164 (.aload_n 0) 0 0 (0) := ⟨1, 0, (congrArg (fun l => pm_look l 164) cq_228).trans rfl⟩
theorem lk_228_165 : Lk 228 165 (.getfield 89) 12 44 (2) := ⟨3, 1301, (congrArg (fun l => pm_look l 165) cq_228).trans rfl⟩
theorem lk_228_168 : Lk 228 168 (.bipush 6) 0 0 (0) := ⟨2, 0, (congrArg (fun l => pm_look l 168) cq_228).trans rfl⟩
theorem lk_228_170 : Lk 228 170 (.iload_n 2) 0 0 (0) := ⟨1, 0, (congrArg (fun l => pm_look l 170) cq_228).trans rfl⟩
theorem lk_228_171 : Lk 228 171 (.imul) 0 0 (0) := ⟨1, 0, (congrArg (fun l => pm_look l 171) cq_228).trans rfl⟩
theorem lk_228_172 : Lk 228 172 (.iload 5) 0 0 (0) := ⟨2, 0, (congrArg (fun l => pm_look l 172) cq_228).trans rfl⟩
theorem lk_228_174 : Lk 228 174 (.iadd) 0 0 (0) := ⟨1, 0, (congrArg (fun l => pm_look l 174) cq_228).trans rfl⟩
theorem lk_228_175 : Lk 228 175 (.laload) 0 0 (0) := ⟨1, 0, (congrArg (fun l => pm_look l 175) cq_228).trans rfl⟩
theorem lk_228_176 : Lk 228 176 (.lastore) 0 0 (0) := ⟨1, 0, (congrArg (fun l => pm_look l 176) cq_228).trans rfl⟩
theorem lk_228_177 : Lk 228 177 (.aload_n 0) 0 0 (0) := ⟨1, 0, (congrArg (fun l => pm_look l 177) cq_228).trans rfl⟩
theorem lk_228_178 : Lk 228 178 (.getfield 89) 12 44 (2) := ⟨3, 1301, (congrArg (fun l => pm_look l 178) cq_228).trans rfl⟩
theorem lk_228_181 : Lk 228 181 (.bipush 6) 0 0 (0) := ⟨2, 0, (congrArg (fun l => pm_look l 181) cq_228).trans rfl⟩
theorem lk_228_183 : Lk 228 183 (.iload_n 2) 0 0 (0) := ⟨1, 0, (congrArg (fun l => pm_look l 183) cq_228).trans rfl⟩
theorem lk_228_184 : Lk 228 184 (.imul) 0 0 (0) := ⟨1, 0, (congrArg (fun l => pm_look l 184) cq_228).trans rfl⟩
theorem lk_228_185 : Lk 228 185 (.iload 5) 0 0 (0) := ⟨2, 0, (congrArg (fun l => pm_look l 185) cq_228).trans rfl⟩
theorem lk_228_187 : Lk 228 187 (.iadd) 0 0 (0) := ⟨1, 0, (congrArg (fun l => pm_look l 187) cq_228).trans rfl⟩
theorem lk_228_188 : Lk 228 188 (.lload 6) 0 0 (0) := ⟨2, 0, (congrArg (fun l => pm_look l 188) cq_228).trans rfl⟩
theorem lk_228_190 : Lk 228 190 (.lastore) 0 0 (0) := ⟨1, 0, (congrArg (fun l => pm_look l 190) cq_228).trans rfl⟩
theorem lk_228_191 : Lk 228 191 (.iinc 5 1) 0 0 (0) := ⟨3, 0, (congrArg (fun l => pm_look l 191) cq_228).trans rfl⟩
theorem lk_228_194 : Lk 228 194 (.goto (-66)) 0 0 (0) := ⟨3, 0, (congrArg (fun l => pm_look l 194) cq_228).trans rfl⟩
theorem lk_228_197 : Lk 228 197 (.iload_n 2) 0 0 (0) := ⟨1, 0, (congrArg (fun l => pm_look l 197) cq_228).trans rfl⟩
theorem lk_228_198 : Lk 228 198 (.iconst 1) 0 0 (0) := ⟨1, 0, (congrArg (fun l => pm_look l 198) cq_228).trans rfl⟩
theorem lk_228_199 : Lk 228 199 (.iadd) 0 0 (0) := ⟨1, 0, (congrArg (fun l => pm_look l 199) cq_228).trans rfl⟩
theorem lk_228_200 : Lk 228 200 (.istore 5) 0 0 (0) := ⟨2, 0, (congrArg (fun l => pm_look l 200) cq_228).trans rfl⟩
theorem lk_228_202 : Lk 228 202 (.iload 5) 0 0 (0) := ⟨2, 0, (congrArg (fun l => pm_look l 202) cq_228).trans rfl⟩
theorem lk_228_204 : Lk 228 204 (.aload_n 0) 0 0 (0) := ⟨1, 0, (congrArg (fun l => pm_look l 204) cq_228).trans rfl⟩
theorem lk_228_205 : Lk 228 205 (.getfield 7) 12 1 (0) := ⟨3, 1258, (congrArg (fun l => pm_look l 205) cq_228).trans rfl⟩
theorem lk_228_208 : Lk 228 208 (.if_icmp .ge 18) 0 0 (0) := ⟨3, 0, (congrArg (fun l => pm_look l 208) cq_228).trans rfl⟩
theorem lk_228_211 : Lk 228 211 (.aload_n 0) 0 0 (0) := ⟨1, 0, (congrArg (fun l => pm_look l 211) cq_228).trans rfl⟩
set_option maxRecDepth 100000 in
theorem lk_228_212 : Lk 228 212 (.iload 5) 0 0 (0) := ⟨2, 0, (congrArg (fun l => pm_look l 212) cq_228).trans rfl⟩
set_option maxRecDepth 100000 in
theorem lk_228_214 : Lk 228 214 (.iload_n 2) 0 0 (0) := ⟨1, 0, (congrArg (fun l => pm_look l 214) cq_228).trans rfl⟩
set_option maxRecDepth 100000 in
theorem lk_228_215 : Lk 228 215 (.iload_n 3) 0 0 (0) := ⟨1, 0, (congrArg (fun l => pm_look l 215) cq_228).trans rfl⟩
set_option maxRecDepth 100000 in
theorem lk_228_216 : Lk 228 216 (.iload_n 1) 0 0 (0) := ⟨1, 0, (congrArg (fun l => pm_look l 216) cq_228).trans rfl⟩
set_option maxRecDepth 100000 in
theorem lk_228_217 : Lk 228 217 (.invokevirtual 347) 227 0 (0) := ⟨3, 1701, (congrArg (fun l => pm_look l 217) cq_228).trans rfl⟩
set_option maxRecDepth 100000 in
theorem lk_228_220 : Lk 228 220 (.iinc 5 1) 0 0 (0) := ⟨3, 0, (congrArg (fun l => pm_look l 220) cq_228).trans rfl⟩
set_option maxRecDepth 100000 in
theorem lk_228_223 : Lk 228 223 (.goto (-21)) 0 0 (0) := ⟨3, 0, (congrArg (fun l => pm_look l 223) cq_228).trans rfl⟩
set_option maxRecDepth 100000 in
theorem lk_228_226 : Lk 228 226 (.iinc 2 1) 0 0 (0) := ⟨3, 0, (congrArg (fun l => pm_look l 226) cq_228).trans rfl⟩
set_option maxRecDepth 100000 in
theorem lk_228_229 : Lk 228 229 (.iinc 3 1) 0 0 (0) := ⟨3, 0, (congrArg (fun l => pm_look l 229) cq_228).trans rfl⟩
set_option maxRecDepth 100000 in
theorem lk_228_232 : Lk 228 232 (.goto (-170)) 0 0 (0) := ⟨3, 0, (congrArg (fun l => pm_look l 232) cq_228).trans rfl⟩
set_option maxRecDepth 100000 in
theorem lk_228_235 : Lk 228 235 (.iload_n 2) 0 0 (0) := ⟨1, 0, (congrArg (fun l => pm_look l 235) cq_228).trans rfl⟩
set_option maxRecDepth 100000 in
theorem lk_228_236 : Lk 228 236 (.ireturn) 0 0 (0) := ⟨1, 0, (congrArg (fun l => pm_look l 236) cq_228).trans rfl⟩
theorem cq_229 : pm_code 229 = cd_229 := rfl
theorem lk_229_0 : Lk 229 0 (.aload_n 0) 0 0 (0) := ⟨1, 0, (congrArg (fun l => pm_look l 0) cq_229).trans rfl⟩
theorem lk_229_1 : Lk 229 1 (.iconst 0) 0 0 (0) := ⟨1, 0, (congrArg (fun l => pm_look l 1) cq_229).trans rfl⟩
theorem lk_229_2 : Lk 229 2 (.putfield 143) 12 0 (0) := ⟨3, 1257, (congrArg (fun l => pm_look l 2) cq_229).trans rfl⟩
theorem lk_229_5 : Lk 229 5 (.iload_n 1) 0 0 (0) := ⟨1, 0, (congrArg (fun l => pm_look l 5) cq_229).trans rfl⟩
theorem lk_229_6 : Lk 229 6 (.ifCond .eq 10) 0 0 (0) := ⟨3, 0, (congrArg (fun l => pm_look l 6) cq_229).trans rfl⟩
theorem lk_229_9 : Lk 229 9 (.iload_n 1) 0 0 (0) := ⟨1, 0, (congrArg (fun l => pm_look l 9) cq_229).trans rfl⟩
theorem lk_229_10 : Lk 229 10 (.invokestatic 351) 225 0 (0) := ⟨3, 1694, (congrArg (fun l => pm_look l 10) cq_229).trans rfl⟩
theorem lk_229_13 : Lk 229 13 (.ifCond .eq 11) 0 0 (0) := ⟨3, 0, (congrArg (fun l => pm_look l 13) cq_229).trans rfl⟩
theorem lk_229_16 : Lk 229 16 (.aload_n 0) 0 0 (0) := ⟨1, 0, (congrArg (fun l => pm_look l 16) cq_229).trans rfl⟩
theorem lk_229_17 : Lk 229 17 (.iload_n 1) 0 0 (0) := ⟨1, 0, (congrArg (fun l => pm_look l 17) cq_229).trans rfl⟩
theorem lk_229_18 : Lk 229 18 (.invokevirtual 354) 228 0 (0) := ⟨3, 1697, (congrArg (fun l => pm_look l 18) cq_229).trans rfl⟩
theorem lk_229_21 : Lk 229 21 (.goto 4) 0 0 (0) := ⟨3, 0, (congrArg (fun l => pm_look l 21) cq_229).trans rfl⟩
theorem lk_229_24 : Lk 229 24 (.iconst (-1)) 0 0 (0) := ⟨1, 0, (congrArg (fun l => pm_look l 24) cq_229).trans rfl⟩
theorem lk_229_25 : Lk 229 25 (.ireturn) 0 0 (0) := ⟨1, 0, (congrArg (fun l => pm_look l 25) cq_229).trans rfl⟩
theorem cq_230 : pm_code 230 = cd_230 := rfl
theorem lk_230_0 : Lk 230 0 (.iconst 0) 0 0 (0) := ⟨1, 0, (congrArg (fun l => pm_look l 0) cq_230).trans rfl⟩
theorem lk_230_1 : Lk 230 1 (.istore_n 3) 0 0 (0) := ⟨1, 0, (congrArg (fun l => pm_look l 1) cq_230).trans rfl⟩
theorem lk_230_2 : Lk 230 2 (.iload_n 3) 0 0 (0) := ⟨1, 0, (congrArg (fun l => pm_look l 2) cq_230).trans rfl⟩
theorem lk_230_3 : Lk 230 3 (.iload_n 1) 0 0 (0) := ⟨1, 0, (congrArg (fun l => pm_look l 3) cq_230).trans rfl⟩
theorem lk_230_4 : Lk 230 4 (.ifCond .eq 10) 0 0 (0) := ⟨3, 0, (congrArg (fun l => pm_look l 4) cq_230).trans rfl⟩
theorem lk_230_7 : Lk 230 7 (.aload_n 0) 0 0 (0) := ⟨1, 0, (congrArg (fun l => pm_look l 7) cq_230).trans rfl⟩
theorem lk_230_8 : Lk 230 8 (.getfield 7) 12 1 (0) := ⟨3, 1258, (congrArg (fun l => pm_look l 8) cq_230).trans rfl⟩
theorem lk_230_11 : Lk 230 11 (.goto 7) 0 0 (0) := ⟨3, 0, (congrArg (fun l => pm_look l 11) cq_230).trans rfl⟩
theorem lk_230_14 : Lk 230 14 (.aload_n 0) 0 0 (0) := ⟨1, 0, (congrArg (fun l => pm_look l 14) cq_230).trans rfl⟩
theorem lk_230_15 : Lk 230 15 (.getfield 13) 12 2 (0) := ⟨3, 1259, (congrArg (fun l => pm_look l 15) cq_230).trans rfl⟩
theorem lk_230_18 : Lk 230 18 (.if_icmp .ge 45) 0 0 (0) := ⟨3, 0, (congrArg (fun l => pm_look l 18) cq_230).trans rfl⟩
theorem lk_230_21 : Lk 230 21 (.iload_n 1) 0 0 (0) := ⟨1, 0, (congrArg (fun l => pm_look l 21) cq_230).trans rfl⟩
theorem lk_230_22 : Lk 230 22 (.ifCond .eq 14) 0 0 (0) := ⟨3, 0, (congrArg (fun l => pm_look l 22) cq_230).trans rfl⟩
theorem lk_230_25 : Lk 230 25 (.aload_n 0) 0 0 (0) := ⟨1, 0, (congrArg (fun l => pm_look l 25) cq_230).trans rfl⟩
theorem lk_230_26 : Lk 230 26 (.iconst 1) 0 0 (0) := ⟨1, 0, (congrArg (fun l => pm_look l 26) cq_230).trans rfl⟩
theorem lk_230_27 : Lk 230 27 (.iload_n 3) 0 0 (0) := ⟨1, 0, (congrArg (fun l => pm_look l 27) cq_230).trans rfl⟩
theorem lk_230_28 : Lk 230 28 (.ishl) 0 0 (0) := ⟨1, 0, (congrArg (fun l => pm_look l 28) cq_230).trans rfl⟩
theorem lk_230_29 : Lk 230 29 (.iload_n 2) 0 0 (0) := ⟨1, 0, (congrArg (fun l => pm_look l 29) cq_230).trans rfl⟩
theorem lk_230_30 : Lk 230 30 (.invokevirtual 288) 200 0 (0) := ⟨3, 1579, (congrArg (fun l => pm_look l 30) cq_230).trans rfl⟩
theorem lk_230_33 : Lk 230 33 (.goto 11) 0 0 (0) := ⟨3, 0, (congrArg (fun l => pm_look l 33) cq_230).trans rfl⟩
theorem lk_230_36 : Lk 230 36 (.aload_n 0) 0 0 (0) := ⟨1, 0, (congrArg (fun l => pm_look l 36) cq_230).trans rfl⟩
theorem lk_230_37 : Lk 230 37 (.iload_n 2) 0 0 (0) := ⟨1, 0, (congrArg (fun l => pm_look l 37) cq_230).trans rfl⟩
theorem lk_230_38 : Lk 230 38 (.iconst 1) 0 0 (0) := ⟨1, 0, (congrArg (fun l => pm_look l 38) cq_230).trans rfl⟩
theorem lk_230_39 : Lk 230 39 (.iload_n 3) 0 0 (0) := ⟨1, 0, (congrArg (fun l => pm_look l 39) cq_230).trans rfl⟩
theorem lk_230_40 : Lk 230 40 (.ishl) 0 0 (0) := ⟨1, 0, (congrArg (fun l => pm_look l 40) cq_230).trans rfl⟩
theorem lk_230_41 : Lk 230 41 (.invokevirtual 288) 200 0 (0) := ⟨3, 1579, (congrArg (fun l => pm_look l 41) cq_230).trans rfl⟩
theorem lk_230_44 : Lk 230 44 (.istore 4) 0 0 (0) := ⟨2, 0, (congrArg (fun l => pm_look l 44) cq_230).trans rfl⟩
theorem lk_230_46 : Lk 230 46 (.iload 4) 0 0 (0) := ⟨2, 0, (congrArg (fun l => pm_look l 46) cq_230).trans rfl⟩
theorem lk_230_48 : Lk 230 48 (.invokestatic 274) 171 0 (0) := ⟨3, 1606, (congrArg (fun l => pm_look l 48) cq_230).trans rfl⟩
theorem lk_230_51 : Lk 230 51 (.iconst 1) 0 0 (0) := ⟨1, 0, (congrArg (fun l => pm_look l 51) cq_230).trans rfl⟩
theorem lk_230_52 : Lk 230 52 (.if_icmp .le 5) 0 0 (0) := ⟨3, 0, (congrArg (fun l => pm_look l 52) cq_230).trans rfl⟩
theorem lk_230_55 : Lk 230 55 (.iconst 0) 0 0 (0) := ⟨1, 0, (congrArg (fun l => pm_look l 55) cq_230).trans rfl⟩
theorem lk_230_56 : Lk 230 56 (.ireturn) 1 0 (0) := ⟨1, 0, (congrArg (fun l => pm_look l 56) cq_230).trans rfl⟩
theorem lk_230_57 : Lk 230 57 (.iinc 3 1) 0 0 (0) := ⟨3, 0, (congrArg (fun l => pm_look l 57) cq_230).trans rfl⟩
theorem lk_230_60 : Lk 230 60 (.goto (-58)) 0 0 (0) := ⟨3, 0, (congrArg (fun l => pm_look l 60) cq_230).trans rfl⟩
theorem lk_230_63 : Lk 230 63 (.iconst 1) 0 0 (0) := ⟨1, 0, (congrArg (fun l => pm_look l 63) cq_230).trans rfl⟩
theorem lk_230_64 : Lk 230 64 (.ireturn) 1 0 (0) := ⟨1, 0, (congrArg (fun l => pm_look l 64) cq_230).trans rfl⟩
theorem cq_231 : pm_code 231 = cd_231 := rfl
theorem lk_231_0 : Lk 231 0 (.aload_n 0) 0 0 (0) := ⟨1, 0, (congrArg (fun l => pm_look l 0) cq_231).trans rfl⟩
theorem lk_231_1 : Lk 231 1 (.iconst 0) 0 0 (0) := ⟨1, 0, (congrArg (fun l => pm_look l 1) cq_231).trans rfl⟩
theorem lk_231_2 : Lk 231 2 (.putfield 143) 12 0 (0) := ⟨3, 1257, (congrArg (fun l => pm_look l 2) cq_231).trans rfl⟩
theorem lk_231_5 : Lk 231 5 (.iload_n 1) 0 0 (0) := ⟨1, 0, (congrArg (fun l => pm_look l 5) cq_231).trans rfl⟩
theorem lk_231_6 : Lk 231 6 (.ifCond .eq 10) 0 0 (0) := ⟨3, 0, (congrArg (fun l => pm_look l 6) cq_231).trans rfl⟩
theorem lk_231_9 : Lk 231 9 (.aload_n 0) 0 0 (0) := ⟨1, 0, (congrArg (fun l => pm_look l 9) cq_231).trans rfl⟩
theorem lk_231_10 : Lk 231 10 (.invokevirtual 285) 176 0 (0) := ⟨3, 1575, (congrArg (fun l => pm_look l 10) cq_231).trans rfl⟩
theorem lk_231_13 : Lk 231 13 (.goto 7) 0 0 (0) := ⟨3, 0, (congrArg (fun l => pm_look l 13) cq_231).trans rfl⟩
theorem lk_231_16 : Lk 231 16 (.aload_n 0) 0 0 (0) := ⟨1, 0, (congrArg (fun l => pm_look l 16) cq_231).trans rfl⟩
theorem lk_231_17 : Lk 231 17 (.invokevirtual 281) 175 0 (0) := ⟨3, 1571, (congrArg (fun l => pm_look l 17) cq_231).trans rfl⟩
theorem lk_231_20 : Lk 231 20 (.istore_n 2) 0 0 (0) := ⟨1, 0, (congrArg (fun l => pm_look l 20) cq_231).trans rfl⟩
theorem lk_231_21 : Lk 231 21 (.aload_n 0) 0 0 (0) := ⟨1, 0, (congrArg (fun l => pm_look l 21) cq_231).trans rfl⟩
theorem lk_231_22 : Lk 231 22 (.getfield 93) 12 45 (2) := ⟨3, 1302, (congrArg (fun l => pm_look l 22) cq_231).trans rfl⟩
theorem lk_231_25 : Lk 231 25 (.iconst 0) 0 0 (0) := ⟨1, 0, (congrArg (fun l => pm_look l 25) cq_231).trans rfl⟩
theorem lk_231_26 : Lk 231 26 (.iconst 0) 0 0 (0) := ⟨1, 0, (congrArg (fun l => pm_look l 26) cq_231).trans rfl⟩
theorem lk_231_27 : Lk 231 27 (.iastore) 0 0 (0) := ⟨1, 0, (congrArg (fun l => pm_look l 27) cq_231).trans rfl⟩
theorem lk_231_28 : Lk 231 28 (.iconst 1) 0 0 (0) := ⟨1, 0, (congrArg (fun l => pm_look l 28) cq_231).trans rfl⟩
theorem lk_231_29 : Lk 231 29 (.istore_n 3) 0 0 (0) := ⟨1, 0, (congrArg (fun l => pm_look l 29) cq_231).trans rfl⟩
theorem lk_231_30 : Lk 231 30 (.iload_n 3) 0 0 (0) := ⟨1, 0, (congrArg (fun l => pm_look l 30) cq_231).trans rfl⟩
theorem lk_231_31 : Lk 231 31 (.iload_n 2) 0 0 (0) := ⟨1, 0, (congrArg (fun l => pm_look l 31) cq_231).trans rfl⟩
theorem lk_231_32 : Lk 231 32 (.if_icmp .gt 93) 0 0 (0) := ⟨3, 0, (congrArg (fun l => pm_look l 32) cq_231).trans rfl⟩
theorem lk_231_35 : Lk 231 35 (.aload_n 0) 0 0 (0) := ⟨1, 0, (congrArg (fun l => pm_look l 35) cq_231).trans rfl⟩
theorem lk_231_36 : Lk 231 36 (.getfield 93) 12 45 (2) := ⟨3, 1302, (congrArg (fun l => pm_look l 36) cq_231).trans rfl⟩
theorem lk_231_39 : Lk 231 39 (.iload_n 3) 0 0 (0) := ⟨1, 0, (congrArg (fun l => pm_look l 39) cq_231).trans rfl⟩
theorem lk_231_40 : Lk 231 40 (.ldc_w 357) 0 0 (1000000) := ⟨3, 1712, (congrArg (fun l => pm_look l 40) cq_231).trans rfl⟩
theorem lk_231_43 : Lk 231 43 (.iastore) 0 0 (0) := ⟨1, 0, (congrArg (fun l => pm_look l 43) cq_231).trans rfl⟩
theorem lk_231_44 : Lk 231 44 (.iconst 1) 0 0 (0) := ⟨1, 0, (congrArg (fun l => pm_look l 44) cq_231).trans rfl⟩
theorem lk_231_45 : Lk 231 45 (.istore 4) 0 0 (0) := ⟨2, 0, (congrArg (fun l => pm_look l 45) cq_231).trans rfl⟩
theorem lk_231_47 : Lk 231 47 (.iload 4) 0 0 (0) := ⟨2, 0, (congrArg (fun l => pm_look l 47) cq_231).trans rfl⟩
theorem lk_231_49 : Lk 231 49 (.iload_n 3) 0 0 (0) := ⟨1, 0, (congrArg (fun l => pm_look l 49) cq_231).trans rfl⟩
theorem lk_231_50 : Lk 231 50 (.if_icmp .gt 69) 0 0 (0) := ⟨3, 0, (congrArg (fun l => pm_look l 50) cq_231).trans rfl⟩
theorem lk_231_53 : Lk 231 53 (.iload 4) 0 0 (0) := ⟨2, 0, (congrArg (fun l => pm_look l 53) cq_231).trans rfl⟩
theorem lk_231_55 : Lk 231 55 (.iload_n 3) 0 0 (0) := ⟨1, 0, (congrArg (fun l => pm_look l 55) cq_231).trans rfl⟩
theorem lk_231_56 : Lk 231 56 (.iconst (-1)) 0 0 (0) := ⟨1, 0, (congrArg (fun l => pm_look l 56) cq_231).trans rfl⟩
theorem lk_231_57 : Lk 231 57 (.ixor) 0 0 (0) := ⟨1, 0, (congrArg (fun l => pm_look l 57) cq_231).trans rfl⟩
theorem lk_231_58 : Lk 231 58 (.iand) 0 0 (0) := ⟨1, 0, (congrArg (fun l => pm_look l 58) cq_231).trans rfl⟩
theorem lk_231_59 : Lk 231 59 (.ifCond .ne 54) 0 0 (0) := ⟨3, 0, (congrArg (fun l => pm_look l 59) cq_231).trans rfl⟩
theorem lk_231_62 : Lk 231 62 (.aload_n 0) 0 0 (0) := ⟨1, 0, (congrArg (fun l => pm_look l 62) cq_231).trans rfl⟩
theorem lk_231_63 : Lk 231 63 (.getfield 93) 12 45 (2) := ⟨3, 1302, (congrArg (fun l => pm_look l 63) cq_231).trans rfl⟩
theorem lk_231_66 : Lk 231 66 (.iload_n 3) 0 0 (0) := ⟨1, 0, (congrArg (fun l => pm_look l 66) cq_231).trans rfl⟩
theorem lk_231_67 : Lk 231 67 (.iload 4) 0 0 (0) := ⟨2, 0, (congrArg (fun l => pm_look l 67) cq_231).trans rfl⟩
theorem lk_231_69 : Lk 231 69 (.iconst (-1)) 0 0 (0) := ⟨1, 0, (congrArg (fun l => pm_look l 69) cq_231).trans rfl⟩
theorem lk_231_70 : Lk 231 70 (.ixor) 0 0 (0) := ⟨1, 0, (congrArg (fun l => pm_look l 70) cq_231).trans rfl⟩
theorem lk_231_71 : Lk 231 71 (.iand) 0 0 (0) := ⟨1, 0, (congrArg (fun l => pm_look l 71) cq_231).trans rfl⟩
theorem lk_231_72 : Lk 231 72 (.iaload) 0 0 (0) := ⟨1, 0, (congrArg (fun l => pm_look l 72) cq_231).trans rfl⟩
theorem lk_231_73 : Lk 231 73 (.iconst 1) 0 0 (0) := ⟨1, 0, (congrArg (fun l => pm_look l 73) cq_231).trans rfl⟩
theorem lk_231_74 : Lk 231 74 (.iadd) 0 0 (0) := ⟨1, 0, (congrArg (fun l => pm_look l 74) cq_231).trans rfl⟩
theorem lk_231_75 : Lk 231 75 (.aload_n 0) 0 0 (0) := ⟨1, 0, (congrArg (fun l => pm_look l 75) cq_231).trans rfl⟩
theorem lk_231_76 : Lk 231 76 (.getfield 93) 12 45 (2) := ⟨3, 1302, (congrArg (fun l => pm_look l 76) cq_231).trans rfl⟩
theorem lk_231_79 : Lk 231 79 (.iload_n 3) 0 0 (0) := ⟨1, 0, (congrArg (fun l => pm_look l 79) cq_231).trans rfl⟩
theorem lk_231_80 : Lk 231 80 (.iaload) 0 0 (0) := ⟨1, 0, (congrArg (fun l => pm_look l 80) cq_231).trans rfl⟩
theorem lk_231_81 : Lk 231 81 (.if_icmp .ge 32) 0 0 (0) := ⟨3, 0, (congrArg (fun l => pm_look l 81) cq_231).trans rfl⟩
theorem lk_231_84 : Lk 231 84 (.aload_n 0) 0 0 (0) := ⟨1, 0, (congrArg (fun l => pm_look l 84) cq_231).trans rfl⟩
theorem lk_231_85 : Lk 231 85 (.iload_n 1) 0 0 (0) := ⟨1, 0, (congrArg (fun l => pm_look l 85) cq_231).trans rfl⟩
theorem lk_231_86 : Lk 231 86 (.iload 4) 0 0 (0) := ⟨2, 0, (congrArg (fun l => pm_look l 86) cq_231).trans rfl⟩
theorem lk_231_88 : Lk 231 88 (.invokevirtual 358) 230 0 (0) := ⟨3, 1713, (congrArg (fun l => pm_look l 88) cq_231).trans rfl⟩
theorem lk_231_91 : Lk 231 91 (.ifCond .eq 22) 0 0 (0) := ⟨3, 0, (congrArg (fun l => pm_look l 91) cq_231).trans rfl⟩
theorem lk_231_94 : Lk 231 94 (.aload_n 0) 0 0 (0) := ⟨1, 0, (congrArg (fun l => pm_look l 94) cq_231).trans rfl⟩
theorem lk_231_95 : Lk 231 95 (.getfield 93) 12 45 (2) := ⟨3, 1302, (congrArg (fun l => pm_look l 95) cq_231).trans rfl⟩
theorem lk_231_98 : Lk 231 98 (.iload_n 3) 0 0 (0) := ⟨1, 0, (congrArg (fun l => pm_look l 98) cq_231).trans rfl⟩
theorem lk_231_99 : Lk 231 99 (.aload_n 0) 0 0 (0) := ⟨1, 0, (congrArg (fun l => pm_look l 99) cq_231).trans rfl⟩
theorem lk_231_100 : Lk 231 100 (.getfield 93) 12 45 (2) := ⟨3, 1302, (congrArg (fun l => pm_look l 100) cq_231).trans rfl⟩
theorem lk_231_103 : Lk 231 103 (.iload_n 3) 0 0 (0) := ⟨1, 0, (congrArg (fun l => pm_look l 103) cq_231).trans rfl⟩
theorem lk_231_104 : Lk 231 104 (.iload 4) 0 0 (0) := ⟨2, 0, (congrArg (fun l => pm_look l 104) cq_231).trans rfl⟩
theorem lk_231_106 : Lk 231 106 (.iconst (-1)) 0 0 (0) := ⟨1, 0, (congrArg (fun l => pm_look l 106) cq_231).trans rfl⟩
theorem lk_231_107 : Lk 231 107 (.ixor) 0 0 (0) := ⟨1, 0, (congrArg (fun l => pm_look l 107) cq_231).trans rfl⟩
theorem lk_231_108 : Lk 231 108 (.iand) 0 0 (0) := ⟨1, 0, (congrArg (fun l => pm_look l 108) cq_231).trans rfl⟩
theorem lk_231_109 : Lk 231 109 (.iaload) 0 0 (0) := ⟨1, 0, (congrArg (fun l => pm_look l 109) cq_231).trans rfl⟩
theorem lk_231_110 : Lk 231 110 (.iconst 1) 0 0 (0) := ⟨1, 0, (congrArg (fun l => pm_look l 110) cq_231).trans rfl⟩
theorem lk_231_111 : Lk 231 111 (.iadd) 0 0 (0) := ⟨1, 0, (congrArg (fun l => pm_look l 111) cq_231).trans rfl⟩
theorem lk_231_112 : Lk 231 112 (.iastore) 0 0 (0) := ⟨1, 0, (congrArg (fun l => pm_look l 112) cq_231).trans rfl⟩
theorem lk_231_113 : Lk 231 113 (.iinc 4 1) 0 0 (0) := ⟨3, 0, (congrArg (fun l => pm_look l 113) cq_231).trans rfl⟩
theorem lk_231_116 : Lk 231 116 (.goto (-69)) 0 0 (0) := ⟨3, 0, (congrArg (fun l => pm_look l 116) cq_231).trans rfl⟩
theorem lk_231_119 : Lk 231 119 (.iinc 3 1) 0 0 (0) := ⟨3, 0, (congrArg (fun l => pm_look l 119) cq_231).trans rfl⟩
theorem lk_231_122 : Lk 231 122 (.goto (-92)) 0 0 (0) := ⟨3, 0, (congrArg (fun l => pm_look l 122) cq_231).trans rfl⟩
theorem lk_231_125 : Lk 231 125 (.aload_n 0) 0 0 (0) := ⟨1, 0, (congrArg (fun l => pm_look l 125) cq_231).trans rfl⟩
theorem lk_231_126 : Lk 231 126 (.getfield 93) 12 45 (2) := ⟨3, 1302, (congrArg (fun l => pm_look l 126) cq_231).trans rfl⟩
theorem lk_231_129 : Lk 231 129 (.iload_n 2) 0 0 (0) := ⟨1, 0, (congrArg (fun l => pm_look l 129) cq_231).trans rfl⟩
theorem lk_231_130 : Lk 231 130 (.iaload) 0 0 (0) := ⟨1, 0, (congrArg (fun l => pm_look l 130) cq_231).trans rfl⟩
theorem lk_231_131 : Lk 231 131 (.ireturn) 0 0 (0) := ⟨1, 0, (congrArg (fun l => pm_look l 131) cq_231).trans rfl⟩
theorem cq_232 : pm_code 232 = cd_232 := rfl
theorem lk_232_0 : Lk 232 0 (.aload_n 0) 0 0 (0) := ⟨1, 0, (congrArg (fun l => pm_look l 0) cq_232).trans rfl⟩
theorem lk_232_1 : Lk 232 1 (.iconst 0) 0 0 (0) := ⟨1, 0, (congrArg (fun l => pm_look l 1) cq_232).trans rfl⟩
theorem lk_232_2 : Lk 232 2 (.putfield 143) 12 0 (0) := ⟨3, 1257, (congrArg (fun l => pm_look l 2) cq_232).trans rfl⟩
theorem lk_232_5 : Lk 232 5 (.iload_n 1) 0 0 (0) := ⟨1, 0, (congrArg (fun l => pm_look l 5) cq_232).trans rfl⟩
theorem lk_232_6 : Lk 232 6 (.invokestatic 300) 205 0 (0) := ⟨3, 1620, (congrArg (fun l => pm_look l 6) cq_232).trans rfl⟩
theorem lk_232_9 : Lk 232 9 (.ifCond .ne 5) 0 0 (0) := ⟨3, 0, (congrArg (fun l => pm_look l 9) cq_232).trans rfl⟩
theorem lk_232_12 : Lk 232 12 (.iconst (-1)) 0 0 (0) := ⟨1, 0, (congrArg (fun l => pm_look l 12) cq_232).trans rfl⟩
theorem lk_232_13 : Lk 232 13 (.ireturn) 0 0 (0) := ⟨1, 0, (congrArg (fun l => pm_look l 13) cq_232).trans rfl⟩
theorem lk_232_14 : Lk 232 14 (.iconst 0) 0 0 (0) := ⟨1, 0, (congrArg (fun l => pm_look l 14) cq_232).trans rfl⟩
theorem lk_232_15 : Lk 232 15 (.istore_n 2) 0 0 (0) := ⟨1, 0, (congrArg (fun l => pm_look l 15) cq_232).trans rfl⟩
theorem lk_232_16 : Lk 232 16 (.iconst 1) 0 0 (0) := ⟨1, 0, (congrArg (fun l => pm_look l 16) cq_232).trans rfl⟩
theorem lk_232_17 : Lk 232 17 (.istore_n 3) 0 0 (0) := ⟨1, 0, (congrArg (fun l => pm_look l 17) cq_232).trans rfl⟩
theorem lk_232_18 : Lk 232 18 (.iload_n 3) 0 0 (0) := ⟨1, 0, (congrArg (fun l => pm_look l 18) cq_232).trans rfl⟩
theorem lk_232_19 : Lk 232 19 (.aload_n 0) 0 0 (0) := ⟨1, 0, (congrArg (fun l => pm_look l 19) cq_232).trans rfl⟩
theorem lk_232_20 : Lk 232 20 (.invokevirtual 281) 175 0 (0) := ⟨3, 1571, (congrArg (fun l => pm_look l 20) cq_232).trans rfl⟩
theorem lk_232_23 : Lk 232 23 (.if_icmp .gt 65) 0 0 (0) := ⟨3, 0, (congrArg (fun l => pm_look l 23) cq_232).trans rfl⟩
theorem lk_232_26 : Lk 232 26 (.iconst 1) 0 0 (0) := ⟨1, 0, (congrArg (fun l => pm_look l 26) cq_232).trans rfl⟩
theorem lk_232_27 : Lk 232 27 (.istore 4) 0 0 (0) := ⟨2, 0, (congrArg (fun l => pm_look l 27) cq_232).trans rfl⟩
theorem lk_232_29 : Lk 232 29 (.iload 4) 0 0 (0) := ⟨2, 0, (congrArg (fun l => pm_look l 29) cq_232).trans rfl⟩
theorem lk_232_31 : Lk 232 31 (.aload_n 0) 0 0 (0) := ⟨1, 0, (congrArg (fun l => pm_look l 31) cq_232).trans rfl⟩
theorem lk_232_32 : Lk 232 32 (.invokevirtual 285) 176 0 (0) := ⟨3, 1575, (congrArg (fun l => pm_look l 32) cq_232).trans rfl⟩
theorem lk_232_35 : Lk 232 35 (.if_icmp .gt 47) 0 0 (0) := ⟨3, 0, (congrArg (fun l => pm_look l 35) cq_232).trans rfl⟩
theorem lk_232_38 : Lk 232 38 (.iconst 2) 0 0 (0) := ⟨1, 0, (congrArg (fun l => pm_look l 38) cq_232).trans rfl⟩
theorem lk_232_39 : Lk 232 39 (.aload_n 0) 0 0 (0) := ⟨1, 0, (congrArg (fun l => pm_look l 39) cq_232).trans rfl⟩
theorem lk_232_40 : Lk 232 40 (.iload_n 3) 0 0 (0) := ⟨1, 0, (congrArg (fun l => pm_look l 40) cq_232).trans rfl⟩
theorem lk_232_41 : Lk 232 41 (.iload 4) 0 0 (0) := ⟨2, 0, (congrArg (fun l => pm_look l 41) cq_232).trans rfl⟩
theorem lk_232_43 : Lk 232 43 (.iload_n 1) 0 0 (0) := ⟨1, 0, (congrArg (fun l => pm_look l 43) cq_232).trans rfl⟩
theorem lk_232_44 : Lk 232 44 (.invokevirtual 277) 201 0 (0) := ⟨3, 1590, (congrArg (fun l => pm_look l 44) cq_232).trans rfl⟩
theorem lk_232_47 : Lk 232 47 (.imul) 0 0 (0) := ⟨1, 0, (congrArg (fun l => pm_look l 47) cq_232).trans rfl⟩
theorem lk_232_48 : Lk 232 48 (.aload_n 0) 0 0 (0) := ⟨1, 0, (congrArg (fun l => pm_look l 48) cq_232).trans rfl⟩
theorem lk_232_49 : Lk 232 49 (.iload_n 3) 0 0 (0) := ⟨1, 0, (congrArg (fun l => pm_look l 49) cq_232).trans rfl⟩
theorem lk_232_50 : Lk 232 50 (.iload 4) 0 0 (0) := ⟨2, 0, (congrArg (fun l => pm_look l 50) cq_232).trans rfl⟩
theorem lk_232_52 : Lk 232 52 (.invokevirtual 297) 202 0 (0) := ⟨3, 1612, (congrArg (fun l => pm_look l 52) cq_232).trans rfl⟩
theorem lk_232_55 : Lk 232 55 (.isub) 0 0 (0) := ⟨1, 0, (congrArg (fun l => pm_look l 55) cq_232).trans rfl⟩
theorem lk_232_56 : Lk 232 56 (.istore 5) 0 0 (0) := ⟨2, 0, (congrArg (fun l => pm_look l 56) cq_232).trans rfl⟩
theorem lk_232_58 : Lk 232 58 (.iload_n 2) 0 0 (0) := ⟨1, 0, (congrArg (fun l => pm_look l 58) cq_232).trans rfl⟩
theorem lk_232_59 : Lk 232 59 (.iload 5) 0 0 (0) := ⟨2, 0, (congrArg (fun l => pm_look l 59) cq_232).trans rfl⟩
theorem lk_232_61 : Lk 232 61 (.ifCond .ge 9) 0 0 (0) := ⟨3, 0, (congrArg (fun l => pm_look l 61) cq_232).trans rfl⟩
theorem lk_232_64 : Lk 232 64 (.iload 5) 0 0 (0) := ⟨2, 0, (congrArg (fun l => pm_look l 64) cq_232).trans rfl⟩
theorem lk_232_66 : Lk 232 66 (.ineg) 0 0 (0) := ⟨1, 0, (congrArg (fun l => pm_look l 66) cq_232).trans rfl⟩
theorem lk_232_67 : Lk 232 67 (.goto 5) 0 0 (0) := ⟨3, 0, (congrArg (fun l => pm_look l 67) cq_232).trans rfl⟩
theorem lk_232_70 : Lk 232 70 (.iload 5) 0 0 (0) := ⟨2, 0, (congrArg (fun l => pm_look l 70) cq_232).trans rfl⟩
theorem lk_232_72 : Lk 232 72 (.invokestatic 325) 170 0 (0) := ⟨3, 1663, (congrArg (fun l => pm_look l 72) cq_232).trans rfl⟩
theorem lk_232_75 : Lk 232 75 (.istore_n 2) 0 0 (0) := ⟨1, 0, (congrArg (fun l => pm_look l 75) cq_232).trans rfl⟩
theorem lk_232_76 : Lk 232 76 (.iinc 4 1) 0 0 (0) := ⟨3, 0, (congrArg (fun l => pm_look l 76) cq_232).trans rfl⟩
theorem lk_232_79 : Lk 232 79 (.goto (-50)) 0 0 (0) := ⟨3, 0, (congrArg (fun l => pm_look l 79) cq_232).trans rfl⟩
theorem lk_232_82 : Lk 232 82 (.iinc 3 1) 0 0 (0) := ⟨3, 0, (congrArg (fun l => pm_look l 82) cq_232).trans rfl⟩
theorem lk_232_85 : Lk 232 85 (.goto (-67)) 0 0 (0) := ⟨3, 0, (congrArg (fun l => pm_look l 85) cq_232).trans rfl⟩
theorem lk_232_88 : Lk 232 88 (.iload_n 2) 0 0 (0) := ⟨1, 0, (congrArg (fun l => pm_look l 88) cq_232).trans rfl⟩
theorem lk_232_89 : Lk 232 89 (.ireturn) 0 0 (0) := ⟨1, 0, (congrArg (fun l => pm_look l 89) cq_232).trans rfl⟩
theorem cq_233 : pm_code 233 = cd_233 := rfl
theorem lk_233_0 : Lk 233 0 (.bipush 64) 0 0 (0) := ⟨2, 0, (congrArg (fun l => pm_look l 0) cq_233).trans rfl⟩
theorem lk_233_2 : Lk 233 2 (.iload_n 0) 0 0 (0) := ⟨1, 0, (congrArg (fun l => pm_look l 2) cq_233).trans rfl⟩
theorem lk_233_3 : Lk 233 3 (.imul) 0 0 (0) := ⟨1, 0, (congrArg (fun l => pm_look l 3) cq_233).trans rfl⟩
theorem lk_233_4 : Lk 233 4 (.iload_n 1) 0 0 (0) := ⟨1, 0, (congrArg (fun l => pm_look l 4) cq_233).trans rfl⟩
theorem lk_233_5 : Lk 233 5 (.iadd) 0 0 (0) := ⟨1, 0, (congrArg (fun l => pm_look l 5) cq_233).trans rfl⟩
theorem lk_233_6 : Lk 233 6 (.ireturn) 0 0 (0) := ⟨1, 0, (congrArg (fun l => pm_look l 6) cq_233).trans rfl⟩
theorem cq_234 : pm_code 234 = cd_234 := rfl
theorem lk_234_0 : Lk 234 0 (.aload_n 0) 0 0 (0) := ⟨1, 0, (congrArg (fun l => pm_look l 0) cq_234).trans rfl⟩
theorem lk_234_1 : Lk 234 1 (.iload_n 1) 0 0 (0) := ⟨1, 0, (congrArg (fun l => pm_look l 1) cq_234).trans rfl⟩
theorem lk_234_2 : Lk 234 2 (.iload_n 2) 0 0 (0) := ⟨1, 0, (congrArg (fun l => pm_look l 2) cq_234).trans rfl⟩
theorem lk_234_3 : Lk 234 3 (.invokevirtual 288) 200 0 (0) := ⟨3, 1579, (congrArg (fun l => pm_look l 3) cq_234).trans rfl⟩
theorem lk_234_6 : Lk 234 6 (.invokestatic 274) 171 0 (0) := ⟨3, 1606, (congrArg (fun l => pm_look l 6) cq_234).trans rfl⟩
theorem lk_234_9 : Lk 234 9 (.iconst 2) 0 0 (0) := ⟨1, 0, (congrArg (fun l => pm_look l 9) cq_234).trans rfl⟩
theorem lk_234_10 : Lk 234 10 (.if_icmp .ge 7) 0 0 (0) := ⟨3, 0, (congrArg (fun l => pm_look l 10) cq_234).trans rfl⟩
theorem lk_234_13 : Lk 234 13 (.iconst 1) 0 0 (0) := ⟨1, 0, (congrArg (fun l => pm_look l 13) cq_234).trans rfl⟩
theorem lk_234_14 : Lk 234 14 (.goto 4) 0 0 (0) := ⟨3, 0, (congrArg (fun l => pm_look l 14) cq_234).trans rfl⟩
theorem lk_234_17 : Lk 234 17 (.iconst 0) 0 0 (0) := ⟨1, 0, (congrArg (fun l => pm_look l 17) cq_234).trans rfl⟩
theorem lk_234_18 : Lk 234 18 (.ireturn) 1 0 (0) := ⟨1, 0, (congrArg (fun l => pm_look l 18) cq_234).trans rfl⟩
theorem cq_235 : pm_code 235 = cd_235 := rfl
theorem lk_235_0 : Lk 235 0 (.aload_n 0) 0 0 (0) := ⟨1, 0, (congrArg (fun l => pm_look l 0) cq_235).trans rfl⟩
theorem lk_235_1 : Lk 235 1 (.getfield 263) 12 49 (0) := ⟨3, 1306, (congrArg (fun l => pm_look l 1) cq_235).trans rfl⟩
theorem lk_235_4 : Lk 235 4 (.ifCond .eq 4) 0 0 (0) := ⟨3, 0, (congrArg (fun l => pm_look l 4) cq_235).trans rfl⟩
theorem lk_235_7 : Lk 235 7 (.return_) 0 0 (0) := ⟨1, 0, (congrArg (fun l => pm_look l 7) cq_235).trans rfl⟩
theorem lk_235_8 : Lk 235 8 (.aload_n 0) 0 0 (0) := ⟨1, 0, (congrArg (fun l => pm_look l 8) cq_235).trans rfl⟩
theorem lk_235_9 : Lk 235 9 (.iconst 1) 0 0 (0) := ⟨1, 0, (congrArg (fun l => pm_look l 9) cq_235).trans rfl⟩
theorem lk_235_10 : Lk 235 10 (.putfield 263) 12 49 (0) := ⟨3, 1306, (congrArg (fun l => pm_look l 10) cq_235).trans rfl⟩
theorem lk_235_13 : Lk 235 13 (.iconst 1) 0 0 (0) := ⟨1, 0, (congrArg (fun l => pm_look l 13) cq_235).trans rfl⟩
theorem lk_235_14 : Lk 235 14 (.istore_n 1) 0 0 (0) := ⟨1, 0, (congrArg (fun l => pm_look l 14) cq_235).trans rfl⟩
theorem lk_235_15 : Lk 235 15 (.iload_n 1) 0 0 (0) := ⟨1, 0, (congrArg (fun l => pm_look l 15) cq_235).trans rfl⟩
theorem lk_235_16 : Lk 235 16 (.aload_n 0) 0 0 (0) := ⟨1, 0, (congrArg (fun l => pm_look l 16) cq_235).trans rfl⟩
theorem lk_235_17 : Lk 235 17 (.invokevirtual 281) 175 0 (0) := ⟨3, 1571, (congrArg (fun l => pm_look l 17) cq_235).trans rfl⟩
theorem lk_235_20 : Lk 235 20 (.if_icmp .gt 31) 0 0 (0) := ⟨3, 0, (congrArg (fun l => pm_look l 20) cq_235).trans rfl⟩
theorem lk_235_23 : Lk 235 23 (.iconst 1) 0 0 (0) := ⟨1, 0, (congrArg (fun l => pm_look l 23) cq_235).trans rfl⟩
theorem lk_235_24 : Lk 235 24 (.istore_n 2) 0 0 (0) := ⟨1, 0, (congrArg (fun l => pm_look l 24) cq_235).trans rfl⟩
theorem lk_235_25 : Lk 235 25 (.iload_n 2) 0 0 (0) := ⟨1, 0, (congrArg (fun l => pm_look l 25) cq_235).trans rfl⟩
theorem lk_235_26 : Lk 235 26 (.aload_n 0) 0 0 (0) := ⟨1, 0, (congrArg (fun l => pm_look l 26) cq_235).trans rfl⟩
theorem lk_235_27 : Lk 235 27 (.invokevirtual 285) 176 0 (0) := ⟨3, 1575, (congrArg (fun l => pm_look l 27) cq_235).trans rfl⟩
theorem lk_235_30 : Lk 235 30 (.if_icmp .gt 15) 0 0 (0) := ⟨3, 0, (congrArg (fun l => pm_look l 30) cq_235).trans rfl⟩
theorem lk_235_33 : Lk 235 33 (.aload_n 0) 0 0 (0) := ⟨1, 0, (congrArg (fun l => pm_look l 33) cq_235).trans rfl⟩
theorem lk_235_34 : Lk 235 34 (.iload_n 1) 0 0 (0) := ⟨1, 0, (congrArg (fun l => pm_look l 34) cq_235).trans rfl⟩
theorem lk_235_35 : Lk 235 35 (.iload_n 2) 0 0 (0) := ⟨1, 0, (congrArg (fun l => pm_look l 35) cq_235).trans rfl⟩
theorem lk_235_36 : Lk 235 36 (.invokevirtual 362) 236 0 (0) := ⟨3, 1729, (congrArg (fun l => pm_look l 36) cq_235).trans rfl⟩
theorem lk_235_39 : Lk 235 39 (.iinc 2 1) 0 0 (0) := ⟨3, 0, (congrArg (fun l => pm_look l 39) cq_235).trans rfl⟩
theorem lk_235_42 : Lk 235 42 (.goto (-17)) 0 0 (0) := ⟨3, 0, (congrArg (fun l => pm_look l 42) cq_235).trans rfl⟩
theorem lk_235_45 : Lk 235 45 (.iinc 1 1) 0 0 (0) := ⟨3, 0, (congrArg (fun l => pm_look l 45) cq_235).trans rfl⟩
theorem lk_235_48 : Lk 235 48 (.goto (-33)) 0 0 (0) := ⟨3, 0, (congrArg (fun l => pm_look l 48) cq_235).trans rfl⟩
theorem lk_235_51 : Lk 235 51 (.return_) 0 0 (0) := ⟨1, 0, (congrArg (fun l => pm_look l 51) cq_235).trans rfl⟩
theorem cq_236 : pm_code 236 = cd_236 := rfl
theorem lk_236_0 : Lk 236 0 (.iload_n 1) 0 0 (0) := ⟨1, 0, (congrArg (fun l => pm_look l 0) cq_236).trans rfl⟩
theorem lk_236_1 : Lk 236 1 (.iload_n 2) 0 0 (0) := ⟨1, 0, (congrArg (fun l => pm_look l 1) cq_236).trans rfl⟩
theorem lk_236_2 : Lk 236 2 (.invokestatic 366) 233 0 (0) := ⟨3, 1733, (congrArg (fun l => pm_look l 2) cq_236).trans rfl⟩
theorem lk_236_5 : Lk 236 5 (.istore_n 3) 0 0 (0) := ⟨1, 0, (congrArg (fun l => pm_look l 5) cq_236).trans rfl⟩
theorem lk_236_6 : Lk 236 6 (.aload_n 0) 0 0 (0) := ⟨1, 0, (congrArg (fun l => pm_look l 6) cq_236).trans rfl⟩
theorem lk_236_7 : Lk 236 7 (.iload_n 1) 0 0 (0) := ⟨1, 0, (congrArg (fun l => pm_look l 7) cq_236).trans rfl⟩
theorem lk_236_8 : Lk 236 8 (.iload_n 2) 0 0 (0) := ⟨1, 0, (congrArg (fun l => pm_look l 8) cq_236).trans rfl⟩
theorem lk_236_9 : Lk 236 9 (.invokevirtual 369) 234 0 (0) := ⟨3, 1736, (congrArg (fun l => pm_look l 9) cq_236).trans rfl⟩
theorem lk_236_12 : Lk 236 12 (.istore 4) 0 0 (0) := ⟨2, 0, (congrArg (fun l => pm_look l 12) cq_236).trans rfl⟩
theorem lk_236_14 : Lk 236 14 (.aload_n 0) 0 0 (0) := ⟨1, 0, (congrArg (fun l => pm_look l 14) cq_236).trans rfl⟩
theorem lk_236_15 : Lk 236 15 (.iload_n 1) 0 0 (0) := ⟨1, 0, (congrArg (fun l => pm_look l 15) cq_236).trans rfl⟩
theorem lk_236_16 : Lk 236 16 (.iload_n 2) 0 0 (0) := ⟨1, 0, (congrArg (fun l => pm_look l 16) cq_236).trans rfl⟩
theorem lk_236_17 : Lk 236 17 (.invokevirtual 297) 202 0 (0) := ⟨3, 1612, (congrArg (fun l => pm_look l 17) cq_236).trans rfl⟩
theorem lk_236_20 : Lk 236 20 (.istore 5) 0 0 (0) := ⟨2, 0, (congrArg (fun l => pm_look l 20) cq_236).trans rfl⟩
theorem lk_236_22 : Lk 236 22 (.iconst 0) 0 0 (0) := ⟨1, 0, (congrArg (fun l => pm_look l 22) cq_236).trans rfl⟩
theorem lk_236_23 : Lk 236 23 (.istore 6) 0 0 (0) := ⟨2, 0, (congrArg (fun l => pm_look l 23) cq_236).trans rfl⟩
theorem lk_236_25 : Lk 236 25 (.iload 6) 0 0 (0) := ⟨2, 0, (congrArg (fun l => pm_look l 25) cq_236).trans rfl⟩
theorem lk_236_27 : Lk 236 27 (.iconst 3) 0 0 (0) := ⟨1, 0, (congrArg (fun l => pm_look l 27) cq_236).trans rfl⟩
theorem lk_236_28 : Lk 236 28 (.if_icmp .ge 44) 0 0 (0) := ⟨3, 0, (congrArg (fun l => pm_look l 28) cq_236).trans rfl⟩
theorem lk_236_31 : Lk 236 31 (.aload_n 0) 0 0 (0) := ⟨1, 0, (congrArg (fun l => pm_look l 31) cq_236).trans rfl⟩
theorem lk_236_32 : Lk 236 32 (.getfield 96) 12 46 (2) := ⟨3, 1303, (congrArg (fun l => pm_look l 32) cq_236).trans rfl⟩
theorem lk_236_35 : Lk 236 35 (.sipush 4096) 0 0 (0) := ⟨3, 0, (congrArg (fun l => pm_look l 35) cq_236).trans rfl⟩
theorem lk_236_38 : Lk 236 38 (.iload 6) 0 0 (0) := ⟨2, 0, (congrArg (fun l => pm_look l 38) cq_236).trans rfl⟩
theorem lk_236_40 : Lk 236 40 (.imul) 0 0 (0) := ⟨1, 0, (congrArg (fun l => pm_look l 40) cq_236).trans rfl⟩
theorem lk_236_41 : Lk 236 41 (.iload_n 3) 0 0 (0) := ⟨1, 0, (congrArg (fun l => pm_look l 41) cq_236).trans rfl⟩
theorem lk_236_42 : Lk 236 42 (.iadd) 0 0 (0) := ⟨1, 0, (congrArg (fun l => pm_look l 42) cq_236).trans rfl⟩
theorem lk_236_43 : Lk 236 43 (.iload 4) 0 0 (0) := ⟨2, 0, (congrArg (fun l => pm_look l 43) cq_236).trans rfl⟩
theorem lk_236_45 : Lk 236 45 (.ifCond .ne 9) 0 0 (0) := ⟨3, 0, (congrArg (fun l => pm_look l 45) cq_236).trans rfl⟩
theorem lk_236_48 : Lk 236 48 (.ldc_w 357) 0 0 (1000000) := ⟨3, 1712, (congrArg (fun l => pm_look l 48) cq_236).trans rfl⟩
theorem lk_236_51 : Lk 236 51 (.goto 14) 0 0 (0) := ⟨3, 0, (congrArg (fun l => pm_look l 51) cq_236).trans rfl⟩
theorem lk_236_54 : Lk 236 54 (.iload 6) 0 0 (0) := ⟨2, 0, (congrArg (fun l => pm_look l 54) cq_236).trans rfl⟩
theorem lk_236_56 : Lk 236 56 (.iconst 1) 0 0 (0) := ⟨1, 0, (congrArg (fun l => pm_look l 56) cq_236).trans rfl⟩
theorem lk_236_57 : Lk 236 57 (.if_icmp .ne 7) 0 0 (0) := ⟨3, 0, (congrArg (fun l => pm_look l 57) cq_236).trans rfl⟩
theorem lk_236_60 : Lk 236 60 (.iconst 1) 0 0 (0) := ⟨1, 0, (congrArg (fun l => pm_look l 60) cq_236).trans rfl⟩
theorem lk_236_61 : Lk 236 61 (.goto 4) 0 0 (0) := ⟨3, 0, (congrArg (fun l => pm_look l 61) cq_236).trans rfl⟩
theorem lk_236_64 : Lk 236 64 (.iconst 0) 0 0 (0) := ⟨1, 0, (congrArg (fun l => pm_look l 64) cq_236).trans rfl⟩
theorem lk_236_65 : Lk 236 65 (.iastore) 0 0 (0) := ⟨1, 0, (congrArg (fun l => pm_look l 65) cq_236).trans rfl⟩
theorem lk_236_66 : Lk 236 66 (.iinc 6 1) 0 0 (0) := ⟨3, 0, (congrArg (fun l => pm_look l 66) cq_236).trans rfl⟩
theorem lk_236_69 : Lk 236 69 (.goto (-44)) 0 0 (0) := ⟨3, 0, (congrArg (fun l => pm_look l 69) cq_236).trans rfl⟩
theorem lk_236_72 : Lk 236 72 (.iconst 0) 0 0 (0) := ⟨1, 0, (congrArg (fun l => pm_look l 72) cq_236).trans rfl⟩
theorem lk_236_73 : Lk 236 73 (.istore 6) 0 0 (0) := ⟨2, 0, (congrArg (fun l => pm_look l 73) cq_236).trans rfl⟩
theorem lk_236_75 : Lk 236 75 (.iload 6) 0 0 (0) := ⟨2, 0, (congrArg (fun l => pm_look l 75) cq_236).trans rfl⟩
theorem lk_236_77 : Lk 236 77 (.bipush 12) 0 0 (0) := ⟨2, 0, (congrArg (fun l => pm_look l 77) cq_236).trans rfl⟩
theorem lk_236_79 : Lk 236 79 (.if_icmp .ge 34) 0 0 (0) := ⟨3, 0, (congrArg (fun l => pm_look l 79) cq_236).trans rfl⟩
theorem lk_236_82 : Lk 236 82 (.aload_n 0) 0 0 (0) := ⟨1, 0, (congrArg (fun l => pm_look l 82) cq_236).trans rfl⟩
theorem lk_236_83 : Lk 236 83 (.getfield 100) 12 47 (2) := ⟨3, 1304, (congrArg (fun l => pm_look l 83) cq_236).trans rfl⟩
theorem lk_236_86 : Lk 236 86 (.sipush 4096) 0 0 (0) := ⟨3, 0, (congrArg (fun l => pm_look l 86) cq_236).trans rfl⟩
theorem lk_236_89 : Lk 236 89 (.iload 6) 0 0 (0) := ⟨2, 0, (congrArg (fun l => pm_look l 89) cq_236).trans rfl⟩
theorem lk_236_91 : Lk 236 91 (.imul) 0 0 (0) := ⟨1, 0, (congrArg (fun l => pm_look l 91) cq_236).trans rfl⟩
theorem lk_236_92 : Lk 236 92 (.iload_n 3) 0 0 (0) := ⟨1, 0, (congrArg (fun l => pm_look l 92) cq_236).trans rfl⟩
theorem lk_236_93 : Lk 236 93 (.iadd) 0 0 (0) := ⟨1, 0, (congrArg (fun l => pm_look l 93) cq_236).trans rfl⟩
theorem lk_236_94 : Lk 236 94 (.iload 4) 0 0 (0) := ⟨2, 0, (congrArg (fun l => pm_look l 94) cq_236).trans rfl⟩
theorem lk_236_96 : Lk 236 96 (.ifCond .eq 7) 0 0 (0) := ⟨3, 0, (congrArg (fun l => pm_look l 96) cq_236).trans rfl⟩
theorem lk_236_99 : Lk 236 99 (.iconst 0) 0 0 (0) := ⟨1, 0, (congrArg (fun l => pm_look l 99) cq_236).trans rfl⟩
theorem lk_236_100 : Lk 236 100 (.goto 6) 0 0 (0) := ⟨3, 0, (congrArg (fun l => pm_look l 100) cq_236).trans rfl⟩
theorem lk_236_103 : Lk 236 103 (.ldc_w 357) 0 0 (1000000) := ⟨3, 1712, (congrArg (fun l => pm_look l 103) cq_236).trans rfl⟩
theorem lk_236_106 : Lk 236 106 (.iastore) 0 0 (0) := ⟨1, 0, (congrArg (fun l => pm_look l 106) cq_236).trans rfl⟩
theorem lk_236_107 : Lk 236 107 (.iinc 6 1) 0 0 (0) := ⟨3, 0, (congrArg (fun l => pm_look l 107) cq_236).trans rfl⟩
theorem lk_236_110 : Lk 236 110 (.goto (-35)) 0 0 (0) := ⟨3, 0, (congrArg (fun l => pm_look l 110) cq_236).trans rfl⟩
theorem lk_236_113 : Lk 236 113 (.iconst 0) 0 0 (0) := ⟨1, 0, (congrArg (fun l => pm_look l 113) cq_236).trans rfl⟩
theorem lk_236_114 : Lk 236 114 (.istore 6) 0 0 (0) := ⟨2, 0, (congrArg (fun l => pm_look l 114) cq_236).trans rfl⟩
theorem lk_236_116 : Lk 236 116 (.iconst 0) 0 0 (0) := ⟨1, 0, (congrArg (fun l => pm_look l 116) cq_236).trans rfl⟩
theorem lk_236_117 : Lk 236 117 (.istore 7) 0 0 (0) := ⟨2, 0, (congrArg (fun l => pm_look l 117) cq_236).trans rfl⟩
theorem lk_236_119 : Lk 236 119 (.iload 7) 0 0 (0) := ⟨2, 0, (congrArg (fun l => pm_look l 119) cq_236).trans rfl⟩
theorem lk_236_121 : Lk 236 121 (.bipush 10) 0 0 (0) := ⟨2, 0, (congrArg (fun l => pm_look l 121) cq_236).trans rfl⟩
theorem lk_236_123 : Lk 236 123 (.if_icmp .ge 24) 0 0 (0) := ⟨3, 0, (congrArg (fun l => pm_look l 123) cq_236).trans rfl⟩
theorem lk_236_126 : Lk 236 126 (.iload 6) 0 0 (0) := ⟨2, 0, (congrArg (fun l => pm_look l 126) cq_236).trans rfl⟩
theorem lk_236_128 : Lk 236 128 (.aload_n 0) 0 0 (0) := ⟨1, 0, (congrArg (fun l => pm_look l 128) cq_236).trans rfl⟩
theorem lk_236_129 : Lk 236 129 (.iload_n 1) 0 0 (0) := ⟨1, 0, (congrArg (fun l => pm_look l 129) cq_236).trans rfl⟩
theorem lk_236_130 : Lk 236 130 (.iload_n 2) 0 0 (0) := ⟨1, 0, (congrArg (fun l => pm_look l 130) cq_236).trans rfl⟩
theorem lk_236_131 : Lk 236 131 (.iload 7) 0 0 (0) := ⟨2, 0, (congrArg (fun l => pm_look l 131) cq_236).trans rfl⟩
theorem lk_236_133 : Lk 236 133 (.invokevirtual 277) 201 0 (0) := ⟨3, 1590, (congrArg (fun l => pm_look l 133) cq_236).trans rfl⟩
theorem lk_236_136 : Lk 236 136 (.invokestatic 325) 170 0 (0) := ⟨3, 1663, (congrArg (fun l => pm_look l 136) cq_236).trans rfl⟩
theorem lk_236_139 : Lk 236 139 (.istore 6) 0 0 (0) := ⟨2, 0, (congrArg (fun l => pm_look l 139) cq_236).trans rfl⟩
theorem lk_236_141 : Lk 236 141 (.iinc 7 1) 0 0 (0) := ⟨3, 0, (congrArg (fun l => pm_look l 141) cq_236).trans rfl⟩
theorem lk_236_144 : Lk 236 144 (.goto (-25)) 0 0 (0) := ⟨3, 0, (congrArg (fun l => pm_look l 144) cq_236).trans rfl⟩
theorem lk_236_147 : Lk 236 147 (.iconst 0) 0 0 (0) := ⟨1, 0, (congrArg (fun l => pm_look l 147) cq_236).trans rfl⟩
theorem lk_236_148 : Lk 236 148 (.istore 7) 0 0 (0) := ⟨2, 0, (congrArg (fun l => pm_look l 148) cq_236).trans rfl⟩
theorem lk_236_150 : Lk 236 150 (.iload 7) 0 0 (0) := ⟨2, 0, (congrArg (fun l => pm_look l 150) cq_236).trans rfl⟩
theorem lk_236_152 : Lk 236 152 (.bipush 21) 0 0 (0) := ⟨2, 0, (congrArg (fun l => pm_look l 152) cq_236).trans rfl⟩
theorem lk_236_154 : Lk 236 154 (.if_icmp .ge 26) 0 0 (0) := ⟨3, 0, (congrArg (fun l => pm_look l 154) cq_236).trans rfl⟩
theorem lk_236_157 : Lk 236 157 (.aload_n 0) 0 0 (0) := ⟨1, 0, (congrArg (fun l => pm_look l 157) cq_236).trans rfl⟩
theorem lk_236_158 : Lk 236 158 (.getfield 104) 12 48 (2) := ⟨3, 1305, (congrArg (fun l => pm_look l 158) cq_236).trans rfl⟩
theorem lk_236_161 : Lk 236 161 (.bipush 21) 0 0 (0) := ⟨2, 0, (congrArg (fun l => pm_look l 161) cq_236).trans rfl⟩
theorem lk_236_163 : Lk 236 163 (.iload_n 3) 0 0 (0) := ⟨1, 0, (congrArg (fun l => pm_look l 163) cq_236).trans rfl⟩
theorem lk_236_164 : Lk 236 164 (.imul) 0 0 (0) := ⟨1, 0, (congrArg (fun l => pm_look l 164) cq_236).trans rfl⟩
theorem lk_236_165 : Lk 236 165 (.iload 7) 0 0 (0) := ⟨2, 0, (congrArg (fun l => pm_look l 165) cq_236).trans rfl⟩
theorem lk_236_167 : Lk 236 167 (.iadd) 0 0 (0) := ⟨1, 0, (congrArg (fun l => pm_look l 167) cq_236).trans rfl⟩
theorem lk_236_168 : Lk 236 168 (.iload 5) 0 0 (0) := ⟨2, 0, (congrArg (fun l => pm_look l 168) cq_236).trans rfl⟩
theorem lk_236_170 : Lk 236 170 (.iload 6) 0 0 (0) := ⟨2, 0, (congrArg (fun l => pm_look l 170) cq_236).trans rfl⟩
theorem lk_236_172 : Lk 236 172 (.isub) 0 0 (0) := ⟨1, 0, (congrArg (fun l => pm_look l 172) cq_236).trans rfl⟩
theorem lk_236_173 : Lk 236 173 (.iastore) 0 0 (0) := ⟨1, 0, (congrArg (fun l => pm_look l 173) cq_236).trans rfl⟩
theorem lk_236_174 : Lk 236 174 (.iinc 7 1) 0 0 (0) := ⟨3, 0, (congrArg (fun l => pm_look l 174) cq_236).trans rfl⟩
theorem lk_236_177 : Lk 236 177 (.goto (-27)) 0 0 (0) := ⟨3, 0, (congrArg (fun l => pm_look l 177) cq_236).trans rfl⟩
theorem lk_236_180 : Lk 236 180 (.iload_n 1) 0 0 (0) := ⟨1, 0, (congrArg (fun l => pm_look l 180) cq_236).trans rfl⟩
theorem lk_236_181 : Lk 236 181 (.iload_n 1) 0 0 (0) := ⟨1, 0, (congrArg (fun l => pm_look l 181) cq_236).trans rfl⟩
theorem lk_236_182 : Lk 236 182 (.ineg) 0 0 (0) := ⟨1, 0, (congrArg (fun l => pm_look l 182) cq_236).trans rfl⟩
theorem lk_236_183 : Lk 236 183 (.iand) 0 0 (0) := ⟨1, 0, (congrArg (fun l => pm_look l 183) cq_236).trans rfl⟩
theorem lk_236_184 : Lk 236 184 (.istore 7) 0 0 (0) := ⟨2, 0, (congrArg (fun l => pm_look l 184) cq_236).trans rfl⟩
theorem lk_236_186 : Lk 236 186 (.iconst 1) 0 0 (0) := ⟨1, 0, (congrArg (fun l => pm_look l 186) cq_236).trans rfl⟩
theorem lk_236_187 : Lk 236 187 (.istore 8) 0 0 (0) := ⟨2, 0, (congrArg (fun l => pm_look l 187) cq_236).trans rfl⟩
theorem lk_236_189 : Lk 236 189 (.iload 8) 0 0 (0) := ⟨2, 0, (congrArg (fun l => pm_look l 189) cq_236).trans rfl⟩
theorem lk_236_191 : Lk 236 191 (.iload_n 1) 0 0 (0) := ⟨1, 0, (congrArg (fun l => pm_look l 191) cq_236).trans rfl⟩
theorem lk_236_192 : Lk 236 192 (.if_icmp .ge 52) 0 0 (0) := ⟨3, 0, (congrArg (fun l => pm_look l 192) cq_236).trans rfl⟩
theorem lk_236_195 : Lk 236 195 (.iload 8) 0 0 (0) := ⟨2, 0, (congrArg (fun l => pm_look l 195) cq_236).trans rfl⟩
theorem lk_236_197 : Lk 236 197 (.iload_n 1) 0 0 (0) := ⟨1, 0, (congrArg (fun l => pm_look l 197) cq_236).trans rfl⟩
theorem lk_236_198 : Lk 236 198 (.iconst (-1)) 0 0 (0) := ⟨1, 0, (congrArg (fun l => pm_look l 198) cq_236).trans rfl⟩
theorem lk_236_199 : Lk 236 199 (.ixor) 0 0 (0) := ⟨1, 0, (congrArg (fun l => pm_look l 199) cq_236).trans rfl⟩
theorem lk_236_200 : Lk 236 200 (.iand) 0 0 (0) := ⟨1, 0, (congrArg (fun l => pm_look l 200) cq_236).trans rfl⟩
theorem lk_236_201 : Lk 236 201 (.ifCond .ne 37) 0 0 (0) := ⟨3, 0, (congrArg (fun l => pm_look l 201) cq_236).trans rfl⟩
theorem lk_236_204 : Lk 236 204 (.iload 8) 0 0 (0) := ⟨2, 0, (congrArg (fun l => pm_look l 204) cq_236).trans rfl⟩
theorem lk_236_206 : Lk 236 206 (.iload 7) 0 0 (0) := ⟨2, 0, (congrArg (fun l => pm_look l 206) cq_236).trans rfl⟩
theorem lk_236_208 : Lk 236 208 (.iand) 0 0 (0) := ⟨1, 0, (congrArg (fun l => pm_look l 208) cq_236).trans rfl⟩
theorem lk_236_209 : Lk 236 209 (.ifCond .eq 29) 0 0 (0) := ⟨3, 0, (congrArg (fun l => pm_look l 209) cq_236).trans rfl⟩
theorem lk_236_212 : Lk 236 212 (.aload_n 0) 0 0 (0) := ⟨1, 0, (congrArg (fun l => pm_look l 212) cq_236).trans rfl⟩
theorem lk_236_213 : Lk 236 213 (.iload_n 3) 0 0 (0) := ⟨1, 0, (congrArg (fun l => pm_look l 213) cq_236).trans rfl⟩
theorem lk_236_214 : Lk 236 214 (.iconst 1) 0 0 (0) := ⟨1, 0, (congrArg (fun l => pm_look l 214) cq_236).trans rfl⟩
theorem lk_236_215 : Lk 236 215 (.iload 8) 0 0 (0) := ⟨2, 0, (congrArg (fun l => pm_look l 215) cq_236).trans rfl⟩
theorem lk_236_217 : Lk 236 217 (.iload_n 2) 0 0 (0) := ⟨1, 0, (congrArg (fun l => pm_look l 217) cq_236).trans rfl⟩
theorem lk_236_218 : Lk 236 218 (.invokestatic 366) 233 0 (0) := ⟨3, 1733, (congrArg (fun l => pm_look l 218) cq_236).trans rfl⟩
theorem lk_236_221 : Lk 236 221 (.iload_n 1) 0 0 (0) := ⟨1, 0, (congrArg (fun l => pm_look l 221) cq_236).trans rfl⟩
set_option maxRecDepth 100000 in
theorem lk_236_222 : Lk 236 222 (.iload 8) 0 0 (0) := ⟨2, 0, (congrArg (fun l => pm_look l 222) cq_236).trans rfl⟩
set_option maxRecDepth 100000 in
theorem lk_236_224 : Lk 236 224 (.iconst (-1)) 0 0 (0) := ⟨1, 0, (congrArg (fun l => pm_look l 224) cq_236).trans rfl⟩
set_option maxRecDepth 100000 in
theorem lk_236_225 : Lk 236 225 (.ixor) 0 0 (0) := ⟨1, 0, (congrArg (fun l => pm_look l 225) cq_236).trans rfl⟩
set_option maxRecDepth 100000 in
theorem lk_236_226 : Lk 236 226 (.iand) 0 0 (0) := ⟨1, 0, (congrArg (fun l => pm_look l 226) cq_236).trans rfl⟩
set_option maxRecDepth 100000 in
theorem lk_236_227 : Lk 236 227 (.iload_n 2) 0 0 (0) := ⟨1, 0, (congrArg (fun l => pm_look l 227) cq_236).trans rfl⟩
set_option maxRecDepth 100000 in
theorem lk_236_228 : Lk 236 228 (.invokestatic 366) 233 0 (0) := ⟨3, 1733, (congrArg (fun l => pm_look l 228) cq_236).trans rfl⟩
set_option maxRecDepth 100000 in
theorem lk_236_231 : Lk 236 231 (.iload 5) 0 0 (0) := ⟨2, 0, (congrArg (fun l => pm_look l 231) cq_236).trans rfl⟩
set_option maxRecDepth 100000 in
theorem lk_236_233 : Lk 236 233 (.iload 4) 0 0 (0) := ⟨2, 0, (congrArg (fun l => pm_look l 233) cq_236).trans rfl⟩
set_option maxRecDepth 100000 in
theorem lk_236_235 : Lk 236 235 (.invokevirtual 372) 237 0 (0) := ⟨3, 1740, (congrArg (fun l => pm_look l 235) cq_236).trans rfl⟩
set_option maxRecDepth 100000 in
theorem lk_236_238 : Lk 236 238 (.iinc 8 1) 0 0 (0) := ⟨3, 0, (congrArg (fun l => pm_look l 238) cq_236).trans rfl⟩
set_option maxRecDepth 100000 in
theorem lk_236_241 : Lk 236 241 (.goto (-52)) 0 0 (0) := ⟨3, 0, (congrArg (fun l => pm_look l 241) cq_236).trans rfl⟩
set_option maxRecDepth 100000 in
theorem lk_236_244 : Lk 236 244 (.iload_n 2) 0 0 (0) := ⟨1, 0, (congrArg (fun l => pm_look l 244) cq_236).trans rfl⟩
set_option maxRecDepth 100000 in
theorem lk_236_245 : Lk 236 245 (.iload_n 2) 0 0 (0) := ⟨1, 0, (congrArg (fun l => pm_look l 245) cq_236).trans rfl⟩
set_option maxRecDepth 100000 in
theorem lk_236_246 : Lk 236 246 (.ineg) 0 0 (0) := ⟨1, 0, (congrArg (fun l => pm_look l 246) cq_236).trans rfl⟩
set_option maxRecDepth 100000 in
theorem lk_236_247 : Lk 236 247 (.iand) 0 0 (0) := ⟨1, 0, (congrArg (fun l => pm_look l 247) cq_236).trans rfl⟩
set_option maxRecDepth 100000 in
theorem lk_236_248 : Lk 236 248 (.istore 7) 0 0 (0) := ⟨2, 0, (congrArg (fun l => pm_look l 248) cq_236).trans rfl⟩
set_option maxRecDepth 100000 in
theorem lk_236_250 : Lk 236 250 (.iconst 1) 0 0 (0) := ⟨1, 0, (congrArg (fun l => pm_look l 250) cq_236).trans rfl⟩
set_option maxRecDepth 100000 in
theorem lk_236_251 : Lk 236 251 (.istore 8) 0 0 (0) := ⟨2, 0, (congrArg (fun l => pm_look l 251) cq_236).trans rfl⟩
set_option maxRecDepth 100000 in
theorem lk_236_253 : Lk 236 253 (.iload 8) 0 0 (0) := ⟨2, 0, (congrArg (fun l => pm_look l 253) cq_236).trans rfl⟩
set_option maxRecDepth 100000 in
theorem lk_236_255 : Lk 236 255 (.iload_n 2) 0 0 (0) := ⟨1, 0, (congrArg (fun l => pm_look l 255) cq_236).trans rfl⟩
set_option maxRecDepth 100000 in
theorem lk_236_256 : Lk 236 256 (.if_icmp .ge 52) 0 0 (0) := ⟨3, 0, (congrArg (fun l => pm_look l 256) cq_236).trans rfl⟩
set_option maxRecDepth 100000 in
theorem lk_236_259 : Lk 236 259 (.iload 8) 0 0 (0) := ⟨2, 0, (congrArg (fun l => pm_look l 259) cq_236).trans rfl⟩
set_option maxRecDepth 100000 in
theorem lk_236_261 : Lk 236 261 (.iload_n 2) 0 0 (0) := ⟨1, 0, (congrArg (fun l => pm_look l 261) cq_236).trans rfl⟩
set_option maxRecDepth 100000 in
theorem lk_236_262 : Lk 236 262 (.iconst (-1)) 0 0 (0) := ⟨1, 0, (congrArg (fun l => pm_look l 262) cq_236).trans rfl⟩
set_option maxRecDepth 100000 in
theorem lk_236_263 : Lk 236 263 (.ixor) 0 0 (0) := ⟨1, 0, (congrArg (fun l => pm_look l 263) cq_236).trans rfl⟩
set_option maxRecDepth 100000 in
theorem lk_236_264 : Lk 236 264 (.iand) 0 0 (0) := ⟨1, 0, (congrArg (fun l => pm_look l 264) cq_236).trans rfl⟩
set_option maxRecDepth 100000 in
theorem lk_236_265 : Lk 236 265 (.ifCond .ne 37) 0 0 (0) := ⟨3, 0, (congrArg (fun l => pm_look l 265) cq_236).trans rfl⟩
set_option maxRecDepth 100000 in
theorem lk_236_268 : Lk 236 268 (.iload 8) 0 0 (0) := ⟨2, 0, (congrArg (fun l => pm_look l 268) cq_236).trans rfl⟩
set_option maxRecDepth 100000 in
theorem lk_236_270 : Lk 236 270 (.iload 7) 0 0 (0) := ⟨2, 0, (congrArg (fun l => pm_look l 270) cq_236).trans rfl⟩
set_option maxRecDepth 100000 in
theorem lk_236_272 : Lk 236 272 (.iand) 0 0 (0) := ⟨1, 0, (congrArg (fun l => pm_look l 272) cq_236).trans rfl⟩
set_option maxRecDepth 100000 in
theorem lk_236_273 : Lk 236 273 (.ifCond .eq 29) 0 0 (0) := ⟨3, 0, (congrArg (fun l => pm_look l 273) cq_236).trans rfl⟩
set_option maxRecDepth 100000 in
theorem lk_236_276 : Lk 236 276 (.aload_n 0) 0 0 (0) := ⟨1, 0, (congrArg (fun l => pm_look l 276) cq_236).trans rfl⟩
set_option maxRecDepth 100000 in
theorem lk_236_277 : Lk 236 277 (.iload_n 3) 0 0 (0) := ⟨1, 0, (congrArg (fun l => pm_look l 277) cq_236).trans rfl⟩
set_option maxRecDepth 100000 in
theorem lk_236_278 : Lk 236 278 (.iconst 2) 0 0 (0) := ⟨1, 0, (congrArg (fun l => pm_look l 278) cq_236).trans rfl⟩
set_option maxRecDepth 100000 in
theorem lk_236_279 : Lk 236 279 (.iload_n 1) 0 0 (0) := ⟨1, 0, (congrArg (fun l => pm_look l 279) cq_236).trans rfl⟩
set_option maxRecDepth 100000 in
theorem lk_236_280 : Lk 236 280 (.iload 8) 0 0 (0) := ⟨2, 0, (congrArg (fun l => pm_look l 280) cq_236).trans rfl⟩
set_option maxRecDepth 100000 in
theorem lk_236_282 : Lk 236 282 (.invokestatic 366) 233 0 (0) := ⟨3, 1733, (congrArg (fun l => pm_look l 282) cq_236).trans rfl⟩
set_option maxRecDepth 100000 in
theorem lk_236_285 : Lk 236 285 (.iload_n 1) 0 0 (0) := ⟨1, 0, (congrArg (fun l => pm_look l 285) cq_236).trans rfl⟩
set_option maxRecDepth 100000 in
theorem lk_236_286 : Lk 236 286 (.iload_n 2) 0 0 (0) := ⟨1, 0, (congrArg (fun l => pm_look l 286) cq_236).trans rfl⟩
set_option maxRecDepth 100000 in
theorem lk_236_287 : Lk 236 287 (.iload 8) 0 0 (0) := ⟨2, 0, (congrArg (fun l => pm_look l 287) cq_236).trans rfl⟩
set_option maxRecDepth 100000 in
theorem lk_236_289 : Lk 236 289 (.iconst (-1)) 0 0 (0) := ⟨1, 0, (congrArg (fun l => pm_look l 289) cq_236).trans rfl⟩
set_option maxRecDepth 100000 in
theorem lk_236_290 : Lk 236 290 (.ixor) 0 0 (0) := ⟨1, 0, (congrArg (fun l => pm_look l 290) cq_236).trans rfl⟩
set_option maxRecDepth 100000 in
theorem lk_236_291 : Lk 236 291 (.iand) 0 0 (0) := ⟨1, 0, (congrArg (fun l => pm_look l 291) cq_236).trans rfl⟩
set_option maxRecDepth 100000 in
theorem lk_236_292 : Lk 236 292 (.invokestatic 366) 233 0 (0) := ⟨3, 1733, (congrArg (fun l => pm_look l 292) cq_236).trans rfl⟩
set_option maxRecDepth 100000 in
theorem lk_236_295 : Lk 236 295 (.iload 5) 0 0 (0) := ⟨2, 0, (congrArg (fun l => pm_look l 295) cq_236).trans rfl⟩
set_option maxRecDepth 100000 in
theorem lk_236_297 : Lk 236 297 (.iload 4) 0 0 (0) := ⟨2, 0, (congrArg (fun l => pm_look l 297) cq_236).trans rfl⟩
set_option maxRecDepth 100000 in
theorem lk_236_299 : Lk 236 299 (.invokevirtual 372) 237 0 (0) := ⟨3, 1740, (congrArg (fun l => pm_look l 299) cq_236).trans rfl⟩
set_option maxRecDepth 100000 in
theorem lk_236_302 : Lk 236 302 (.iinc 8 1) 0 0 (0) := ⟨3, 0, (congrArg (fun l => pm_look l 302) cq_236).trans rfl⟩
set_option maxRecDepth 100000 in
theorem lk_236_305 : Lk 236 305 (.goto (-52)) 0 0 (0) := ⟨3, 0, (congrArg (fun l => pm_look l 305) cq_236).trans rfl⟩
set_option maxRecDepth 100000 in
theorem lk_236_308 : Lk 236 308 (.return_) 0 0 (0) := ⟨1, 0, (congrArg (fun l => pm_look l 308) cq_236).trans rfl⟩
theorem cq_237 : pm_code 237 = cd_237 := rfl
theorem lk_237_0 : Lk 237 0 (.aload_n 0) 0 0 (0) := ⟨1, 0, (congrArg (fun l => pm_look l 0) cq_237).trans rfl⟩
theorem lk_237_1 : Lk 237 1 (.getfield 26) 12 10 (2) := ⟨3, 1267, (congrArg (fun l => pm_look l 1) cq_237).trans rfl⟩
theorem lk_237_4 : Lk 237 4 (.iload_n 2) 0 0 (0) := ⟨1, 0, (congrArg (fun l => pm_look l 4) cq_237).trans rfl⟩
theorem lk_237_5 : Lk 237 5 (.iaload) 0 0 (0) := ⟨1, 0, (congrArg (fun l => pm_look l 5) cq_237).trans rfl⟩
theorem lk_237_6 : Lk 237 6 (.istore 7) 0 0 (0) := ⟨2, 0, (congrArg (fun l => pm_look l 6) cq_237).trans rfl⟩
theorem lk_237_8 : Lk 237 8 (.iload 7) 0 0 (0) := ⟨2, 0, (congrArg (fun l => pm_look l 8) cq_237).trans rfl⟩
theorem lk_237_10 : Lk 237 10 (.istore 8) 0 0 (0) := ⟨2, 0, (congrArg (fun l => pm_look l 10) cq_237).trans rfl⟩
theorem lk_237_12 : Lk 237 12 (.iload 8) 0 0 (0) := ⟨2, 0, (congrArg (fun l => pm_look l 12) cq_237).trans rfl⟩
theorem lk_237_14 : Lk 237 14 (.bipush 21) 0 0 (0) := ⟨2, 0, (congrArg (fun l => pm_look l 14) cq_237).trans rfl⟩
theorem lk_237_16 : Lk 237 16 (.if_icmp .ge 68) 0 0 (0) := ⟨3, 0, (congrArg (fun l => pm_look l 16) cq_237).trans rfl⟩
theorem lk_237_19 : Lk 237 19 (.aload_n 0) 0 0 (0) := ⟨1, 0, (congrArg (fun l => pm_look l 19) cq_237).trans rfl⟩
theorem lk_237_20 : Lk 237 20 (.getfield 104) 12 48 (2) := ⟨3, 1305, (congrArg (fun l => pm_look l 20) cq_237).trans rfl⟩
theorem lk_237_23 : Lk 237 23 (.bipush 21) 0 0 (0) := ⟨2, 0, (congrArg (fun l => pm_look l 23) cq_237).trans rfl⟩
theorem lk_237_25 : Lk 237 25 (.iload_n 1) 0 0 (0) := ⟨1, 0, (congrArg (fun l => pm_look l 25) cq_237).trans rfl⟩
theorem lk_237_26 : Lk 237 26 (.imul) 0 0 (0) := ⟨1, 0, (congrArg (fun l => pm_look l 26) cq_237).trans rfl⟩
theorem lk_237_27 : Lk 237 27 (.iload 8) 0 0 (0) := ⟨2, 0, (congrArg (fun l => pm_look l 27) cq_237).trans rfl⟩
theorem lk_237_29 : Lk 237 29 (.iadd) 0 0 (0) := ⟨1, 0, (congrArg (fun l => pm_look l 29) cq_237).trans rfl⟩
theorem lk_237_30 : Lk 237 30 (.aload_n 0) 0 0 (0) := ⟨1, 0, (congrArg (fun l => pm_look l 30) cq_237).trans rfl⟩
theorem lk_237_31 : Lk 237 31 (.getfield 104) 12 48 (2) := ⟨3, 1305, (congrArg (fun l => pm_look l 31) cq_237).trans rfl⟩
theorem lk_237_34 : Lk 237 34 (.bipush 21) 0 0 (0) := ⟨2, 0, (congrArg (fun l => pm_look l 34) cq_237).trans rfl⟩
theorem lk_237_36 : Lk 237 36 (.iload_n 1) 0 0 (0) := ⟨1, 0, (congrArg (fun l => pm_look l 36) cq_237).trans rfl⟩
theorem lk_237_37 : Lk 237 37 (.imul) 0 0 (0) := ⟨1, 0, (congrArg (fun l => pm_look l 37) cq_237).trans rfl⟩
theorem lk_237_38 : Lk 237 38 (.iload 8) 0 0 (0) := ⟨2, 0, (congrArg (fun l => pm_look l 38) cq_237).trans rfl⟩
theorem lk_237_40 : Lk 237 40 (.iadd) 0 0 (0) := ⟨1, 0, (congrArg (fun l => pm_look l 40) cq_237).trans rfl⟩
theorem lk_237_41 : Lk 237 41 (.iaload) 0 0 (0) := ⟨1, 0, (congrArg (fun l => pm_look l 41) cq_237).trans rfl⟩
theorem lk_237_42 : Lk 237 42 (.aload_n 0) 0 0 (0) := ⟨1, 0, (congrArg (fun l => pm_look l 42) cq_237).trans rfl⟩
theorem lk_237_43 : Lk 237 43 (.getfield 104) 12 48 (2) := ⟨3, 1305, (congrArg (fun l => pm_look l 43) cq_237).trans rfl⟩
theorem lk_237_46 : Lk 237 46 (.bipush 21) 0 0 (0) := ⟨2, 0, (congrArg (fun l => pm_look l 46) cq_237).trans rfl⟩
theorem lk_237_48 : Lk 237 48 (.iload_n 3) 0 0 (0) := ⟨1, 0, (congrArg (fun l => pm_look l 48) cq_237).trans rfl⟩
theorem lk_237_49 : Lk 237 49 (.imul) 0 0 (0) := ⟨1, 0, (congrArg (fun l => pm_look l 49) cq_237).trans rfl⟩
theorem lk_237_50 : Lk 237 50 (.iload 8) 0 0 (0) := ⟨2, 0, (congrArg (fun l => pm_look l 50) cq_237).trans rfl⟩
theorem lk_237_52 : Lk 237 52 (.iadd) 0 0 (0) := ⟨1, 0, (congrArg (fun l => pm_look l 52) cq_237).trans rfl⟩
theorem lk_237_53 : Lk 237 53 (.iload 7) 0 0 (0) := ⟨2, 0, (congrArg (fun l => pm_look l 53) cq_237).trans rfl⟩
theorem lk_237_55 : Lk 237 55 (.isub) 0 0 (0) := ⟨1, 0, (congrArg (fun l => pm_look l 55) cq_237).trans rfl⟩
theorem lk_237_56 : Lk 237 56 (.iaload) 0 0 (0) := ⟨1, 0, (congrArg (fun l => pm_look l 56) cq_237).trans rfl⟩
theorem lk_237_57 : Lk 237 57 (.aload_n 0) 0 0 (0) := ⟨1, 0, (congrArg (fun l => pm_look l 57) cq_237).trans rfl⟩
theorem lk_237_58 : Lk 237 58 (.getfield 104) 12 48 (2) := ⟨3, 1305, (congrArg (fun l => pm_look l 58) cq_237).trans rfl⟩
theorem lk_237_61 : Lk 237 61 (.bipush 21) 0 0 (0) := ⟨2, 0, (congrArg (fun l => pm_look l 61) cq_237).trans rfl⟩
theorem lk_237_63 : Lk 237 63 (.iload 4) 0 0 (0) := ⟨2, 0, (congrArg (fun l => pm_look l 63) cq_237).trans rfl⟩
theorem lk_237_65 : Lk 237 65 (.imul) 0 0 (0) := ⟨1, 0, (congrArg (fun l => pm_look l 65) cq_237).trans rfl⟩
theorem lk_237_66 : Lk 237 66 (.iload 8) 0 0 (0) := ⟨2, 0, (congrArg (fun l => pm_look l 66) cq_237).trans rfl⟩
theorem lk_237_68 : Lk 237 68 (.iadd) 0 0 (0) := ⟨1, 0, (congrArg (fun l => pm_look l 68) cq_237).trans rfl⟩
theorem lk_237_69 : Lk 237 69 (.iload 7) 0 0 (0) := ⟨2, 0, (congrArg (fun l => pm_look l 69) cq_237).trans rfl⟩
theorem lk_237_71 : Lk 237 71 (.isub) 0 0 (0) := ⟨1, 0, (congrArg (fun l => pm_look l 71) cq_237).trans rfl⟩
theorem lk_237_72 : Lk 237 72 (.iaload) 0 0 (0) := ⟨1, 0, (congrArg (fun l => pm_look l 72) cq_237).trans rfl⟩
theorem lk_237_73 : Lk 237 73 (.iadd) 0 0 (0) := ⟨1, 0, (congrArg (fun l => pm_look l 73) cq_237).trans rfl⟩
theorem lk_237_74 : Lk 237 74 (.invokestatic 376) 169 0 (0) := ⟨3, 1744, (congrArg (fun l => pm_look l 74) cq_237).trans rfl⟩
theorem lk_237_77 : Lk 237 77 (.iastore) 0 0 (0) := ⟨1, 0, (congrArg (fun l => pm_look l 77) cq_237).trans rfl⟩
theorem lk_237_78 : Lk 237 78 (.iinc 8 1) 0 0 (0) := ⟨3, 0, (congrArg (fun l => pm_look l 78) cq_237).trans rfl⟩
theorem lk_237_81 : Lk 237 81 (.goto (-69)) 0 0 (0) := ⟨3, 0, (congrArg (fun l => pm_look l 81) cq_237).trans rfl⟩
theorem lk_237_84 : Lk 237 84 (.iload 6) 0 0 (0) := ⟨2, 0, (congrArg (fun l => pm_look l 84) cq_237).trans rfl⟩
theorem lk_237_86 : Lk 237 86 (.ifCond .eq 4) 0 0 (0) := ⟨3, 0, (congrArg (fun l => pm_look l 86) cq_237).trans rfl⟩
theorem lk_237_89 : Lk 237 89 (.return_) 0 0 (0) := ⟨1, 0, (congrArg (fun l => pm_look l 89) cq_237).trans rfl⟩
theorem lk_237_90 : Lk 237 90 (.aload_n 0) 0 0 (0) := ⟨1, 0, (congrArg (fun l => pm_look l 90) cq_237).trans rfl⟩
theorem lk_237_91 : Lk 237 91 (.getfield 96) 12 46 (2) := ⟨3, 1303, (congrArg (fun l => pm_look l 91) cq_237).trans rfl⟩
theorem lk_237_94 : Lk 237 94 (.iload_n 1) 0 0 (0) := ⟨1, 0, (congrArg (fun l => pm_look l 94) cq_237).trans rfl⟩
theorem lk_237_95 : Lk 237 95 (.aload_n 0) 0 0 (0) := ⟨1, 0, (congrArg (fun l => pm_look l 95) cq_237).trans rfl⟩
theorem lk_237_96 : Lk 237 96 (.getfield 96) 12 46 (2) := ⟨3, 1303, (congrArg (fun l => pm_look l 96) cq_237).trans rfl⟩
theorem lk_237_99 : Lk 237 99 (.iload_n 1) 0 0 (0) := ⟨1, 0, (congrArg (fun l => pm_look l 99) cq_237).trans rfl⟩
theorem lk_237_100 : Lk 237 100 (.iaload) 0 0 (0) := ⟨1, 0, (congrArg (fun l => pm_look l 100) cq_237).trans rfl⟩
theorem lk_237_101 : Lk 237 101 (.iload 7) 0 0 (0) := ⟨2, 0, (congrArg (fun l => pm_look l 101) cq_237).trans rfl⟩
theorem lk_237_103 : Lk 237 103 (.aload_n 0) 0 0 (0) := ⟨1, 0, (congrArg (fun l => pm_look l 103) cq_237).trans rfl⟩
theorem lk_237_104 : Lk 237 104 (.getfield 96) 12 46 (2) := ⟨3, 1303, (congrArg (fun l => pm_look l 104) cq_237).trans rfl⟩
theorem lk_237_107 : Lk 237 107 (.iload_n 3) 0 0 (0) := ⟨1, 0, (congrArg (fun l => pm_look l 107) cq_237).trans rfl⟩
theorem lk_237_108 : Lk 237 108 (.iaload) 0 0 (0) := ⟨1, 0, (congrArg (fun l => pm_look l 108) cq_237).trans rfl⟩
theorem lk_237_109 : Lk 237 109 (.aload_n 0) 0 0 (0) := ⟨1, 0, (congrArg (fun l => pm_look l 109) cq_237).trans rfl⟩
theorem lk_237_110 : Lk 237 110 (.getfield 96) 12 46 (2) := ⟨3, 1303, (congrArg (fun l => pm_look l 110) cq_237).trans rfl⟩
theorem lk_237_113 : Lk 237 113 (.iload 4) 0 0 (0) := ⟨2, 0, (congrArg (fun l => pm_look l 113) cq_237).trans rfl⟩
theorem lk_237_115 : Lk 237 115 (.iaload) 0 0 (0) := ⟨1, 0, (congrArg (fun l => pm_look l 115) cq_237).trans rfl⟩
theorem lk_237_116 : Lk 237 116 (.invokestatic 325) 170 0 (0) := ⟨3, 1663, (congrArg (fun l => pm_look l 116) cq_237).trans rfl⟩
theorem lk_237_119 : Lk 237 119 (.iadd) 0 0 (0) := ⟨1, 0, (congrArg (fun l => pm_look l 119) cq_237).trans rfl⟩
theorem lk_237_120 : Lk 237 120 (.invokestatic 376) 169 0 (0) := ⟨3, 1744, (congrArg (fun l => pm_look l 120) cq_237).trans rfl⟩
theorem lk_237_123 : Lk 237 123 (.iastore) 0 0 (0) := ⟨1, 0, (congrArg (fun l => pm_look l 123) cq_237).trans rfl⟩
theorem lk_237_124 : Lk 237 124 (.aload_n 0) 0 0 (0) := ⟨1, 0, (congrArg (fun l => pm_look l 124) cq_237).trans rfl⟩
theorem lk_237_125 : Lk 237 125 (.getfield 96) 12 46 (2) := ⟨3, 1303, (congrArg (fun l => pm_look l 125) cq_237).trans rfl⟩
theorem lk_237_128 : Lk 237 128 (.sipush 4096) 0 0 (0) := ⟨3, 0, (congrArg (fun l => pm_look l 128) cq_237).trans rfl⟩
theorem lk_237_131 : Lk 237 131 (.iload_n 1) 0 0 (0) := ⟨1, 0, (congrArg (fun l => pm_look l 131) cq_237).trans rfl⟩
theorem lk_237_132 : Lk 237 132 (.iadd) 0 0 (0) := ⟨1, 0, (congrArg (fun l => pm_look l 132) cq_237).trans rfl⟩
theorem lk_237_133 : Lk 237 133 (.aload_n 0) 0 0 (0) := ⟨1, 0, (congrArg (fun l => pm_look l 133) cq_237).trans rfl⟩
theorem lk_237_134 : Lk 237 134 (.getfield 96) 12 46 (2) := ⟨3, 1303, (congrArg (fun l => pm_look l 134) cq_237).trans rfl⟩
theorem lk_237_137 : Lk 237 137 (.sipush 4096) 0 0 (0) := ⟨3, 0, (congrArg (fun l => pm_look l 137) cq_237).trans rfl⟩
theorem lk_237_140 : Lk 237 140 (.iload_n 1) 0 0 (0) := ⟨1, 0, (congrArg (fun l => pm_look l 140) cq_237).trans rfl⟩
theorem lk_237_141 : Lk 237 141 (.iadd) 0 0 (0) := ⟨1, 0, (congrArg (fun l => pm_look l 141) cq_237).trans rfl⟩
theorem lk_237_142 : Lk 237 142 (.iaload) 0 0 (0) := ⟨1, 0, (congrArg (fun l => pm_look l 142) cq_237).trans rfl⟩
theorem lk_237_143 : Lk 237 143 (.aload_n 0) 0 0 (0) := ⟨1, 0, (congrArg (fun l => pm_look l 143) cq_237).trans rfl⟩
theorem lk_237_144 : Lk 237 144 (.getfield 96) 12 46 (2) := ⟨3, 1303, (congrArg (fun l => pm_look l 144) cq_237).trans rfl⟩
theorem lk_237_147 : Lk 237 147 (.sipush 4096) 0 0 (0) := ⟨3, 0, (congrArg (fun l => pm_look l 147) cq_237).trans rfl⟩
theorem lk_237_150 : Lk 237 150 (.iload_n 3) 0 0 (0) := ⟨1, 0, (congrArg (fun l => pm_look l 150) cq_237).trans rfl⟩
theorem lk_237_151 : Lk 237 151 (.iadd) 0 0 (0) := ⟨1, 0, (congrArg (fun l => pm_look l 151) cq_237).trans rfl⟩
theorem lk_237_152 : Lk 237 152 (.iaload) 0 0 (0) := ⟨1, 0, (congrArg (fun l => pm_look l 152) cq_237).trans rfl⟩
theorem lk_237_153 : Lk 237 153 (.aload_n 0) 0 0 (0) := ⟨1, 0, (congrArg (fun l => pm_look l 153) cq_237).trans rfl⟩
theorem lk_237_154 : Lk 237 154 (.getfield 96) 12 46 (2) := ⟨3, 1303, (congrArg (fun l => pm_look l 154) cq_237).trans rfl⟩
theorem lk_237_157 : Lk 237 157 (.sipush 4096) 0 0 (0) := ⟨3, 0, (congrArg (fun l => pm_look l 157) cq_237).trans rfl⟩
theorem lk_237_160 : Lk 237 160 (.iload 4) 0 0 (0) := ⟨2, 0, (congrArg (fun l => pm_look l 160) cq_237).trans rfl⟩
theorem lk_237_162 : Lk 237 162 (.iadd) 0 0 (0) := ⟨1, 0, (congrArg (fun l => pm_look l 162) cq_237).trans rfl⟩
theorem lk_237_163 : Lk 237 163 (.iaload) 0 0 (0) := ⟨1, 0, (congrArg (fun l => pm_look l 163) cq_237).trans rfl⟩
theorem lk_237_164 : Lk 237 164 (.iadd) 0 0 (0) := ⟨1, 0, (congrArg (fun l => pm_look l 164) cq_237).trans rfl⟩
theorem lk_237_165 : Lk 237 165 (.invokestatic 376) 169 0 (0) := ⟨3, 1744, (congrArg (fun l => pm_look l 165) cq_237).trans rfl⟩
theorem lk_237_168 : Lk 237 168 (.iastore) 0 0 (0) := ⟨1, 0, (congrArg (fun l => pm_look l 168) cq_237).trans rfl⟩
theorem lk_237_169 : Lk 237 169 (.aload_n 0) 0 0 (0) := ⟨1, 0, (congrArg (fun l => pm_look l 169) cq_237).trans rfl⟩
theorem lk_237_170 : Lk 237 170 (.getfield 96) 12 46 (2) := ⟨3, 1303, (congrArg (fun l => pm_look l 170) cq_237).trans rfl⟩
theorem lk_237_173 : Lk 237 173 (.sipush 8192) 0 0 (0) := ⟨3, 0, (congrArg (fun l => pm_look l 173) cq_237).trans rfl⟩
theorem lk_237_176 : Lk 237 176 (.iload_n 1) 0 0 (0) := ⟨1, 0, (congrArg (fun l => pm_look l 176) cq_237).trans rfl⟩
theorem lk_237_177 : Lk 237 177 (.iadd) 0 0 (0) := ⟨1, 0, (congrArg (fun l => pm_look l 177) cq_237).trans rfl⟩
theorem lk_237_178 : Lk 237 178 (.aload_n 0) 0 0 (0) := ⟨1, 0, (congrArg (fun l => pm_look l 178) cq_237).trans rfl⟩
theorem lk_237_179 : Lk 237 179 (.getfield 96) 12 46 (2) := ⟨3, 1303, (congrArg (fun l => pm_look l 179) cq_237).trans rfl⟩
theorem lk_237_182 : Lk 237 182 (.sipush 8192) 0 0 (0) := ⟨3, 0, (congrArg (fun l => pm_look l 182) cq_237).trans rfl⟩
theorem lk_237_185 : Lk 237 185 (.iload_n 1) 0 0 (0) := ⟨1, 0, (congrArg (fun l => pm_look l 185) cq_237).trans rfl⟩
theorem lk_237_186 : Lk 237 186 (.iadd) 0 0 (0) := ⟨1, 0, (congrArg (fun l => pm_look l 186) cq_237).trans rfl⟩
theorem lk_237_187 : Lk 237 187 (.iaload) 0 0 (0) := ⟨1, 0, (congrArg (fun l => pm_look l 187) cq_237).trans rfl⟩
theorem lk_237_188 : Lk 237 188 (.iload 7) 0 0 (0) := ⟨2, 0, (congrArg (fun l => pm_look l 188) cq_237).trans rfl⟩
theorem lk_237_190 : Lk 237 190 (.iload 5) 0 0 (0) := ⟨2, 0, (congrArg (fun l => pm_look l 190) cq_237).trans rfl⟩
theorem lk_237_192 : Lk 237 192 (.imul) 0 0 (0) := ⟨1, 0, (congrArg (fun l => pm_look l 192) cq_237).trans rfl⟩
theorem lk_237_193 : Lk 237 193 (.aload_n 0) 0 0 (0) := ⟨1, 0, (congrArg (fun l => pm_look l 193) cq_237).trans rfl⟩
theorem lk_237_194 : Lk 237 194 (.getfield 96) 12 46 (2) := ⟨3, 1303, (congrArg (fun l => pm_look l 194) cq_237).trans rfl⟩
theorem lk_237_197 : Lk 237 197 (.sipush 8192) 0 0 (0) := ⟨3, 0, (congrArg (fun l => pm_look l 197) cq_237).trans rfl⟩
theorem lk_237_200 : Lk 237 200 (.iload_n 3) 0 0 (0) := ⟨1, 0, (congrArg (fun l => pm_look l 200) cq_237).trans rfl⟩
theorem lk_237_201 : Lk 237 201 (.iadd) 0 0 (0) := ⟨1, 0, (congrArg (fun l => pm_look l 201) cq_237).trans rfl⟩
theorem lk_237_202 : Lk 237 202 (.iaload) 0 0 (0) := ⟨1, 0, (congrArg (fun l => pm_look l 202) cq_237).trans rfl⟩
theorem lk_237_203 : Lk 237 203 (.iadd) 0 0 (0) := ⟨1, 0, (congrArg (fun l => pm_look l 203) cq_237).trans rfl⟩
theorem lk_237_204 : Lk 237 204 (.aload_n 0) 0 0 (0) := ⟨1, 0, (congrArg (fun l => pm_look l 204) cq_237).trans rfl⟩
set_option maxRecDepth 100000 in
theorem lk_237_205 : Lk 237 205 (.getfield 96) 12 46 (2) := ⟨3, 1303, (congrArg (fun l => pm_look l 205) cq_237).trans rfl⟩
set_option maxRecDepth 100000 in
theorem lk_237_208 : Lk 237 208 (.sipush 8192) 0 0 (0) := ⟨3, 0, (congrArg (fun l => pm_look l 208) cq_237).trans rfl⟩
set_option maxRecDepth 100000 in
theorem lk_237_211 : Lk 237 211 (.iload 4) 0 0 (0) := ⟨2, 0, (congrArg (fun l => pm_look l 211) cq_237).trans rfl⟩
set_option maxRecDepth 100000 in
theorem lk_237_213 : Lk 237 213 (.iadd) 0 0 (0) := ⟨1, 0, (congrArg (fun l => pm_look l 213) cq_237).trans rfl⟩
set_option maxRecDepth 100000 in
theorem lk_237_214 : Lk 237 214 (.iaload) 0 0 (0) := ⟨1, 0, (congrArg (fun l => pm_look l 214) cq_237).trans rfl⟩
set_option maxRecDepth 100000 in
theorem lk_237_215 : Lk 237 215 (.iadd) 0 0 (0) := ⟨1, 0, (congrArg (fun l => pm_look l 215) cq_237).trans rfl⟩
set_option maxRecDepth 100000 in
theorem lk_237_216 : Lk 237 216 (.invokestatic 376) 169 0 (0) := ⟨3, 1744, (congrArg (fun l => pm_look l 216) cq_237).trans rfl⟩
set_option maxRecDepth 100000 in
theorem lk_237_219 : Lk 237 219 (.iastore) 0 0 (0) := ⟨1, 0, (congrArg (fun l => pm_look l 219) cq_237).trans rfl⟩
set_option maxRecDepth 100000 in
theorem lk_237_220 : Lk 237 220 (.iconst 0) 0 0 (0) := ⟨1, 0, (congrArg (fun l => pm_look l 220) cq_237).trans rfl⟩
set_option maxRecDepth 100000 in
theorem lk_237_221 : Lk 237 221 (.istore 8) 0 0 (0) := ⟨2, 0, (congrArg (fun l => pm_look l 221) cq_237).trans rfl⟩
set_option maxRecDepth 100000 in
theorem lk_237_223 : Lk 237 223 (.iload 8) 0 0 (0) := ⟨2, 0, (congrArg (fun l => pm_look l 223) cq_237).trans rfl⟩
set_option maxRecDepth 100000 in
theorem lk_237_225 : Lk 237 225 (.bipush 6) 0 0 (0) := ⟨2, 0, (congrArg (fun l => pm_look l 225) cq_237).trans rfl⟩
set_option maxRecDepth 100000 in
theorem lk_237_227 : Lk 237 227 (.if_icmp .ge 129) 0 0 (0) := ⟨3, 0, (congrArg (fun l => pm_look l 227) cq_237).trans rfl⟩
set_option maxRecDepth 100000 in
theorem lk_237_230 : Lk 237 230 (.sipush 4096) 0 0 (0) := ⟨3, 0, (congrArg (fun l => pm_look l 230) cq_237).trans rfl⟩
set_option maxRecDepth 100000 in
theorem lk_237_233 : Lk 237 233 (.bipush 6) 0 0 (0) := ⟨2, 0, (congrArg (fun l => pm_look l 233) cq_237).trans rfl⟩
set_option maxRecDepth 100000 in
theorem lk_237_235 : Lk 237 235 (.iload_n 2) 0 0 (0) := ⟨1, 0, (congrArg (fun l => pm_look l 235) cq_237).trans rfl⟩
set_option maxRecDepth 100000 in
theorem lk_237_236 : Lk 237 236 (.iconst 1) 0 0 (0) := ⟨1, 0, (congrArg (fun l => pm_look l 236) cq_237).trans rfl⟩
set_option maxRecDepth 100000 in
theorem lk_237_237 : Lk 237 237 (.isub) 0 0 (0) := ⟨1, 0, (congrArg (fun l => pm_look l 237) cq_237).trans rfl⟩
set_option maxRecDepth 100000 in
theorem lk_237_238 : Lk 237 238 (.imul) 0 0 (0) := ⟨1, 0, (congrArg (fun l => pm_look l 238) cq_237).trans rfl⟩
set_option maxRecDepth 100000 in
theorem lk_237_239 : Lk 237 239 (.iload 8) 0 0 (0) := ⟨2, 0, (congrArg (fun l => pm_look l 239) cq_237).trans rfl⟩
set_option maxRecDepth 100000 in
theorem lk_237_241 : Lk 237 241 (.iadd) 0 0 (0) := ⟨1, 0, (congrArg (fun l => pm_look l 241) cq_237).trans rfl⟩
set_option maxRecDepth 100000 in
theorem lk_237_242 : Lk 237 242 (.imul) 0 0 (0) := ⟨1, 0, (congrArg (fun l => pm_look l 242) cq_237).trans rfl⟩
set_option maxRecDepth 100000 in
theorem lk_237_243 : Lk 237 243 (.istore 9) 0 0 (0) := ⟨2, 0, (congrArg (fun l => pm_look l 243) cq_237).trans rfl⟩
set_option maxRecDepth 100000 in
theorem lk_237_245 : Lk 237 245 (.ldc_w 357) 0 0 (1000000) := ⟨3, 1712, (congrArg (fun l => pm_look l 245) cq_237).trans rfl⟩
set_option maxRecDepth 100000 in
theorem lk_237_248 : Lk 237 248 (.iload 7) 0 0 (0) := ⟨2, 0, (congrArg (fun l => pm_look l 248) cq_237).trans rfl⟩
set_option maxRecDepth 100000 in
theorem lk_237_250 : Lk 237 250 (.aload_n 0) 0 0 (0) := ⟨1, 0, (congrArg (fun l => pm_look l 250) cq_237).trans rfl⟩
set_option maxRecDepth 100000 in
theorem lk_237_251 : Lk 237 251 (.getfield 100) 12 47 (2) := ⟨3, 1304, (congrArg (fun l => pm_look l 251) cq_237).trans rfl⟩
set_option maxRecDepth 100000 in
theorem lk_237_254 : Lk 237 254 (.iload 9) 0 0 (0) := ⟨2, 0, (congrArg (fun l => pm_look l 254) cq_237).trans rfl⟩
set_option maxRecDepth 100000 in
theorem lk_237_256 : Lk 237 256 (.iload_n 3) 0 0 (0) := ⟨1, 0, (congrArg (fun l => pm_look l 256) cq_237).trans rfl⟩
set_option maxRecDepth 100000 in
theorem lk_237_257 : Lk 237 257 (.iadd) 0 0 (0) := ⟨1, 0, (congrArg (fun l => pm_look l 257) cq_237).trans rfl⟩
set_option maxRecDepth 100000 in
theorem lk_237_258 : Lk 237 258 (.iaload) 0 0 (0) := ⟨1, 0, (congrArg (fun l => pm_look l 258) cq_237).trans rfl⟩
set_option maxRecDepth 100000 in
theorem lk_237_259 : Lk 237 259 (.aload_n 0) 0 0 (0) := ⟨1, 0, (congrArg (fun l => pm_look l 259) cq_237).trans rfl⟩
set_option maxRecDepth 100000 in
theorem lk_237_260 : Lk 237 260 (.getfield 100) 12 47 (2) := ⟨3, 1304, (congrArg (fun l => pm_look l 260) cq_237).trans rfl⟩
set_option maxRecDepth 100000 in
theorem lk_237_263 : Lk 237 263 (.iload 9) 0 0 (0) := ⟨2, 0, (congrArg (fun l => pm_look l 263) cq_237).trans rfl⟩
set_option maxRecDepth 100000 in
theorem lk_237_265 : Lk 237 265 (.iload 4) 0 0 (0) := ⟨2, 0, (congrArg (fun l => pm_look l 265) cq_237).trans rfl⟩
set_option maxRecDepth 100000 in
theorem lk_237_267 : Lk 237 267 (.iadd) 0 0 (0) := ⟨1, 0, (congrArg (fun l => pm_look l 267) cq_237).trans rfl⟩
set_option maxRecDepth 100000 in
theorem lk_237_268 : Lk 237 268 (.iaload) 0 0 (0) := ⟨1, 0, (congrArg (fun l => pm_look l 268) cq_237).trans rfl⟩
set_option maxRecDepth 100000 in
theorem lk_237_269 : Lk 237 269 (.invokestatic 325) 170 0 (0) := ⟨3, 1663, (congrArg (fun l => pm_look l 269) cq_237).trans rfl⟩
set_option maxRecDepth 100000 in
theorem lk_237_272 : Lk 237 272 (.iadd) 0 0 (0) := ⟨1, 0, (congrArg (fun l => pm_look l 272) cq_237).trans rfl⟩
set_option maxRecDepth 100000 in
theorem lk_237_273 : Lk 237 273 (.invokestatic 376) 169 0 (0) := ⟨3, 1744, (congrArg (fun l => pm_look l 273) cq_237).trans rfl⟩
set_option maxRecDepth 100000 in
theorem lk_237_276 : Lk 237 276 (.istore 10) 0 0 (0) := ⟨2, 0, (congrArg (fun l => pm_look l 276) cq_237).trans rfl⟩
set_option maxRecDepth 100000 in
theorem lk_237_278 : Lk 237 278 (.aload_n 0) 0 0 (0) := ⟨1, 0, (congrArg (fun l => pm_look l 278) cq_237).trans rfl⟩
set_option maxRecDepth 100000 in
theorem lk_237_279 : Lk 237 279 (.getfield 100) 12 47 (2) := ⟨3, 1304, (congrArg (fun l => pm_look l 279) cq_237).trans rfl⟩
set_option maxRecDepth 100000 in
theorem lk_237_282 : Lk 237 282 (.iload 9) 0 0 (0) := ⟨2, 0, (congrArg (fun l => pm_look l 282) cq_237).trans rfl⟩
set_option maxRecDepth 100000 in
theorem lk_237_284 : Lk 237 284 (.iload_n 1) 0 0 (0) := ⟨1, 0, (congrArg (fun l => pm_look l 284) cq_237).trans rfl⟩
set_option maxRecDepth 100000 in
theorem lk_237_285 : Lk 237 285 (.iadd) 0 0 (0) := ⟨1, 0, (congrArg (fun l => pm_look l 285) cq_237).trans rfl⟩
set_option maxRecDepth 100000 in
theorem lk_237_286 : Lk 237 286 (.aload_n 0) 0 0 (0) := ⟨1, 0, (congrArg (fun l => pm_look l 286) cq_237).trans rfl⟩
set_option maxRecDepth 100000 in
theorem lk_237_287 : Lk 237 287 (.getfield 100) 12 47 (2) := ⟨3, 1304, (congrArg (fun l => pm_look l 287) cq_237).trans rfl⟩
set_option maxRecDepth 100000 in
theorem lk_237_290 : Lk 237 290 (.iload 9) 0 0 (0) := ⟨2, 0, (congrArg (fun l => pm_look l 290) cq_237).trans rfl⟩
set_option maxRecDepth 100000 in
theorem lk_237_292 : Lk 237 292 (.iload_n 1) 0 0 (0) := ⟨1, 0, (congrArg (fun l => pm_look l 292) cq_237).trans rfl⟩
set_option maxRecDepth 100000 in
theorem lk_237_293 : Lk 237 293 (.iadd) 0 0 (0) := ⟨1, 0, (congrArg (fun l => pm_look l 293) cq_237).trans rfl⟩
set_option maxRecDepth 100000 in
theorem lk_237_294 : Lk 237 294 (.iaload) 0 0 (0) := ⟨1, 0, (congrArg (fun l => pm_look l 294) cq_237).trans rfl⟩
set_option maxRecDepth 100000 in
theorem lk_237_295 : Lk 237 295 (.iload 10) 0 0 (0) := ⟨2, 0, (congrArg (fun l => pm_look l 295) cq_237).trans rfl⟩
set_option maxRecDepth 100000 in
theorem lk_237_297 : Lk 237 297 (.invokestatic 376) 169 0 (0) := ⟨3, 1744, (congrArg (fun l => pm_look l 297) cq_237).trans rfl⟩
set_option maxRecDepth 100000 in
theorem lk_237_300 : Lk 237 300 (.iastore) 0 0 (0) := ⟨1, 0, (congrArg (fun l => pm_look l 300) cq_237).trans rfl⟩
set_option maxRecDepth 100000 in
theorem lk_237_301 : Lk 237 301 (.iload 8) 0 0 (0) := ⟨2, 0, (congrArg (fun l => pm_look l 301) cq_237).trans rfl⟩
set_option maxRecDepth 100000 in
theorem lk_237_303 : Lk 237 303 (.iconst 1) 0 0 (0) := ⟨1, 0, (congrArg (fun l => pm_look l 303) cq_237).trans rfl⟩
set_option maxRecDepth 100000 in
theorem lk_237_304 : Lk 237 304 (.iadd) 0 0 (0) := ⟨1, 0, (congrArg (fun l => pm_look l 304) cq_237).trans rfl⟩
set_option maxRecDepth 100000 in
theorem lk_237_305 : Lk 237 305 (.bipush 6) 0 0 (0) := ⟨2, 0, (congrArg (fun l => pm_look l 305) cq_237).trans rfl⟩
set_option maxRecDepth 100000 in
theorem lk_237_307 : Lk 237 307 (.if_icmp .ge 43) 0 0 (0) := ⟨3, 0, (congrArg (fun l => pm_look l 307) cq_237).trans rfl⟩
set_option maxRecDepth 100000 in
theorem lk_237_310 : Lk 237 310 (.sipush 4096) 0 0 (0) := ⟨3, 0, (congrArg (fun l => pm_look l 310) cq_237).trans rfl⟩
set_option maxRecDepth 100000 in
theorem lk_237_313 : Lk 237 313 (.bipush 6) 0 0 (0) := ⟨2, 0, (congrArg (fun l => pm_look l 313) cq_237).trans rfl⟩
set_option maxRecDepth 100000 in
theorem lk_237_315 : Lk 237 315 (.iconst 2) 0 0 (0) := ⟨1, 0, (congrArg (fun l => pm_look l 315) cq_237).trans rfl⟩
set_option maxRecDepth 100000 in
theorem lk_237_316 : Lk 237 316 (.iload_n 2) 0 0 (0) := ⟨1, 0, (congrArg (fun l => pm_look l 316) cq_237).trans rfl⟩
set_option maxRecDepth 100000 in
theorem lk_237_317 : Lk 237 317 (.isub) 0 0 (0) := ⟨1, 0, (congrArg (fun l => pm_look l 317) cq_237).trans rfl⟩
set_option maxRecDepth 100000 in
theorem lk_237_318 : Lk 237 318 (.imul) 0 0 (0) := ⟨1, 0, (congrArg (fun l => pm_look l 318) cq_237).trans rfl⟩
set_option maxRecDepth 100000 in
theorem lk_237_319 : Lk 237 319 (.iload 8) 0 0 (0) := ⟨2, 0, (congrArg (fun l => pm_look l 319) cq_237).trans rfl⟩
set_option maxRecDepth 100000 in
theorem lk_237_321 : Lk 237 321 (.iadd) 0 0 (0) := ⟨1, 0, (congrArg (fun l => pm_look l 321) cq_237).trans rfl⟩
set_option maxRecDepth 100000 in
theorem lk_237_322 : Lk 237 322 (.iconst 1) 0 0 (0) := ⟨1, 0, (congrArg (fun l => pm_look l 322) cq_237).trans rfl⟩
set_option maxRecDepth 100000 in
theorem lk_237_323 : Lk 237 323 (.iadd) 0 0 (0) := ⟨1, 0, (congrArg (fun l => pm_look l 323) cq_237).trans rfl⟩
set_option maxRecDepth 100000 in
theorem lk_237_324 : Lk 237 324 (.imul) 0 0 (0) := ⟨1, 0, (congrArg (fun l => pm_look l 324) cq_237).trans rfl⟩
set_option maxRecDepth 100000 in
theorem lk_237_325 : Lk 237 325 (.istore 11) 0 0 (0) := ⟨2, 0, (congrArg (fun l => pm_look l 325) cq_237).trans rfl⟩
set_option maxRecDepth 100000 in
theorem lk_237_327 : Lk 237 327 (.aload_n 0) 0 0 (0) := ⟨1, 0, (congrArg (fun l => pm_look l 327) cq_237).trans rfl⟩
set_option maxRecDepth 100000 in
theorem lk_237_328 : Lk 237 328 (.getfield 100) 12 47 (2) := ⟨3, 1304, (congrArg (fun l => pm_look l 328) cq_237).trans rfl⟩
set_option maxRecDepth 100000 in
theorem lk_237_331 : Lk 237 331 (.iload 11) 0 0 (0) := ⟨2, 0, (congrArg (fun l => pm_look l 331) cq_237).trans rfl⟩
set_option maxRecDepth 100000 in
theorem lk_237_333 : Lk 237 333 (.iload_n 1) 0 0 (0) := ⟨1, 0, (congrArg (fun l => pm_look l 333) cq_237).trans rfl⟩
set_option maxRecDepth 100000 in
theorem lk_237_334 : Lk 237 334 (.iadd) 0 0 (0) := ⟨1, 0, (congrArg (fun l => pm_look l 334) cq_237).trans rfl⟩
set_option maxRecDepth 100000 in
theorem lk_237_335 : Lk 237 335 (.aload_n 0) 0 0 (0) := ⟨1, 0, (congrArg (fun l => pm_look l 335) cq_237).trans rfl⟩
set_option maxRecDepth 100000 in
theorem lk_237_336 : Lk 237 336 (.getfield 100) 12 47 (2) := ⟨3, 1304, (congrArg (fun l => pm_look l 336) cq_237).trans rfl⟩
set_option maxRecDepth 100000 in
theorem lk_237_339 : Lk 237 339 (.iload 11) 0 0 (0) := ⟨2, 0, (congrArg (fun l => pm_look l 339) cq_237).trans rfl⟩
set_option maxRecDepth 100000 in
theorem lk_237_341 : Lk 237 341 (.iload_n 1) 0 0 (0) := ⟨1, 0, (congrArg (fun l => pm_look l 341) cq_237).trans rfl⟩
set_option maxRecDepth 100000 in
theorem lk_237_342 : Lk 237 342 (.iadd) 0 0 (0) := ⟨1, 0, (congrArg (fun l => pm_look l 342) cq_237).trans rfl⟩
set_option maxRecDepth 100000 in
theorem lk_237_343 : Lk 237 343 (.iaload) 0 0 (0) := ⟨1, 0, (congrArg (fun l => pm_look l 343) cq_237).trans rfl⟩
set_option maxRecDepth 100000 in
theorem lk_237_344 : Lk 237 344 (.iload 10) 0 0 (0) := ⟨2, 0, (congrArg (fun l => pm_look l 344) cq_237).trans rfl⟩
set_option maxRecDepth 100000 in
theorem lk_237_346 : Lk 237 346 (.invokestatic 376) 169 0 (0) := ⟨3, 1744, (congrArg (fun l => pm_look l 346) cq_237).trans rfl⟩
set_option maxRecDepth 100000 in
theorem lk_237_349 : Lk 237 349 (.iastore) 0 0 (0) := ⟨1, 0, (congrArg (fun l => pm_look l 349) cq_237).trans rfl⟩
set_option maxRecDepth 100000 in
theorem lk_237_350 : Lk 237 350 (.iinc 8 1) 0 0 (0) := ⟨3, 0, (congrArg (fun l => pm_look l 350) cq_237).trans rfl⟩
set_option maxRecDepth 100000 in
theorem lk_237_353 : Lk 237 353 (.goto (-130)) 0 0 (0) := ⟨3, 0, (congrArg (fun l => pm_look l 353) cq_237).trans rfl⟩
set_option maxRecDepth 100000 in
theorem lk_237_356 : Lk 237 356 (.return_) 0 0 (0) := ⟨1, 0, (congrArg (fun l => pm_look l 356) cq_237).trans rfl⟩
