abbrev cX10_book : ByteArray := prog_1_method_36_code
def yX10_book : MethodName := ⟨RX10, "book", "(I)I"⟩
theorem t1198 : Cond.code yX10_book cX10_book 4 (some .int) ∈ GW := gw_mem 1312 (by decide +kernel) (by decide +kernel)
theorem dX10_book_0 : decode cX10_book 0 = .ok (.iload_n 1, 1) := by decide +kernel
theorem dX10_book_1 : decode cX10_book 1 = .ok (.ifCond .eq 12, 3) := by decide +kernel
theorem dX10_book_13 : decode cX10_book 13 = .ok (.aload_n 0, 1) := by decide +kernel
theorem dX10_book_14 : decode cX10_book 14 = .ok (.getfield 26, 3) := by decide +kernel
theorem dX10_book_17 : decode cX10_book 17 = .ok (.aload_n 0, 1) := by decide +kernel
theorem dX10_book_18 : decode cX10_book 18 = .ok (.getfield 10, 3) := by decide +kernel
theorem dX10_book_21 : decode cX10_book 21 = .ok (.aload_n 0, 1) := by decide +kernel
theorem dX10_book_22 : decode cX10_book 22 = .ok (.getfield 76, 3) := by decide +kernel
theorem dX10_book_25 : decode cX10_book 25 = .ok (.getfield 94, 3) := by decide +kernel
theorem dX10_book_28 : decode cX10_book 28 = .ok (.invokevirtual 364, 3) := by decide +kernel
theorem t1199 : Cond.methodLink RX10 364 yX0_read ∈ GW := gw_mem 1313 (by decide +kernel) (by decide +kernel)
theorem t1200 : Cond.instanceMethod yX0_read ∈ GW := gw_mem 1314 (by decide +kernel) (by decide +kernel)
theorem t1201 : Cond.selects RX0 yX0_read yX0_read ∈ GW := gw_mem 1315 (by decide +kernel) (by decide +kernel)
theorem cw_X10_364 {R : Room} {s : State} {args : Array Value} {rm : Room} {mc ms : Nat} (hts : ∀ w ∈ GW, w.before args s = true) (hrc : rm.cells = mc) (hrs : rm.slots = ms) (hR : rm.frames + 1 ≤ R.frames ∧ 8 + (4 + 11) + rm.locals ≤ R.locals) : CallW R s args RX10 RX0 364 yX0_read cX0_read 4 (some .boolean) (wl yX0_read cX0_read 4 (some .boolean)) rm mc ms 2 := cwV 2 hts (gi_V t1199 t1200 t1201 t8 t1202) rfl hrc hrs (by decide +kernel) hR
theorem dX10_book_31 : decode cX10_book 31 = .ok (.istore_n 2, 1) := by decide +kernel
theorem dX10_book_32 : decode cX10_book 32 = .ok (.aload_n 0, 1) := by decide +kernel
theorem dX10_book_33 : decode cX10_book 33 = .ok (.getfield 10, 3) := by decide +kernel
theorem dX10_book_36 : decode cX10_book 36 = .ok (.iconst 0, 1) := by decide +kernel
theorem dX10_book_37 : decode cX10_book 37 = .ok (.putfield 87, 3) := by decide +kernel
theorem dX10_book_40 : decode cX10_book 40 = .ok (.aload_n 0, 1) := by decide +kernel
theorem dX10_book_41 : decode cX10_book 41 = .ok (.aload_n 0, 1) := by decide +kernel
theorem dX10_book_42 : decode cX10_book 42 = .ok (.getfield 10, 3) := by decide +kernel
theorem dX10_book_45 : decode cX10_book 45 = .ok (.getfield 106, 3) := by decide +kernel
theorem dX10_book_48 : decode cX10_book 48 = .ok (.putfield 109, 3) := by decide +kernel
theorem dX10_book_51 : decode cX10_book 51 = .ok (.iload_n 2, 1) := by decide +kernel
theorem dX10_book_52 : decode cX10_book 52 = .ok (.ifCond .ne 14, 3) := by decide +kernel
theorem dX10_book_55 : decode cX10_book 55 = .ok (.bipush (-2), 2) := by decide +kernel
theorem dX10_book_57 : decode cX10_book 57 = .ok (.aload_n 0, 1) := by decide +kernel
theorem dX10_book_58 : decode cX10_book 58 = .ok (.getfield 10, 3) := by decide +kernel
theorem dX10_book_61 : decode cX10_book 61 = .ok (.getfield 112, 3) := by decide +kernel
theorem dX10_book_64 : decode cX10_book 64 = .ok (.isub, 1) := by decide +kernel
theorem dX10_book_65 : decode cX10_book 65 = .ok (.ireturn, 1) := by decide +kernel
theorem dX10_book_66 : decode cX10_book 66 = .ok (.aload_n 0, 1) := by decide +kernel
theorem dX10_book_67 : decode cX10_book 67 = .ok (.getfield 80, 3) := by decide +kernel
theorem dX10_book_70 : decode cX10_book 70 = .ok (.getfield 94, 3) := by decide +kernel
theorem dX10_book_73 : decode cX10_book 73 = .ok (.aload_n 0, 1) := by decide +kernel
theorem dX10_book_74 : decode cX10_book 74 = .ok (.getfield 76, 3) := by decide +kernel
theorem dX10_book_77 : decode cX10_book 77 = .ok (.getfield 94, 3) := by decide +kernel
theorem dX10_book_80 : decode cX10_book 80 = .ok (.invokevirtual 358, 3) := by decide +kernel
theorem dX10_book_83 : decode cX10_book 83 = .ok (.aload_n 0, 1) := by decide +kernel
theorem dX10_book_84 : decode cX10_book 84 = .ok (.getfield 80, 3) := by decide +kernel
theorem dX10_book_87 : decode cX10_book 87 = .ok (.getfield 98, 3) := by decide +kernel
theorem dX10_book_90 : decode cX10_book 90 = .ok (.aload_n 0, 1) := by decide +kernel
theorem dX10_book_91 : decode cX10_book 91 = .ok (.getfield 76, 3) := by decide +kernel
theorem dX10_book_94 : decode cX10_book 94 = .ok (.getfield 98, 3) := by decide +kernel
theorem dX10_book_97 : decode cX10_book 97 = .ok (.invokevirtual 362, 3) := by decide +kernel
theorem dX10_book_100 : decode cX10_book 100 = .ok (.aload_n 0, 1) := by decide +kernel
theorem dX10_book_101 : decode cX10_book 101 = .ok (.getfield 26, 3) := by decide +kernel
theorem dX10_book_104 : decode cX10_book 104 = .ok (.aload_n 0, 1) := by decide +kernel
theorem dX10_book_105 : decode cX10_book 105 = .ok (.getfield 80, 3) := by decide +kernel
theorem dX10_book_108 : decode cX10_book 108 = .ok (.invokevirtual 367, 3) := by decide +kernel
theorem t1230 : Cond.methodLink RX10 367 yX0_liveIn ∈ GW := gw_mem 1344 (by decide +kernel) (by decide +kernel)
theorem t1231 : Cond.instanceMethod yX0_liveIn ∈ GW := gw_mem 1345 (by decide +kernel) (by decide +kernel)
theorem t1232 : Cond.selects RX0 yX0_liveIn yX0_liveIn ∈ GW := gw_mem 1346 (by decide +kernel) (by decide +kernel)
theorem cw_X10_367 {R : Room} {s : State} {args : Array Value} {rm : Room} {mc ms : Nat} (hts : ∀ w ∈ GW, w.before args s = true) (hrc : rm.cells = mc) (hrs : rm.slots = ms) (hR : rm.frames + 1 ≤ R.frames ∧ 8 + (2 + 11) + rm.locals ≤ R.locals) : CallW R s args RX10 RX0 367 yX0_liveIn cX0_liveIn 2 (some .int) (wl yX0_liveIn cX0_liveIn 2 (some .int)) rm mc ms 1 := cwV 1 hts (gi_V t1230 t1231 t1232 t8 t1233) rfl hrc hrs (by decide +kernel) hR
theorem dX10_book_111 : decode cX10_book 111 = .ok (.istore_n 3, 1) := by decide +kernel
theorem dX10_book_112 : decode cX10_book 112 = .ok (.iload_n 1, 1) := by decide +kernel
theorem dX10_book_113 : decode cX10_book 113 = .ok (.iconst 1, 1) := by decide +kernel
theorem dX10_book_114 : decode cX10_book 114 = .ok (.if_icmp .ne 41, 3) := by decide +kernel
theorem dX10_book_155 : decode cX10_book 155 = .ok (.iload_n 3, 1) := by decide +kernel
theorem dX10_book_156 : decode cX10_book 156 = .ok (.ireturn, 1) := by decide +kernel
theorem dX10_book_4 : decode cX10_book 4 = .ok (.iload_n 1, 1) := by decide +kernel
theorem dX10_book_5 : decode cX10_book 5 = .ok (.iconst 1, 1) := by decide +kernel
theorem dX10_book_6 : decode cX10_book 6 = .ok (.if_icmp .eq 7, 3) := by decide +kernel
theorem dX10_book_117 : decode cX10_book 117 = .ok (.aload_n 0, 1) := by decide +kernel
theorem dX10_book_118 : decode cX10_book 118 = .ok (.getfield 33, 3) := by decide +kernel
theorem dX10_book_121 : decode cX10_book 121 = .ok (.aload_n 0, 1) := by decide +kernel
theorem dX10_book_122 : decode cX10_book 122 = .ok (.getfield 76, 3) := by decide +kernel
theorem dX10_book_125 : decode cX10_book 125 = .ok (.getfield 98, 3) := by decide +kernel
theorem dX10_book_128 : decode cX10_book 128 = .ok (.invokevirtual 219, 3) := by decide +kernel
theorem dX10_book_131 : decode cX10_book 131 = .ok (.aload_n 0, 1) := by decide +kernel
theorem dX10_book_132 : decode cX10_book 132 = .ok (.getfield 33, 3) := by decide +kernel
theorem dX10_book_135 : decode cX10_book 135 = .ok (.invokevirtual 371, 3) := by decide +kernel
theorem dX10_book_138 : decode cX10_book 138 = .ok (.aload_n 0, 1) := by decide +kernel
theorem dX10_book_139 : decode cX10_book 139 = .ok (.getfield 76, 3) := by decide +kernel
theorem dX10_book_142 : decode cX10_book 142 = .ok (.getfield 98, 3) := by decide +kernel
theorem dX10_book_145 : decode cX10_book 145 = .ok (.aload_n 0, 1) := by decide +kernel
theorem dX10_book_146 : decode cX10_book 146 = .ok (.getfield 80, 3) := by decide +kernel
theorem dX10_book_149 : decode cX10_book 149 = .ok (.getfield 98, 3) := by decide +kernel
theorem dX10_book_152 : decode cX10_book 152 = .ok (.invokevirtual 362, 3) := by decide +kernel
theorem dX10_book_9 : decode cX10_book 9 = .ok (.sipush (-1000), 3) := by decide +kernel
theorem dX10_book_12 : decode cX10_book 12 = .ok (.ireturn, 1) := by decide +kernel
