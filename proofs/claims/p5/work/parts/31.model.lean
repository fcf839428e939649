abbrev cX11_sentence : ByteArray := prog_13_method_126_code
def yX11_sentence : MethodName := ⟨RX11, "sentence", "()I"⟩
theorem t2018 : Cond.code yX11_sentence cX11_sentence 2 (some .int) ∈ GW := gw_mem 2132 (by decide +kernel) (by decide +kernel)
theorem dX11_sentence_0 : decode cX11_sentence 0 = .ok (.aload_n 0, 1) := by decide +kernel
theorem dX11_sentence_1 : decode cX11_sentence 1 = .ok (.sipush 200, 3) := by decide +kernel
theorem dX11_sentence_4 : decode cX11_sentence 4 = .ok (.invokevirtual 216, 3) := by decide +kernel
theorem dX11_sentence_7 : decode cX11_sentence 7 = .ok (.aload_n 0, 1) := by decide +kernel
theorem dX11_sentence_8 : decode cX11_sentence 8 = .ok (.iconst 0, 1) := by decide +kernel
theorem dX11_sentence_9 : decode cX11_sentence 9 = .ok (.putfield 402, 3) := by decide +kernel
theorem dX11_sentence_12 : decode cX11_sentence 12 = .ok (.aload_n 0, 1) := by decide +kernel
theorem dX11_sentence_13 : decode cX11_sentence 13 = .ok (.iconst 0, 1) := by decide +kernel
theorem dX11_sentence_14 : decode cX11_sentence 14 = .ok (.putfield 417, 3) := by decide +kernel
theorem dX11_sentence_17 : decode cX11_sentence 17 = .ok (.aload_n 0, 1) := by decide +kernel
theorem dX11_sentence_18 : decode cX11_sentence 18 = .ok (.iconst 0, 1) := by decide +kernel
theorem dX11_sentence_19 : decode cX11_sentence 19 = .ok (.putfield 420, 3) := by decide +kernel
theorem dX11_sentence_22 : decode cX11_sentence 22 = .ok (.aload_n 0, 1) := by decide +kernel
theorem dX11_sentence_23 : decode cX11_sentence 23 = .ok (.invokevirtual 435, 3) := by decide +kernel
theorem dX11_sentence_26 : decode cX11_sentence 26 = .ok (.ifCond .ne 10, 3) := by decide +kernel
theorem dX11_sentence_29 : decode cX11_sentence 29 = .ok (.iconst (-1), 1) := by decide +kernel
theorem dX11_sentence_30 : decode cX11_sentence 30 = .ok (.aload_n 0, 1) := by decide +kernel
theorem dX11_sentence_31 : decode cX11_sentence 31 = .ok (.getfield 69, 3) := by decide +kernel
theorem dX11_sentence_34 : decode cX11_sentence 34 = .ok (.isub, 1) := by decide +kernel
theorem dX11_sentence_35 : decode cX11_sentence 35 = .ok (.ireturn, 1) := by decide +kernel
theorem dX11_sentence_36 : decode cX11_sentence 36 = .ok (.aload_n 0, 1) := by decide +kernel
theorem dX11_sentence_37 : decode cX11_sentence 37 = .ok (.getfield 30, 3) := by decide +kernel
theorem dX11_sentence_40 : decode cX11_sentence 40 = .ok (.ifCond .eq 16, 3) := by decide +kernel
theorem dX11_sentence_56 : decode cX11_sentence 56 = .ok (.aload_n 0, 1) := by decide +kernel
theorem dX11_sentence_57 : decode cX11_sentence 57 = .ok (.getfield 98, 3) := by decide +kernel
theorem dX11_sentence_60 : decode cX11_sentence 60 = .ok (.sipush 333, 3) := by decide +kernel
theorem dX11_sentence_63 : decode cX11_sentence 63 = .ok (.iconst 1, 1) := by decide +kernel
theorem dX11_sentence_64 : decode cX11_sentence 64 = .ok (.iastore, 1) := by decide +kernel
theorem dX11_sentence_65 : decode cX11_sentence 65 = .ok (.aload_n 0, 1) := by decide +kernel
theorem dX11_sentence_66 : decode cX11_sentence 66 = .ok (.getfield 98, 3) := by decide +kernel
theorem dX11_sentence_69 : decode cX11_sentence 69 = .ok (.sipush 334, 3) := by decide +kernel
theorem dX11_sentence_72 : decode cX11_sentence 72 = .ok (.aload_n 0, 1) := by decide +kernel
theorem dX11_sentence_73 : decode cX11_sentence 73 = .ok (.getfield 408, 3) := by decide +kernel
theorem dX11_sentence_76 : decode cX11_sentence 76 = .ok (.iastore, 1) := by decide +kernel
theorem dX11_sentence_77 : decode cX11_sentence 77 = .ok (.iconst 0, 1) := by decide +kernel
theorem dX11_sentence_78 : decode cX11_sentence 78 = .ok (.istore_n 1, 1) := by decide +kernel
theorem dX11_sentence_79 : decode cX11_sentence 79 = .ok (.iload_n 1, 1) := by decide +kernel
theorem dX11_sentence_80 : decode cX11_sentence 80 = .ok (.sipush 240, 3) := by decide +kernel
theorem dX11_sentence_83 : decode cX11_sentence 83 = .ok (.if_icmp .ge 25, 3) := by decide +kernel
theorem dX11_sentence_108 : decode cX11_sentence 108 = .ok (.aload_n 0, 1) := by decide +kernel
theorem dX11_sentence_109 : decode cX11_sentence 109 = .ok (.getfield 417, 3) := by decide +kernel
theorem dX11_sentence_112 : decode cX11_sentence 112 = .ok (.ireturn, 1) := by decide +kernel
theorem dX11_sentence_86 : decode cX11_sentence 86 = .ok (.aload_n 0, 1) := by decide +kernel
theorem dX11_sentence_87 : decode cX11_sentence 87 = .ok (.getfield 98, 3) := by decide +kernel
theorem dX11_sentence_90 : decode cX11_sentence 90 = .ok (.sipush 335, 3) := by decide +kernel
theorem dX11_sentence_93 : decode cX11_sentence 93 = .ok (.iload_n 1, 1) := by decide +kernel
theorem dX11_sentence_94 : decode cX11_sentence 94 = .ok (.iadd, 1) := by decide +kernel
theorem dX11_sentence_95 : decode cX11_sentence 95 = .ok (.aload_n 0, 1) := by decide +kernel
theorem dX11_sentence_96 : decode cX11_sentence 96 = .ok (.getfield 157, 3) := by decide +kernel
theorem dX11_sentence_99 : decode cX11_sentence 99 = .ok (.iload_n 1, 1) := by decide +kernel
theorem dX11_sentence_100 : decode cX11_sentence 100 = .ok (.iaload, 1) := by decide +kernel
theorem dX11_sentence_101 : decode cX11_sentence 101 = .ok (.iastore, 1) := by decide +kernel
theorem dX11_sentence_102 : decode cX11_sentence 102 = .ok (.iinc 1 1, 3) := by decide +kernel
theorem dX11_sentence_105 : decode cX11_sentence 105 = .ok (.goto (-26), 3) := by decide +kernel
theorem dX11_sentence_43 : decode cX11_sentence 43 = .ok (.aload_n 0, 1) := by decide +kernel
theorem dX11_sentence_44 : decode cX11_sentence 44 = .ok (.iconst 1, 1) := by decide +kernel
theorem dX11_sentence_45 : decode cX11_sentence 45 = .ok (.invokevirtual 72, 3) := by decide +kernel
theorem dX11_sentence_48 : decode cX11_sentence 48 = .ok (.pop, 1) := by decide +kernel
theorem dX11_sentence_49 : decode cX11_sentence 49 = .ok (.iconst (-1), 1) := by decide +kernel
theorem dX11_sentence_50 : decode cX11_sentence 50 = .ok (.aload_n 0, 1) := by decide +kernel
theorem dX11_sentence_51 : decode cX11_sentence 51 = .ok (.getfield 69, 3) := by decide +kernel
theorem dX11_sentence_54 : decode cX11_sentence 54 = .ok (.isub, 1) := by decide +kernel
theorem dX11_sentence_55 : decode cX11_sentence 55 = .ok (.ireturn, 1) := by decide +kernel
