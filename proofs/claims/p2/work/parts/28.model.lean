abbrev cX11_may : ByteArray := prog_13_method_88_code
def yX11_may : MethodName := ⟨RX11, "may", "()J"⟩
theorem t1884 : Cond.code yX11_may cX11_may 7 (some .long) ∈ GW := gw_mem 1998 (by decide +kernel) (by decide +kernel)
abbrev O_m_may (cy : Nat → ClassId) (vo : Nat) (voth : Int32) (vmt : Nat) (votp : Int32) (vosz : Int32) (volm : Int32) (voto : Int32) (vofr : Int32) (vokd : Int32) (vonu : Int32) (vosg : Int32) (vofa : Int32) (vopl : Int32) (vowd : Int64) (votd : Int32) (vmn : Nat) (vmr : Nat) (vmk : Nat) (vms : Nat) (vma : Nat) (vmm : Nat) (vmrn : Nat) (vmkn : Nat) (vmik : Nat) (vmon : Nat) (vosm : Int32) (vohp : Int32) (vmw : Nat) (vmf : Nat) (vmb : Nat) (vomb : Int32) (vmd : Nat) (vmc : Nat) (vocm : Int32) (voct : Int32) (vocy : Int32) (vmx : Nat) (votx : Int32) (vose : Int32) (vml : Nat) (vmwr : Nat) (voln : Int32) (vohw : Int32) (vmno : Nat) (vond : Int32) (voon : Int32) (vowi : Int32) (votop : Int32) (vmtf : Nat → Int32) (vmnf : Nat → Int32) (vmwf : Nat → Int64) (vmff : Nat → Int32) (vmbf : Nat → Int32) (u : Int32 × Int32 × (Nat → Int64) × (Nat → Int32) × (Nat → Int32) × Int32) : va_W := [(vo, .inr (12, [.int u.1, .ref vmt, .int u.2.1, .int vosz, .int volm, .int voto, .int vofr, .int vokd, .int vonu, .int vosg, .int vofa, .int vopl, .long vowd, .int votd, .ref vmn, .ref vmr, .ref vmk, .ref vms, .ref vma, .ref vmm, .ref vmrn, .ref vmkn, .ref vmik, .ref vmon, .int vosm, .int vohp, .ref vmw, .ref vmf, .ref vmb, .int u.2.2.2.2.2, .ref vmd, .ref vmc, .int vocm, .int voct, .int vocy, .ref vmx, .int votx, .int vose, .ref vml, .ref vmwr, .int voln, .int vohw, .ref vmno, .int vond, .int voon, .int vowi, .int votop])), (vmt, .inl (cy 0, 940, .inl vmtf)), (vmn, .inl (cy 0, 575, .inl vmnf)), (vmw, .inl (cy 1, 5632, .inr (.inl u.2.2.1))), (vmf, .inl (cy 0, 5632, .inl u.2.2.2.1)), (vmb, .inl (cy 0, 10, .inl u.2.2.2.2.1))]
theorem dX11_may_0 : decode cX11_may 0 = .ok (.aload_n 0, 1) := by decide +kernel
theorem dX11_may_1 : decode cX11_may 1 = .ok (.iconst 0, 1) := by decide +kernel
theorem dX11_may_2 : decode cX11_may 2 = .ok (.putfield 1, 3) := by decide +kernel
theorem dX11_may_5 : decode cX11_may 5 = .ok (.aload_n 0, 1) := by decide +kernel
theorem dX11_may_6 : decode cX11_may 6 = .ok (.invokevirtual 89, 3) := by decide +kernel
theorem dX11_may_9 : decode cX11_may 9 = .ok (.iconst 2, 1) := by decide +kernel
theorem dX11_may_10 : decode cX11_may 10 = .ok (.if_icmp .eq 7, 3) := by decide +kernel
theorem dX11_may_17 : decode cX11_may 17 = .ok (.aload_n 0, 1) := by decide +kernel
theorem dX11_may_18 : decode cX11_may 18 = .ok (.invokevirtual 316, 3) := by decide +kernel
theorem t1886 : Cond.methodLink RX11 316 yX11_layWays ∈ GW := gw_mem 2000 (by decide +kernel) (by decide +kernel)
theorem t1888 : Cond.instanceMethod yX11_layWays ∈ GW := gw_mem 2002 (by decide +kernel) (by decide +kernel)
theorem s85 : Cond.selects RX11 yX11_layWays yX11_layWays ∈ GW := gw_mem 85 (by decide +kernel) (by decide +kernel)
theorem cw_X11_316 {R : Room} {s : State} {args : Array Value} {rm : Room} {mc ms : Nat} (hts : ∀ w ∈ GW, w.before args s = true) (hrc : rm.cells = mc) (hrs : rm.slots = ms) (hR : rm.frames + 1 ≤ R.frames ∧ 8 + (5 + 11) + rm.locals ≤ R.locals) : CallW R s args RX11 RX11 316 yX11_layWays cX11_layWays 5 none (wl yX11_layWays cX11_layWays 5 none) rm mc ms 0 := cwV 0 hts (gi_V t1886 t1888 s85 t18 t1889) rfl hrc hrs (by decide +kernel) hR
theorem dX11_may_21 : decode cX11_may 21 = .ok (.aload_n 0, 1) := by decide +kernel
theorem dX11_may_22 : decode cX11_may 22 = .ok (.getfield 133, 3) := by decide +kernel
theorem dX11_may_25 : decode cX11_may 25 = .ok (.iconst 0, 1) := by decide +kernel
theorem dX11_may_26 : decode cX11_may 26 = .ok (.iconst 0, 1) := by decide +kernel
theorem dX11_may_27 : decode cX11_may 27 = .ok (.aload_n 0, 1) := by decide +kernel
theorem dX11_may_28 : decode cX11_may 28 = .ok (.getfield 7, 3) := by decide +kernel
theorem dX11_may_31 : decode cX11_may 31 = .ok (.iconst 0, 1) := by decide +kernel
theorem dX11_may_32 : decode cX11_may 32 = .ok (.iaload, 1) := by decide +kernel
theorem dX11_may_33 : decode cX11_may 33 = .ok (.invokestatic 306, 3) := by decide +kernel
theorem dX11_may_36 : decode cX11_may 36 = .ok (.laload, 1) := by decide +kernel
theorem dX11_may_37 : decode cX11_may 37 = .ok (.aload_n 0, 1) := by decide +kernel
theorem dX11_may_38 : decode cX11_may 38 = .ok (.getfield 133, 3) := by decide +kernel
theorem dX11_may_41 : decode cX11_may 41 = .ok (.iconst 0, 1) := by decide +kernel
theorem dX11_may_42 : decode cX11_may 42 = .ok (.iconst 1, 1) := by decide +kernel
theorem dX11_may_43 : decode cX11_may 43 = .ok (.aload_n 0, 1) := by decide +kernel
theorem dX11_may_44 : decode cX11_may 44 = .ok (.getfield 7, 3) := by decide +kernel
theorem dX11_may_47 : decode cX11_may 47 = .ok (.iconst 1, 1) := by decide +kernel
theorem dX11_may_48 : decode cX11_may 48 = .ok (.iaload, 1) := by decide +kernel
theorem dX11_may_49 : decode cX11_may 49 = .ok (.invokestatic 306, 3) := by decide +kernel
theorem dX11_may_52 : decode cX11_may 52 = .ok (.laload, 1) := by decide +kernel
theorem dX11_may_53 : decode cX11_may 53 = .ok (.lmul, 1) := by decide +kernel
theorem dX11_may_54 : decode cX11_may 54 = .ok (.lstore_n 1, 1) := by decide +kernel
theorem dX11_may_55 : decode cX11_may 55 = .ok (.lload_n 1, 1) := by decide +kernel
theorem dX11_may_56 : decode cX11_may 56 = .ok (.lconst 0, 1) := by decide +kernel
theorem dX11_may_57 : decode cX11_may 57 = .ok (.lcmp, 1) := by decide +kernel
theorem dX11_may_58 : decode cX11_may 58 = .ok (.ifCond .ne 5, 3) := by decide +kernel
theorem dX11_may_63 : decode cX11_may 63 = .ok (.iconst 0, 1) := by decide +kernel
theorem dX11_may_64 : decode cX11_may 64 = .ok (.istore_n 3, 1) := by decide +kernel
theorem dX11_may_65 : decode cX11_may 65 = .ok (.iload_n 3, 1) := by decide +kernel
theorem dX11_may_66 : decode cX11_may 66 = .ok (.iconst 2, 1) := by decide +kernel
theorem dX11_may_67 : decode cX11_may 67 = .ok (.if_icmp .ge 138, 3) := by decide +kernel
theorem dX11_may_205 : decode cX11_may 205 = .ok (.aload_n 0, 1) := by decide +kernel
theorem dX11_may_206 : decode cX11_may 206 = .ok (.aload_n 0, 1) := by decide +kernel
theorem dX11_may_207 : decode cX11_may 207 = .ok (.getfield 98, 3) := by decide +kernel
theorem dX11_may_210 : decode cX11_may 210 = .ok (.iconst 1, 1) := by decide +kernel
theorem dX11_may_211 : decode cX11_may 211 = .ok (.iaload, 1) := by decide +kernel
theorem dX11_may_212 : decode cX11_may 212 = .ok (.putfield 319, 3) := by decide +kernel
theorem pf_X11_319 {p : Program} {l : Launch} {e : Env} {R : Room} {s : State} {m : MethodId} {args : Array Value} {below : List Frame} {meth : Method} {c : Code} {H : Heap} {locs : List Loc} {cells slots : Nat} {Q : State → Prop} {cc : ByteArray} {pc : Nat} {ls : Array Slot} {rest : List Value} {D : va_G} {A : Nat → Prop} {a : Nat} {tys : List (ClassId × FieldType)} {ws : va_W} {H0 : Heap} (hx : p.tables.exec = Jvm.exec) (hb : c.code = cc) (hts : ∀ w ∈ GW, w.before args s = true) (hown : s.vm.findClass RX11 = some m.cls) (hK : va_K D vwCl tys s) (hP : va_P D vwCl ws H) (hD : va_D A ws) (hS0 : va_S A H0 H locs) (q0 : Nat) {fs : List Value} (he : ws[q0]? = some (a, .inr (12, fs))) {v : Value} (hn : narrow (tyX11 29) v = v) (hfit : fits (tyX11 29) v = true) (hl : 29 < fs.length) (hdg : decode cc pc = .ok (.putfield 319, 3)) (kk : ∀ (H1 : Heap) (locs1 : List Loc), va_P D vwCl (ws.set q0 (a, .inr (12, fs.set 29 v))) H1 → va_D A (ws.set q0 (a, .inr (12, fs.set 29 v))) → va_S A H0 H1 locs1 → W p l e R s m args below meth c H1 locs1 cells slots Q (F0 m (pc + 3) ls rest)) : W p l e R s m args below meth c H locs cells slots Q (F0 m pc ls (v :: .ref a :: rest)) := va_put (C := RX11) (T := TX11) (N := 47) (ci := 12) hx hb hts inX11 tyX11 tkX11 nmX11 hown hK hP hD hS0 q0 he rfl 29 (by decide) (hts _ t1471) (fun _ h => h) rfl (tkX11 29 (by decide)) hn hfit hl hdg kk
theorem dX11_may_215 : decode cX11_may 215 = .ok (.lload_n 1, 1) := by decide +kernel
theorem dX11_may_216 : decode cX11_may 216 = .ok (.lreturn, 1) := by decide +kernel
theorem dX11_may_70 : decode cX11_may 70 = .ok (.aload_n 0, 1) := by decide +kernel
theorem dX11_may_71 : decode cX11_may 71 = .ok (.getfield 7, 3) := by decide +kernel
theorem dX11_may_74 : decode cX11_may 74 = .ok (.iload_n 3, 1) := by decide +kernel
theorem dX11_may_75 : decode cX11_may 75 = .ok (.iaload, 1) := by decide +kernel
theorem dX11_may_76 : decode cX11_may 76 = .ok (.istore 4, 2) := by decide +kernel
theorem dX11_may_78 : decode cX11_may 78 = .ok (.iconst 0, 1) := by decide +kernel
theorem dX11_may_79 : decode cX11_may 79 = .ok (.istore 5, 2) := by decide +kernel
theorem dX11_may_81 : decode cX11_may 81 = .ok (.iload 5, 2) := by decide +kernel
theorem dX11_may_83 : decode cX11_may 83 = .ok (.aload_n 0, 1) := by decide +kernel
theorem dX11_may_84 : decode cX11_may 84 = .ok (.getfield 98, 3) := by decide +kernel
theorem dX11_may_87 : decode cX11_may 87 = .ok (.iconst 1, 1) := by decide +kernel
theorem dX11_may_88 : decode cX11_may 88 = .ok (.iaload, 1) := by decide +kernel
theorem dX11_may_89 : decode cX11_may 89 = .ok (.if_icmp .ge 110, 3) := by decide +kernel
theorem dX11_may_199 : decode cX11_may 199 = .ok (.iinc 3 1, 3) := by decide +kernel
theorem dX11_may_202 : decode cX11_may 202 = .ok (.goto (-137), 3) := by decide +kernel
theorem dX11_may_92 : decode cX11_may 92 = .ok (.aload_n 0, 1) := by decide +kernel
theorem dX11_may_93 : decode cX11_may 93 = .ok (.getfield 98, 3) := by decide +kernel
theorem dX11_may_96 : decode cX11_may 96 = .ok (.bipush 21, 2) := by decide +kernel
theorem dX11_may_98 : decode cX11_may 98 = .ok (.iload 5, 2) := by decide +kernel
theorem dX11_may_100 : decode cX11_may 100 = .ok (.iadd, 1) := by decide +kernel
theorem dX11_may_101 : decode cX11_may 101 = .ok (.iaload, 1) := by decide +kernel
theorem dX11_may_102 : decode cX11_may 102 = .ok (.iload_n 3, 1) := by decide +kernel
theorem dX11_may_103 : decode cX11_may 103 = .ok (.if_icmp .eq 6, 3) := by decide +kernel
theorem dX11_may_109 : decode cX11_may 109 = .ok (.iconst 0, 1) := by decide +kernel
theorem dX11_may_110 : decode cX11_may 110 = .ok (.istore 6, 2) := by decide +kernel
theorem dX11_may_112 : decode cX11_may 112 = .ok (.aload_n 0, 1) := by decide +kernel
theorem dX11_may_113 : decode cX11_may 113 = .ok (.getfield 136, 3) := by decide +kernel
theorem dX11_may_116 : decode cX11_may 116 = .ok (.iload 5, 2) := by decide +kernel
theorem dX11_may_118 : decode cX11_may 118 = .ok (.iconst 1, 1) := by decide +kernel
theorem dX11_may_119 : decode cX11_may 119 = .ok (.iadd, 1) := by decide +kernel
theorem dX11_may_120 : decode cX11_may 120 = .ok (.iload_n 3, 1) := by decide +kernel
theorem dX11_may_121 : decode cX11_may 121 = .ok (.iload 4, 2) := by decide +kernel
theorem dX11_may_123 : decode cX11_may 123 = .ok (.iload 6, 2) := by decide +kernel
theorem dX11_may_125 : decode cX11_may 125 = .ok (.aload_n 0, 1) := by decide +kernel
theorem dX11_may_126 : decode cX11_may 126 = .ok (.getfield 98, 3) := by decide +kernel
theorem dX11_may_129 : decode cX11_may 129 = .ok (.bipush 11, 2) := by decide +kernel
theorem dX11_may_131 : decode cX11_may 131 = .ok (.iload 5, 2) := by decide +kernel
theorem dX11_may_133 : decode cX11_may 133 = .ok (.iadd, 1) := by decide +kernel
theorem dX11_may_134 : decode cX11_may 134 = .ok (.iaload, 1) := by decide +kernel
theorem dX11_may_135 : decode cX11_may 135 = .ok (.imul, 1) := by decide +kernel
theorem dX11_may_136 : decode cX11_may 136 = .ok (.isub, 1) := by decide +kernel
theorem dX11_may_137 : decode cX11_may 137 = .ok (.invokestatic 306, 3) := by decide +kernel
theorem dX11_may_140 : decode cX11_may 140 = .ok (.iaload, 1) := by decide +kernel
theorem dX11_may_141 : decode cX11_may 141 = .ok (.iload 6, 2) := by decide +kernel
theorem dX11_may_143 : decode cX11_may 143 = .ok (.iadd, 1) := by decide +kernel
theorem dX11_may_144 : decode cX11_may 144 = .ok (.aload_n 0, 1) := by decide +kernel
theorem dX11_may_145 : decode cX11_may 145 = .ok (.getfield 136, 3) := by decide +kernel
theorem dX11_may_148 : decode cX11_may 148 = .ok (.iload 5, 2) := by decide +kernel
theorem dX11_may_150 : decode cX11_may 150 = .ok (.iload_n 3, 1) := by decide +kernel
theorem dX11_may_151 : decode cX11_may 151 = .ok (.iload 4, 2) := by decide +kernel
theorem dX11_may_153 : decode cX11_may 153 = .ok (.invokestatic 306, 3) := by decide +kernel
theorem dX11_may_156 : decode cX11_may 156 = .ok (.iaload, 1) := by decide +kernel
theorem dX11_may_157 : decode cX11_may 157 = .ok (.if_icmp .eq 9, 3) := by decide +kernel
theorem dX11_may_166 : decode cX11_may 166 = .ok (.aload_n 0, 1) := by decide +kernel
theorem dX11_may_167 : decode cX11_may 167 = .ok (.getfield 139, 3) := by decide +kernel
theorem dX11_may_170 : decode cX11_may 170 = .ok (.iload 5, 2) := by decide +kernel
theorem dX11_may_172 : decode cX11_may 172 = .ok (.iload 6, 2) := by decide +kernel
theorem dX11_may_174 : decode cX11_may 174 = .ok (.iastore, 1) := by decide +kernel
theorem dX11_may_175 : decode cX11_may 175 = .ok (.iload 4, 2) := by decide +kernel
theorem dX11_may_177 : decode cX11_may 177 = .ok (.iload 6, 2) := by decide +kernel
theorem dX11_may_179 : decode cX11_may 179 = .ok (.aload_n 0, 1) := by decide +kernel
theorem dX11_may_180 : decode cX11_may 180 = .ok (.getfield 98, 3) := by decide +kernel
theorem dX11_may_183 : decode cX11_may 183 = .ok (.bipush 11, 2) := by decide +kernel
theorem dX11_may_185 : decode cX11_may 185 = .ok (.iload 5, 2) := by decide +kernel
theorem dX11_may_187 : decode cX11_may 187 = .ok (.iadd, 1) := by decide +kernel
theorem dX11_may_188 : decode cX11_may 188 = .ok (.iaload, 1) := by decide +kernel
theorem dX11_may_189 : decode cX11_may 189 = .ok (.imul, 1) := by decide +kernel
theorem dX11_may_190 : decode cX11_may 190 = .ok (.isub, 1) := by decide +kernel
theorem dX11_may_191 : decode cX11_may 191 = .ok (.istore 4, 2) := by decide +kernel
theorem dX11_may_193 : decode cX11_may 193 = .ok (.iinc 5 1, 3) := by decide +kernel
theorem dX11_may_196 : decode cX11_may 196 = .ok (.goto (-115), 3) := by decide +kernel
theorem dX11_may_160 : decode cX11_may 160 = .ok (.iinc 6 1, 3) := by decide +kernel
theorem dX11_may_163 : decode cX11_may 163 = .ok (.goto (-51), 3) := by decide +kernel
theorem dX11_may_106 : decode cX11_may 106 = .ok (.goto 87, 3) := by decide +kernel
theorem dX11_may_61 : decode cX11_may 61 = .ok (.lconst 0, 1) := by decide +kernel
theorem dX11_may_62 : decode cX11_may 62 = .ok (.lreturn, 1) := by decide +kernel
theorem dX11_may_13 : decode cX11_may 13 = .ok (.ldc2_w 314, 3) := by decide +kernel
theorem t1885 : Cond.constantLong RX11 314 (-1) ∈ GW := gw_mem 1999 (by decide +kernel) (by decide +kernel)
theorem dX11_may_16 : decode cX11_may 16 = .ok (.lreturn, 1) := by decide +kernel
set_option maxHeartbeats 4000000 in
set_option maxRecDepth 100000 in
theorem m_may (l : Launch) (dC : Nat → ClassId) (dI : Nat → Nat → Nat) (cy : Nat → ClassId) (sz : Nat) (vo : Nat) (voth : Int32) (vmt : Nat) (votp : Int32) (vosz : Int32) (volm : Int32) (voto : Int32) (vofr : Int32) (vokd : Int32) (vonu : Int32) (vosg : Int32) (vofa : Int32) (vopl : Int32) (vowd : Int64) (votd : Int32) (vmn : Nat) (vmr : Nat) (vmk : Nat) (vms : Nat) (vma : Nat) (vmm : Nat) (vmrn : Nat) (vmkn : Nat) (vmik : Nat) (vmon : Nat) (vosm : Int32) (vohp : Int32) (vmw : Nat) (vmf : Nat) (vmb : Nat) (vomb : Int32) (vmd : Nat) (vmc : Nat) (vocm : Int32) (voct : Int32) (vocy : Int32) (vmx : Nat) (votx : Int32) (vose : Int32) (vml : Nat) (vmwr : Nat) (voln : Int32) (vohw : Int32) (vmno : Nat) (vond : Int32) (voon : Int32) (vowi : Int32) (votop : Int32) (vmtf : Nat → Int32) (vmnf : Nat → Int32) (vmwf : Nat → Int64) (vmff : Nat → Int32) (vmbf : Nat → Int32) (r_votp : 0 ≤ (votp : Int32).toInt ∧ (votp : Int32).toInt ≤ 940) (r_vomb : 0 ≤ (vomb : Int32).toInt ∧ (vomb : Int32).toInt ≤ 10) (p_vmtf : Rg vmtf 940 0 255) (p_vmnf : NW vmnf) (p_vmff : Rg vmff 5632 0 100000) : Met l yX11_may (wl yX11_may cX11_may 7 (some .long)) ({ frames := 3, cells := 0, slots := 0, locals := 192 }) (Pw (dC, dI) vwCl cy [(vo, .inr (12, [.int voth, .ref vmt, .int votp, .int vosz, .int volm, .int voto, .int vofr, .int vokd, .int vonu, .int vosg, .int vofa, .int vopl, .long vowd, .int votd, .ref vmn, .ref vmr, .ref vmk, .ref vms, .ref vma, .ref vmm, .ref vmrn, .ref vmkn, .ref vmik, .ref vmon, .int vosm, .int vohp, .ref vmw, .ref vmf, .ref vmb, .int vomb, .ref vmd, .ref vmc, .int vocm, .int voct, .int vocy, .ref vmx, .int votx, .int vose, .ref vml, .ref vmwr, .int voln, .int vohw, .ref vmno, .int vond, .int voon, .int vowi, .int votop])), (vmt, .inl (cy 0, 940, .inl vmtf)), (vmn, .inl (cy 0, 575, .inl vmnf)), (vmw, .inl (cy 1, 5632, .inr (.inl vmwf))), (vmf, .inl (cy 0, 5632, .inl vmff)), (vmb, .inl (cy 0, 10, .inl vmbf))] sz [.ref vo] nE) (Ql (dC, dI) vwCl (fun (r : Int64) (u : Int32 × Int32 × (Nat → Int64) × (Nat → Int32) × (Nat → Int32) × Int32) => (0 ≤ (u.2.1 : Int32).toInt ∧ (u.2.1 : Int32).toInt ≤ 0) ∧ (Rg u.2.2.2.1 5632 0 100000) ∧ (0 ≤ (u.2.2.2.2.2 : Int32).toInt ∧ (u.2.2.2.2.2 : Int32).toInt ≤ 10)) (O_m_may cy vo voth vmt votp vosz volm voto vofr vokd vonu vosg vofa vopl vowd votd vmn vmr vmk vms vma vmm vmrn vmkn vmik vmon vosm vohp vmw vmf vmb vomb vmd vmc vocm voct vocy vmx votx vose vml vmwr voln vohw vmno vond voon vowi votop vmtf vmnf vmwf vmff vmbf) (va_A [(vo, .inr (12, [.int voth, .ref vmt, .int votp, .int vosz, .int volm, .int voto, .int vofr, .int vokd, .int vonu, .int vosg, .int vofa, .int vopl, .long vowd, .int votd, .ref vmn, .ref vmr, .ref vmk, .ref vms, .ref vma, .ref vmm, .ref vmrn, .ref vmkn, .ref vmik, .ref vmon, .int vosm, .int vohp, .ref vmw, .ref vmf, .ref vmb, .int vomb, .ref vmd, .ref vmc, .int vocm, .int voct, .int vocy, .ref vmx, .int votx, .int vose, .ref vml, .ref vmwr, .int voln, .int vohw, .ref vmno, .int vond, .int voon, .int vowi, .int votop])), (vmt, .inl (cy 0, 940, .inl vmtf)), (vmn, .inl (cy 0, 575, .inl vmnf)), (vmw, .inl (cy 1, 5632, .inr (.inl vmwf))), (vmf, .inl (cy 0, 5632, .inl vmff)), (vmb, .inl (cy 0, 10, .inl vmbf))] sz)) 0 0 (va_A [(vo, .inr (12, [.int voth, .ref vmt, .int votp, .int vosz, .int volm, .int voto, .int vofr, .int vokd, .int vonu, .int vosg, .int vofa, .int vopl, .long vowd, .int votd, .ref vmn, .ref vmr, .ref vmk, .ref vms, .ref vma, .ref vmm, .ref vmrn, .ref vmkn, .ref vmik, .ref vmon, .int vosm, .int vohp, .ref vmw, .ref vmf, .ref vmb, .int vomb, .ref vmd, .ref vmc, .int vocm, .int voct, .int vocy, .ref vmx, .int votx, .int vose, .ref vml, .ref vmwr, .int voln, .int vohw, .ref vmno, .int vond, .int voon, .int vowi, .int votop])), (vmt, .inl (cy 0, 940, .inl vmtf)), (vmn, .inl (cy 0, 575, .inl vmnf)), (vmw, .inl (cy 1, 5632, .inr (.inl vmwf))), (vmf, .inl (cy 0, 5632, .inl vmff)), (vmb, .inl (cy 0, 10, .inl vmbf))] sz) := by
  refine mw (Qc := Ql (dC, dI) vwCl (fun (r : Int64) (u : Int32 × Int32 × (Nat → Int64) × (Nat → Int32) × (Nat → Int32) × Int32) => (0 ≤ (u.2.1 : Int32).toInt ∧ (u.2.1 : Int32).toInt ≤ 0) ∧ (Rg u.2.2.2.1 5632 0 100000) ∧ (0 ≤ (u.2.2.2.2.2 : Int32).toInt ∧ (u.2.2.2.2.2 : Int32).toInt ≤ 10)) (O_m_may cy vo voth vmt votp vosz volm voto vofr vokd vonu vosg vofa vopl vowd votd vmn vmr vmk vms vma vmm vmrn vmkn vmik vmon vosm vohp vmw vmf vmb vomb vmd vmc vocm voct vocy vmx votx vose vml vmwr voln vohw vmno vond voon vowi votop vmtf vmnf vmwf vmff vmbf)) RX11 rfl (by decide +kernel) (Nat.le_of_ble_eq_true rfl) ?_
  intro p e s m below meth c A hx hb hr hlocks av9 hav hts hown hnm hml hK hP hD hA hS hE hAe Q9 hQ9 ls hl
  have hl : lv_has ls 7 [(0, .ref vo)] := hl
  refine lv_aload_n hx hb dX11_may_0 rfl (lv_at hl 0 rfl) ?_
  refine lv_iconst (v := 0) hx hb dX11_may_1 (by decide) ?_
  refine pf_X11_1 hx hb hts hown hK hP hD hS 0 rfl rfl rfl (Nat.le_of_ble_eq_true rfl) dX11_may_2 (fun H locs hP hD hS => ?_)
  have hP : va_P (dC, dI) vwCl [(vo, .inr (12, [.int 0, .ref vmt, .int votp, .int vosz, .int volm, .int voto, .int vofr, .int vokd, .int vonu, .int vosg, .int vofa, .int vopl, .long vowd, .int votd, .ref vmn, .ref vmr, .ref vmk, .ref vms, .ref vma, .ref vmm, .ref vmrn, .ref vmkn, .ref vmik, .ref vmon, .int vosm, .int vohp, .ref vmw, .ref vmf, .ref vmb, .int vomb, .ref vmd, .ref vmc, .int vocm, .int voct, .int vocy, .ref vmx, .int votx, .int vose, .ref vml, .ref vmwr, .int voln, .int vohw, .ref vmno, .int vond, .int voon, .int vowi, .int votop])), (vmt, .inl (cy 0, 940, .inl vmtf)), (vmn, .inl (cy 0, 575, .inl vmnf)), (vmw, .inl (cy 1, 5632, .inr (.inl vmwf))), (vmf, .inl (cy 0, 5632, .inl vmff)), (vmb, .inl (cy 0, 10, .inl vmbf))] H := hP
  have hD : va_D A [(vo, .inr (12, [.int 0, .ref vmt, .int votp, .int vosz, .int volm, .int voto, .int vofr, .int vokd, .int vonu, .int vosg, .int vofa, .int vopl, .long vowd, .int votd, .ref vmn, .ref vmr, .ref vmk, .ref vms, .ref vma, .ref vmm, .ref vmrn, .ref vmkn, .ref vmik, .ref vmon, .int vosm, .int vohp, .ref vmw, .ref vmf, .ref vmb, .int vomb, .ref vmd, .ref vmc, .int vocm, .int voct, .int vocy, .ref vmx, .int votx, .int vose, .ref vml, .ref vmwr, .int voln, .int vohw, .ref vmno, .int vond, .int voon, .int vowi, .int votop])), (vmt, .inl (cy 0, 940, .inl vmtf)), (vmn, .inl (cy 0, 575, .inl vmnf)), (vmw, .inl (cy 1, 5632, .inr (.inl vmwf))), (vmf, .inl (cy 0, 5632, .inl vmff)), (vmb, .inl (cy 0, 10, .inl vmbf))] := hD
  refine lv_aload_n hx hb dX11_may_5 rfl (lv_at hl 0 rfl) ?_
  have k_0 : (0 : Int32).toInt = 0 := by decide
  refine jn_i (wr := [(vmt, .inl (cy 0, 940, .inl vmtf)), (vmn, .inl (cy 0, 575, .inl vmnf)), (vmw, .inl (cy 1, 5632, .inr (.inl vmwf))), (vmf, .inl (cy 0, 5632, .inl vmff)), (vmb, .inl (cy 0, 10, .inl vmbf))]) (rV (As := []) (rest := []) (ci := 12) ⟨hx, hb, hml, hown, hts⟩ (m_take l dC dI cy _ vo 0 vmt votp vosz volm voto vofr vokd vonu vosg vofa vopl vowd votd vmn vmr vmk vms vma vmm vmrn vmkn vmik vmon vosm vohp vmw vmf vmb vomb vmd vmc vocm voct vocy vmx votx vose vml vmwr voln vohw vmno vond voon vowi votop r_votp) (cw_X11_89 hts rfl rfl ⟨Nat.le_of_ble_eq_true rfl, Nat.le_of_ble_eq_true rfl⟩) hP hD hK [0] rfl rfl rfl rfl bl0 e0 rfl hl.1 rfl (Nat.le_of_ble_eq_true rfl) dX11_may_6 ⟨Nat.le_of_ble_eq_true rfl, Nat.le_of_ble_eq_true rfl⟩) hP hD hS hA [0] [1, 2, 3, 4, 5] rfl rfl rfl (by decide) (fun r_1 u_3 H locs hp_2 hP hD hS => ?_)
  obtain ⟨votp_4, rfl⟩ : ∃ z, z = u_3 := ⟨_, rfl⟩
  have hp_2 : (0 ≤ (r_1 : Int32).toInt ∧ (r_1 : Int32).toInt ≤ 940) ∧ (0 ≤ (votp_4 : Int32).toInt ∧ (votp_4 : Int32).toInt ≤ 0) := hp_2
  obtain ⟨q_5, q_6⟩ := hp_2
  have hP : va_P (dC, dI) vwCl [(vmt, .inl (cy 0, 940, .inl vmtf)), (vmn, .inl (cy 0, 575, .inl vmnf)), (vmw, .inl (cy 1, 5632, .inr (.inl vmwf))), (vmf, .inl (cy 0, 5632, .inl vmff)), (vmb, .inl (cy 0, 10, .inl vmbf)), (vo, .inr (12, [.int 0, .ref vmt, .int votp_4, .int vosz, .int volm, .int voto, .int vofr, .int vokd, .int vonu, .int vosg, .int vofa, .int vopl, .long vowd, .int votd, .ref vmn, .ref vmr, .ref vmk, .ref vms, .ref vma, .ref vmm, .ref vmrn, .ref vmkn, .ref vmik, .ref vmon, .int vosm, .int vohp, .ref vmw, .ref vmf, .ref vmb, .int vomb, .ref vmd, .ref vmc, .int vocm, .int voct, .int vocy, .ref vmx, .int votx, .int vose, .ref vml, .ref vmwr, .int voln, .int vohw, .ref vmno, .int vond, .int voon, .int vowi, .int votop]))] H := hP
  have hD : va_D A [(vmt, .inl (cy 0, 940, .inl vmtf)), (vmn, .inl (cy 0, 575, .inl vmnf)), (vmw, .inl (cy 1, 5632, .inr (.inl vmwf))), (vmf, .inl (cy 0, 5632, .inl vmff)), (vmb, .inl (cy 0, 10, .inl vmbf)), (vo, .inr (12, [.int 0, .ref vmt, .int votp_4, .int vosz, .int volm, .int voto, .int vofr, .int vokd, .int vonu, .int vosg, .int vofa, .int vopl, .long vowd, .int votd, .ref vmn, .ref vmr, .ref vmk, .ref vms, .ref vma, .ref vmm, .ref vmrn, .ref vmkn, .ref vmik, .ref vmon, .int vosm, .int vohp, .ref vmw, .ref vmf, .ref vmb, .int vomb, .ref vmd, .ref vmc, .int vocm, .int voct, .int vocy, .ref vmx, .int votx, .int vose, .ref vml, .ref vmwr, .int voln, .int vohw, .ref vmno, .int vond, .int voon, .int vowi, .int votop]))] := hD
  refine lv_iconst (v := 2) hx hb dX11_may_9 (by decide) ?_
  have k_2 : (2 : Int32).toInt = 2 := by decide
  refine lv_icmp_eq (tgt := 17) hx hb dX11_may_10 (by decide) (fun c_7 => ?_) (fun c_7 => ?_)
  · skip
    have c_7 : r_1.toInt = (2 : Int32).toInt := i_eq.mp c_7
    refine lv_aload_n hx hb dX11_may_17 rfl (lv_at hl 0 rfl) ?_
    refine jn_v (wr := [(vmt, .inl (cy 0, 940, .inl vmtf)), (vmb, .inl (cy 0, 10, .inl vmbf))]) (rV (As := []) (rest := []) (ci := 12) ⟨hx, hb, hml, hown, hts⟩ (m_layWays l dC dI cy _ vo 0 vmt votp_4 vosz volm voto vofr vokd vonu vosg vofa vopl vowd votd vmn vmr vmk vms vma vmm vmrn vmkn vmik vmon vosm vohp vmw vmf vmb vomb vmd vmc vocm voct vocy vmx votx vose vml vmwr voln vohw vmno vond voon vowi votop vmnf vmwf vmff p_vmnf p_vmff) (cw_X11_316 hts rfl rfl ⟨Nat.le_of_ble_eq_true rfl, Nat.le_of_ble_eq_true rfl⟩) hP hD hK [5, 1, 2, 3] rfl rfl rfl rfl bl0 e0 rfl hl.1 rfl (Nat.le_of_ble_eq_true rfl) dX11_may_18 ⟨Nat.le_of_ble_eq_true rfl, Nat.le_of_ble_eq_true rfl⟩) hP hD hS hA [5, 1, 2, 3] [0, 4] rfl rfl rfl (by decide) (fun u_10 H locs hp_9 hP hD hS => ?_)
    obtain ⟨vmwf_11, vmff_12⟩ := u_10
    have hp_9 : (Rg vmff_12 5632 0 100000) ∧ (LWA vmff_12 vmnf) := hp_9
    obtain ⟨q_13, q_14⟩ := hp_9
    have hP : va_P (dC, dI) vwCl [(vmt, .inl (cy 0, 940, .inl vmtf)), (vmb, .inl (cy 0, 10, .inl vmbf)), (vo, .inr (12, [.int 0, .ref vmt, .int votp_4, .int vosz, .int volm, .int voto, .int vofr, .int vokd, .int vonu, .int vosg, .int vofa, .int vopl, .long vowd, .int votd, .ref vmn, .ref vmr, .ref vmk, .ref vms, .ref vma, .ref vmm, .ref vmrn, .ref vmkn, .ref vmik, .ref vmon, .int vosm, .int vohp, .ref vmw, .ref vmf, .ref vmb, .int vomb, .ref vmd, .ref vmc, .int vocm, .int voct, .int vocy, .ref vmx, .int votx, .int vose, .ref vml, .ref vmwr, .int voln, .int vohw, .ref vmno, .int vond, .int voon, .int vowi, .int votop])), (vmn, .inl (cy 0, 575, .inl vmnf)), (vmw, .inl (cy 1, 5632, .inr (.inl vmwf_11))), (vmf, .inl (cy 0, 5632, .inl vmff_12))] H := hP
    have hD : va_D A [(vmt, .inl (cy 0, 940, .inl vmtf)), (vmb, .inl (cy 0, 10, .inl vmbf)), (vo, .inr (12, [.int 0, .ref vmt, .int votp_4, .int vosz, .int volm, .int voto, .int vofr, .int vokd, .int vonu, .int vosg, .int vofa, .int vopl, .long vowd, .int votd, .ref vmn, .ref vmr, .ref vmk, .ref vms, .ref vma, .ref vmm, .ref vmrn, .ref vmkn, .ref vmik, .ref vmon, .int vosm, .int vohp, .ref vmw, .ref vmf, .ref vmb, .int vomb, .ref vmd, .ref vmc, .int vocm, .int voct, .int vocy, .ref vmx, .int votx, .int vose, .ref vml, .ref vmwr, .int voln, .int vohw, .ref vmno, .int vond, .int voon, .int vowi, .int votop])), (vmn, .inl (cy 0, 575, .inl vmnf)), (vmw, .inl (cy 1, 5632, .inr (.inl vmwf_11))), (vmf, .inl (cy 0, 5632, .inl vmff_12))] := hD
    refine lv_aload_n hx hb dX11_may_21 rfl (lv_at hl 0 rfl) ?_
    refine gf_X11_133 hx hb hts hown hK hP 2 rfl rfl dX11_may_22 ?_
    refine lv_iconst (v := 0) hx hb dX11_may_25 (by decide) ?_
    refine lv_iconst (v := 0) hx hb dX11_may_26 (by decide) ?_
    refine lv_aload_n hx hb dX11_may_27 rfl (lv_at hl 0 rfl) ?_
    refine gf_X11_7 hx hb hts hown hK hP 2 rfl rfl dX11_may_28 ?_
    refine lv_iconst (v := 0) hx hb dX11_may_31 (by decide) ?_
    have hin_15 : vp_in (0 : Int32) 940 := vp_in_iff.mpr ⟨by omega, by omega⟩
    refine va_iald hx hb hK hP 0 0 rfl rfl hin_15 dX11_may_32 ?_
    refine lv_topi (fun z_16 ez_16 => ?_)
    have bz_16 := p_vmtf.at hin_15 ez_16
    refine jr_i (rSr (As := [.int 0, .int 0, .int z_16]) (rest := [.ref vmw]) ⟨hx, hb, hml, hown, hts⟩ (m_cellOf l dC dI cy 0 0 z_16 ⟨by omega, by omega⟩ ⟨by omega, by omega⟩ ⟨by omega, by omega⟩) (cw_X11_306 hts rfl rfl ⟨Nat.le_of_ble_eq_true rfl, Nat.le_of_ble_eq_true rfl⟩) hP hK [] rfl rfl hl.1 rfl (Nat.le_of_ble_eq_true rfl) dX11_may_33 ⟨Nat.le_of_ble_eq_true rfl, Nat.le_of_ble_eq_true rfl⟩) hP hS (fun r_17 H locs hp_18 hP hS => ?_)
    have hp_18 : (0 ≤ (r_17 : Int32).toInt ∧ (r_17 : Int32).toInt ≤ 5631) ∧ ((r_17 : Int32).toInt = 512 * (0 : Int32).toInt + 256 * (0 : Int32).toInt + (z_16 : Int32).toInt) := hp_18
    obtain ⟨q_19, q_20⟩ := hp_18
    have hin_21 : vp_in r_17 5632 := vp_in_iff.mpr ⟨by omega, by omega⟩
    refine va_lald hx hb hK hP 4 1 rfl rfl hin_21 dX11_may_36 ?_
    refine lv_topl (fun y_22 ey_22 => ?_)
    refine lv_aload_n hx hb dX11_may_37 rfl (lv_at hl 0 rfl) ?_
    refine gf_X11_133 hx hb hts hown hK hP 2 rfl rfl dX11_may_38 ?_
    refine lv_iconst (v := 0) hx hb dX11_may_41 (by decide) ?_
    refine lv_iconst (v := 1) hx hb dX11_may_42 (by decide) ?_
    refine lv_aload_n hx hb dX11_may_43 rfl (lv_at hl 0 rfl) ?_
    refine gf_X11_7 hx hb hts hown hK hP 2 rfl rfl dX11_may_44 ?_
    refine lv_iconst (v := 1) hx hb dX11_may_47 (by decide) ?_
    have k_1 : (1 : Int32).toInt = 1 := by decide
    have hin_23 : vp_in (1 : Int32) 940 := vp_in_iff.mpr ⟨by omega, by omega⟩
    refine va_iald hx hb hK hP 0 0 rfl rfl hin_23 dX11_may_48 ?_
    refine lv_topi (fun z_24 ez_24 => ?_)
    have bz_24 := p_vmtf.at hin_23 ez_24
    refine jr_i (rSr (As := [.int 0, .int 1, .int z_24]) (rest := [.ref vmw, .long y_22]) ⟨hx, hb, hml, hown, hts⟩ (m_cellOf l dC dI cy 0 1 z_24 ⟨by omega, by omega⟩ ⟨by omega, by omega⟩ ⟨by omega, by omega⟩) (cw_X11_306 hts rfl rfl ⟨Nat.le_of_ble_eq_true rfl, Nat.le_of_ble_eq_true rfl⟩) hP hK [] rfl rfl hl.1 rfl (Nat.le_of_ble_eq_true rfl) dX11_may_49 ⟨Nat.le_of_ble_eq_true rfl, Nat.le_of_ble_eq_true rfl⟩) hP hS (fun r_25 H locs hp_26 hP hS => ?_)
    have hp_26 : (0 ≤ (r_25 : Int32).toInt ∧ (r_25 : Int32).toInt ≤ 5631) ∧ ((r_25 : Int32).toInt = 512 * (0 : Int32).toInt + 256 * (1 : Int32).toInt + (z_24 : Int32).toInt) := hp_26
    obtain ⟨q_27, q_28⟩ := hp_26
    have hin_29 : vp_in r_25 5632 := vp_in_iff.mpr ⟨by omega, by omega⟩
    refine va_lald hx hb hK hP 4 1 rfl rfl hin_29 dX11_may_52 ?_
    refine lv_topl (fun y_30 ey_30 => ?_)
    refine lv_lmul hx hb dX11_may_53 ?_
    refine lv_topl (fun y_31 ey_31 => ?_)
    refine lv_lstore_n (lv' := [(1, .long y_31), (0, .ref vo)]) hx hb dX11_may_54 rfl hl (by decide) rfl (fun ls hl => ?_)
    refine lv_lload_n hx hb dX11_may_55 rfl (lv_at hl 0 rfl) ?_
    refine lv_lconst (v := 0) hx hb dX11_may_56 (by decide) ?_
    refine W.lcmp hx hb dX11_may_57 ?_
    refine lv_topi (fun z_32 ez_32 => ?_)
    refine lv_if_ne (tgt := 63) hx hb dX11_may_58 (by decide) (fun c_33 => ?_) (fun c_33 => ?_)
    · skip
      have c_33 : ¬ (z_32.toInt = (0 : Int32).toInt) := fun h9 => c_33 (i_eq.mpr h9)
      refine lv_iconst (v := 0) hx hb dX11_may_63 (by decide) ?_
      refine lv_istore_n (lv' := [(3, .int 0), (1, .long y_31), (0, .ref vo)]) hx hb dX11_may_64 rfl hl (by decide) rfl (fun ls hl => ?_)
      have loop34 : ∀ (n34 : Nat) (x_35 : Int32) (g_36 : Nat → Int32), (0 ≤ x_35.toInt ∧ x_35.toInt ≤ 2) → 2 - x_35.toInt < (n34 : Int) → ∀ (H : Heap) (locs : List Loc), va_P (dC, dI) vwCl [(vmt, .inl (cy 0, 940, .inl vmtf)), (vmb, .inl (cy 0, 10, .inl g_36)), (vo, .inr (12, [.int 0, .ref vmt, .int votp_4, .int vosz, .int volm, .int voto, .int vofr, .int vokd, .int vonu, .int vosg, .int vofa, .int vopl, .long vowd, .int votd, .ref vmn, .ref vmr, .ref vmk, .ref vms, .ref vma, .ref vmm, .ref vmrn, .ref vmkn, .ref vmik, .ref vmon, .int vosm, .int vohp, .ref vmw, .ref vmf, .ref vmb, .int vomb, .ref vmd, .ref vmc, .int vocm, .int voct, .int vocy, .ref vmx, .int votx, .int vose, .ref vml, .ref vmwr, .int voln, .int vohw, .ref vmno, .int vond, .int voon, .int vowi, .int votop])), (vmn, .inl (cy 0, 575, .inl vmnf)), (vmw, .inl (cy 1, 5632, .inr (.inl vmwf_11))), (vmf, .inl (cy 0, 5632, .inl vmff_12))] H → va_D A [(vmt, .inl (cy 0, 940, .inl vmtf)), (vmb, .inl (cy 0, 10, .inl g_36)), (vo, .inr (12, [.int 0, .ref vmt, .int votp_4, .int vosz, .int volm, .int voto, .int vofr, .int vokd, .int vonu, .int vosg, .int vofa, .int vopl, .long vowd, .int votd, .ref vmn, .ref vmr, .ref vmk, .ref vms, .ref vma, .ref vmm, .ref vmrn, .ref vmkn, .ref vmik, .ref vmon, .int vosm, .int vohp, .ref vmw, .ref vmf, .ref vmb, .int vomb, .ref vmd, .ref vmc, .int vocm, .int voct, .int vocy, .ref vmx, .int votx, .int vose, .ref vml, .ref vmwr, .int voln, .int vohw, .ref vmno, .int vond, .int voon, .int vowi, .int votop])), (vmn, .inl (cy 0, 575, .inl vmnf)), (vmw, .inl (cy 1, 5632, .inr (.inl vmwf_11))), (vmf, .inl (cy 0, 5632, .inl vmff_12))] → va_S A s.heap H locs → ∀ ls : Array Slot, lv_has ls 7 [(3, .int x_35), (1, .long y_31), (0, .ref vo)] → W p l e ({ frames := 3, cells := 0, slots := 0, locals := 192 }) s m av9 below meth c H locs 0 0 Q9 (F0 m 65 ls []) := by
        intro n34
        induction n34 with
        | zero =>
          intro x_35 g_36 bx_35 hn34 H locs hP hD hS ls hl
          exfalso; omega
        | succ n34 ih34 =>
          intro x_35 g_36 bx_35 hn34 H locs hP hD hS ls hl
          refine lv_iload_n hx hb dX11_may_65 rfl (lv_at hl 0 rfl) ?_
          refine lv_iconst (v := 2) hx hb dX11_may_66 (by decide) ?_
          refine lv_icmp_ge (tgt := 205) hx hb dX11_may_67 (by decide) (fun c_37 => ?_) (fun c_37 => ?_)
          · skip
            have c_37 : (2 : Int32).toInt ≤ x_35.toInt := i_le.mp c_37
            refine lv_aload_n hx hb dX11_may_205 rfl (lv_at hl 2 rfl) ?_
            refine lv_aload_n hx hb dX11_may_206 rfl (lv_at hl 2 rfl) ?_
            refine gf_X11_98 hx hb hts hown hK hP 2 rfl rfl dX11_may_207 ?_
            refine lv_iconst (v := 1) hx hb dX11_may_210 (by decide) ?_
            have hin_38 : vp_in (1 : Int32) 575 := vp_in_iff.mpr ⟨by omega, by omega⟩
            refine va_iald hx hb hK hP 3 0 rfl rfl hin_38 dX11_may_211 ?_
            refine lv_topi (fun z_39 ez_39 => ?_)
            have bz_39 := p_vmnf.a1 (x := 1) ⟨by omega, by omega⟩ ez_39
            have tz_39 : z_39.toInt = (vmnf 1).toInt := by rw [ez_39]; rfl
            refine pf_X11_319 hx hb hts hown hK hP hD hS 2 rfl rfl rfl (Nat.le_of_ble_eq_true rfl) dX11_may_212 (fun H locs hP hD hS => ?_)
            have hP : va_P (dC, dI) vwCl [(vmt, .inl (cy 0, 940, .inl vmtf)), (vmb, .inl (cy 0, 10, .inl g_36)), (vo, .inr (12, [.int 0, .ref vmt, .int votp_4, .int vosz, .int volm, .int voto, .int vofr, .int vokd, .int vonu, .int vosg, .int vofa, .int vopl, .long vowd, .int votd, .ref vmn, .ref vmr, .ref vmk, .ref vms, .ref vma, .ref vmm, .ref vmrn, .ref vmkn, .ref vmik, .ref vmon, .int vosm, .int vohp, .ref vmw, .ref vmf, .ref vmb, .int z_39, .ref vmd, .ref vmc, .int vocm, .int voct, .int vocy, .ref vmx, .int votx, .int vose, .ref vml, .ref vmwr, .int voln, .int vohw, .ref vmno, .int vond, .int voon, .int vowi, .int votop])), (vmn, .inl (cy 0, 575, .inl vmnf)), (vmw, .inl (cy 1, 5632, .inr (.inl vmwf_11))), (vmf, .inl (cy 0, 5632, .inl vmff_12))] H := hP
            have hD : va_D A [(vmt, .inl (cy 0, 940, .inl vmtf)), (vmb, .inl (cy 0, 10, .inl g_36)), (vo, .inr (12, [.int 0, .ref vmt, .int votp_4, .int vosz, .int volm, .int voto, .int vofr, .int vokd, .int vonu, .int vosg, .int vofa, .int vopl, .long vowd, .int votd, .ref vmn, .ref vmr, .ref vmk, .ref vms, .ref vma, .ref vmm, .ref vmrn, .ref vmkn, .ref vmik, .ref vmon, .int vosm, .int vohp, .ref vmw, .ref vmf, .ref vmb, .int z_39, .ref vmd, .ref vmc, .int vocm, .int voct, .int vocy, .ref vmx, .int votx, .int vose, .ref vml, .ref vmwr, .int voln, .int vohw, .ref vmno, .int vond, .int voon, .int vowi, .int votop])), (vmn, .inl (cy 0, 575, .inl vmnf)), (vmw, .inl (cy 1, 5632, .inr (.inl vmwf_11))), (vmf, .inl (cy 0, 5632, .inl vmff_12))] := hD
            refine lv_lload_n hx hb dX11_may_215 rfl (lv_at hl 1 rfl) ?_
            rw [hQ9]
            exact re_l ((0 : Int32), votp_4, vmwf_11, vmff_12, g_36, z_39) hx hb hr hlocks ⟨(show 0 ≤ (votp_4 : Int32).toInt ∧ (votp_4 : Int32).toInt ≤ 0 from ⟨by omega, by omega⟩), (show Rg vmff_12 5632 0 100000 from q_13), (show 0 ≤ (z_39 : Int32).toInt ∧ (z_39 : Int32).toInt ≤ 10 from ⟨by omega, by omega⟩)⟩ (hP.sub [2, 0, 3, 4, 5, 1] rfl) (hD.sub [2, 0, 3, 4, 5, 1] rfl rfl) hS dX11_may_216
          · skip
            have c_37 : ¬ ((2 : Int32).toInt ≤ x_35.toInt) := fun h9 => c_37 (i_le.mpr h9)
            refine lv_aload_n hx hb dX11_may_70 rfl (lv_at hl 2 rfl) ?_
            refine gf_X11_7 hx hb hts hown hK hP 2 rfl rfl dX11_may_71 ?_
            refine lv_iload_n hx hb dX11_may_74 rfl (lv_at hl 0 rfl) ?_
            have hin_40 : vp_in x_35 940 := vp_in_iff.mpr ⟨by omega, by omega⟩
            refine va_iald hx hb hK hP 0 0 rfl rfl hin_40 dX11_may_75 ?_
            refine lv_topi (fun z_41 ez_41 => ?_)
            have bz_41 := p_vmtf.at hin_40 ez_41
            refine lv_istore (lv' := [(4, .int z_41), (3, .int x_35), (1, .long y_31), (0, .ref vo)]) hx hb dX11_may_76 hl (by decide) rfl (fun ls hl => ?_)
            refine lv_iconst (v := 0) hx hb dX11_may_78 (by decide) ?_
            refine lv_istore (lv' := [(5, .int 0), (4, .int z_41), (3, .int x_35), (1, .long y_31), (0, .ref vo)]) hx hb dX11_may_79 hl (by decide) rfl (fun ls hl => ?_)
            have loop42 : ∀ (n42 : Nat) (x_44 : Int32) (x_43 : Int32) (g_45 : Nat → Int32), (0 ≤ x_44.toInt ∧ x_44.toInt ≤ 255) → (0 ≤ x_43.toInt ∧ x_43.toInt ≤ 10) → 10 - x_43.toInt < (n42 : Int) → ∀ (H : Heap) (locs : List Loc), va_P (dC, dI) vwCl [(vmt, .inl (cy 0, 940, .inl vmtf)), (vmb, .inl (cy 0, 10, .inl g_45)), (vo, .inr (12, [.int 0, .ref vmt, .int votp_4, .int vosz, .int volm, .int voto, .int vofr, .int vokd, .int vonu, .int vosg, .int vofa, .int vopl, .long vowd, .int votd, .ref vmn, .ref vmr, .ref vmk, .ref vms, .ref vma, .ref vmm, .ref vmrn, .ref vmkn, .ref vmik, .ref vmon, .int vosm, .int vohp, .ref vmw, .ref vmf, .ref vmb, .int vomb, .ref vmd, .ref vmc, .int vocm, .int voct, .int vocy, .ref vmx, .int votx, .int vose, .ref vml, .ref vmwr, .int voln, .int vohw, .ref vmno, .int vond, .int voon, .int vowi, .int votop])), (vmn, .inl (cy 0, 575, .inl vmnf)), (vmw, .inl (cy 1, 5632, .inr (.inl vmwf_11))), (vmf, .inl (cy 0, 5632, .inl vmff_12))] H → va_D A [(vmt, .inl (cy 0, 940, .inl vmtf)), (vmb, .inl (cy 0, 10, .inl g_45)), (vo, .inr (12, [.int 0, .ref vmt, .int votp_4, .int vosz, .int volm, .int voto, .int vofr, .int vokd, .int vonu, .int vosg, .int vofa, .int vopl, .long vowd, .int votd, .ref vmn, .ref vmr, .ref vmk, .ref vms, .ref vma, .ref vmm, .ref vmrn, .ref vmkn, .ref vmik, .ref vmon, .int vosm, .int vohp, .ref vmw, .ref vmf, .ref vmb, .int vomb, .ref vmd, .ref vmc, .int vocm, .int voct, .int vocy, .ref vmx, .int votx, .int vose, .ref vml, .ref vmwr, .int voln, .int vohw, .ref vmno, .int vond, .int voon, .int vowi, .int votop])), (vmn, .inl (cy 0, 575, .inl vmnf)), (vmw, .inl (cy 1, 5632, .inr (.inl vmwf_11))), (vmf, .inl (cy 0, 5632, .inl vmff_12))] → va_S A s.heap H locs → ∀ ls : Array Slot, lv_has ls 7 [(5, .int x_43), (4, .int x_44), (3, .int x_35), (1, .long y_31), (0, .ref vo)] → W p l e ({ frames := 3, cells := 0, slots := 0, locals := 192 }) s m av9 below meth c H locs 0 0 Q9 (F0 m 81 ls []) := by
              intro n42
              induction n42 with
              | zero =>
                intro x_44 x_43 g_45 bx_44 bx_43 hn42 H locs hP hD hS ls hl
                exfalso; omega
              | succ n42 ih42 =>
                intro x_44 x_43 g_45 bx_44 bx_43 hn42 H locs hP hD hS ls hl
                refine lv_iload hx hb dX11_may_81 (lv_at hl 0 rfl) ?_
                refine lv_aload_n hx hb dX11_may_83 rfl (lv_at hl 4 rfl) ?_
                refine gf_X11_98 hx hb hts hown hK hP 2 rfl rfl dX11_may_84 ?_
                refine lv_iconst (v := 1) hx hb dX11_may_87 (by decide) ?_
                have hin_46 : vp_in (1 : Int32) 575 := vp_in_iff.mpr ⟨by omega, by omega⟩
                refine va_iald hx hb hK hP 3 0 rfl rfl hin_46 dX11_may_88 ?_
                refine lv_topi (fun z_47 ez_47 => ?_)
                have bz_47 := p_vmnf.a1 (x := 1) ⟨by omega, by omega⟩ ez_47
                have tz_47 : z_47.toInt = (vmnf 1).toInt := by rw [ez_47]; rfl
                refine lv_icmp_ge (tgt := 199) hx hb dX11_may_89 (by decide) (fun c_48 => ?_) (fun c_48 => ?_)
                · skip
                  have c_48 : z_47.toInt ≤ x_43.toInt := i_le.mp c_48
                  obtain ⟨z_49, ez_49⟩ : ∃ z : Int32, z = x_35 + 1 := ⟨_, rfl⟩
                  have bz_49 : z_49.toInt = x_35.toInt + (1 : Int32).toInt := i_add ez_49 (by omega) (by omega)
                  refine lv_iinc (v := z_49) (lv' := [(3, .int z_49), (5, .int x_43), (4, .int x_44), (1, .long y_31), (0, .ref vo)]) hx hb dX11_may_199 hl (k := 2) rfl ez_49.symm (by decide) rfl (fun ls hl => ?_)
                  refine lv_goto (tgt := 65) hx hb dX11_may_202 (by decide) ?_
                  exact ih34 z_49 g_45 ⟨by omega, by omega⟩ (by omega) _ _ (hP.sub [0, 1, 2, 3, 4, 5] rfl) (hD.sub [0, 1, 2, 3, 4, 5] rfl rfl) hS ls (lv_sub hl [0, 3, 4] rfl)
                · skip
                  have c_48 : ¬ (z_47.toInt ≤ x_43.toInt) := fun h9 => c_48 (i_le.mpr h9)
                  refine lv_aload_n hx hb dX11_may_92 rfl (lv_at hl 4 rfl) ?_
                  refine gf_X11_98 hx hb hts hown hK hP 2 rfl rfl dX11_may_93 ?_
                  refine lv_bipush (v := 21) hx hb dX11_may_96 (by decide) ?_
                  refine lv_iload hx hb dX11_may_98 (lv_at hl 0 rfl) ?_
                  refine lv_iadd hx hb dX11_may_100 ?_
                  refine lv_topi (fun z_50 ez_50 => ?_)
                  have k_21 : (21 : Int32).toInt = 21 := by decide
                  have bz_50 : z_50.toInt = (21 : Int32).toInt + x_43.toInt := i_add ez_50 (by omega) (by omega)
                  have hin_51 : vp_in z_50 575 := vp_in_iff.mpr ⟨by omega, by omega⟩
                  refine va_iald hx hb hK hP 3 0 rfl rfl hin_51 dX11_may_101 ?_
                  refine lv_topi (fun z_52 ez_52 => ?_)
                  refine lv_iload_n hx hb dX11_may_102 rfl (lv_at hl 2 rfl) ?_
                  refine lv_icmp_eq (tgt := 109) hx hb dX11_may_103 (by decide) (fun c_53 => ?_) (fun c_53 => ?_)
                  · skip
                    have c_53 : z_52.toInt = x_35.toInt := i_eq.mp c_53
                    refine lv_iconst (v := 0) hx hb dX11_may_109 (by decide) ?_
                    refine lv_istore (lv' := [(6, .int 0), (5, .int x_43), (4, .int x_44), (3, .int x_35), (1, .long y_31), (0, .ref vo)]) hx hb dX11_may_110 hl (by decide) rfl (fun ls hl => ?_)
                    have loop54 : ∀ (n54 : Nat) (x_55 : Int32), (0 ≤ x_55.toInt ∧ x_55.toInt ≤ 10) → (WH vmff_12 vmnf (512 * x_43.toInt + 256 * x_35.toInt + x_44.toInt).toNat x_55.toInt) → 10 - x_55.toInt < (n54 : Int) → ∀ (H : Heap) (locs : List Loc), va_P (dC, dI) vwCl [(vmt, .inl (cy 0, 940, .inl vmtf)), (vmb, .inl (cy 0, 10, .inl g_45)), (vo, .inr (12, [.int 0, .ref vmt, .int votp_4, .int vosz, .int volm, .int voto, .int vofr, .int vokd, .int vonu, .int vosg, .int vofa, .int vopl, .long vowd, .int votd, .ref vmn, .ref vmr, .ref vmk, .ref vms, .ref vma, .ref vmm, .ref vmrn, .ref vmkn, .ref vmik, .ref vmon, .int vosm, .int vohp, .ref vmw, .ref vmf, .ref vmb, .int vomb, .ref vmd, .ref vmc, .int vocm, .int voct, .int vocy, .ref vmx, .int votx, .int vose, .ref vml, .ref vmwr, .int voln, .int vohw, .ref vmno, .int vond, .int voon, .int vowi, .int votop])), (vmn, .inl (cy 0, 575, .inl vmnf)), (vmw, .inl (cy 1, 5632, .inr (.inl vmwf_11))), (vmf, .inl (cy 0, 5632, .inl vmff_12))] H → va_D A [(vmt, .inl (cy 0, 940, .inl vmtf)), (vmb, .inl (cy 0, 10, .inl g_45)), (vo, .inr (12, [.int 0, .ref vmt, .int votp_4, .int vosz, .int volm, .int voto, .int vofr, .int vokd, .int vonu, .int vosg, .int vofa, .int vopl, .long vowd, .int votd, .ref vmn, .ref vmr, .ref vmk, .ref vms, .ref vma, .ref vmm, .ref vmrn, .ref vmkn, .ref vmik, .ref vmon, .int vosm, .int vohp, .ref vmw, .ref vmf, .ref vmb, .int vomb, .ref vmd, .ref vmc, .int vocm, .int voct, .int vocy, .ref vmx, .int votx, .int vose, .ref vml, .ref vmwr, .int voln, .int vohw, .ref vmno, .int vond, .int voon, .int vowi, .int votop])), (vmn, .inl (cy 0, 575, .inl vmnf)), (vmw, .inl (cy 1, 5632, .inr (.inl vmwf_11))), (vmf, .inl (cy 0, 5632, .inl vmff_12))] → va_S A s.heap H locs → ∀ ls : Array Slot, lv_has ls 7 [(6, .int x_55), (5, .int x_43), (4, .int x_44), (3, .int x_35), (1, .long y_31), (0, .ref vo)] → W p l e ({ frames := 3, cells := 0, slots := 0, locals := 192 }) s m av9 below meth c H locs 0 0 Q9 (F0 m 112 ls []) := by
                      intro n54
                      induction n54 with
                      | zero =>
                        intro x_55 bx_55 v54_0 hn54 H locs hP hD hS ls hl
                        exfalso; omega
                      | succ n54 ih54 =>
                        intro x_55 bx_55 v54_0 hn54 H locs hP hD hS ls hl
                        refine lv_aload_n hx hb dX11_may_112 rfl (lv_at hl 5 rfl) ?_
                        refine gf_X11_136 hx hb hts hown hK hP 2 rfl rfl dX11_may_113 ?_
                        refine lv_iload hx hb dX11_may_116 (lv_at hl 1 rfl) ?_
                        refine lv_iconst (v := 1) hx hb dX11_may_118 (by decide) ?_
                        refine lv_iadd hx hb dX11_may_119 ?_
                        refine lv_topi (fun z_56 ez_56 => ?_)
                        have bz_56 : z_56.toInt = x_43.toInt + (1 : Int32).toInt := i_add ez_56 (by omega) (by omega)
                        refine lv_iload_n hx hb dX11_may_120 rfl (lv_at hl 3 rfl) ?_
                        refine lv_iload hx hb dX11_may_121 (lv_at hl 2 rfl) ?_
                        refine lv_iload hx hb dX11_may_123 (lv_at hl 0 rfl) ?_
                        refine lv_aload_n hx hb dX11_may_125 rfl (lv_at hl 5 rfl) ?_
                        refine gf_X11_98 hx hb hts hown hK hP 2 rfl rfl dX11_may_126 ?_
                        refine lv_bipush (v := 11) hx hb dX11_may_129 (by decide) ?_
                        refine lv_iload hx hb dX11_may_131 (lv_at hl 1 rfl) ?_
                        refine lv_iadd hx hb dX11_may_133 ?_
                        refine lv_topi (fun z_57 ez_57 => ?_)
                        have k_11 : (11 : Int32).toInt = 11 := by decide
                        have bz_57 : z_57.toInt = (11 : Int32).toInt + x_43.toInt := i_add ez_57 (by omega) (by omega)
                        have hin_58 : vp_in z_57 575 := vp_in_iff.mpr ⟨by omega, by omega⟩
                        refine va_iald hx hb hK hP 3 0 rfl rfl hin_58 dX11_may_134 ?_
                        refine lv_topi (fun z_59 ez_59 => ?_)
                        have bz_59 := p_vmnf.aw (x := z_57) ⟨by omega, by omega⟩ ez_59
                        have hw_z_59 := WH.le (x := x_55) v54_0 (by omega) ⟨by omega, by omega⟩ ⟨by omega, by omega⟩ ⟨by omega, by omega⟩ (i1 := z_57) (by omega) ez_59 (by omega)
                        refine lv_imul hx hb dX11_may_135 ?_
                        refine lv_topi (fun z_60 ez_60 => ?_)
                        have bz_60 : 0 ≤ z_60.toInt ∧ z_60.toInt ≤ 400 ∧ z_60.toInt = x_55.toInt * z_59.toInt := i_mulb (A := 10) (B := 40) ez_60 ⟨by omega, by omega⟩ ⟨by omega, by omega⟩ (by decide)
                        refine lv_isub hx hb dX11_may_136 ?_
                        refine lv_topi (fun z_61 ez_61 => ?_)
                        have bz_61 : z_61.toInt = x_44.toInt - z_60.toInt := i_sub ez_61 (by omega) (by omega)
                        refine jr_i (rSr (As := [.int z_56, .int x_35, .int z_61]) (rest := [.ref vmf]) ⟨hx, hb, hml, hown, hts⟩ (m_cellOf l dC dI cy z_56 x_35 z_61 ⟨by omega, by omega⟩ ⟨by omega, by omega⟩ ⟨by omega, by omega⟩) (cw_X11_306 hts rfl rfl ⟨Nat.le_of_ble_eq_true rfl, Nat.le_of_ble_eq_true rfl⟩) hP hK [] rfl rfl hl.1 rfl (Nat.le_of_ble_eq_true rfl) dX11_may_137 ⟨Nat.le_of_ble_eq_true rfl, Nat.le_of_ble_eq_true rfl⟩) hP hS (fun r_62 H locs hp_63 hP hS => ?_)
                        have hp_63 : (0 ≤ (r_62 : Int32).toInt ∧ (r_62 : Int32).toInt ≤ 5631) ∧ ((r_62 : Int32).toInt = 512 * (z_56 : Int32).toInt + 256 * (x_35 : Int32).toInt + (z_61 : Int32).toInt) := hp_63
                        obtain ⟨q_64, q_65⟩ := hp_63
                        have hin_66 : vp_in r_62 5632 := vp_in_iff.mpr ⟨by omega, by omega⟩
                        refine va_iald hx hb hK hP 5 0 rfl rfl hin_66 dX11_may_140 ?_
                        refine lv_topi (fun z_67 ez_67 => ?_)
                        have bz_67 := q_13.at hin_66 ez_67
                        refine lv_iload hx hb dX11_may_141 (lv_at hl 0 rfl) ?_
                        refine lv_iadd hx hb dX11_may_143 ?_
                        refine lv_topi (fun z_68 ez_68 => ?_)
                        have bz_68 : z_68.toInt = z_67.toInt + x_55.toInt := i_add ez_68 (by omega) (by omega)
                        refine lv_aload_n hx hb dX11_may_144 rfl (lv_at hl 5 rfl) ?_
                        refine gf_X11_136 hx hb hts hown hK hP 2 rfl rfl dX11_may_145 ?_
                        refine lv_iload hx hb dX11_may_148 (lv_at hl 1 rfl) ?_
                        refine lv_iload_n hx hb dX11_may_150 rfl (lv_at hl 3 rfl) ?_
                        refine lv_iload hx hb dX11_may_151 (lv_at hl 2 rfl) ?_
                        refine jr_i (rSr (As := [.int x_43, .int x_35, .int x_44]) (rest := [.ref vmf, .int z_68]) ⟨hx, hb, hml, hown, hts⟩ (m_cellOf l dC dI cy x_43 x_35 x_44 ⟨by omega, by omega⟩ ⟨by omega, by omega⟩ ⟨by omega, by omega⟩) (cw_X11_306 hts rfl rfl ⟨Nat.le_of_ble_eq_true rfl, Nat.le_of_ble_eq_true rfl⟩) hP hK [] rfl rfl hl.1 rfl (Nat.le_of_ble_eq_true rfl) dX11_may_153 ⟨Nat.le_of_ble_eq_true rfl, Nat.le_of_ble_eq_true rfl⟩) hP hS (fun r_69 H locs hp_70 hP hS => ?_)
                        have hp_70 : (0 ≤ (r_69 : Int32).toInt ∧ (r_69 : Int32).toInt ≤ 5631) ∧ ((r_69 : Int32).toInt = 512 * (x_43 : Int32).toInt + 256 * (x_35 : Int32).toInt + (x_44 : Int32).toInt) := hp_70
                        obtain ⟨q_71, q_72⟩ := hp_70
                        have hin_73 : vp_in r_69 5632 := vp_in_iff.mpr ⟨by omega, by omega⟩
                        refine va_iald hx hb hK hP 5 0 rfl rfl hin_73 dX11_may_156 ?_
                        refine lv_topi (fun z_74 ez_74 => ?_)
                        have bz_74 := q_13.at hin_73 ez_74
                        refine lv_icmp_eq (tgt := 166) hx hb dX11_may_157 (by decide) (fun c_75 => ?_) (fun c_75 => ?_)
                        · skip
                          have c_75 : z_68.toInt = z_74.toInt := i_eq.mp c_75
                          refine lv_aload_n hx hb dX11_may_166 rfl (lv_at hl 5 rfl) ?_
                          refine gf_X11_139 hx hb hts hown hK hP 2 rfl rfl dX11_may_167 ?_
                          refine lv_iload hx hb dX11_may_170 (lv_at hl 1 rfl) ?_
                          refine lv_iload hx hb dX11_may_172 (lv_at hl 0 rfl) ?_
                          have hin_76 : vp_in x_43 10 := vp_in_iff.mpr ⟨by omega, by omega⟩
                          refine va_iast hx hb hK hP hD hS 1 0 rfl rfl hin_76 dX11_may_174 (fun H locs hP hD hS => ?_)
                          obtain ⟨f_77, ef_77⟩ : ∃ z : Nat → Int32, z = upd g_45 (Int32.toNatClampNeg x_43) x_55 := ⟨_, rfl⟩
                          have hP : va_P (dC, dI) vwCl [(vmt, .inl (cy 0, 940, .inl vmtf)), (vmb, .inl (cy 0, 10, .inl f_77)), (vo, .inr (12, [.int 0, .ref vmt, .int votp_4, .int vosz, .int volm, .int voto, .int vofr, .int vokd, .int vonu, .int vosg, .int vofa, .int vopl, .long vowd, .int votd, .ref vmn, .ref vmr, .ref vmk, .ref vms, .ref vma, .ref vmm, .ref vmrn, .ref vmkn, .ref vmik, .ref vmon, .int vosm, .int vohp, .ref vmw, .ref vmf, .ref vmb, .int vomb, .ref vmd, .ref vmc, .int vocm, .int voct, .int vocy, .ref vmx, .int votx, .int vose, .ref vml, .ref vmwr, .int voln, .int vohw, .ref vmno, .int vond, .int voon, .int vowi, .int votop])), (vmn, .inl (cy 0, 575, .inl vmnf)), (vmw, .inl (cy 1, 5632, .inr (.inl vmwf_11))), (vmf, .inl (cy 0, 5632, .inl vmff_12))] H := by rw [ef_77]; exact hP
                          have hD : va_D A [(vmt, .inl (cy 0, 940, .inl vmtf)), (vmb, .inl (cy 0, 10, .inl f_77)), (vo, .inr (12, [.int 0, .ref vmt, .int votp_4, .int vosz, .int volm, .int voto, .int vofr, .int vokd, .int vonu, .int vosg, .int vofa, .int vopl, .long vowd, .int votd, .ref vmn, .ref vmr, .ref vmk, .ref vms, .ref vma, .ref vmm, .ref vmrn, .ref vmkn, .ref vmik, .ref vmon, .int vosm, .int vohp, .ref vmw, .ref vmf, .ref vmb, .int vomb, .ref vmd, .ref vmc, .int vocm, .int voct, .int vocy, .ref vmx, .int votx, .int vose, .ref vml, .ref vmwr, .int voln, .int vohw, .ref vmno, .int vond, .int voon, .int vowi, .int votop])), (vmn, .inl (cy 0, 575, .inl vmnf)), (vmw, .inl (cy 1, 5632, .inr (.inl vmwf_11))), (vmf, .inl (cy 0, 5632, .inl vmff_12))] := by rw [ef_77]; exact hD
                          refine lv_iload hx hb dX11_may_175 (lv_at hl 2 rfl) ?_
                          refine lv_iload hx hb dX11_may_177 (lv_at hl 0 rfl) ?_
                          refine lv_aload_n hx hb dX11_may_179 rfl (lv_at hl 5 rfl) ?_
                          refine gf_X11_98 hx hb hts hown hK hP 2 rfl rfl dX11_may_180 ?_
                          refine lv_bipush (v := 11) hx hb dX11_may_183 (by decide) ?_
                          refine lv_iload hx hb dX11_may_185 (lv_at hl 1 rfl) ?_
                          refine lv_iadd hx hb dX11_may_187 ?_
                          refine lv_topi (fun z_78 ez_78 => ?_)
                          have bz_78 : z_78.toInt = (11 : Int32).toInt + x_43.toInt := i_add ez_78 (by omega) (by omega)
                          have hin_79 : vp_in z_78 575 := vp_in_iff.mpr ⟨by omega, by omega⟩
                          refine va_iald hx hb hK hP 3 0 rfl rfl hin_79 dX11_may_188 ?_
                          refine lv_topi (fun z_80 ez_80 => ?_)
                          have bz_80 := p_vmnf.aw (x := z_78) ⟨by omega, by omega⟩ ez_80
                          refine as_i z_59 (i_eq.mpr (i_same ez_59 ez_80 (by omega))) ?_
                          refine lv_imul hx hb dX11_may_189 ?_
                          refine lv_topi (fun z_81 ez_81 => ?_)
                          have bz_81 : 0 ≤ z_81.toInt ∧ z_81.toInt ≤ 400 ∧ z_81.toInt = x_55.toInt * z_59.toInt := i_mulb (A := 10) (B := 40) ez_81 ⟨by omega, by omega⟩ ⟨by omega, by omega⟩ (by decide)
                          refine lv_isub hx hb dX11_may_190 ?_
                          refine lv_topi (fun z_82 ez_82 => ?_)
                          have bz_82 : z_82.toInt = x_44.toInt - z_81.toInt := i_sub ez_82 (by omega) (by omega)
                          refine lv_istore (lv' := [(4, .int z_82), (6, .int x_55), (5, .int x_43), (3, .int x_35), (1, .long y_31), (0, .ref vo)]) hx hb dX11_may_191 hl (by decide) rfl (fun ls hl => ?_)
                          obtain ⟨z_83, ez_83⟩ : ∃ z : Int32, z = x_43 + 1 := ⟨_, rfl⟩
                          have bz_83 : z_83.toInt = x_43.toInt + (1 : Int32).toInt := i_add ez_83 (by omega) (by omega)
                          refine lv_iinc (v := z_83) (lv' := [(5, .int z_83), (4, .int z_82), (6, .int x_55), (3, .int x_35), (1, .long y_31), (0, .ref vo)]) hx hb dX11_may_193 hl (k := 2) rfl ez_83.symm (by decide) rfl (fun ls hl => ?_)
                          refine lv_goto (tgt := 81) hx hb dX11_may_196 (by decide) ?_
                          exact ih42 z_82 z_83 f_77 ⟨by omega, by omega⟩ ⟨by omega, by omega⟩ (by omega) _ _ (hP.sub [0, 1, 2, 3, 4, 5] rfl) (hD.sub [0, 1, 2, 3, 4, 5] rfl rfl) hS ls (lv_sub hl [0, 1, 3, 4, 5] rfl)
                        · skip
                          have c_75 : ¬ (z_68.toInt = z_74.toInt) := fun h9 => c_75 (i_eq.mpr h9)
                          obtain ⟨z_84, ez_84⟩ : ∃ z : Int32, z = x_55 + 1 := ⟨_, rfl⟩
                          have bz_84 : z_84.toInt = x_55.toInt + (1 : Int32).toInt := i_add ez_84 (by omega) (by omega)
                          refine lv_iinc (v := z_84) (lv' := [(6, .int z_84), (5, .int x_43), (4, .int x_44), (3, .int x_35), (1, .long y_31), (0, .ref vo)]) hx hb dX11_may_160 hl (k := 0) rfl ez_84.symm (by decide) rfl (fun ls hl => ?_)
                          refine lv_goto (tgt := 112) hx hb dX11_may_163 (by decide) ?_
                          exact ih54 z_84 ⟨by omega, by omega⟩ (WH.next v54_0 (by omega) ⟨by omega, by omega⟩ ⟨by omega, by omega⟩ ⟨by omega, by omega⟩ (i1 := z_57) (by omega) ez_59 bz_60.2.2 ⟨by omega, by omega⟩ (nx := r_62) (by omega) ez_67 (v := z_68) (by omega) (r2 := r_69) (by omega) ez_74 c_75 (by omega)) (by omega) _ _ (hP.sub [0, 1, 2, 3, 4, 5] rfl) (hD.sub [0, 1, 2, 3, 4, 5] rfl rfl) hS ls (lv_sub hl [0, 1, 2, 3, 4, 5] rfl)
                    exact loop54 ((10 - (0 : Int32).toInt).toNat + 1) 0 ⟨by omega, by omega⟩ (WH.of (q_14 _ (by omega)) (by omega)) (by omega) _ _ hP hD hS ls (lv_sub hl [0, 1, 2, 3, 4, 5] rfl)
                  · skip
                    have c_53 : ¬ (z_52.toInt = x_35.toInt) := fun h9 => c_53 (i_eq.mpr h9)
                    refine lv_goto (tgt := 193) hx hb dX11_may_106 (by decide) ?_
                    obtain ⟨z_85, ez_85⟩ : ∃ z : Int32, z = x_43 + 1 := ⟨_, rfl⟩
                    have bz_85 : z_85.toInt = x_43.toInt + (1 : Int32).toInt := i_add ez_85 (by omega) (by omega)
                    refine lv_iinc (v := z_85) (lv' := [(5, .int z_85), (4, .int x_44), (3, .int x_35), (1, .long y_31), (0, .ref vo)]) hx hb dX11_may_193 hl (k := 0) rfl ez_85.symm (by decide) rfl (fun ls hl => ?_)
                    refine lv_goto (tgt := 81) hx hb dX11_may_196 (by decide) ?_
                    exact ih42 x_44 z_85 g_45 ⟨by omega, by omega⟩ ⟨by omega, by omega⟩ (by omega) _ _ (hP.sub [0, 1, 2, 3, 4, 5] rfl) (hD.sub [0, 1, 2, 3, 4, 5] rfl rfl) hS ls (lv_sub hl [0, 1, 2, 3, 4] rfl)
            exact loop42 ((10 - (0 : Int32).toInt).toNat + 1) z_41 0 g_36 ⟨by omega, by omega⟩ ⟨by omega, by omega⟩ (by omega) _ _ hP hD hS ls (lv_sub hl [0, 1, 2, 3, 4] rfl)
      exact loop34 ((2 - (0 : Int32).toInt).toNat + 1) 0 vmbf ⟨by omega, by omega⟩ (by omega) _ _ hP hD hS ls (lv_sub hl [0, 1, 2] rfl)
    · skip
      have c_33 : z_32.toInt = (0 : Int32).toInt := i_eq.mp c_33
      refine lv_lconst (v := 0) hx hb dX11_may_61 (by decide) ?_
      rw [hQ9]
      exact re_l ((0 : Int32), votp_4, vmwf_11, vmff_12, vmbf, vomb) hx hb hr hlocks ⟨(show 0 ≤ (votp_4 : Int32).toInt ∧ (votp_4 : Int32).toInt ≤ 0 from ⟨by omega, by omega⟩), (show Rg vmff_12 5632 0 100000 from q_13), (show 0 ≤ (vomb : Int32).toInt ∧ (vomb : Int32).toInt ≤ 10 from ⟨by omega, by omega⟩)⟩ (hP.sub [2, 0, 3, 4, 5, 1] rfl) (hD.sub [2, 0, 3, 4, 5, 1] rfl rfl) hS dX11_may_62
  · skip
    have c_7 : ¬ (r_1.toInt = (2 : Int32).toInt) := fun h9 => c_7 (i_eq.mpr h9)
    refine lv_ldc2 hx hb hown (hts _ t1885) dX11_may_13 ?_
    rw [hQ9]
    exact re_l ((0 : Int32), votp_4, vmwf, vmff, vmbf, vomb) hx hb hr hlocks ⟨(show 0 ≤ (votp_4 : Int32).toInt ∧ (votp_4 : Int32).toInt ≤ 0 from ⟨by omega, by omega⟩), (show Rg vmff 5632 0 100000 from p_vmff), (show 0 ≤ (vomb : Int32).toInt ∧ (vomb : Int32).toInt ≤ 10 from ⟨by omega, by omega⟩)⟩ (hP.sub [5, 0, 1, 2, 3, 4] rfl) (hD.sub [5, 0, 1, 2, 3, 4] rfl rfl) hS dX11_may_16
abbrev cX11_careerFrom : ByteArray := prog_13_method_90_code
def yX11_careerFrom : MethodName := ⟨RX11, "careerFrom", "(IIIII)V"⟩
theorem t1909 : Cond.code yX11_careerFrom cX11_careerFrom 8 none ∈ GW := gw_mem 2023 (by decide +kernel) (by decide +kernel)
abbrev O_m_careerFrom_10 (cy : Nat → ClassId) (vo : Nat) (voth : Int32) (vmt : Nat) (votp : Int32) (vosz : Int32) (volm : Int32) (voto : Int32) (vofr : Int32) (vokd : Int32) (vonu : Int32) (vosg : Int32) (vofa : Int32) (vopl : Int32) (vowd : Int64) (votd : Int32) (vmn : Nat) (vmr : Nat) (vmk : Nat) (vms : Nat) (vma : Nat) (vmm : Nat) (vmrn : Nat) (vmkn : Nat) (vmik : Nat) (vmon : Nat) (vosm : Int32) (vohp : Int32) (vmw : Nat) (vmf : Nat) (vmb : Nat) (vomb : Int32) (vmd : Nat) (vmc : Nat) (vocm : Int32) (voct : Int32) (vocy : Int32) (vmx : Nat) (votx : Int32) (vose : Int32) (vml : Nat) (vmwr : Nat) (voln : Int32) (vohw : Int32) (vmno : Nat) (vond : Int32) (voon : Int32) (vowi : Int32) (votop : Int32) (vmnf : Nat → Int32) (vmdf : Nat → Int32) (vmcf : Nat → Int32) (vm : Int32) (vlf : Int32) (vti : Int32) (vwe : Int32) (u : Int32 × Int32 × (Nat → Int32) × Int32 × (Nat → Int32)) : va_W := [(vo, .inr (12, [.int voth, .ref vmt, .int votp, .int vosz, .int volm, .int voto, .int vofr, .int vokd, .int vonu, .int vosg, .int vofa, .int vopl, .long vowd, .int votd, .ref vmn, .ref vmr, .ref vmk, .ref vms, .ref vma, .ref vmm, .ref vmrn, .ref vmkn, .ref vmik, .ref vmon, .int vosm, .int vohp, .ref vmw, .ref vmf, .ref vmb, .int vomb, .ref vmd, .ref vmc, .int u.1, .int u.2.1, .int u.2.2.2.1, .ref vmx, .int votx, .int vose, .ref vml, .ref vmwr, .int voln, .int vohw, .ref vmno, .int vond, .int voon, .int vowi, .int votop])), (vmn, .inl (cy 0, 575, .inl vmnf)), (vmd, .inl (cy 0, 10, .inl u.2.2.2.2)), (vmc, .inl (cy 0, 10, .inl u.2.2.1))]
theorem dX11_careerFrom_0 : decode cX11_careerFrom 0 = .ok (.iload_n 2, 1) := by decide +kernel
theorem dX11_careerFrom_1 : decode cX11_careerFrom 1 = .ok (.aload_n 0, 1) := by decide +kernel
theorem dX11_careerFrom_2 : decode cX11_careerFrom 2 = .ok (.getfield 98, 3) := by decide +kernel
theorem dX11_careerFrom_5 : decode cX11_careerFrom 5 = .ok (.iconst 1, 1) := by decide +kernel
theorem dX11_careerFrom_6 : decode cX11_careerFrom 6 = .ok (.iaload, 1) := by decide +kernel
theorem dX11_careerFrom_7 : decode cX11_careerFrom 7 = .ok (.if_icmp .ne 78, 3) := by decide +kernel
theorem dX11_careerFrom_38 : decode cX11_careerFrom 38 = .ok (.aload_n 0, 1) := by decide +kernel
theorem dX11_careerFrom_39 : decode cX11_careerFrom 39 = .ok (.iload 5, 2) := by decide +kernel
theorem dX11_careerFrom_41 : decode cX11_careerFrom 41 = .ok (.putfield 322, 3) := by decide +kernel
theorem t1474 : Cond.fieldLink RX11 322 "LikenessPoundModel" "careerMost" "I" ∈ GW := gw_mem 1588 (by decide +kernel) (by decide +kernel)
theorem pf_X11_322 {p : Program} {l : Launch} {e : Env} {R : Room} {s : State} {m : MethodId} {args : Array Value} {below : List Frame} {meth : Method} {c : Code} {H : Heap} {locs : List Loc} {cells slots : Nat} {Q : State → Prop} {cc : ByteArray} {pc : Nat} {ls : Array Slot} {rest : List Value} {D : va_G} {A : Nat → Prop} {a : Nat} {tys : List (ClassId × FieldType)} {ws : va_W} {H0 : Heap} (hx : p.tables.exec = Jvm.exec) (hb : c.code = cc) (hts : ∀ w ∈ GW, w.before args s = true) (hown : s.vm.findClass RX11 = some m.cls) (hK : va_K D vwCl tys s) (hP : va_P D vwCl ws H) (hD : va_D A ws) (hS0 : va_S A H0 H locs) (q0 : Nat) {fs : List Value} (he : ws[q0]? = some (a, .inr (12, fs))) {v : Value} (hn : narrow (tyX11 32) v = v) (hfit : fits (tyX11 32) v = true) (hl : 32 < fs.length) (hdg : decode cc pc = .ok (.putfield 322, 3)) (kk : ∀ (H1 : Heap) (locs1 : List Loc), va_P D vwCl (ws.set q0 (a, .inr (12, fs.set 32 v))) H1 → va_D A (ws.set q0 (a, .inr (12, fs.set 32 v))) → va_S A H0 H1 locs1 → W p l e R s m args below meth c H1 locs1 cells slots Q (F0 m (pc + 3) ls rest)) : W p l e R s m args below meth c H locs cells slots Q (F0 m pc ls (v :: .ref a :: rest)) := va_put (C := RX11) (T := TX11) (N := 47) (ci := 12) hx hb hts inX11 tyX11 tkX11 nmX11 hown hK hP hD hS0 q0 he rfl 32 (by decide) (hts _ t1474) (fun _ h => h) rfl (tkX11 32 (by decide)) hn hfit hl hdg kk
theorem dX11_careerFrom_44 : decode cX11_careerFrom 44 = .ok (.aload_n 0, 1) := by decide +kernel
theorem dX11_careerFrom_45 : decode cX11_careerFrom 45 = .ok (.iload 4, 2) := by decide +kernel
theorem dX11_careerFrom_47 : decode cX11_careerFrom 47 = .ok (.putfield 325, 3) := by decide +kernel
theorem t1475 : Cond.fieldLink RX11 325 "LikenessPoundModel" "careerTimes" "I" ∈ GW := gw_mem 1589 (by decide +kernel) (by decide +kernel)
theorem pf_X11_325 {p : Program} {l : Launch} {e : Env} {R : Room} {s : State} {m : MethodId} {args : Array Value} {below : List Frame} {meth : Method} {c : Code} {H : Heap} {locs : List Loc} {cells slots : Nat} {Q : State → Prop} {cc : ByteArray} {pc : Nat} {ls : Array Slot} {rest : List Value} {D : va_G} {A : Nat → Prop} {a : Nat} {tys : List (ClassId × FieldType)} {ws : va_W} {H0 : Heap} (hx : p.tables.exec = Jvm.exec) (hb : c.code = cc) (hts : ∀ w ∈ GW, w.before args s = true) (hown : s.vm.findClass RX11 = some m.cls) (hK : va_K D vwCl tys s) (hP : va_P D vwCl ws H) (hD : va_D A ws) (hS0 : va_S A H0 H locs) (q0 : Nat) {fs : List Value} (he : ws[q0]? = some (a, .inr (12, fs))) {v : Value} (hn : narrow (tyX11 33) v = v) (hfit : fits (tyX11 33) v = true) (hl : 33 < fs.length) (hdg : decode cc pc = .ok (.putfield 325, 3)) (kk : ∀ (H1 : Heap) (locs1 : List Loc), va_P D vwCl (ws.set q0 (a, .inr (12, fs.set 33 v))) H1 → va_D A (ws.set q0 (a, .inr (12, fs.set 33 v))) → va_S A H0 H1 locs1 → W p l e R s m args below meth c H1 locs1 cells slots Q (F0 m (pc + 3) ls rest)) : W p l e R s m args below meth c H locs cells slots Q (F0 m pc ls (v :: .ref a :: rest)) := va_put (C := RX11) (T := TX11) (N := 47) (ci := 12) hx hb hts inX11 tyX11 tkX11 nmX11 hown hK hP hD hS0 q0 he rfl 33 (by decide) (hts _ t1475) (fun _ h => h) rfl (tkX11 33 (by decide)) hn hfit hl hdg kk
theorem dX11_careerFrom_50 : decode cX11_careerFrom 50 = .ok (.iconst 0, 1) := by decide +kernel
theorem dX11_careerFrom_51 : decode cX11_careerFrom 51 = .ok (.istore 6, 2) := by decide +kernel
theorem dX11_careerFrom_53 : decode cX11_careerFrom 53 = .ok (.iload 6, 2) := by decide +kernel
theorem dX11_careerFrom_55 : decode cX11_careerFrom 55 = .ok (.iload_n 2, 1) := by decide +kernel
theorem dX11_careerFrom_56 : decode cX11_careerFrom 56 = .ok (.if_icmp .ge 23, 3) := by decide +kernel
theorem dX11_careerFrom_79 : decode cX11_careerFrom 79 = .ok (.aload_n 0, 1) := by decide +kernel
theorem dX11_careerFrom_80 : decode cX11_careerFrom 80 = .ok (.iload_n 2, 1) := by decide +kernel
theorem dX11_careerFrom_81 : decode cX11_careerFrom 81 = .ok (.putfield 328, 3) := by decide +kernel
theorem pf_X11_328 {p : Program} {l : Launch} {e : Env} {R : Room} {s : State} {m : MethodId} {args : Array Value} {below : List Frame} {meth : Method} {c : Code} {H : Heap} {locs : List Loc} {cells slots : Nat} {Q : State → Prop} {cc : ByteArray} {pc : Nat} {ls : Array Slot} {rest : List Value} {D : va_G} {A : Nat → Prop} {a : Nat} {tys : List (ClassId × FieldType)} {ws : va_W} {H0 : Heap} (hx : p.tables.exec = Jvm.exec) (hb : c.code = cc) (hts : ∀ w ∈ GW, w.before args s = true) (hown : s.vm.findClass RX11 = some m.cls) (hK : va_K D vwCl tys s) (hP : va_P D vwCl ws H) (hD : va_D A ws) (hS0 : va_S A H0 H locs) (q0 : Nat) {fs : List Value} (he : ws[q0]? = some (a, .inr (12, fs))) {v : Value} (hn : narrow (tyX11 34) v = v) (hfit : fits (tyX11 34) v = true) (hl : 34 < fs.length) (hdg : decode cc pc = .ok (.putfield 328, 3)) (kk : ∀ (H1 : Heap) (locs1 : List Loc), va_P D vwCl (ws.set q0 (a, .inr (12, fs.set 34 v))) H1 → va_D A (ws.set q0 (a, .inr (12, fs.set 34 v))) → va_S A H0 H1 locs1 → W p l e R s m args below meth c H1 locs1 cells slots Q (F0 m (pc + 3) ls rest)) : W p l e R s m args below meth c H locs cells slots Q (F0 m pc ls (v :: .ref a :: rest)) := va_put (C := RX11) (T := TX11) (N := 47) (ci := 12) hx hb hts inX11 tyX11 tkX11 nmX11 hown hK hP hD hS0 q0 he rfl 34 (by decide) (hts _ t1476) (fun _ h => h) rfl (tkX11 34 (by decide)) hn hfit hl hdg kk
theorem dX11_careerFrom_84 : decode cX11_careerFrom 84 = .ok (.return_, 1) := by decide +kernel
theorem dX11_careerFrom_59 : decode cX11_careerFrom 59 = .ok (.aload_n 0, 1) := by decide +kernel
theorem dX11_careerFrom_60 : decode cX11_careerFrom 60 = .ok (.getfield 145, 3) := by decide +kernel
theorem dX11_careerFrom_63 : decode cX11_careerFrom 63 = .ok (.iload 6, 2) := by decide +kernel
theorem dX11_careerFrom_65 : decode cX11_careerFrom 65 = .ok (.aload_n 0, 1) := by decide +kernel
theorem dX11_careerFrom_66 : decode cX11_careerFrom 66 = .ok (.getfield 142, 3) := by decide +kernel
theorem t1472 : Cond.fieldLink RX11 142 "LikenessPoundModel" "doing" "[I" ∈ GW := gw_mem 1586 (by decide +kernel) (by decide +kernel)
theorem gf_X11_142 {p : Program} {l : Launch} {e : Env} {R : Room} {s : State} {m : MethodId} {args : Array Value} {below : List Frame} {meth : Method} {c : Code} {H : Heap} {locs : List Loc} {cells slots : Nat} {Q : State → Prop} {cc : ByteArray} {pc : Nat} {ls : Array Slot} {rest : List Value} {D : va_G} {a : Nat} {tys : List (ClassId × FieldType)} {ws : va_W} (hx : p.tables.exec = Jvm.exec) (hb : c.code = cc) (hts : ∀ w ∈ GW, w.before args s = true) (hown : s.vm.findClass RX11 = some m.cls) (hK : va_K D vwCl tys s) (hP : va_P D vwCl ws H) (q0 : Nat) {fs : List Value} (he : ws[q0]? = some (a, .inr (12, fs))) {v : Value} (hv : fs[30]? = some v) (hdg : decode cc pc = .ok (.getfield 142, 3)) (kk : W p l e R s m args below meth c H locs cells slots Q (F0 m (pc + 3) ls (v :: rest))) : W p l e R s m args below meth c H locs cells slots Q (F0 m pc ls (.ref a :: rest)) := va_get (C := RX11) (T := TX11) (N := 47) (ci := 12) hx hb hts inX11 hown hK hP q0 he rfl 30 (by decide) (hts _ t1472) (fun _ h => h) hv hdg kk
theorem dX11_careerFrom_69 : decode cX11_careerFrom 69 = .ok (.iload 6, 2) := by decide +kernel
theorem dX11_careerFrom_71 : decode cX11_careerFrom 71 = .ok (.iaload, 1) := by decide +kernel
theorem dX11_careerFrom_72 : decode cX11_careerFrom 72 = .ok (.iastore, 1) := by decide +kernel
theorem dX11_careerFrom_73 : decode cX11_careerFrom 73 = .ok (.iinc 6 1, 3) := by decide +kernel
theorem dX11_careerFrom_76 : decode cX11_careerFrom 76 = .ok (.goto (-23), 3) := by decide +kernel
theorem dX11_careerFrom_10 : decode cX11_careerFrom 10 = .ok (.iload 5, 2) := by decide +kernel
theorem dX11_careerFrom_12 : decode cX11_careerFrom 12 = .ok (.aload_n 0, 1) := by decide +kernel
theorem dX11_careerFrom_13 : decode cX11_careerFrom 13 = .ok (.getfield 322, 3) := by decide +kernel
theorem gf_X11_322 {p : Program} {l : Launch} {e : Env} {R : Room} {s : State} {m : MethodId} {args : Array Value} {below : List Frame} {meth : Method} {c : Code} {H : Heap} {locs : List Loc} {cells slots : Nat} {Q : State → Prop} {cc : ByteArray} {pc : Nat} {ls : Array Slot} {rest : List Value} {D : va_G} {a : Nat} {tys : List (ClassId × FieldType)} {ws : va_W} (hx : p.tables.exec = Jvm.exec) (hb : c.code = cc) (hts : ∀ w ∈ GW, w.before args s = true) (hown : s.vm.findClass RX11 = some m.cls) (hK : va_K D vwCl tys s) (hP : va_P D vwCl ws H) (q0 : Nat) {fs : List Value} (he : ws[q0]? = some (a, .inr (12, fs))) {v : Value} (hv : fs[32]? = some v) (hdg : decode cc pc = .ok (.getfield 322, 3)) (kk : W p l e R s m args below meth c H locs cells slots Q (F0 m (pc + 3) ls (v :: rest))) : W p l e R s m args below meth c H locs cells slots Q (F0 m pc ls (.ref a :: rest)) := va_get (C := RX11) (T := TX11) (N := 47) (ci := 12) hx hb hts inX11 hown hK hP q0 he rfl 32 (by decide) (hts _ t1474) (fun _ h => h) hv hdg kk
theorem dX11_careerFrom_16 : decode cX11_careerFrom 16 = .ok (.if_icmp .lt 21, 3) := by decide +kernel
theorem dX11_careerFrom_37 : decode cX11_careerFrom 37 = .ok (.return_, 1) := by decide +kernel
theorem dX11_careerFrom_19 : decode cX11_careerFrom 19 = .ok (.iload 5, 2) := by decide +kernel
theorem dX11_careerFrom_21 : decode cX11_careerFrom 21 = .ok (.aload_n 0, 1) := by decide +kernel
theorem dX11_careerFrom_22 : decode cX11_careerFrom 22 = .ok (.getfield 322, 3) := by decide +kernel
theorem dX11_careerFrom_25 : decode cX11_careerFrom 25 = .ok (.if_icmp .ne 13, 3) := by decide +kernel
theorem dX11_careerFrom_28 : decode cX11_careerFrom 28 = .ok (.iload 4, 2) := by decide +kernel
theorem dX11_careerFrom_30 : decode cX11_careerFrom 30 = .ok (.aload_n 0, 1) := by decide +kernel
theorem dX11_careerFrom_31 : decode cX11_careerFrom 31 = .ok (.getfield 325, 3) := by decide +kernel
theorem gf_X11_325 {p : Program} {l : Launch} {e : Env} {R : Room} {s : State} {m : MethodId} {args : Array Value} {below : List Frame} {meth : Method} {c : Code} {H : Heap} {locs : List Loc} {cells slots : Nat} {Q : State → Prop} {cc : ByteArray} {pc : Nat} {ls : Array Slot} {rest : List Value} {D : va_G} {a : Nat} {tys : List (ClassId × FieldType)} {ws : va_W} (hx : p.tables.exec = Jvm.exec) (hb : c.code = cc) (hts : ∀ w ∈ GW, w.before args s = true) (hown : s.vm.findClass RX11 = some m.cls) (hK : va_K D vwCl tys s) (hP : va_P D vwCl ws H) (q0 : Nat) {fs : List Value} (he : ws[q0]? = some (a, .inr (12, fs))) {v : Value} (hv : fs[33]? = some v) (hdg : decode cc pc = .ok (.getfield 325, 3)) (kk : W p l e R s m args below meth c H locs cells slots Q (F0 m (pc + 3) ls (v :: rest))) : W p l e R s m args below meth c H locs cells slots Q (F0 m pc ls (.ref a :: rest)) := va_get (C := RX11) (T := TX11) (N := 47) (ci := 12) hx hb hts inX11 hown hK hP q0 he rfl 33 (by decide) (hts _ t1475) (fun _ h => h) hv hdg kk
theorem dX11_careerFrom_34 : decode cX11_careerFrom 34 = .ok (.if_icmp .lt 4, 3) := by decide +kernel
set_option maxHeartbeats 4000000 in
set_option maxRecDepth 100000 in
theorem m_careerFrom_10 (l : Launch) (dC : Nat → ClassId) (dI : Nat → Nat → Nat) (cy : Nat → ClassId) (sz : Nat) (vo : Nat) (voth : Int32) (vmt : Nat) (votp : Int32) (vosz : Int32) (volm : Int32) (voto : Int32) (vofr : Int32) (vokd : Int32) (vonu : Int32) (vosg : Int32) (vofa : Int32) (vopl : Int32) (vowd : Int64) (votd : Int32) (vmn : Nat) (vmr : Nat) (vmk : Nat) (vms : Nat) (vma : Nat) (vmm : Nat) (vmrn : Nat) (vmkn : Nat) (vmik : Nat) (vmon : Nat) (vosm : Int32) (vohp : Int32) (vmw : Nat) (vmf : Nat) (vmb : Nat) (vomb : Int32) (vmd : Nat) (vmc : Nat) (vocm : Int32) (voct : Int32) (vocy : Int32) (vmx : Nat) (votx : Int32) (vose : Int32) (vml : Nat) (vmwr : Nat) (voln : Int32) (vohw : Int32) (vmno : Nat) (vond : Int32) (voon : Int32) (vowi : Int32) (votop : Int32) (vmnf : Nat → Int32) (vmdf : Nat → Int32) (vmcf : Nat → Int32) (vm : Int32) (vlf : Int32) (vti : Int32) (vwe : Int32) (r_vocy : 0 ≤ (vocy : Int32).toInt ∧ (vocy : Int32).toInt ≤ 10) (r_vm : 0 ≤ (vm : Int32).toInt ∧ (vm : Int32).toInt ≤ 6) (r_vlf : 0 ≤ (vlf : Int32).toInt ∧ (vlf : Int32).toInt ≤ 10) (p_vmnf : NW vmnf) (hd : 10 ≤ (vmnf 1).toInt) : Met l yX11_careerFrom (wl yX11_careerFrom cX11_careerFrom 8 none) ({ frames := 1, cells := 0, slots := 0, locals := 64 }) (Pw (dC, dI) vwCl cy [(vo, .inr (12, [.int voth, .ref vmt, .int votp, .int vosz, .int volm, .int voto, .int vofr, .int vokd, .int vonu, .int vosg, .int vofa, .int vopl, .long vowd, .int votd, .ref vmn, .ref vmr, .ref vmk, .ref vms, .ref vma, .ref vmm, .ref vmrn, .ref vmkn, .ref vmik, .ref vmon, .int vosm, .int vohp, .ref vmw, .ref vmf, .ref vmb, .int vomb, .ref vmd, .ref vmc, .int vocm, .int voct, .int vocy, .ref vmx, .int votx, .int vose, .ref vml, .ref vmwr, .int voln, .int vohw, .ref vmno, .int vond, .int voon, .int vowi, .int votop])), (vmn, .inl (cy 0, 575, .inl vmnf)), (vmd, .inl (cy 0, 10, .inl vmdf)), (vmc, .inl (cy 0, 10, .inl vmcf))] sz [.ref vo, .int vm, .int 10, .int vlf, .int vti, .int vwe] nE) (Qv (dC, dI) vwCl (fun (u : Int32 × Int32 × (Nat → Int32) × Int32 × (Nat → Int32)) => (0 ≤ (u.2.2.2.1 : Int32).toInt ∧ (u.2.2.2.1 : Int32).toInt ≤ 10)) (O_m_careerFrom_10 cy vo voth vmt votp vosz volm voto vofr vokd vonu vosg vofa vopl vowd votd vmn vmr vmk vms vma vmm vmrn vmkn vmik vmon vosm vohp vmw vmf vmb vomb vmd vmc vocm voct vocy vmx votx vose vml vmwr voln vohw vmno vond voon vowi votop vmnf vmdf vmcf vm vlf vti vwe) (va_A [(vo, .inr (12, [.int voth, .ref vmt, .int votp, .int vosz, .int volm, .int voto, .int vofr, .int vokd, .int vonu, .int vosg, .int vofa, .int vopl, .long vowd, .int votd, .ref vmn, .ref vmr, .ref vmk, .ref vms, .ref vma, .ref vmm, .ref vmrn, .ref vmkn, .ref vmik, .ref vmon, .int vosm, .int vohp, .ref vmw, .ref vmf, .ref vmb, .int vomb, .ref vmd, .ref vmc, .int vocm, .int voct, .int vocy, .ref vmx, .int votx, .int vose, .ref vml, .ref vmwr, .int voln, .int vohw, .ref vmno, .int vond, .int voon, .int vowi, .int votop])), (vmn, .inl (cy 0, 575, .inl vmnf)), (vmd, .inl (cy 0, 10, .inl vmdf)), (vmc, .inl (cy 0, 10, .inl vmcf))] sz)) 0 0 (va_A [(vo, .inr (12, [.int voth, .ref vmt, .int votp, .int vosz, .int volm, .int voto, .int vofr, .int vokd, .int vonu, .int vosg, .int vofa, .int vopl, .long vowd, .int votd, .ref vmn, .ref vmr, .ref vmk, .ref vms, .ref vma, .ref vmm, .ref vmrn, .ref vmkn, .ref vmik, .ref vmon, .int vosm, .int vohp, .ref vmw, .ref vmf, .ref vmb, .int vomb, .ref vmd, .ref vmc, .int vocm, .int voct, .int vocy, .ref vmx, .int votx, .int vose, .ref vml, .ref vmwr, .int voln, .int vohw, .ref vmno, .int vond, .int voon, .int vowi, .int votop])), (vmn, .inl (cy 0, 575, .inl vmnf)), (vmd, .inl (cy 0, 10, .inl vmdf)), (vmc, .inl (cy 0, 10, .inl vmcf))] sz) := by
  refine mw (Qc := Qv (dC, dI) vwCl (fun (u : Int32 × Int32 × (Nat → Int32) × Int32 × (Nat → Int32)) => (0 ≤ (u.2.2.2.1 : Int32).toInt ∧ (u.2.2.2.1 : Int32).toInt ≤ 10)) (O_m_careerFrom_10 cy vo voth vmt votp vosz volm voto vofr vokd vonu vosg vofa vopl vowd votd vmn vmr vmk vms vma vmm vmrn vmkn vmik vmon vosm vohp vmw vmf vmb vomb vmd vmc vocm voct vocy vmx votx vose vml vmwr voln vohw vmno vond voon vowi votop vmnf vmdf vmcf vm vlf vti vwe)) RX11 rfl (by decide +kernel) (Nat.le_of_ble_eq_true rfl) ?_
  intro p e s m below meth c A hx hb hr hlocks av9 hav hts hown hnm hml hK hP hD hA hS hE hAe Q9 hQ9 ls hl
  have hl : lv_has ls 8 [(0, .ref vo), (1, .int vm), (2, .int 10), (3, .int vlf), (4, .int vti), (5, .int vwe)] := hl
  refine lv_iload_n hx hb dX11_careerFrom_0 rfl (lv_at hl 2 rfl) ?_
  refine lv_aload_n hx hb dX11_careerFrom_1 rfl (lv_at hl 0 rfl) ?_
  refine gf_X11_98 hx hb hts hown hK hP 0 rfl rfl dX11_careerFrom_2 ?_
  refine lv_iconst (v := 1) hx hb dX11_careerFrom_5 (by decide) ?_
  have k_1 : (1 : Int32).toInt = 1 := by decide
  have hin_1 : vp_in (1 : Int32) 575 := vp_in_iff.mpr ⟨by omega, by omega⟩
  refine va_iald hx hb hK hP 1 0 rfl rfl hin_1 dX11_careerFrom_6 ?_
  refine lv_topi (fun z_2 ez_2 => ?_)
  have bz_2 := p_vmnf.a1 (x := 1) ⟨by omega, by omega⟩ ez_2
  have tz_2 : z_2.toInt = (vmnf 1).toInt := by rw [ez_2]; rfl
  have k_10 : (10 : Int32).toInt = 10 := by decide
  refine lv_icmp_ne (tgt := 85) hx hb dX11_careerFrom_7 (by decide) (fun c9 => (c9 (i_eq.mpr (by omega))).elim) (fun _ => ?_)
  have join3 : ∀ (H : Heap) (locs : List Loc), va_P (dC, dI) vwCl [(vo, .inr (12, [.int voth, .ref vmt, .int votp, .int vosz, .int volm, .int voto, .int vofr, .int vokd, .int vonu, .int vosg, .int vofa, .int vopl, .long vowd, .int votd, .ref vmn, .ref vmr, .ref vmk, .ref vms, .ref vma, .ref vmm, .ref vmrn, .ref vmkn, .ref vmik, .ref vmon, .int vosm, .int vohp, .ref vmw, .ref vmf, .ref vmb, .int vomb, .ref vmd, .ref vmc, .int vocm, .int voct, .int vocy, .ref vmx, .int votx, .int vose, .ref vml, .ref vmwr, .int voln, .int vohw, .ref vmno, .int vond, .int voon, .int vowi, .int votop])), (vmn, .inl (cy 0, 575, .inl vmnf)), (vmd, .inl (cy 0, 10, .inl vmdf)), (vmc, .inl (cy 0, 10, .inl vmcf))] H → va_D A [(vo, .inr (12, [.int voth, .ref vmt, .int votp, .int vosz, .int volm, .int voto, .int vofr, .int vokd, .int vonu, .int vosg, .int vofa, .int vopl, .long vowd, .int votd, .ref vmn, .ref vmr, .ref vmk, .ref vms, .ref vma, .ref vmm, .ref vmrn, .ref vmkn, .ref vmik, .ref vmon, .int vosm, .int vohp, .ref vmw, .ref vmf, .ref vmb, .int vomb, .ref vmd, .ref vmc, .int vocm, .int voct, .int vocy, .ref vmx, .int votx, .int vose, .ref vml, .ref vmwr, .int voln, .int vohw, .ref vmno, .int vond, .int voon, .int vowi, .int votop])), (vmn, .inl (cy 0, 575, .inl vmnf)), (vmd, .inl (cy 0, 10, .inl vmdf)), (vmc, .inl (cy 0, 10, .inl vmcf))] → va_S A s.heap H locs → ∀ ls : Array Slot, lv_has ls 8 [(0, .ref vo), (1, .int vm), (2, .int 10), (3, .int vlf), (4, .int vti), (5, .int vwe)] → W p l e ({ frames := 1, cells := 0, slots := 0, locals := 64 }) s m av9 below meth c H locs 0 0 Q9 (F0 m 38 ls []) := by
    intro  H locs hP hD hS ls hl
    refine lv_aload_n hx hb dX11_careerFrom_38 rfl (lv_at hl 0 rfl) ?_
    refine lv_iload hx hb dX11_careerFrom_39 (lv_at hl 5 rfl) ?_
    refine pf_X11_322 hx hb hts hown hK hP hD hS 0 rfl rfl rfl (Nat.le_of_ble_eq_true rfl) dX11_careerFrom_41 (fun H locs hP hD hS => ?_)
    have hP : va_P (dC, dI) vwCl [(vo, .inr (12, [.int voth, .ref vmt, .int votp, .int vosz, .int volm, .int voto, .int vofr, .int vokd, .int vonu, .int vosg, .int vofa, .int vopl, .long vowd, .int votd, .ref vmn, .ref vmr, .ref vmk, .ref vms, .ref vma, .ref vmm, .ref vmrn, .ref vmkn, .ref vmik, .ref vmon, .int vosm, .int vohp, .ref vmw, .ref vmf, .ref vmb, .int vomb, .ref vmd, .ref vmc, .int vwe, .int voct, .int vocy, .ref vmx, .int votx, .int vose, .ref vml, .ref vmwr, .int voln, .int vohw, .ref vmno, .int vond, .int voon, .int vowi, .int votop])), (vmn, .inl (cy 0, 575, .inl vmnf)), (vmd, .inl (cy 0, 10, .inl vmdf)), (vmc, .inl (cy 0, 10, .inl vmcf))] H := hP
    have hD : va_D A [(vo, .inr (12, [.int voth, .ref vmt, .int votp, .int vosz, .int volm, .int voto, .int vofr, .int vokd, .int vonu, .int vosg, .int vofa, .int vopl, .long vowd, .int votd, .ref vmn, .ref vmr, .ref vmk, .ref vms, .ref vma, .ref vmm, .ref vmrn, .ref vmkn, .ref vmik, .ref vmon, .int vosm, .int vohp, .ref vmw, .ref vmf, .ref vmb, .int vomb, .ref vmd, .ref vmc, .int vwe, .int voct, .int vocy, .ref vmx, .int votx, .int vose, .ref vml, .ref vmwr, .int voln, .int vohw, .ref vmno, .int vond, .int voon, .int vowi, .int votop])), (vmn, .inl (cy 0, 575, .inl vmnf)), (vmd, .inl (cy 0, 10, .inl vmdf)), (vmc, .inl (cy 0, 10, .inl vmcf))] := hD
    refine lv_aload_n hx hb dX11_careerFrom_44 rfl (lv_at hl 0 rfl) ?_
    refine lv_iload hx hb dX11_careerFrom_45 (lv_at hl 4 rfl) ?_
    refine pf_X11_325 hx hb hts hown hK hP hD hS 0 rfl rfl rfl (Nat.le_of_ble_eq_true rfl) dX11_careerFrom_47 (fun H locs hP hD hS => ?_)
    have hP : va_P (dC, dI) vwCl [(vo, .inr (12, [.int voth, .ref vmt, .int votp, .int vosz, .int volm, .int voto, .int vofr, .int vokd, .int vonu, .int vosg, .int vofa, .int vopl, .long vowd, .int votd, .ref vmn, .ref vmr, .ref vmk, .ref vms, .ref vma, .ref vmm, .ref vmrn, .ref vmkn, .ref vmik, .ref vmon, .int vosm, .int vohp, .ref vmw, .ref vmf, .ref vmb, .int vomb, .ref vmd, .ref vmc, .int vwe, .int vti, .int vocy, .ref vmx, .int votx, .int vose, .ref vml, .ref vmwr, .int voln, .int vohw, .ref vmno, .int vond, .int voon, .int vowi, .int votop])), (vmn, .inl (cy 0, 575, .inl vmnf)), (vmd, .inl (cy 0, 10, .inl vmdf)), (vmc, .inl (cy 0, 10, .inl vmcf))] H := hP
    have hD : va_D A [(vo, .inr (12, [.int voth, .ref vmt, .int votp, .int vosz, .int volm, .int voto, .int vofr, .int vokd, .int vonu, .int vosg, .int vofa, .int vopl, .long vowd, .int votd, .ref vmn, .ref vmr, .ref vmk, .ref vms, .ref vma, .ref vmm, .ref vmrn, .ref vmkn, .ref vmik, .ref vmon, .int vosm, .int vohp, .ref vmw, .ref vmf, .ref vmb, .int vomb, .ref vmd, .ref vmc, .int vwe, .int vti, .int vocy, .ref vmx, .int votx, .int vose, .ref vml, .ref vmwr, .int voln, .int vohw, .ref vmno, .int vond, .int voon, .int vowi, .int votop])), (vmn, .inl (cy 0, 575, .inl vmnf)), (vmd, .inl (cy 0, 10, .inl vmdf)), (vmc, .inl (cy 0, 10, .inl vmcf))] := hD
    refine lv_iconst (v := 0) hx hb dX11_careerFrom_50 (by decide) ?_
    refine lv_istore (lv' := [(6, .int 0), (0, .ref vo), (1, .int vm), (2, .int 10), (3, .int vlf), (4, .int vti), (5, .int vwe)]) hx hb dX11_careerFrom_51 hl (by decide) rfl (fun ls hl => ?_)
    have loop4 : ∀ (n4 : Nat) (x_5 : Int32) (g_6 : Nat → Int32), (0 ≤ x_5.toInt ∧ x_5.toInt ≤ 10) → 10 - x_5.toInt < (n4 : Int) → ∀ (H : Heap) (locs : List Loc), va_P (dC, dI) vwCl [(vo, .inr (12, [.int voth, .ref vmt, .int votp, .int vosz, .int volm, .int voto, .int vofr, .int vokd, .int vonu, .int vosg, .int vofa, .int vopl, .long vowd, .int votd, .ref vmn, .ref vmr, .ref vmk, .ref vms, .ref vma, .ref vmm, .ref vmrn, .ref vmkn, .ref vmik, .ref vmon, .int vosm, .int vohp, .ref vmw, .ref vmf, .ref vmb, .int vomb, .ref vmd, .ref vmc, .int vwe, .int vti, .int vocy, .ref vmx, .int votx, .int vose, .ref vml, .ref vmwr, .int voln, .int vohw, .ref vmno, .int vond, .int voon, .int vowi, .int votop])), (vmn, .inl (cy 0, 575, .inl vmnf)), (vmd, .inl (cy 0, 10, .inl vmdf)), (vmc, .inl (cy 0, 10, .inl g_6))] H → va_D A [(vo, .inr (12, [.int voth, .ref vmt, .int votp, .int vosz, .int volm, .int voto, .int vofr, .int vokd, .int vonu, .int vosg, .int vofa, .int vopl, .long vowd, .int votd, .ref vmn, .ref vmr, .ref vmk, .ref vms, .ref vma, .ref vmm, .ref vmrn, .ref vmkn, .ref vmik, .ref vmon, .int vosm, .int vohp, .ref vmw, .ref vmf, .ref vmb, .int vomb, .ref vmd, .ref vmc, .int vwe, .int vti, .int vocy, .ref vmx, .int votx, .int vose, .ref vml, .ref vmwr, .int voln, .int vohw, .ref vmno, .int vond, .int voon, .int vowi, .int votop])), (vmn, .inl (cy 0, 575, .inl vmnf)), (vmd, .inl (cy 0, 10, .inl vmdf)), (vmc, .inl (cy 0, 10, .inl g_6))] → va_S A s.heap H locs → ∀ ls : Array Slot, lv_has ls 8 [(6, .int x_5), (0, .ref vo), (1, .int vm), (2, .int 10), (3, .int vlf), (4, .int vti), (5, .int vwe)] → W p l e ({ frames := 1, cells := 0, slots := 0, locals := 64 }) s m av9 below meth c H locs 0 0 Q9 (F0 m 53 ls []) := by
      intro n4
      induction n4 with
      | zero =>
        intro x_5 g_6 bx_5 hn4 H locs hP hD hS ls hl
        exfalso; omega
      | succ n4 ih4 =>
        intro x_5 g_6 bx_5 hn4 H locs hP hD hS ls hl
        refine lv_iload hx hb dX11_careerFrom_53 (lv_at hl 0 rfl) ?_
        refine lv_iload_n hx hb dX11_careerFrom_55 rfl (lv_at hl 3 rfl) ?_
        refine lv_icmp_ge (tgt := 79) hx hb dX11_careerFrom_56 (by decide) (fun c_7 => ?_) (fun c_7 => ?_)
        · skip
          have c_7 : (10 : Int32).toInt ≤ x_5.toInt := i_le.mp c_7
          refine lv_aload_n hx hb dX11_careerFrom_79 rfl (lv_at hl 1 rfl) ?_
          refine lv_iload_n hx hb dX11_careerFrom_80 rfl (lv_at hl 3 rfl) ?_
          refine pf_X11_328 hx hb hts hown hK hP hD hS 0 rfl rfl rfl (Nat.le_of_ble_eq_true rfl) dX11_careerFrom_81 (fun H locs hP hD hS => ?_)
          have hP : va_P (dC, dI) vwCl [(vo, .inr (12, [.int voth, .ref vmt, .int votp, .int vosz, .int volm, .int voto, .int vofr, .int vokd, .int vonu, .int vosg, .int vofa, .int vopl, .long vowd, .int votd, .ref vmn, .ref vmr, .ref vmk, .ref vms, .ref vma, .ref vmm, .ref vmrn, .ref vmkn, .ref vmik, .ref vmon, .int vosm, .int vohp, .ref vmw, .ref vmf, .ref vmb, .int vomb, .ref vmd, .ref vmc, .int vwe, .int vti, .int 10, .ref vmx, .int votx, .int vose, .ref vml, .ref vmwr, .int voln, .int vohw, .ref vmno, .int vond, .int voon, .int vowi, .int votop])), (vmn, .inl (cy 0, 575, .inl vmnf)), (vmd, .inl (cy 0, 10, .inl vmdf)), (vmc, .inl (cy 0, 10, .inl g_6))] H := hP
          have hD : va_D A [(vo, .inr (12, [.int voth, .ref vmt, .int votp, .int vosz, .int volm, .int voto, .int vofr, .int vokd, .int vonu, .int vosg, .int vofa, .int vopl, .long vowd, .int votd, .ref vmn, .ref vmr, .ref vmk, .ref vms, .ref vma, .ref vmm, .ref vmrn, .ref vmkn, .ref vmik, .ref vmon, .int vosm, .int vohp, .ref vmw, .ref vmf, .ref vmb, .int vomb, .ref vmd, .ref vmc, .int vwe, .int vti, .int 10, .ref vmx, .int votx, .int vose, .ref vml, .ref vmwr, .int voln, .int vohw, .ref vmno, .int vond, .int voon, .int vowi, .int votop])), (vmn, .inl (cy 0, 575, .inl vmnf)), (vmd, .inl (cy 0, 10, .inl vmdf)), (vmc, .inl (cy 0, 10, .inl g_6))] := hD
          rw [hQ9]
          exact re_v (vwe, vti, g_6, (10 : Int32), vmdf) hx hb hr hlocks (show 0 ≤ (10 : Int32).toInt ∧ (10 : Int32).toInt ≤ 10 from ⟨by omega, by omega⟩) (hP.sub [0, 1, 2, 3] rfl) (hD.sub [0, 1, 2, 3] rfl rfl) hS dX11_careerFrom_84
        · skip
          have c_7 : ¬ ((10 : Int32).toInt ≤ x_5.toInt) := fun h9 => c_7 (i_le.mpr h9)
          refine lv_aload_n hx hb dX11_careerFrom_59 rfl (lv_at hl 1 rfl) ?_
          refine gf_X11_145 hx hb hts hown hK hP 0 rfl rfl dX11_careerFrom_60 ?_
          refine lv_iload hx hb dX11_careerFrom_63 (lv_at hl 0 rfl) ?_
          refine lv_aload_n hx hb dX11_careerFrom_65 rfl (lv_at hl 1 rfl) ?_
          refine gf_X11_142 hx hb hts hown hK hP 0 rfl rfl dX11_careerFrom_66 ?_
          refine lv_iload hx hb dX11_careerFrom_69 (lv_at hl 0 rfl) ?_
          have hin_8 : vp_in x_5 10 := vp_in_iff.mpr ⟨by omega, by omega⟩
          refine va_iald hx hb hK hP 2 0 rfl rfl hin_8 dX11_careerFrom_71 ?_
          refine lv_topi (fun z_9 ez_9 => ?_)
          have hin_10 : vp_in x_5 10 := vp_in_iff.mpr ⟨by omega, by omega⟩
          refine va_iast hx hb hK hP hD hS 3 0 rfl rfl hin_10 dX11_careerFrom_72 (fun H locs hP hD hS => ?_)
          obtain ⟨f_11, ef_11⟩ : ∃ z : Nat → Int32, z = upd g_6 (Int32.toNatClampNeg x_5) z_9 := ⟨_, rfl⟩
          have hP : va_P (dC, dI) vwCl [(vo, .inr (12, [.int voth, .ref vmt, .int votp, .int vosz, .int volm, .int voto, .int vofr, .int vokd, .int vonu, .int vosg, .int vofa, .int vopl, .long vowd, .int votd, .ref vmn, .ref vmr, .ref vmk, .ref vms, .ref vma, .ref vmm, .ref vmrn, .ref vmkn, .ref vmik, .ref vmon, .int vosm, .int vohp, .ref vmw, .ref vmf, .ref vmb, .int vomb, .ref vmd, .ref vmc, .int vwe, .int vti, .int vocy, .ref vmx, .int votx, .int vose, .ref vml, .ref vmwr, .int voln, .int vohw, .ref vmno, .int vond, .int voon, .int vowi, .int votop])), (vmn, .inl (cy 0, 575, .inl vmnf)), (vmd, .inl (cy 0, 10, .inl vmdf)), (vmc, .inl (cy 0, 10, .inl f_11))] H := by rw [ef_11]; exact hP
          have hD : va_D A [(vo, .inr (12, [.int voth, .ref vmt, .int votp, .int vosz, .int volm, .int voto, .int vofr, .int vokd, .int vonu, .int vosg, .int vofa, .int vopl, .long vowd, .int votd, .ref vmn, .ref vmr, .ref vmk, .ref vms, .ref vma, .ref vmm, .ref vmrn, .ref vmkn, .ref vmik, .ref vmon, .int vosm, .int vohp, .ref vmw, .ref vmf, .ref vmb, .int vomb, .ref vmd, .ref vmc, .int vwe, .int vti, .int vocy, .ref vmx, .int votx, .int vose, .ref vml, .ref vmwr, .int voln, .int vohw, .ref vmno, .int vond, .int voon, .int vowi, .int votop])), (vmn, .inl (cy 0, 575, .inl vmnf)), (vmd, .inl (cy 0, 10, .inl vmdf)), (vmc, .inl (cy 0, 10, .inl f_11))] := by rw [ef_11]; exact hD
          obtain ⟨z_12, ez_12⟩ : ∃ z : Int32, z = x_5 + 1 := ⟨_, rfl⟩
          have bz_12 : z_12.toInt = x_5.toInt + (1 : Int32).toInt := i_add ez_12 (by omega) (by omega)
          refine lv_iinc (v := z_12) (lv' := [(6, .int z_12), (0, .ref vo), (1, .int vm), (2, .int 10), (3, .int vlf), (4, .int vti), (5, .int vwe)]) hx hb dX11_careerFrom_73 hl (k := 0) rfl ez_12.symm (by decide) rfl (fun ls hl => ?_)
          refine lv_goto (tgt := 53) hx hb dX11_careerFrom_76 (by decide) ?_
          exact ih4 z_12 f_11 ⟨by omega, by omega⟩ (by omega) _ _ (hP.sub [0, 1, 2, 3] rfl) (hD.sub [0, 1, 2, 3] rfl rfl) hS ls (lv_sub hl [0, 1, 2, 3, 4, 5, 6] rfl)
    have k_0 : (0 : Int32).toInt = 0 := by decide
    exact loop4 ((10 - (0 : Int32).toInt).toNat + 1) 0 vmcf ⟨by omega, by omega⟩ (by omega) _ _ hP hD hS ls (lv_sub hl [0, 1, 2, 3, 4, 5, 6] rfl)
  refine lv_iload hx hb dX11_careerFrom_10 (lv_at hl 5 rfl) ?_
  refine lv_aload_n hx hb dX11_careerFrom_12 rfl (lv_at hl 0 rfl) ?_
  refine gf_X11_322 hx hb hts hown hK hP 0 rfl rfl dX11_careerFrom_13 ?_
  refine lv_icmp_lt (tgt := 37) hx hb dX11_careerFrom_16 (by decide) (fun c_13 => ?_) (fun c_13 => ?_)
  · skip
    have c_13 : vwe.toInt < vocm.toInt := i_lt.mp c_13
    rw [hQ9]
    exact re_v (vocm, voct, vmcf, vocy, vmdf) hx hb hr hlocks (show 0 ≤ (vocy : Int32).toInt ∧ (vocy : Int32).toInt ≤ 10 from ⟨by omega, by omega⟩) (hP.sub [0, 1, 2, 3] rfl) (hD.sub [0, 1, 2, 3] rfl rfl) hS dX11_careerFrom_37
  · skip
    have c_13 : ¬ (vwe.toInt < vocm.toInt) := fun h9 => c_13 (i_lt.mpr h9)
    refine lv_iload hx hb dX11_careerFrom_19 (lv_at hl 5 rfl) ?_
    refine lv_aload_n hx hb dX11_careerFrom_21 rfl (lv_at hl 0 rfl) ?_
    refine gf_X11_322 hx hb hts hown hK hP 0 rfl rfl dX11_careerFrom_22 ?_
    refine lv_icmp_ne (tgt := 38) hx hb dX11_careerFrom_25 (by decide) (fun c_14 => ?_) (fun c_14 => ?_)
    · skip
      have c_14 : ¬ (vwe.toInt = vocm.toInt) := fun h9 => c_14 (i_eq.mpr h9)
      exact join3  _ _ (hP.sub [0, 1, 2, 3] rfl) (hD.sub [0, 1, 2, 3] rfl rfl) hS ls (lv_sub hl [0, 1, 2, 3, 4, 5] rfl)
    · skip
      have c_14 : vwe.toInt = vocm.toInt := i_eq.mp c_14
      refine lv_iload hx hb dX11_careerFrom_28 (lv_at hl 4 rfl) ?_
      refine lv_aload_n hx hb dX11_careerFrom_30 rfl (lv_at hl 0 rfl) ?_
      refine gf_X11_325 hx hb hts hown hK hP 0 rfl rfl dX11_careerFrom_31 ?_
      refine lv_icmp_lt (tgt := 38) hx hb dX11_careerFrom_34 (by decide) (fun c_15 => ?_) (fun c_15 => ?_)
      · skip
        have c_15 : vti.toInt < voct.toInt := i_lt.mp c_15
        exact join3  _ _ (hP.sub [0, 1, 2, 3] rfl) (hD.sub [0, 1, 2, 3] rfl rfl) hS ls (lv_sub hl [0, 1, 2, 3, 4, 5] rfl)
      · skip
        have c_15 : ¬ (vti.toInt < voct.toInt) := fun h9 => c_15 (i_lt.mpr h9)
        rw [hQ9]
        exact re_v (vocm, voct, vmcf, vocy, vmdf) hx hb hr hlocks (show 0 ≤ (vocy : Int32).toInt ∧ (vocy : Int32).toInt ≤ 10 from ⟨by omega, by omega⟩) (hP.sub [0, 1, 2, 3] rfl) (hD.sub [0, 1, 2, 3] rfl rfl) hS dX11_careerFrom_37
abbrev O_m_careerFrom_9 (cy : Nat → ClassId) (vo : Nat) (voth : Int32) (vmt : Nat) (votp : Int32) (vosz : Int32) (volm : Int32) (voto : Int32) (vofr : Int32) (vokd : Int32) (vonu : Int32) (vosg : Int32) (vofa : Int32) (vopl : Int32) (vowd : Int64) (votd : Int32) (vmn : Nat) (vmr : Nat) (vmk : Nat) (vms : Nat) (vma : Nat) (vmm : Nat) (vmrn : Nat) (vmkn : Nat) (vmik : Nat) (vmon : Nat) (vosm : Int32) (vohp : Int32) (vmw : Nat) (vmf : Nat) (vmb : Nat) (vomb : Int32) (vmd : Nat) (vmc : Nat) (vocm : Int32) (voct : Int32) (vocy : Int32) (vmx : Nat) (votx : Int32) (vose : Int32) (vml : Nat) (vmwr : Nat) (voln : Int32) (vohw : Int32) (vmno : Nat) (vond : Int32) (voon : Int32) (vowi : Int32) (votop : Int32) (vmnf : Nat → Int32) (vmdf : Nat → Int32) (vmcf : Nat → Int32) (vm : Int32) (vlf : Int32) (vti : Int32) (vwe : Int32) (u : Int32 × Int32 × (Nat → Int32) × Int32 × (Nat → Int32)) : va_W := [(vo, .inr (12, [.int voth, .ref vmt, .int votp, .int vosz, .int volm, .int voto, .int vofr, .int vokd, .int vonu, .int vosg, .int vofa, .int vopl, .long vowd, .int votd, .ref vmn, .ref vmr, .ref vmk, .ref vms, .ref vma, .ref vmm, .ref vmrn, .ref vmkn, .ref vmik, .ref vmon, .int vosm, .int vohp, .ref vmw, .ref vmf, .ref vmb, .int vomb, .ref vmd, .ref vmc, .int u.1, .int u.2.1, .int u.2.2.2.1, .ref vmx, .int votx, .int vose, .ref vml, .ref vmwr, .int voln, .int vohw, .ref vmno, .int vond, .int voon, .int vowi, .int votop])), (vmn, .inl (cy 0, 575, .inl vmnf)), (vmd, .inl (cy 0, 10, .inl u.2.2.2.2)), (vmc, .inl (cy 0, 10, .inl u.2.2.1))]
theorem dX11_careerFrom_85 : decode cX11_careerFrom 85 = .ok (.iload_n 3, 1) := by decide +kernel
theorem dX11_careerFrom_86 : decode cX11_careerFrom 86 = .ok (.bipush 9, 2) := by decide +kernel
theorem dX11_careerFrom_88 : decode cX11_careerFrom 88 = .ok (.aload_n 0, 1) := by decide +kernel
theorem dX11_careerFrom_89 : decode cX11_careerFrom 89 = .ok (.iload_n 1, 1) := by decide +kernel
theorem dX11_careerFrom_90 : decode cX11_careerFrom 90 = .ok (.iload_n 2, 1) := by decide +kernel
theorem dX11_careerFrom_91 : decode cX11_careerFrom 91 = .ok (.invokevirtual 228, 3) := by decide +kernel
theorem dX11_careerFrom_94 : decode cX11_careerFrom 94 = .ok (.isub, 1) := by decide +kernel
theorem dX11_careerFrom_95 : decode cX11_careerFrom 95 = .ok (.invokestatic 288, 3) := by decide +kernel
theorem dX11_careerFrom_98 : decode cX11_careerFrom 98 = .ok (.istore 6, 2) := by decide +kernel
theorem dX11_careerFrom_100 : decode cX11_careerFrom 100 = .ok (.iconst 0, 1) := by decide +kernel
theorem dX11_careerFrom_101 : decode cX11_careerFrom 101 = .ok (.istore 7, 2) := by decide +kernel
theorem dX11_careerFrom_103 : decode cX11_careerFrom 103 = .ok (.iload 7, 2) := by decide +kernel
theorem dX11_careerFrom_105 : decode cX11_careerFrom 105 = .ok (.iload 6, 2) := by decide +kernel
theorem dX11_careerFrom_107 : decode cX11_careerFrom 107 = .ok (.if_icmp .gt 73, 3) := by decide +kernel
theorem dX11_careerFrom_180 : decode cX11_careerFrom 180 = .ok (.return_, 1) := by decide +kernel
theorem dX11_careerFrom_110 : decode cX11_careerFrom 110 = .ok (.iload 5, 2) := by decide +kernel
theorem dX11_careerFrom_112 : decode cX11_careerFrom 112 = .ok (.iload 7, 2) := by decide +kernel
theorem dX11_careerFrom_114 : decode cX11_careerFrom 114 = .ok (.aload_n 0, 1) := by decide +kernel
theorem dX11_careerFrom_115 : decode cX11_careerFrom 115 = .ok (.getfield 98, 3) := by decide +kernel
theorem dX11_careerFrom_118 : decode cX11_careerFrom 118 = .ok (.bipush 11, 2) := by decide +kernel
theorem dX11_careerFrom_120 : decode cX11_careerFrom 120 = .ok (.iload_n 2, 1) := by decide +kernel
theorem dX11_careerFrom_121 : decode cX11_careerFrom 121 = .ok (.iadd, 1) := by decide +kernel
theorem dX11_careerFrom_122 : decode cX11_careerFrom 122 = .ok (.iaload, 1) := by decide +kernel
theorem dX11_careerFrom_123 : decode cX11_careerFrom 123 = .ok (.imul, 1) := by decide +kernel
theorem dX11_careerFrom_124 : decode cX11_careerFrom 124 = .ok (.iadd, 1) := by decide +kernel
theorem dX11_careerFrom_125 : decode cX11_careerFrom 125 = .ok (.aload_n 0, 1) := by decide +kernel
theorem dX11_careerFrom_126 : decode cX11_careerFrom 126 = .ok (.getfield 98, 3) := by decide +kernel
theorem dX11_careerFrom_129 : decode cX11_careerFrom 129 = .ok (.iconst 2, 1) := by decide +kernel
theorem dX11_careerFrom_130 : decode cX11_careerFrom 130 = .ok (.iaload, 1) := by decide +kernel
theorem dX11_careerFrom_131 : decode cX11_careerFrom 131 = .ok (.if_icmp .gt 49, 3) := by decide +kernel
theorem dX11_careerFrom_134 : decode cX11_careerFrom 134 = .ok (.aload_n 0, 1) := by decide +kernel
theorem dX11_careerFrom_135 : decode cX11_careerFrom 135 = .ok (.getfield 142, 3) := by decide +kernel
theorem dX11_careerFrom_138 : decode cX11_careerFrom 138 = .ok (.iload_n 2, 1) := by decide +kernel
theorem dX11_careerFrom_139 : decode cX11_careerFrom 139 = .ok (.iload 7, 2) := by decide +kernel
theorem dX11_careerFrom_141 : decode cX11_careerFrom 141 = .ok (.iastore, 1) := by decide +kernel
theorem dX11_careerFrom_142 : decode cX11_careerFrom 142 = .ok (.aload_n 0, 1) := by decide +kernel
theorem dX11_careerFrom_143 : decode cX11_careerFrom 143 = .ok (.iload_n 1, 1) := by decide +kernel
theorem dX11_careerFrom_144 : decode cX11_careerFrom 144 = .ok (.iload_n 2, 1) := by decide +kernel
theorem dX11_careerFrom_145 : decode cX11_careerFrom 145 = .ok (.iconst 1, 1) := by decide +kernel
theorem dX11_careerFrom_146 : decode cX11_careerFrom 146 = .ok (.iadd, 1) := by decide +kernel
theorem dX11_careerFrom_147 : decode cX11_careerFrom 147 = .ok (.iload_n 3, 1) := by decide +kernel
theorem dX11_careerFrom_148 : decode cX11_careerFrom 148 = .ok (.iload 7, 2) := by decide +kernel
theorem dX11_careerFrom_150 : decode cX11_careerFrom 150 = .ok (.isub, 1) := by decide +kernel
theorem dX11_careerFrom_151 : decode cX11_careerFrom 151 = .ok (.iload 4, 2) := by decide +kernel
theorem dX11_careerFrom_153 : decode cX11_careerFrom 153 = .ok (.iload 7, 2) := by decide +kernel
theorem dX11_careerFrom_155 : decode cX11_careerFrom 155 = .ok (.iadd, 1) := by decide +kernel
theorem dX11_careerFrom_156 : decode cX11_careerFrom 156 = .ok (.iload 5, 2) := by decide +kernel
theorem dX11_careerFrom_158 : decode cX11_careerFrom 158 = .ok (.iload 7, 2) := by decide +kernel
theorem dX11_careerFrom_160 : decode cX11_careerFrom 160 = .ok (.aload_n 0, 1) := by decide +kernel
theorem dX11_careerFrom_161 : decode cX11_careerFrom 161 = .ok (.getfield 98, 3) := by decide +kernel
theorem dX11_careerFrom_164 : decode cX11_careerFrom 164 = .ok (.bipush 11, 2) := by decide +kernel
theorem dX11_careerFrom_166 : decode cX11_careerFrom 166 = .ok (.iload_n 2, 1) := by decide +kernel
theorem dX11_careerFrom_167 : decode cX11_careerFrom 167 = .ok (.iadd, 1) := by decide +kernel
theorem dX11_careerFrom_168 : decode cX11_careerFrom 168 = .ok (.iaload, 1) := by decide +kernel
theorem dX11_careerFrom_169 : decode cX11_careerFrom 169 = .ok (.imul, 1) := by decide +kernel
theorem dX11_careerFrom_170 : decode cX11_careerFrom 170 = .ok (.iadd, 1) := by decide +kernel
theorem dX11_careerFrom_171 : decode cX11_careerFrom 171 = .ok (.invokevirtual 331, 3) := by decide +kernel
theorem t1906 : Cond.methodLink RX11 331 yX11_careerFrom ∈ GW := gw_mem 2020 (by decide +kernel) (by decide +kernel)
theorem t1908 : Cond.instanceMethod yX11_careerFrom ∈ GW := gw_mem 2022 (by decide +kernel) (by decide +kernel)
theorem s87 : Cond.selects RX11 yX11_careerFrom yX11_careerFrom ∈ GW := gw_mem 87 (by decide +kernel) (by decide +kernel)
theorem cw_X11_331 {R : Room} {s : State} {args : Array Value} {rm : Room} {mc ms : Nat} (hts : ∀ w ∈ GW, w.before args s = true) (hrc : rm.cells = mc) (hrs : rm.slots = ms) (hR : rm.frames + 1 ≤ R.frames ∧ 8 + (8 + 11) + rm.locals ≤ R.locals) : CallW R s args RX11 RX11 331 yX11_careerFrom cX11_careerFrom 8 none (wl yX11_careerFrom cX11_careerFrom 8 none) rm mc ms 5 := cwV 5 hts (gi_V t1906 t1908 s87 t18 t1909) rfl hrc hrs (by decide +kernel) hR
theorem dX11_careerFrom_174 : decode cX11_careerFrom 174 = .ok (.iinc 7 1, 3) := by decide +kernel
theorem dX11_careerFrom_177 : decode cX11_careerFrom 177 = .ok (.goto (-74), 3) := by decide +kernel
set_option maxHeartbeats 4000000 in
set_option maxRecDepth 100000 in
theorem m_careerFrom_9 (l : Launch) (dC : Nat → ClassId) (dI : Nat → Nat → Nat) (cy : Nat → ClassId) (sz : Nat) (vo : Nat) (voth : Int32) (vmt : Nat) (votp : Int32) (vosz : Int32) (volm : Int32) (voto : Int32) (vofr : Int32) (vokd : Int32) (vonu : Int32) (vosg : Int32) (vofa : Int32) (vopl : Int32) (vowd : Int64) (votd : Int32) (vmn : Nat) (vmr : Nat) (vmk : Nat) (vms : Nat) (vma : Nat) (vmm : Nat) (vmrn : Nat) (vmkn : Nat) (vmik : Nat) (vmon : Nat) (vosm : Int32) (vohp : Int32) (vmw : Nat) (vmf : Nat) (vmb : Nat) (vomb : Int32) (vmd : Nat) (vmc : Nat) (vocm : Int32) (voct : Int32) (vocy : Int32) (vmx : Nat) (votx : Int32) (vose : Int32) (vml : Nat) (vmwr : Nat) (voln : Int32) (vohw : Int32) (vmno : Nat) (vond : Int32) (voon : Int32) (vowi : Int32) (votop : Int32) (vmnf : Nat → Int32) (vmdf : Nat → Int32) (vmcf : Nat → Int32) (vm : Int32) (vlf : Int32) (vti : Int32) (vwe : Int32) (r_vocy : 0 ≤ (vocy : Int32).toInt ∧ (vocy : Int32).toInt ≤ 10) (r_vm : 0 ≤ (vm : Int32).toInt ∧ (vm : Int32).toInt ≤ 6) (r_vlf : 0 ≤ (vlf : Int32).toInt ∧ (vlf : Int32).toInt ≤ 10) (p_vmnf : NW vmnf) (hd : 9 ≤ (vmnf 1).toInt) : Met l yX11_careerFrom (wl yX11_careerFrom cX11_careerFrom 8 none) ({ frames := 2, cells := 0, slots := 0, locals := 128 }) (Pw (dC, dI) vwCl cy [(vo, .inr (12, [.int voth, .ref vmt, .int votp, .int vosz, .int volm, .int voto, .int vofr, .int vokd, .int vonu, .int vosg, .int vofa, .int vopl, .long vowd, .int votd, .ref vmn, .ref vmr, .ref vmk, .ref vms, .ref vma, .ref vmm, .ref vmrn, .ref vmkn, .ref vmik, .ref vmon, .int vosm, .int vohp, .ref vmw, .ref vmf, .ref vmb, .int vomb, .ref vmd, .ref vmc, .int vocm, .int voct, .int vocy, .ref vmx, .int votx, .int vose, .ref vml, .ref vmwr, .int voln, .int vohw, .ref vmno, .int vond, .int voon, .int vowi, .int votop])), (vmn, .inl (cy 0, 575, .inl vmnf)), (vmd, .inl (cy 0, 10, .inl vmdf)), (vmc, .inl (cy 0, 10, .inl vmcf))] sz [.ref vo, .int vm, .int 9, .int vlf, .int vti, .int vwe] nE) (Qv (dC, dI) vwCl (fun (u : Int32 × Int32 × (Nat → Int32) × Int32 × (Nat → Int32)) => (0 ≤ (u.2.2.2.1 : Int32).toInt ∧ (u.2.2.2.1 : Int32).toInt ≤ 10)) (O_m_careerFrom_9 cy vo voth vmt votp vosz volm voto vofr vokd vonu vosg vofa vopl vowd votd vmn vmr vmk vms vma vmm vmrn vmkn vmik vmon vosm vohp vmw vmf vmb vomb vmd vmc vocm voct vocy vmx votx vose vml vmwr voln vohw vmno vond voon vowi votop vmnf vmdf vmcf vm vlf vti vwe) (va_A [(vo, .inr (12, [.int voth, .ref vmt, .int votp, .int vosz, .int volm, .int voto, .int vofr, .int vokd, .int vonu, .int vosg, .int vofa, .int vopl, .long vowd, .int votd, .ref vmn, .ref vmr, .ref vmk, .ref vms, .ref vma, .ref vmm, .ref vmrn, .ref vmkn, .ref vmik, .ref vmon, .int vosm, .int vohp, .ref vmw, .ref vmf, .ref vmb, .int vomb, .ref vmd, .ref vmc, .int vocm, .int voct, .int vocy, .ref vmx, .int votx, .int vose, .ref vml, .ref vmwr, .int voln, .int vohw, .ref vmno, .int vond, .int voon, .int vowi, .int votop])), (vmn, .inl (cy 0, 575, .inl vmnf)), (vmd, .inl (cy 0, 10, .inl vmdf)), (vmc, .inl (cy 0, 10, .inl vmcf))] sz)) 0 0 (va_A [(vo, .inr (12, [.int voth, .ref vmt, .int votp, .int vosz, .int volm, .int voto, .int vofr, .int vokd, .int vonu, .int vosg, .int vofa, .int vopl, .long vowd, .int votd, .ref vmn, .ref vmr, .ref vmk, .ref vms, .ref vma, .ref vmm, .ref vmrn, .ref vmkn, .ref vmik, .ref vmon, .int vosm, .int vohp, .ref vmw, .ref vmf, .ref vmb, .int vomb, .ref vmd, .ref vmc, .int vocm, .int voct, .int vocy, .ref vmx, .int votx, .int vose, .ref vml, .ref vmwr, .int voln, .int vohw, .ref vmno, .int vond, .int voon, .int vowi, .int votop])), (vmn, .inl (cy 0, 575, .inl vmnf)), (vmd, .inl (cy 0, 10, .inl vmdf)), (vmc, .inl (cy 0, 10, .inl vmcf))] sz) := by
  refine mw (Qc := Qv (dC, dI) vwCl (fun (u : Int32 × Int32 × (Nat → Int32) × Int32 × (Nat → Int32)) => (0 ≤ (u.2.2.2.1 : Int32).toInt ∧ (u.2.2.2.1 : Int32).toInt ≤ 10)) (O_m_careerFrom_9 cy vo voth vmt votp vosz volm voto vofr vokd vonu vosg vofa vopl vowd votd vmn vmr vmk vms vma vmm vmrn vmkn vmik vmon vosm vohp vmw vmf vmb vomb vmd vmc vocm voct vocy vmx votx vose vml vmwr voln vohw vmno vond voon vowi votop vmnf vmdf vmcf vm vlf vti vwe)) RX11 rfl (by decide +kernel) (Nat.le_of_ble_eq_true rfl) ?_
  intro p e s m below meth c A hx hb hr hlocks av9 hav hts hown hnm hml hK hP hD hA hS hE hAe Q9 hQ9 ls hl
  have hl : lv_has ls 8 [(0, .ref vo), (1, .int vm), (2, .int 9), (3, .int vlf), (4, .int vti), (5, .int vwe)] := hl
  refine lv_iload_n hx hb dX11_careerFrom_0 rfl (lv_at hl 2 rfl) ?_
  refine lv_aload_n hx hb dX11_careerFrom_1 rfl (lv_at hl 0 rfl) ?_
  refine gf_X11_98 hx hb hts hown hK hP 0 rfl rfl dX11_careerFrom_2 ?_
  refine lv_iconst (v := 1) hx hb dX11_careerFrom_5 (by decide) ?_
  have k_1 : (1 : Int32).toInt = 1 := by decide
  have hin_1 : vp_in (1 : Int32) 575 := vp_in_iff.mpr ⟨by omega, by omega⟩
  refine va_iald hx hb hK hP 1 0 rfl rfl hin_1 dX11_careerFrom_6 ?_
  refine lv_topi (fun z_2 ez_2 => ?_)
  have bz_2 := p_vmnf.a1 (x := 1) ⟨by omega, by omega⟩ ez_2
  have tz_2 : z_2.toInt = (vmnf 1).toInt := by rw [ez_2]; rfl
  have k_9 : (9 : Int32).toInt = 9 := by decide
  refine lv_icmp_ne (tgt := 85) hx hb dX11_careerFrom_7 (by decide) (fun c_3 => ?_) (fun c_3 => ?_)
  · skip
    have c_3 : ¬ ((9 : Int32).toInt = z_2.toInt) := fun h9 => c_3 (i_eq.mpr h9)
    refine lv_iload_n hx hb dX11_careerFrom_85 rfl (lv_at hl 3 rfl) ?_
    refine lv_bipush (v := 9) hx hb dX11_careerFrom_86 (by decide) ?_
    refine lv_aload_n hx hb dX11_careerFrom_88 rfl (lv_at hl 0 rfl) ?_
    refine lv_iload_n hx hb dX11_careerFrom_89 rfl (lv_at hl 1 rfl) ?_
    refine lv_iload_n hx hb dX11_careerFrom_90 rfl (lv_at hl 2 rfl) ?_
    refine jr_i (rVr (As := [.int vm, .int 9]) (rest := [.int 9, .int vlf]) (ci := 12) ⟨hx, hb, hml, hown, hts⟩ (m_didOf l dC dI cy vo voth vmt votp vosz volm voto vofr vokd vonu vosg vofa vopl vowd votd vmn vmr vmk vms vma vmm vmrn vmkn vmik vmon vosm vohp vmw vmf vmb vomb vmd vmc vocm voct vocy vmx votx vose vml vmwr voln vohw vmno vond voon vowi votop vmnf vm 9 ⟨by omega, by omega⟩ ⟨by omega, by omega⟩ p_vmnf) (cw_X11_228 hts rfl rfl ⟨Nat.le_of_ble_eq_true rfl, Nat.le_of_ble_eq_true rfl⟩) hP hK [0, 1] rfl rfl rfl rfl hl.1 rfl (Nat.le_of_ble_eq_true rfl) dX11_careerFrom_91 ⟨Nat.le_of_ble_eq_true rfl, Nat.le_of_ble_eq_true rfl⟩) hP hS (fun r_4 H locs hp_5 hP hS => ?_)
    refine lv_isub hx hb dX11_careerFrom_94 ?_
    refine lv_topi (fun z_6 ez_6 => ?_)
    refine jr_i (rSr (As := [.int vlf, .int z_6]) (rest := []) ⟨hx, hb, hml, hown, hts⟩ (m_least l dC dI cy vlf z_6 ) (cw_X11_288 hts rfl rfl ⟨Nat.le_of_ble_eq_true rfl, Nat.le_of_ble_eq_true rfl⟩) hP hK [] rfl rfl hl.1 rfl (Nat.le_of_ble_eq_true rfl) dX11_careerFrom_95 ⟨Nat.le_of_ble_eq_true rfl, Nat.le_of_ble_eq_true rfl⟩) hP hS (fun r_7 H locs hp_8 hP hS => ?_)
    have hp_8 : ((r_7 : Int32).toInt ≤ (vlf : Int32).toInt) ∧ ((r_7 : Int32).toInt ≤ (z_6 : Int32).toInt) ∧ (((r_7 : Int32).toInt = (vlf : Int32).toInt ∨ (r_7 : Int32).toInt = (z_6 : Int32).toInt)) := hp_8
    obtain ⟨q_9, q_10, q_11⟩ := hp_8
    refine lv_istore (lv' := [(6, .int r_7), (0, .ref vo), (1, .int vm), (2, .int 9), (3, .int vlf), (4, .int vti), (5, .int vwe)]) hx hb dX11_careerFrom_98 hl (by decide) rfl (fun ls hl => ?_)
    refine lv_iconst (v := 0) hx hb dX11_careerFrom_100 (by decide) ?_
    refine lv_istore (lv' := [(7, .int 0), (6, .int r_7), (0, .ref vo), (1, .int vm), (2, .int 9), (3, .int vlf), (4, .int vti), (5, .int vwe)]) hx hb dX11_careerFrom_101 hl (by decide) rfl (fun ls hl => ?_)
    have loop12 : ∀ (n12 : Nat) (x_13 : Int32) (x_14 : Int32) (x_15 : Int32) (x_16 : Int32) (g_17 : Nat → Int32) (g_18 : Nat → Int32), (0 ≤ x_13.toInt ∧ x_13.toInt ≤ 11) → (0 ≤ x_16.toInt ∧ x_16.toInt ≤ 10) → 11 - x_13.toInt < (n12 : Int) → ∀ (H : Heap) (locs : List Loc), va_P (dC, dI) vwCl [(vo, .inr (12, [.int voth, .ref vmt, .int votp, .int vosz, .int volm, .int voto, .int vofr, .int vokd, .int vonu, .int vosg, .int vofa, .int vopl, .long vowd, .int votd, .ref vmn, .ref vmr, .ref vmk, .ref vms, .ref vma, .ref vmm, .ref vmrn, .ref vmkn, .ref vmik, .ref vmon, .int vosm, .int vohp, .ref vmw, .ref vmf, .ref vmb, .int vomb, .ref vmd, .ref vmc, .int x_14, .int x_15, .int x_16, .ref vmx, .int votx, .int vose, .ref vml, .ref vmwr, .int voln, .int vohw, .ref vmno, .int vond, .int voon, .int vowi, .int votop])), (vmn, .inl (cy 0, 575, .inl vmnf)), (vmd, .inl (cy 0, 10, .inl g_18)), (vmc, .inl (cy 0, 10, .inl g_17))] H → va_D A [(vo, .inr (12, [.int voth, .ref vmt, .int votp, .int vosz, .int volm, .int voto, .int vofr, .int vokd, .int vonu, .int vosg, .int vofa, .int vopl, .long vowd, .int votd, .ref vmn, .ref vmr, .ref vmk, .ref vms, .ref vma, .ref vmm, .ref vmrn, .ref vmkn, .ref vmik, .ref vmon, .int vosm, .int vohp, .ref vmw, .ref vmf, .ref vmb, .int vomb, .ref vmd, .ref vmc, .int x_14, .int x_15, .int x_16, .ref vmx, .int votx, .int vose, .ref vml, .ref vmwr, .int voln, .int vohw, .ref vmno, .int vond, .int voon, .int vowi, .int votop])), (vmn, .inl (cy 0, 575, .inl vmnf)), (vmd, .inl (cy 0, 10, .inl g_18)), (vmc, .inl (cy 0, 10, .inl g_17))] → va_S A s.heap H locs → ∀ ls : Array Slot, lv_has ls 8 [(7, .int x_13), (6, .int r_7), (0, .ref vo), (1, .int vm), (2, .int 9), (3, .int vlf), (4, .int vti), (5, .int vwe)] → W p l e ({ frames := 2, cells := 0, slots := 0, locals := 128 }) s m av9 below meth c H locs 0 0 Q9 (F0 m 103 ls []) := by
      intro n12
      induction n12 with
      | zero =>
        intro x_13 x_14 x_15 x_16 g_17 g_18 bx_13 bx_16 hn12 H locs hP hD hS ls hl
        exfalso; omega
      | succ n12 ih12 =>
        intro x_13 x_14 x_15 x_16 g_17 g_18 bx_13 bx_16 hn12 H locs hP hD hS ls hl
        refine lv_iload hx hb dX11_careerFrom_103 (lv_at hl 0 rfl) ?_
        refine lv_iload hx hb dX11_careerFrom_105 (lv_at hl 1 rfl) ?_
        refine lv_icmp_gt (tgt := 180) hx hb dX11_careerFrom_107 (by decide) (fun c_19 => ?_) (fun c_19 => ?_)
        · skip
          have c_19 : r_7.toInt < x_13.toInt := i_lt.mp c_19
          rw [hQ9]
          exact re_v (x_14, x_15, g_17, x_16, g_18) hx hb hr hlocks (show 0 ≤ (x_16 : Int32).toInt ∧ (x_16 : Int32).toInt ≤ 10 from ⟨by omega, by omega⟩) (hP.sub [0, 1, 2, 3] rfl) (hD.sub [0, 1, 2, 3] rfl rfl) hS dX11_careerFrom_180
        · skip
          have c_19 : ¬ (r_7.toInt < x_13.toInt) := fun h9 => c_19 (i_lt.mpr h9)
          refine lv_iload hx hb dX11_careerFrom_110 (lv_at hl 7 rfl) ?_
          refine lv_iload hx hb dX11_careerFrom_112 (lv_at hl 0 rfl) ?_
          refine lv_aload_n hx hb dX11_careerFrom_114 rfl (lv_at hl 2 rfl) ?_
          refine gf_X11_98 hx hb hts hown hK hP 0 rfl rfl dX11_careerFrom_115 ?_
          refine lv_bipush (v := 11) hx hb dX11_careerFrom_118 (by decide) ?_
          refine lv_iload_n hx hb dX11_careerFrom_120 rfl (lv_at hl 4 rfl) ?_
          refine lv_iadd hx hb dX11_careerFrom_121 ?_
          refine as_i 20 (by decide) ?_
          have k_20 : (20 : Int32).toInt = 20 := by decide
          have hin_20 : vp_in (20 : Int32) 575 := vp_in_iff.mpr ⟨by omega, by omega⟩
          refine va_iald hx hb hK hP 1 0 rfl rfl hin_20 dX11_careerFrom_122 ?_
          refine lv_topi (fun z_21 ez_21 => ?_)
          have bz_21 := p_vmnf.aw (x := 20) ⟨by omega, by omega⟩ ez_21
          have tz_21 : z_21.toInt = (vmnf 20).toInt := by rw [ez_21]; rfl
          refine lv_imul hx hb dX11_careerFrom_123 ?_
          refine lv_topi (fun z_22 ez_22 => ?_)
          have bz_22 : 0 ≤ z_22.toInt ∧ z_22.toInt ≤ 400 ∧ z_22.toInt = x_13.toInt * z_21.toInt := i_mulb (A := 10) (B := 40) ez_22 ⟨by omega, by omega⟩ ⟨by omega, by omega⟩ (by decide)
          refine lv_iadd hx hb dX11_careerFrom_124 ?_
          refine lv_topi (fun z_23 ez_23 => ?_)
          refine lv_aload_n hx hb dX11_careerFrom_125 rfl (lv_at hl 2 rfl) ?_
          refine gf_X11_98 hx hb hts hown hK hP 0 rfl rfl dX11_careerFrom_126 ?_
          refine lv_iconst (v := 2) hx hb dX11_careerFrom_129 (by decide) ?_
          have k_2 : (2 : Int32).toInt = 2 := by decide
          have hin_24 : vp_in (2 : Int32) 575 := vp_in_iff.mpr ⟨by omega, by omega⟩
          refine va_iald hx hb hK hP 1 0 rfl rfl hin_24 dX11_careerFrom_130 ?_
          refine lv_topi (fun z_25 ez_25 => ?_)
          have tz_25 : z_25.toInt = (vmnf 2).toInt := by rw [ez_25]; rfl
          refine lv_icmp_gt (tgt := 180) hx hb dX11_careerFrom_131 (by decide) (fun c_26 => ?_) (fun c_26 => ?_)
          · skip
            have c_26 : z_25.toInt < z_23.toInt := i_lt.mp c_26
            rw [hQ9]
            exact re_v (x_14, x_15, g_17, x_16, g_18) hx hb hr hlocks (show 0 ≤ (x_16 : Int32).toInt ∧ (x_16 : Int32).toInt ≤ 10 from ⟨by omega, by omega⟩) (hP.sub [0, 1, 2, 3] rfl) (hD.sub [0, 1, 2, 3] rfl rfl) hS dX11_careerFrom_180
          · skip
            have c_26 : ¬ (z_25.toInt < z_23.toInt) := fun h9 => c_26 (i_lt.mpr h9)
            refine lv_aload_n hx hb dX11_careerFrom_134 rfl (lv_at hl 2 rfl) ?_
            refine gf_X11_142 hx hb hts hown hK hP 0 rfl rfl dX11_careerFrom_135 ?_
            refine lv_iload_n hx hb dX11_careerFrom_138 rfl (lv_at hl 4 rfl) ?_
            refine lv_iload hx hb dX11_careerFrom_139 (lv_at hl 0 rfl) ?_
            have hin_27 : vp_in (9 : Int32) 10 := vp_in_iff.mpr ⟨by omega, by omega⟩
            refine va_iast hx hb hK hP hD hS 2 0 rfl rfl hin_27 dX11_careerFrom_141 (fun H locs hP hD hS => ?_)
            obtain ⟨f_28, ef_28⟩ : ∃ z : Nat → Int32, z = upd g_18 (Int32.toNatClampNeg 9) x_13 := ⟨_, rfl⟩
            have hP : va_P (dC, dI) vwCl [(vo, .inr (12, [.int voth, .ref vmt, .int votp, .int vosz, .int volm, .int voto, .int vofr, .int vokd, .int vonu, .int vosg, .int vofa, .int vopl, .long vowd, .int votd, .ref vmn, .ref vmr, .ref vmk, .ref vms, .ref vma, .ref vmm, .ref vmrn, .ref vmkn, .ref vmik, .ref vmon, .int vosm, .int vohp, .ref vmw, .ref vmf, .ref vmb, .int vomb, .ref vmd, .ref vmc, .int x_14, .int x_15, .int x_16, .ref vmx, .int votx, .int vose, .ref vml, .ref vmwr, .int voln, .int vohw, .ref vmno, .int vond, .int voon, .int vowi, .int votop])), (vmn, .inl (cy 0, 575, .inl vmnf)), (vmd, .inl (cy 0, 10, .inl f_28)), (vmc, .inl (cy 0, 10, .inl g_17))] H := by rw [ef_28]; exact hP
            have hD : va_D A [(vo, .inr (12, [.int voth, .ref vmt, .int votp, .int vosz, .int volm, .int voto, .int vofr, .int vokd, .int vonu, .int vosg, .int vofa, .int vopl, .long vowd, .int votd, .ref vmn, .ref vmr, .ref vmk, .ref vms, .ref vma, .ref vmm, .ref vmrn, .ref vmkn, .ref vmik, .ref vmon, .int vosm, .int vohp, .ref vmw, .ref vmf, .ref vmb, .int vomb, .ref vmd, .ref vmc, .int x_14, .int x_15, .int x_16, .ref vmx, .int votx, .int vose, .ref vml, .ref vmwr, .int voln, .int vohw, .ref vmno, .int vond, .int voon, .int vowi, .int votop])), (vmn, .inl (cy 0, 575, .inl vmnf)), (vmd, .inl (cy 0, 10, .inl f_28)), (vmc, .inl (cy 0, 10, .inl g_17))] := by rw [ef_28]; exact hD
            refine lv_aload_n hx hb dX11_careerFrom_142 rfl (lv_at hl 2 rfl) ?_
            refine lv_iload_n hx hb dX11_careerFrom_143 rfl (lv_at hl 3 rfl) ?_
            refine lv_iload_n hx hb dX11_careerFrom_144 rfl (lv_at hl 4 rfl) ?_
            refine lv_iconst (v := 1) hx hb dX11_careerFrom_145 (by decide) ?_
            refine lv_iadd hx hb dX11_careerFrom_146 ?_
            refine as_i 10 (by decide) ?_
            refine lv_iload_n hx hb dX11_careerFrom_147 rfl (lv_at hl 5 rfl) ?_
            refine lv_iload hx hb dX11_careerFrom_148 (lv_at hl 0 rfl) ?_
            refine lv_isub hx hb dX11_careerFrom_150 ?_
            refine lv_topi (fun z_29 ez_29 => ?_)
            have bz_29 : z_29.toInt = vlf.toInt - x_13.toInt := i_sub ez_29 (by omega) (by omega)
            refine lv_iload hx hb dX11_careerFrom_151 (lv_at hl 6 rfl) ?_
            refine lv_iload hx hb dX11_careerFrom_153 (lv_at hl 0 rfl) ?_
            refine lv_iadd hx hb dX11_careerFrom_155 ?_
            refine lv_topi (fun z_30 ez_30 => ?_)
            refine lv_iload hx hb dX11_careerFrom_156 (lv_at hl 7 rfl) ?_
            refine lv_iload hx hb dX11_careerFrom_158 (lv_at hl 0 rfl) ?_
            refine lv_aload_n hx hb dX11_careerFrom_160 rfl (lv_at hl 2 rfl) ?_
            refine gf_X11_98 hx hb hts hown hK hP 0 rfl rfl dX11_careerFrom_161 ?_
            refine lv_bipush (v := 11) hx hb dX11_careerFrom_164 (by decide) ?_
            refine lv_iload_n hx hb dX11_careerFrom_166 rfl (lv_at hl 4 rfl) ?_
            refine lv_iadd hx hb dX11_careerFrom_167 ?_
            refine as_i 20 (by decide) ?_
            have hin_31 : vp_in (20 : Int32) 575 := vp_in_iff.mpr ⟨by omega, by omega⟩
            refine va_iald hx hb hK hP 1 0 rfl rfl hin_31 dX11_careerFrom_168 ?_
            refine lv_topi (fun z_32 ez_32 => ?_)
            have bz_32 := p_vmnf.aw (x := 20) ⟨by omega, by omega⟩ ez_32
            have tz_32 : z_32.toInt = (vmnf 20).toInt := by rw [ez_32]; rfl
            refine lv_imul hx hb dX11_careerFrom_169 ?_
            refine lv_topi (fun z_33 ez_33 => ?_)
            have bz_33 : 0 ≤ z_33.toInt ∧ z_33.toInt ≤ 400 ∧ z_33.toInt = x_13.toInt * z_32.toInt := i_mulb (A := 10) (B := 40) ez_33 ⟨by omega, by omega⟩ ⟨by omega, by omega⟩ (by decide)
            refine lv_iadd hx hb dX11_careerFrom_170 ?_
            refine lv_topi (fun z_34 ez_34 => ?_)
            refine jn_v (wr := []) (rV (As := [.int vm, .int 10, .int z_29, .int z_30, .int z_34]) (rest := []) (ci := 12) ⟨hx, hb, hml, hown, hts⟩ (m_careerFrom_10 l dC dI cy _ vo voth vmt votp vosz volm voto vofr vokd vonu vosg vofa vopl vowd votd vmn vmr vmk vms vma vmm vmrn vmkn vmik vmon vosm vohp vmw vmf vmb vomb vmd vmc x_14 x_15 x_16 vmx votx vose vml vmwr voln vohw vmno vond voon vowi votop vmnf f_28 g_17 vm z_29 z_30 z_34 ⟨by omega, by omega⟩ r_vm ⟨by omega, by omega⟩ p_vmnf (by omega)) (cw_X11_331 hts rfl rfl ⟨Nat.le_of_ble_eq_true rfl, Nat.le_of_ble_eq_true rfl⟩) hP hD hK [0, 1, 2, 3] rfl rfl rfl rfl bl0 e0 rfl hl.1 rfl (Nat.le_of_ble_eq_true rfl) dX11_careerFrom_171 ⟨Nat.le_of_ble_eq_true rfl, Nat.le_of_ble_eq_true rfl⟩) hP hD hS hA [0, 1, 2, 3] [] rfl rfl rfl (by decide) (fun u_37 H locs hp_36 hP hD hS => ?_)
            obtain ⟨vocm_38, voct_39, vmcf_40, vocy_41, vmdf_42⟩ := u_37
            have hp_36 : (0 ≤ (vocy_41 : Int32).toInt ∧ (vocy_41 : Int32).toInt ≤ 10) := hp_36
            have q_43 := hp_36
            have hP : va_P (dC, dI) vwCl [(vo, .inr (12, [.int voth, .ref vmt, .int votp, .int vosz, .int volm, .int voto, .int vofr, .int vokd, .int vonu, .int vosg, .int vofa, .int vopl, .long vowd, .int votd, .ref vmn, .ref vmr, .ref vmk, .ref vms, .ref vma, .ref vmm, .ref vmrn, .ref vmkn, .ref vmik, .ref vmon, .int vosm, .int vohp, .ref vmw, .ref vmf, .ref vmb, .int vomb, .ref vmd, .ref vmc, .int vocm_38, .int voct_39, .int vocy_41, .ref vmx, .int votx, .int vose, .ref vml, .ref vmwr, .int voln, .int vohw, .ref vmno, .int vond, .int voon, .int vowi, .int votop])), (vmn, .inl (cy 0, 575, .inl vmnf)), (vmd, .inl (cy 0, 10, .inl vmdf_42)), (vmc, .inl (cy 0, 10, .inl vmcf_40))] H := hP
            have hD : va_D A [(vo, .inr (12, [.int voth, .ref vmt, .int votp, .int vosz, .int volm, .int voto, .int vofr, .int vokd, .int vonu, .int vosg, .int vofa, .int vopl, .long vowd, .int votd, .ref vmn, .ref vmr, .ref vmk, .ref vms, .ref vma, .ref vmm, .ref vmrn, .ref vmkn, .ref vmik, .ref vmon, .int vosm, .int vohp, .ref vmw, .ref vmf, .ref vmb, .int vomb, .ref vmd, .ref vmc, .int vocm_38, .int voct_39, .int vocy_41, .ref vmx, .int votx, .int vose, .ref vml, .ref vmwr, .int voln, .int vohw, .ref vmno, .int vond, .int voon, .int vowi, .int votop])), (vmn, .inl (cy 0, 575, .inl vmnf)), (vmd, .inl (cy 0, 10, .inl vmdf_42)), (vmc, .inl (cy 0, 10, .inl vmcf_40))] := hD
            obtain ⟨z_44, ez_44⟩ : ∃ z : Int32, z = x_13 + 1 := ⟨_, rfl⟩
            have bz_44 : z_44.toInt = x_13.toInt + (1 : Int32).toInt := i_add ez_44 (by omega) (by omega)
            refine lv_iinc (v := z_44) (lv' := [(7, .int z_44), (6, .int r_7), (0, .ref vo), (1, .int vm), (2, .int 9), (3, .int vlf), (4, .int vti), (5, .int vwe)]) hx hb dX11_careerFrom_174 hl (k := 0) rfl ez_44.symm (by decide) rfl (fun ls hl => ?_)
            refine lv_goto (tgt := 103) hx hb dX11_careerFrom_177 (by decide) ?_
            exact ih12 z_44 vocm_38 voct_39 vocy_41 vmcf_40 vmdf_42 ⟨by omega, by omega⟩ ⟨by omega, by omega⟩ (by omega) _ _ (hP.sub [0, 1, 2, 3] rfl) (hD.sub [0, 1, 2, 3] rfl rfl) hS ls (lv_sub hl [0, 1, 2, 3, 4, 5, 6, 7] rfl)
    have k_0 : (0 : Int32).toInt = 0 := by decide
    exact loop12 ((11 - (0 : Int32).toInt).toNat + 1) 0 vocm voct vocy vmcf vmdf ⟨by omega, by omega⟩ ⟨by omega, by omega⟩ (by omega) _ _ hP hD hS ls (lv_sub hl [0, 1, 2, 3, 4, 5, 6, 7] rfl)
  · skip
    have c_3 : (9 : Int32).toInt = z_2.toInt := i_eq.mp c_3
    have join45 : ∀ (H : Heap) (locs : List Loc), va_P (dC, dI) vwCl [(vo, .inr (12, [.int voth, .ref vmt, .int votp, .int vosz, .int volm, .int voto, .int vofr, .int vokd, .int vonu, .int vosg, .int vofa, .int vopl, .long vowd, .int votd, .ref vmn, .ref vmr, .ref vmk, .ref vms, .ref vma, .ref vmm, .ref vmrn, .ref vmkn, .ref vmik, .ref vmon, .int vosm, .int vohp, .ref vmw, .ref vmf, .ref vmb, .int vomb, .ref vmd, .ref vmc, .int vocm, .int voct, .int vocy, .ref vmx, .int votx, .int vose, .ref vml, .ref vmwr, .int voln, .int vohw, .ref vmno, .int vond, .int voon, .int vowi, .int votop])), (vmn, .inl (cy 0, 575, .inl vmnf)), (vmd, .inl (cy 0, 10, .inl vmdf)), (vmc, .inl (cy 0, 10, .inl vmcf))] H → va_D A [(vo, .inr (12, [.int voth, .ref vmt, .int votp, .int vosz, .int volm, .int voto, .int vofr, .int vokd, .int vonu, .int vosg, .int vofa, .int vopl, .long vowd, .int votd, .ref vmn, .ref vmr, .ref vmk, .ref vms, .ref vma, .ref vmm, .ref vmrn, .ref vmkn, .ref vmik, .ref vmon, .int vosm, .int vohp, .ref vmw, .ref vmf, .ref vmb, .int vomb, .ref vmd, .ref vmc, .int vocm, .int voct, .int vocy, .ref vmx, .int votx, .int vose, .ref vml, .ref vmwr, .int voln, .int vohw, .ref vmno, .int vond, .int voon, .int vowi, .int votop])), (vmn, .inl (cy 0, 575, .inl vmnf)), (vmd, .inl (cy 0, 10, .inl vmdf)), (vmc, .inl (cy 0, 10, .inl vmcf))] → va_S A s.heap H locs → ∀ ls : Array Slot, lv_has ls 8 [(0, .ref vo), (1, .int vm), (2, .int 9), (3, .int vlf), (4, .int vti), (5, .int vwe)] → W p l e ({ frames := 2, cells := 0, slots := 0, locals := 128 }) s m av9 below meth c H locs 0 0 Q9 (F0 m 38 ls []) := by
      intro  H locs hP hD hS ls hl
      refine lv_aload_n hx hb dX11_careerFrom_38 rfl (lv_at hl 0 rfl) ?_
      refine lv_iload hx hb dX11_careerFrom_39 (lv_at hl 5 rfl) ?_
      refine pf_X11_322 hx hb hts hown hK hP hD hS 0 rfl rfl rfl (Nat.le_of_ble_eq_true rfl) dX11_careerFrom_41 (fun H locs hP hD hS => ?_)
      have hP : va_P (dC, dI) vwCl [(vo, .inr (12, [.int voth, .ref vmt, .int votp, .int vosz, .int volm, .int voto, .int vofr, .int vokd, .int vonu, .int vosg, .int vofa, .int vopl, .long vowd, .int votd, .ref vmn, .ref vmr, .ref vmk, .ref vms, .ref vma, .ref vmm, .ref vmrn, .ref vmkn, .ref vmik, .ref vmon, .int vosm, .int vohp, .ref vmw, .ref vmf, .ref vmb, .int vomb, .ref vmd, .ref vmc, .int vwe, .int voct, .int vocy, .ref vmx, .int votx, .int vose, .ref vml, .ref vmwr, .int voln, .int vohw, .ref vmno, .int vond, .int voon, .int vowi, .int votop])), (vmn, .inl (cy 0, 575, .inl vmnf)), (vmd, .inl (cy 0, 10, .inl vmdf)), (vmc, .inl (cy 0, 10, .inl vmcf))] H := hP
      have hD : va_D A [(vo, .inr (12, [.int voth, .ref vmt, .int votp, .int vosz, .int volm, .int voto, .int vofr, .int vokd, .int vonu, .int vosg, .int vofa, .int vopl, .long vowd, .int votd, .ref vmn, .ref vmr, .ref vmk, .ref vms, .ref vma, .ref vmm, .ref vmrn, .ref vmkn, .ref vmik, .ref vmon, .int vosm, .int vohp, .ref vmw, .ref vmf, .ref vmb, .int vomb, .ref vmd, .ref vmc, .int vwe, .int voct, .int vocy, .ref vmx, .int votx, .int vose, .ref vml, .ref vmwr, .int voln, .int vohw, .ref vmno, .int vond, .int voon, .int vowi, .int votop])), (vmn, .inl (cy 0, 575, .inl vmnf)), (vmd, .inl (cy 0, 10, .inl vmdf)), (vmc, .inl (cy 0, 10, .inl vmcf))] := hD
      refine lv_aload_n hx hb dX11_careerFrom_44 rfl (lv_at hl 0 rfl) ?_
      refine lv_iload hx hb dX11_careerFrom_45 (lv_at hl 4 rfl) ?_
      refine pf_X11_325 hx hb hts hown hK hP hD hS 0 rfl rfl rfl (Nat.le_of_ble_eq_true rfl) dX11_careerFrom_47 (fun H locs hP hD hS => ?_)
      have hP : va_P (dC, dI) vwCl [(vo, .inr (12, [.int voth, .ref vmt, .int votp, .int vosz, .int volm, .int voto, .int vofr, .int vokd, .int vonu, .int vosg, .int vofa, .int vopl, .long vowd, .int votd, .ref vmn, .ref vmr, .ref vmk, .ref vms, .ref vma, .ref vmm, .ref vmrn, .ref vmkn, .ref vmik, .ref vmon, .int vosm, .int vohp, .ref vmw, .ref vmf, .ref vmb, .int vomb, .ref vmd, .ref vmc, .int vwe, .int vti, .int vocy, .ref vmx, .int votx, .int vose, .ref vml, .ref vmwr, .int voln, .int vohw, .ref vmno, .int vond, .int voon, .int vowi, .int votop])), (vmn, .inl (cy 0, 575, .inl vmnf)), (vmd, .inl (cy 0, 10, .inl vmdf)), (vmc, .inl (cy 0, 10, .inl vmcf))] H := hP
      have hD : va_D A [(vo, .inr (12, [.int voth, .ref vmt, .int votp, .int vosz, .int volm, .int voto, .int vofr, .int vokd, .int vonu, .int vosg, .int vofa, .int vopl, .long vowd, .int votd, .ref vmn, .ref vmr, .ref vmk, .ref vms, .ref vma, .ref vmm, .ref vmrn, .ref vmkn, .ref vmik, .ref vmon, .int vosm, .int vohp, .ref vmw, .ref vmf, .ref vmb, .int vomb, .ref vmd, .ref vmc, .int vwe, .int vti, .int vocy, .ref vmx, .int votx, .int vose, .ref vml, .ref vmwr, .int voln, .int vohw, .ref vmno, .int vond, .int voon, .int vowi, .int votop])), (vmn, .inl (cy 0, 575, .inl vmnf)), (vmd, .inl (cy 0, 10, .inl vmdf)), (vmc, .inl (cy 0, 10, .inl vmcf))] := hD
      refine lv_iconst (v := 0) hx hb dX11_careerFrom_50 (by decide) ?_
      refine lv_istore (lv' := [(6, .int 0), (0, .ref vo), (1, .int vm), (2, .int 9), (3, .int vlf), (4, .int vti), (5, .int vwe)]) hx hb dX11_careerFrom_51 hl (by decide) rfl (fun ls hl => ?_)
      have loop46 : ∀ (n46 : Nat) (x_47 : Int32) (g_48 : Nat → Int32), (0 ≤ x_47.toInt ∧ x_47.toInt ≤ 10) → 10 - x_47.toInt < (n46 : Int) → ∀ (H : Heap) (locs : List Loc), va_P (dC, dI) vwCl [(vo, .inr (12, [.int voth, .ref vmt, .int votp, .int vosz, .int volm, .int voto, .int vofr, .int vokd, .int vonu, .int vosg, .int vofa, .int vopl, .long vowd, .int votd, .ref vmn, .ref vmr, .ref vmk, .ref vms, .ref vma, .ref vmm, .ref vmrn, .ref vmkn, .ref vmik, .ref vmon, .int vosm, .int vohp, .ref vmw, .ref vmf, .ref vmb, .int vomb, .ref vmd, .ref vmc, .int vwe, .int vti, .int vocy, .ref vmx, .int votx, .int vose, .ref vml, .ref vmwr, .int voln, .int vohw, .ref vmno, .int vond, .int voon, .int vowi, .int votop])), (vmn, .inl (cy 0, 575, .inl vmnf)), (vmd, .inl (cy 0, 10, .inl vmdf)), (vmc, .inl (cy 0, 10, .inl g_48))] H → va_D A [(vo, .inr (12, [.int voth, .ref vmt, .int votp, .int vosz, .int volm, .int voto, .int vofr, .int vokd, .int vonu, .int vosg, .int vofa, .int vopl, .long vowd, .int votd, .ref vmn, .ref vmr, .ref vmk, .ref vms, .ref vma, .ref vmm, .ref vmrn, .ref vmkn, .ref vmik, .ref vmon, .int vosm, .int vohp, .ref vmw, .ref vmf, .ref vmb, .int vomb, .ref vmd, .ref vmc, .int vwe, .int vti, .int vocy, .ref vmx, .int votx, .int vose, .ref vml, .ref vmwr, .int voln, .int vohw, .ref vmno, .int vond, .int voon, .int vowi, .int votop])), (vmn, .inl (cy 0, 575, .inl vmnf)), (vmd, .inl (cy 0, 10, .inl vmdf)), (vmc, .inl (cy 0, 10, .inl g_48))] → va_S A s.heap H locs → ∀ ls : Array Slot, lv_has ls 8 [(6, .int x_47), (0, .ref vo), (1, .int vm), (2, .int 9), (3, .int vlf), (4, .int vti), (5, .int vwe)] → W p l e ({ frames := 2, cells := 0, slots := 0, locals := 128 }) s m av9 below meth c H locs 0 0 Q9 (F0 m 53 ls []) := by
        intro n46
        induction n46 with
        | zero =>
          intro x_47 g_48 bx_47 hn46 H locs hP hD hS ls hl
          exfalso; omega
        | succ n46 ih46 =>
          intro x_47 g_48 bx_47 hn46 H locs hP hD hS ls hl
          refine lv_iload hx hb dX11_careerFrom_53 (lv_at hl 0 rfl) ?_
          refine lv_iload_n hx hb dX11_careerFrom_55 rfl (lv_at hl 3 rfl) ?_
          refine lv_icmp_ge (tgt := 79) hx hb dX11_careerFrom_56 (by decide) (fun c_49 => ?_) (fun c_49 => ?_)
          · skip
            have c_49 : (9 : Int32).toInt ≤ x_47.toInt := i_le.mp c_49
            refine lv_aload_n hx hb dX11_careerFrom_79 rfl (lv_at hl 1 rfl) ?_
            refine lv_iload_n hx hb dX11_careerFrom_80 rfl (lv_at hl 3 rfl) ?_
            refine pf_X11_328 hx hb hts hown hK hP hD hS 0 rfl rfl rfl (Nat.le_of_ble_eq_true rfl) dX11_careerFrom_81 (fun H locs hP hD hS => ?_)
            have hP : va_P (dC, dI) vwCl [(vo, .inr (12, [.int voth, .ref vmt, .int votp, .int vosz, .int volm, .int voto, .int vofr, .int vokd, .int vonu, .int vosg, .int vofa, .int vopl, .long vowd, .int votd, .ref vmn, .ref vmr, .ref vmk, .ref vms, .ref vma, .ref vmm, .ref vmrn, .ref vmkn, .ref vmik, .ref vmon, .int vosm, .int vohp, .ref vmw, .ref vmf, .ref vmb, .int vomb, .ref vmd, .ref vmc, .int vwe, .int vti, .int 9, .ref vmx, .int votx, .int vose, .ref vml, .ref vmwr, .int voln, .int vohw, .ref vmno, .int vond, .int voon, .int vowi, .int votop])), (vmn, .inl (cy 0, 575, .inl vmnf)), (vmd, .inl (cy 0, 10, .inl vmdf)), (vmc, .inl (cy 0, 10, .inl g_48))] H := hP
            have hD : va_D A [(vo, .inr (12, [.int voth, .ref vmt, .int votp, .int vosz, .int volm, .int voto, .int vofr, .int vokd, .int vonu, .int vosg, .int vofa, .int vopl, .long vowd, .int votd, .ref vmn, .ref vmr, .ref vmk, .ref vms, .ref vma, .ref vmm, .ref vmrn, .ref vmkn, .ref vmik, .ref vmon, .int vosm, .int vohp, .ref vmw, .ref vmf, .ref vmb, .int vomb, .ref vmd, .ref vmc, .int vwe, .int vti, .int 9, .ref vmx, .int votx, .int vose, .ref vml, .ref vmwr, .int voln, .int vohw, .ref vmno, .int vond, .int voon, .int vowi, .int votop])), (vmn, .inl (cy 0, 575, .inl vmnf)), (vmd, .inl (cy 0, 10, .inl vmdf)), (vmc, .inl (cy 0, 10, .inl g_48))] := hD
            rw [hQ9]
            exact re_v (vwe, vti, g_48, (9 : Int32), vmdf) hx hb hr hlocks (show 0 ≤ (9 : Int32).toInt ∧ (9 : Int32).toInt ≤ 10 from ⟨by omega, by omega⟩) (hP.sub [0, 1, 2, 3] rfl) (hD.sub [0, 1, 2, 3] rfl rfl) hS dX11_careerFrom_84
          · skip
            have c_49 : ¬ ((9 : Int32).toInt ≤ x_47.toInt) := fun h9 => c_49 (i_le.mpr h9)
            refine lv_aload_n hx hb dX11_careerFrom_59 rfl (lv_at hl 1 rfl) ?_
            refine gf_X11_145 hx hb hts hown hK hP 0 rfl rfl dX11_careerFrom_60 ?_
            refine lv_iload hx hb dX11_careerFrom_63 (lv_at hl 0 rfl) ?_
            refine lv_aload_n hx hb dX11_careerFrom_65 rfl (lv_at hl 1 rfl) ?_
            refine gf_X11_142 hx hb hts hown hK hP 0 rfl rfl dX11_careerFrom_66 ?_
            refine lv_iload hx hb dX11_careerFrom_69 (lv_at hl 0 rfl) ?_
            have hin_50 : vp_in x_47 10 := vp_in_iff.mpr ⟨by omega, by omega⟩
            refine va_iald hx hb hK hP 2 0 rfl rfl hin_50 dX11_careerFrom_71 ?_
            refine lv_topi (fun z_51 ez_51 => ?_)
            have hin_52 : vp_in x_47 10 := vp_in_iff.mpr ⟨by omega, by omega⟩
            refine va_iast hx hb hK hP hD hS 3 0 rfl rfl hin_52 dX11_careerFrom_72 (fun H locs hP hD hS => ?_)
            obtain ⟨f_53, ef_53⟩ : ∃ z : Nat → Int32, z = upd g_48 (Int32.toNatClampNeg x_47) z_51 := ⟨_, rfl⟩
            have hP : va_P (dC, dI) vwCl [(vo, .inr (12, [.int voth, .ref vmt, .int votp, .int vosz, .int volm, .int voto, .int vofr, .int vokd, .int vonu, .int vosg, .int vofa, .int vopl, .long vowd, .int votd, .ref vmn, .ref vmr, .ref vmk, .ref vms, .ref vma, .ref vmm, .ref vmrn, .ref vmkn, .ref vmik, .ref vmon, .int vosm, .int vohp, .ref vmw, .ref vmf, .ref vmb, .int vomb, .ref vmd, .ref vmc, .int vwe, .int vti, .int vocy, .ref vmx, .int votx, .int vose, .ref vml, .ref vmwr, .int voln, .int vohw, .ref vmno, .int vond, .int voon, .int vowi, .int votop])), (vmn, .inl (cy 0, 575, .inl vmnf)), (vmd, .inl (cy 0, 10, .inl vmdf)), (vmc, .inl (cy 0, 10, .inl f_53))] H := by rw [ef_53]; exact hP
            have hD : va_D A [(vo, .inr (12, [.int voth, .ref vmt, .int votp, .int vosz, .int volm, .int voto, .int vofr, .int vokd, .int vonu, .int vosg, .int vofa, .int vopl, .long vowd, .int votd, .ref vmn, .ref vmr, .ref vmk, .ref vms, .ref vma, .ref vmm, .ref vmrn, .ref vmkn, .ref vmik, .ref vmon, .int vosm, .int vohp, .ref vmw, .ref vmf, .ref vmb, .int vomb, .ref vmd, .ref vmc, .int vwe, .int vti, .int vocy, .ref vmx, .int votx, .int vose, .ref vml, .ref vmwr, .int voln, .int vohw, .ref vmno, .int vond, .int voon, .int vowi, .int votop])), (vmn, .inl (cy 0, 575, .inl vmnf)), (vmd, .inl (cy 0, 10, .inl vmdf)), (vmc, .inl (cy 0, 10, .inl f_53))] := by rw [ef_53]; exact hD
            obtain ⟨z_54, ez_54⟩ : ∃ z : Int32, z = x_47 + 1 := ⟨_, rfl⟩
            have bz_54 : z_54.toInt = x_47.toInt + (1 : Int32).toInt := i_add ez_54 (by omega) (by omega)
            refine lv_iinc (v := z_54) (lv' := [(6, .int z_54), (0, .ref vo), (1, .int vm), (2, .int 9), (3, .int vlf), (4, .int vti), (5, .int vwe)]) hx hb dX11_careerFrom_73 hl (k := 0) rfl ez_54.symm (by decide) rfl (fun ls hl => ?_)
            refine lv_goto (tgt := 53) hx hb dX11_careerFrom_76 (by decide) ?_
            exact ih46 z_54 f_53 ⟨by omega, by omega⟩ (by omega) _ _ (hP.sub [0, 1, 2, 3] rfl) (hD.sub [0, 1, 2, 3] rfl rfl) hS ls (lv_sub hl [0, 1, 2, 3, 4, 5, 6] rfl)
      have k_0 : (0 : Int32).toInt = 0 := by decide
      exact loop46 ((10 - (0 : Int32).toInt).toNat + 1) 0 vmcf ⟨by omega, by omega⟩ (by omega) _ _ hP hD hS ls (lv_sub hl [0, 1, 2, 3, 4, 5, 6] rfl)
    refine lv_iload hx hb dX11_careerFrom_10 (lv_at hl 5 rfl) ?_
    refine lv_aload_n hx hb dX11_careerFrom_12 rfl (lv_at hl 0 rfl) ?_
    refine gf_X11_322 hx hb hts hown hK hP 0 rfl rfl dX11_careerFrom_13 ?_
    refine lv_icmp_lt (tgt := 37) hx hb dX11_careerFrom_16 (by decide) (fun c_55 => ?_) (fun c_55 => ?_)
    · skip
      have c_55 : vwe.toInt < vocm.toInt := i_lt.mp c_55
      rw [hQ9]
      exact re_v (vocm, voct, vmcf, vocy, vmdf) hx hb hr hlocks (show 0 ≤ (vocy : Int32).toInt ∧ (vocy : Int32).toInt ≤ 10 from ⟨by omega, by omega⟩) (hP.sub [0, 1, 2, 3] rfl) (hD.sub [0, 1, 2, 3] rfl rfl) hS dX11_careerFrom_37
    · skip
      have c_55 : ¬ (vwe.toInt < vocm.toInt) := fun h9 => c_55 (i_lt.mpr h9)
      refine lv_iload hx hb dX11_careerFrom_19 (lv_at hl 5 rfl) ?_
      refine lv_aload_n hx hb dX11_careerFrom_21 rfl (lv_at hl 0 rfl) ?_
      refine gf_X11_322 hx hb hts hown hK hP 0 rfl rfl dX11_careerFrom_22 ?_
      refine lv_icmp_ne (tgt := 38) hx hb dX11_careerFrom_25 (by decide) (fun c_56 => ?_) (fun c_56 => ?_)
      · skip
        have c_56 : ¬ (vwe.toInt = vocm.toInt) := fun h9 => c_56 (i_eq.mpr h9)
        exact join45  _ _ (hP.sub [0, 1, 2, 3] rfl) (hD.sub [0, 1, 2, 3] rfl rfl) hS ls (lv_sub hl [0, 1, 2, 3, 4, 5] rfl)
      · skip
        have c_56 : vwe.toInt = vocm.toInt := i_eq.mp c_56
        refine lv_iload hx hb dX11_careerFrom_28 (lv_at hl 4 rfl) ?_
        refine lv_aload_n hx hb dX11_careerFrom_30 rfl (lv_at hl 0 rfl) ?_
        refine gf_X11_325 hx hb hts hown hK hP 0 rfl rfl dX11_careerFrom_31 ?_
        refine lv_icmp_lt (tgt := 38) hx hb dX11_careerFrom_34 (by decide) (fun c_57 => ?_) (fun c_57 => ?_)
        · skip
          have c_57 : vti.toInt < voct.toInt := i_lt.mp c_57
          exact join45  _ _ (hP.sub [0, 1, 2, 3] rfl) (hD.sub [0, 1, 2, 3] rfl rfl) hS ls (lv_sub hl [0, 1, 2, 3, 4, 5] rfl)
        · skip
          have c_57 : ¬ (vti.toInt < voct.toInt) := fun h9 => c_57 (i_lt.mpr h9)
          rw [hQ9]
          exact re_v (vocm, voct, vmcf, vocy, vmdf) hx hb hr hlocks (show 0 ≤ (vocy : Int32).toInt ∧ (vocy : Int32).toInt ≤ 10 from ⟨by omega, by omega⟩) (hP.sub [0, 1, 2, 3] rfl) (hD.sub [0, 1, 2, 3] rfl rfl) hS dX11_careerFrom_37
abbrev O_m_careerFrom_8 (cy : Nat → ClassId) (vo : Nat) (voth : Int32) (vmt : Nat) (votp : Int32) (vosz : Int32) (volm : Int32) (voto : Int32) (vofr : Int32) (vokd : Int32) (vonu : Int32) (vosg : Int32) (vofa : Int32) (vopl : Int32) (vowd : Int64) (votd : Int32) (vmn : Nat) (vmr : Nat) (vmk : Nat) (vms : Nat) (vma : Nat) (vmm : Nat) (vmrn : Nat) (vmkn : Nat) (vmik : Nat) (vmon : Nat) (vosm : Int32) (vohp : Int32) (vmw : Nat) (vmf : Nat) (vmb : Nat) (vomb : Int32) (vmd : Nat) (vmc : Nat) (vocm : Int32) (voct : Int32) (vocy : Int32) (vmx : Nat) (votx : Int32) (vose : Int32) (vml : Nat) (vmwr : Nat) (voln : Int32) (vohw : Int32) (vmno : Nat) (vond : Int32) (voon : Int32) (vowi : Int32) (votop : Int32) (vmnf : Nat → Int32) (vmdf : Nat → Int32) (vmcf : Nat → Int32) (vm : Int32) (vlf : Int32) (vti : Int32) (vwe : Int32) (u : Int32 × Int32 × (Nat → Int32) × Int32 × (Nat → Int32)) : va_W := [(vo, .inr (12, [.int voth, .ref vmt, .int votp, .int vosz, .int volm, .int voto, .int vofr, .int vokd, .int vonu, .int vosg, .int vofa, .int vopl, .long vowd, .int votd, .ref vmn, .ref vmr, .ref vmk, .ref vms, .ref vma, .ref vmm, .ref vmrn, .ref vmkn, .ref vmik, .ref vmon, .int vosm, .int vohp, .ref vmw, .ref vmf, .ref vmb, .int vomb, .ref vmd, .ref vmc, .int u.1, .int u.2.1, .int u.2.2.2.1, .ref vmx, .int votx, .int vose, .ref vml, .ref vmwr, .int voln, .int vohw, .ref vmno, .int vond, .int voon, .int vowi, .int votop])), (vmn, .inl (cy 0, 575, .inl vmnf)), (vmd, .inl (cy 0, 10, .inl u.2.2.2.2)), (vmc, .inl (cy 0, 10, .inl u.2.2.1))]
set_option maxHeartbeats 4000000 in
set_option maxRecDepth 100000 in
theorem m_careerFrom_8 (l : Launch) (dC : Nat → ClassId) (dI : Nat → Nat → Nat) (cy : Nat → ClassId) (sz : Nat) (vo : Nat) (voth : Int32) (vmt : Nat) (votp : Int32) (vosz : Int32) (volm : Int32) (voto : Int32) (vofr : Int32) (vokd : Int32) (vonu : Int32) (vosg : Int32) (vofa : Int32) (vopl : Int32) (vowd : Int64) (votd : Int32) (vmn : Nat) (vmr : Nat) (vmk : Nat) (vms : Nat) (vma : Nat) (vmm : Nat) (vmrn : Nat) (vmkn : Nat) (vmik : Nat) (vmon : Nat) (vosm : Int32) (vohp : Int32) (vmw : Nat) (vmf : Nat) (vmb : Nat) (vomb : Int32) (vmd : Nat) (vmc : Nat) (vocm : Int32) (voct : Int32) (vocy : Int32) (vmx : Nat) (votx : Int32) (vose : Int32) (vml : Nat) (vmwr : Nat) (voln : Int32) (vohw : Int32) (vmno : Nat) (vond : Int32) (voon : Int32) (vowi : Int32) (votop : Int32) (vmnf : Nat → Int32) (vmdf : Nat → Int32) (vmcf : Nat → Int32) (vm : Int32) (vlf : Int32) (vti : Int32) (vwe : Int32) (r_vocy : 0 ≤ (vocy : Int32).toInt ∧ (vocy : Int32).toInt ≤ 10) (r_vm : 0 ≤ (vm : Int32).toInt ∧ (vm : Int32).toInt ≤ 6) (r_vlf : 0 ≤ (vlf : Int32).toInt ∧ (vlf : Int32).toInt ≤ 10) (p_vmnf : NW vmnf) (hd : 8 ≤ (vmnf 1).toInt) : Met l yX11_careerFrom (wl yX11_careerFrom cX11_careerFrom 8 none) ({ frames := 3, cells := 0, slots := 0, locals := 192 }) (Pw (dC, dI) vwCl cy [(vo, .inr (12, [.int voth, .ref vmt, .int votp, .int vosz, .int volm, .int voto, .int vofr, .int vokd, .int vonu, .int vosg, .int vofa, .int vopl, .long vowd, .int votd, .ref vmn, .ref vmr, .ref vmk, .ref vms, .ref vma, .ref vmm, .ref vmrn, .ref vmkn, .ref vmik, .ref vmon, .int vosm, .int vohp, .ref vmw, .ref vmf, .ref vmb, .int vomb, .ref vmd, .ref vmc, .int vocm, .int voct, .int vocy, .ref vmx, .int votx, .int vose, .ref vml, .ref vmwr, .int voln, .int vohw, .ref vmno, .int vond, .int voon, .int vowi, .int votop])), (vmn, .inl (cy 0, 575, .inl vmnf)), (vmd, .inl (cy 0, 10, .inl vmdf)), (vmc, .inl (cy 0, 10, .inl vmcf))] sz [.ref vo, .int vm, .int 8, .int vlf, .int vti, .int vwe] nE) (Qv (dC, dI) vwCl (fun (u : Int32 × Int32 × (Nat → Int32) × Int32 × (Nat → Int32)) => (0 ≤ (u.2.2.2.1 : Int32).toInt ∧ (u.2.2.2.1 : Int32).toInt ≤ 10)) (O_m_careerFrom_8 cy vo voth vmt votp vosz volm voto vofr vokd vonu vosg vofa vopl vowd votd vmn vmr vmk vms vma vmm vmrn vmkn vmik vmon vosm vohp vmw vmf vmb vomb vmd vmc vocm voct vocy vmx votx vose vml vmwr voln vohw vmno vond voon vowi votop vmnf vmdf vmcf vm vlf vti vwe) (va_A [(vo, .inr (12, [.int voth, .ref vmt, .int votp, .int vosz, .int volm, .int voto, .int vofr, .int vokd, .int vonu, .int vosg, .int vofa, .int vopl, .long vowd, .int votd, .ref vmn, .ref vmr, .ref vmk, .ref vms, .ref vma, .ref vmm, .ref vmrn, .ref vmkn, .ref vmik, .ref vmon, .int vosm, .int vohp, .ref vmw, .ref vmf, .ref vmb, .int vomb, .ref vmd, .ref vmc, .int vocm, .int voct, .int vocy, .ref vmx, .int votx, .int vose, .ref vml, .ref vmwr, .int voln, .int vohw, .ref vmno, .int vond, .int voon, .int vowi, .int votop])), (vmn, .inl (cy 0, 575, .inl vmnf)), (vmd, .inl (cy 0, 10, .inl vmdf)), (vmc, .inl (cy 0, 10, .inl vmcf))] sz)) 0 0 (va_A [(vo, .inr (12, [.int voth, .ref vmt, .int votp, .int vosz, .int volm, .int voto, .int vofr, .int vokd, .int vonu, .int vosg, .int vofa, .int vopl, .long vowd, .int votd, .ref vmn, .ref vmr, .ref vmk, .ref vms, .ref vma, .ref vmm, .ref vmrn, .ref vmkn, .ref vmik, .ref vmon, .int vosm, .int vohp, .ref vmw, .ref vmf, .ref vmb, .int vomb, .ref vmd, .ref vmc, .int vocm, .int voct, .int vocy, .ref vmx, .int votx, .int vose, .ref vml, .ref vmwr, .int voln, .int vohw, .ref vmno, .int vond, .int voon, .int vowi, .int votop])), (vmn, .inl (cy 0, 575, .inl vmnf)), (vmd, .inl (cy 0, 10, .inl vmdf)), (vmc, .inl (cy 0, 10, .inl vmcf))] sz) := by
  refine mw (Qc := Qv (dC, dI) vwCl (fun (u : Int32 × Int32 × (Nat → Int32) × Int32 × (Nat → Int32)) => (0 ≤ (u.2.2.2.1 : Int32).toInt ∧ (u.2.2.2.1 : Int32).toInt ≤ 10)) (O_m_careerFrom_8 cy vo voth vmt votp vosz volm voto vofr vokd vonu vosg vofa vopl vowd votd vmn vmr vmk vms vma vmm vmrn vmkn vmik vmon vosm vohp vmw vmf vmb vomb vmd vmc vocm voct vocy vmx votx vose vml vmwr voln vohw vmno vond voon vowi votop vmnf vmdf vmcf vm vlf vti vwe)) RX11 rfl (by decide +kernel) (Nat.le_of_ble_eq_true rfl) ?_
  intro p e s m below meth c A hx hb hr hlocks av9 hav hts hown hnm hml hK hP hD hA hS hE hAe Q9 hQ9 ls hl
  have hl : lv_has ls 8 [(0, .ref vo), (1, .int vm), (2, .int 8), (3, .int vlf), (4, .int vti), (5, .int vwe)] := hl
  refine lv_iload_n hx hb dX11_careerFrom_0 rfl (lv_at hl 2 rfl) ?_
  refine lv_aload_n hx hb dX11_careerFrom_1 rfl (lv_at hl 0 rfl) ?_
  refine gf_X11_98 hx hb hts hown hK hP 0 rfl rfl dX11_careerFrom_2 ?_
  refine lv_iconst (v := 1) hx hb dX11_careerFrom_5 (by decide) ?_
  have k_1 : (1 : Int32).toInt = 1 := by decide
  have hin_1 : vp_in (1 : Int32) 575 := vp_in_iff.mpr ⟨by omega, by omega⟩
  refine va_iald hx hb hK hP 1 0 rfl rfl hin_1 dX11_careerFrom_6 ?_
  refine lv_topi (fun z_2 ez_2 => ?_)
  have bz_2 := p_vmnf.a1 (x := 1) ⟨by omega, by omega⟩ ez_2
  have tz_2 : z_2.toInt = (vmnf 1).toInt := by rw [ez_2]; rfl
  have k_8 : (8 : Int32).toInt = 8 := by decide
  refine lv_icmp_ne (tgt := 85) hx hb dX11_careerFrom_7 (by decide) (fun c_3 => ?_) (fun c_3 => ?_)
  · skip
    have c_3 : ¬ ((8 : Int32).toInt = z_2.toInt) := fun h9 => c_3 (i_eq.mpr h9)
    refine lv_iload_n hx hb dX11_careerFrom_85 rfl (lv_at hl 3 rfl) ?_
    refine lv_bipush (v := 9) hx hb dX11_careerFrom_86 (by decide) ?_
    refine lv_aload_n hx hb dX11_careerFrom_88 rfl (lv_at hl 0 rfl) ?_
    refine lv_iload_n hx hb dX11_careerFrom_89 rfl (lv_at hl 1 rfl) ?_
    refine lv_iload_n hx hb dX11_careerFrom_90 rfl (lv_at hl 2 rfl) ?_
    refine jr_i (rVr (As := [.int vm, .int 8]) (rest := [.int 9, .int vlf]) (ci := 12) ⟨hx, hb, hml, hown, hts⟩ (m_didOf l dC dI cy vo voth vmt votp vosz volm voto vofr vokd vonu vosg vofa vopl vowd votd vmn vmr vmk vms vma vmm vmrn vmkn vmik vmon vosm vohp vmw vmf vmb vomb vmd vmc vocm voct vocy vmx votx vose vml vmwr voln vohw vmno vond voon vowi votop vmnf vm 8 ⟨by omega, by omega⟩ ⟨by omega, by omega⟩ p_vmnf) (cw_X11_228 hts rfl rfl ⟨Nat.le_of_ble_eq_true rfl, Nat.le_of_ble_eq_true rfl⟩) hP hK [0, 1] rfl rfl rfl rfl hl.1 rfl (Nat.le_of_ble_eq_true rfl) dX11_careerFrom_91 ⟨Nat.le_of_ble_eq_true rfl, Nat.le_of_ble_eq_true rfl⟩) hP hS (fun r_4 H locs hp_5 hP hS => ?_)
    refine lv_isub hx hb dX11_careerFrom_94 ?_
    refine lv_topi (fun z_6 ez_6 => ?_)
    refine jr_i (rSr (As := [.int vlf, .int z_6]) (rest := []) ⟨hx, hb, hml, hown, hts⟩ (m_least l dC dI cy vlf z_6 ) (cw_X11_288 hts rfl rfl ⟨Nat.le_of_ble_eq_true rfl, Nat.le_of_ble_eq_true rfl⟩) hP hK [] rfl rfl hl.1 rfl (Nat.le_of_ble_eq_true rfl) dX11_careerFrom_95 ⟨Nat.le_of_ble_eq_true rfl, Nat.le_of_ble_eq_true rfl⟩) hP hS (fun r_7 H locs hp_8 hP hS => ?_)
    have hp_8 : ((r_7 : Int32).toInt ≤ (vlf : Int32).toInt) ∧ ((r_7 : Int32).toInt ≤ (z_6 : Int32).toInt) ∧ (((r_7 : Int32).toInt = (vlf : Int32).toInt ∨ (r_7 : Int32).toInt = (z_6 : Int32).toInt)) := hp_8
    obtain ⟨q_9, q_10, q_11⟩ := hp_8
    refine lv_istore (lv' := [(6, .int r_7), (0, .ref vo), (1, .int vm), (2, .int 8), (3, .int vlf), (4, .int vti), (5, .int vwe)]) hx hb dX11_careerFrom_98 hl (by decide) rfl (fun ls hl => ?_)
    refine lv_iconst (v := 0) hx hb dX11_careerFrom_100 (by decide) ?_
    refine lv_istore (lv' := [(7, .int 0), (6, .int r_7), (0, .ref vo), (1, .int vm), (2, .int 8), (3, .int vlf), (4, .int vti), (5, .int vwe)]) hx hb dX11_careerFrom_101 hl (by decide) rfl (fun ls hl => ?_)
    have loop12 : ∀ (n12 : Nat) (x_13 : Int32) (x_14 : Int32) (x_15 : Int32) (x_16 : Int32) (g_17 : Nat → Int32) (g_18 : Nat → Int32), (0 ≤ x_13.toInt ∧ x_13.toInt ≤ 11) → (0 ≤ x_16.toInt ∧ x_16.toInt ≤ 10) → 11 - x_13.toInt < (n12 : Int) → ∀ (H : Heap) (locs : List Loc), va_P (dC, dI) vwCl [(vo, .inr (12, [.int voth, .ref vmt, .int votp, .int vosz, .int volm, .int voto, .int vofr, .int vokd, .int vonu, .int vosg, .int vofa, .int vopl, .long vowd, .int votd, .ref vmn, .ref vmr, .ref vmk, .ref vms, .ref vma, .ref vmm, .ref vmrn, .ref vmkn, .ref vmik, .ref vmon, .int vosm, .int vohp, .ref vmw, .ref vmf, .ref vmb, .int vomb, .ref vmd, .ref vmc, .int x_14, .int x_15, .int x_16, .ref vmx, .int votx, .int vose, .ref vml, .ref vmwr, .int voln, .int vohw, .ref vmno, .int vond, .int voon, .int vowi, .int votop])), (vmn, .inl (cy 0, 575, .inl vmnf)), (vmd, .inl (cy 0, 10, .inl g_18)), (vmc, .inl (cy 0, 10, .inl g_17))] H → va_D A [(vo, .inr (12, [.int voth, .ref vmt, .int votp, .int vosz, .int volm, .int voto, .int vofr, .int vokd, .int vonu, .int vosg, .int vofa, .int vopl, .long vowd, .int votd, .ref vmn, .ref vmr, .ref vmk, .ref vms, .ref vma, .ref vmm, .ref vmrn, .ref vmkn, .ref vmik, .ref vmon, .int vosm, .int vohp, .ref vmw, .ref vmf, .ref vmb, .int vomb, .ref vmd, .ref vmc, .int x_14, .int x_15, .int x_16, .ref vmx, .int votx, .int vose, .ref vml, .ref vmwr, .int voln, .int vohw, .ref vmno, .int vond, .int voon, .int vowi, .int votop])), (vmn, .inl (cy 0, 575, .inl vmnf)), (vmd, .inl (cy 0, 10, .inl g_18)), (vmc, .inl (cy 0, 10, .inl g_17))] → va_S A s.heap H locs → ∀ ls : Array Slot, lv_has ls 8 [(7, .int x_13), (6, .int r_7), (0, .ref vo), (1, .int vm), (2, .int 8), (3, .int vlf), (4, .int vti), (5, .int vwe)] → W p l e ({ frames := 3, cells := 0, slots := 0, locals := 192 }) s m av9 below meth c H locs 0 0 Q9 (F0 m 103 ls []) := by
      intro n12
      induction n12 with
      | zero =>
        intro x_13 x_14 x_15 x_16 g_17 g_18 bx_13 bx_16 hn12 H locs hP hD hS ls hl
        exfalso; omega
      | succ n12 ih12 =>
        intro x_13 x_14 x_15 x_16 g_17 g_18 bx_13 bx_16 hn12 H locs hP hD hS ls hl
        refine lv_iload hx hb dX11_careerFrom_103 (lv_at hl 0 rfl) ?_
        refine lv_iload hx hb dX11_careerFrom_105 (lv_at hl 1 rfl) ?_
        refine lv_icmp_gt (tgt := 180) hx hb dX11_careerFrom_107 (by decide) (fun c_19 => ?_) (fun c_19 => ?_)
        · skip
          have c_19 : r_7.toInt < x_13.toInt := i_lt.mp c_19
          rw [hQ9]
          exact re_v (x_14, x_15, g_17, x_16, g_18) hx hb hr hlocks (show 0 ≤ (x_16 : Int32).toInt ∧ (x_16 : Int32).toInt ≤ 10 from ⟨by omega, by omega⟩) (hP.sub [0, 1, 2, 3] rfl) (hD.sub [0, 1, 2, 3] rfl rfl) hS dX11_careerFrom_180
        · skip
          have c_19 : ¬ (r_7.toInt < x_13.toInt) := fun h9 => c_19 (i_lt.mpr h9)
          refine lv_iload hx hb dX11_careerFrom_110 (lv_at hl 7 rfl) ?_
          refine lv_iload hx hb dX11_careerFrom_112 (lv_at hl 0 rfl) ?_
          refine lv_aload_n hx hb dX11_careerFrom_114 rfl (lv_at hl 2 rfl) ?_
          refine gf_X11_98 hx hb hts hown hK hP 0 rfl rfl dX11_careerFrom_115 ?_
          refine lv_bipush (v := 11) hx hb dX11_careerFrom_118 (by decide) ?_
          refine lv_iload_n hx hb dX11_careerFrom_120 rfl (lv_at hl 4 rfl) ?_
          refine lv_iadd hx hb dX11_careerFrom_121 ?_
          refine as_i 19 (by decide) ?_
          have k_19 : (19 : Int32).toInt = 19 := by decide
          have hin_20 : vp_in (19 : Int32) 575 := vp_in_iff.mpr ⟨by omega, by omega⟩
          refine va_iald hx hb hK hP 1 0 rfl rfl hin_20 dX11_careerFrom_122 ?_
          refine lv_topi (fun z_21 ez_21 => ?_)
          have bz_21 := p_vmnf.aw (x := 19) ⟨by omega, by omega⟩ ez_21
          have tz_21 : z_21.toInt = (vmnf 19).toInt := by rw [ez_21]; rfl
          refine lv_imul hx hb dX11_careerFrom_123 ?_
          refine lv_topi (fun z_22 ez_22 => ?_)
          have bz_22 : 0 ≤ z_22.toInt ∧ z_22.toInt ≤ 400 ∧ z_22.toInt = x_13.toInt * z_21.toInt := i_mulb (A := 10) (B := 40) ez_22 ⟨by omega, by omega⟩ ⟨by omega, by omega⟩ (by decide)
          refine lv_iadd hx hb dX11_careerFrom_124 ?_
          refine lv_topi (fun z_23 ez_23 => ?_)
          refine lv_aload_n hx hb dX11_careerFrom_125 rfl (lv_at hl 2 rfl) ?_
          refine gf_X11_98 hx hb hts hown hK hP 0 rfl rfl dX11_careerFrom_126 ?_
          refine lv_iconst (v := 2) hx hb dX11_careerFrom_129 (by decide) ?_
          have k_2 : (2 : Int32).toInt = 2 := by decide
          have hin_24 : vp_in (2 : Int32) 575 := vp_in_iff.mpr ⟨by omega, by omega⟩
          refine va_iald hx hb hK hP 1 0 rfl rfl hin_24 dX11_careerFrom_130 ?_
          refine lv_topi (fun z_25 ez_25 => ?_)
          have tz_25 : z_25.toInt = (vmnf 2).toInt := by rw [ez_25]; rfl
          refine lv_icmp_gt (tgt := 180) hx hb dX11_careerFrom_131 (by decide) (fun c_26 => ?_) (fun c_26 => ?_)
          · skip
            have c_26 : z_25.toInt < z_23.toInt := i_lt.mp c_26
            rw [hQ9]
            exact re_v (x_14, x_15, g_17, x_16, g_18) hx hb hr hlocks (show 0 ≤ (x_16 : Int32).toInt ∧ (x_16 : Int32).toInt ≤ 10 from ⟨by omega, by omega⟩) (hP.sub [0, 1, 2, 3] rfl) (hD.sub [0, 1, 2, 3] rfl rfl) hS dX11_careerFrom_180
          · skip
            have c_26 : ¬ (z_25.toInt < z_23.toInt) := fun h9 => c_26 (i_lt.mpr h9)
            refine lv_aload_n hx hb dX11_careerFrom_134 rfl (lv_at hl 2 rfl) ?_
            refine gf_X11_142 hx hb hts hown hK hP 0 rfl rfl dX11_careerFrom_135 ?_
            refine lv_iload_n hx hb dX11_careerFrom_138 rfl (lv_at hl 4 rfl) ?_
            refine lv_iload hx hb dX11_careerFrom_139 (lv_at hl 0 rfl) ?_
            have hin_27 : vp_in (8 : Int32) 10 := vp_in_iff.mpr ⟨by omega, by omega⟩
            refine va_iast hx hb hK hP hD hS 2 0 rfl rfl hin_27 dX11_careerFrom_141 (fun H locs hP hD hS => ?_)
            obtain ⟨f_28, ef_28⟩ : ∃ z : Nat → Int32, z = upd g_18 (Int32.toNatClampNeg 8) x_13 := ⟨_, rfl⟩
            have hP : va_P (dC, dI) vwCl [(vo, .inr (12, [.int voth, .ref vmt, .int votp, .int vosz, .int volm, .int voto, .int vofr, .int vokd, .int vonu, .int vosg, .int vofa, .int vopl, .long vowd, .int votd, .ref vmn, .ref vmr, .ref vmk, .ref vms, .ref vma, .ref vmm, .ref vmrn, .ref vmkn, .ref vmik, .ref vmon, .int vosm, .int vohp, .ref vmw, .ref vmf, .ref vmb, .int vomb, .ref vmd, .ref vmc, .int x_14, .int x_15, .int x_16, .ref vmx, .int votx, .int vose, .ref vml, .ref vmwr, .int voln, .int vohw, .ref vmno, .int vond, .int voon, .int vowi, .int votop])), (vmn, .inl (cy 0, 575, .inl vmnf)), (vmd, .inl (cy 0, 10, .inl f_28)), (vmc, .inl (cy 0, 10, .inl g_17))] H := by rw [ef_28]; exact hP
            have hD : va_D A [(vo, .inr (12, [.int voth, .ref vmt, .int votp, .int vosz, .int volm, .int voto, .int vofr, .int vokd, .int vonu, .int vosg, .int vofa, .int vopl, .long vowd, .int votd, .ref vmn, .ref vmr, .ref vmk, .ref vms, .ref vma, .ref vmm, .ref vmrn, .ref vmkn, .ref vmik, .ref vmon, .int vosm, .int vohp, .ref vmw, .ref vmf, .ref vmb, .int vomb, .ref vmd, .ref vmc, .int x_14, .int x_15, .int x_16, .ref vmx, .int votx, .int vose, .ref vml, .ref vmwr, .int voln, .int vohw, .ref vmno, .int vond, .int voon, .int vowi, .int votop])), (vmn, .inl (cy 0, 575, .inl vmnf)), (vmd, .inl (cy 0, 10, .inl f_28)), (vmc, .inl (cy 0, 10, .inl g_17))] := by rw [ef_28]; exact hD
            refine lv_aload_n hx hb dX11_careerFrom_142 rfl (lv_at hl 2 rfl) ?_
            refine lv_iload_n hx hb dX11_careerFrom_143 rfl (lv_at hl 3 rfl) ?_
            refine lv_iload_n hx hb dX11_careerFrom_144 rfl (lv_at hl 4 rfl) ?_
            refine lv_iconst (v := 1) hx hb dX11_careerFrom_145 (by decide) ?_
            refine lv_iadd hx hb dX11_careerFrom_146 ?_
            refine as_i 9 (by decide) ?_
            refine lv_iload_n hx hb dX11_careerFrom_147 rfl (lv_at hl 5 rfl) ?_
            refine lv_iload hx hb dX11_careerFrom_148 (lv_at hl 0 rfl) ?_
            refine lv_isub hx hb dX11_careerFrom_150 ?_
            refine lv_topi (fun z_29 ez_29 => ?_)
            have bz_29 : z_29.toInt = vlf.toInt - x_13.toInt := i_sub ez_29 (by omega) (by omega)
            refine lv_iload hx hb dX11_careerFrom_151 (lv_at hl 6 rfl) ?_
            refine lv_iload hx hb dX11_careerFrom_153 (lv_at hl 0 rfl) ?_
            refine lv_iadd hx hb dX11_careerFrom_155 ?_
            refine lv_topi (fun z_30 ez_30 => ?_)
            refine lv_iload hx hb dX11_careerFrom_156 (lv_at hl 7 rfl) ?_
            refine lv_iload hx hb dX11_careerFrom_158 (lv_at hl 0 rfl) ?_
            refine lv_aload_n hx hb dX11_careerFrom_160 rfl (lv_at hl 2 rfl) ?_
            refine gf_X11_98 hx hb hts hown hK hP 0 rfl rfl dX11_careerFrom_161 ?_
            refine lv_bipush (v := 11) hx hb dX11_careerFrom_164 (by decide) ?_
            refine lv_iload_n hx hb dX11_careerFrom_166 rfl (lv_at hl 4 rfl) ?_
            refine lv_iadd hx hb dX11_careerFrom_167 ?_
            refine as_i 19 (by decide) ?_
            have hin_31 : vp_in (19 : Int32) 575 := vp_in_iff.mpr ⟨by omega, by omega⟩
            refine va_iald hx hb hK hP 1 0 rfl rfl hin_31 dX11_careerFrom_168 ?_
            refine lv_topi (fun z_32 ez_32 => ?_)
            have bz_32 := p_vmnf.aw (x := 19) ⟨by omega, by omega⟩ ez_32
            have tz_32 : z_32.toInt = (vmnf 19).toInt := by rw [ez_32]; rfl
            refine lv_imul hx hb dX11_careerFrom_169 ?_
            refine lv_topi (fun z_33 ez_33 => ?_)
            have bz_33 : 0 ≤ z_33.toInt ∧ z_33.toInt ≤ 400 ∧ z_33.toInt = x_13.toInt * z_32.toInt := i_mulb (A := 10) (B := 40) ez_33 ⟨by omega, by omega⟩ ⟨by omega, by omega⟩ (by decide)
            refine lv_iadd hx hb dX11_careerFrom_170 ?_
            refine lv_topi (fun z_34 ez_34 => ?_)
            refine jn_v (wr := []) (rV (As := [.int vm, .int 9, .int z_29, .int z_30, .int z_34]) (rest := []) (ci := 12) ⟨hx, hb, hml, hown, hts⟩ (m_careerFrom_9 l dC dI cy _ vo voth vmt votp vosz volm voto vofr vokd vonu vosg vofa vopl vowd votd vmn vmr vmk vms vma vmm vmrn vmkn vmik vmon vosm vohp vmw vmf vmb vomb vmd vmc x_14 x_15 x_16 vmx votx vose vml vmwr voln vohw vmno vond voon vowi votop vmnf f_28 g_17 vm z_29 z_30 z_34 ⟨by omega, by omega⟩ r_vm ⟨by omega, by omega⟩ p_vmnf (by omega)) (cw_X11_331 hts rfl rfl ⟨Nat.le_of_ble_eq_true rfl, Nat.le_of_ble_eq_true rfl⟩) hP hD hK [0, 1, 2, 3] rfl rfl rfl rfl bl0 e0 rfl hl.1 rfl (Nat.le_of_ble_eq_true rfl) dX11_careerFrom_171 ⟨Nat.le_of_ble_eq_true rfl, Nat.le_of_ble_eq_true rfl⟩) hP hD hS hA [0, 1, 2, 3] [] rfl rfl rfl (by decide) (fun u_37 H locs hp_36 hP hD hS => ?_)
            obtain ⟨vocm_38, voct_39, vmcf_40, vocy_41, vmdf_42⟩ := u_37
            have hp_36 : (0 ≤ (vocy_41 : Int32).toInt ∧ (vocy_41 : Int32).toInt ≤ 10) := hp_36
            have q_43 := hp_36
            have hP : va_P (dC, dI) vwCl [(vo, .inr (12, [.int voth, .ref vmt, .int votp, .int vosz, .int volm, .int voto, .int vofr, .int vokd, .int vonu, .int vosg, .int vofa, .int vopl, .long vowd, .int votd, .ref vmn, .ref vmr, .ref vmk, .ref vms, .ref vma, .ref vmm, .ref vmrn, .ref vmkn, .ref vmik, .ref vmon, .int vosm, .int vohp, .ref vmw, .ref vmf, .ref vmb, .int vomb, .ref vmd, .ref vmc, .int vocm_38, .int voct_39, .int vocy_41, .ref vmx, .int votx, .int vose, .ref vml, .ref vmwr, .int voln, .int vohw, .ref vmno, .int vond, .int voon, .int vowi, .int votop])), (vmn, .inl (cy 0, 575, .inl vmnf)), (vmd, .inl (cy 0, 10, .inl vmdf_42)), (vmc, .inl (cy 0, 10, .inl vmcf_40))] H := hP
            have hD : va_D A [(vo, .inr (12, [.int voth, .ref vmt, .int votp, .int vosz, .int volm, .int voto, .int vofr, .int vokd, .int vonu, .int vosg, .int vofa, .int vopl, .long vowd, .int votd, .ref vmn, .ref vmr, .ref vmk, .ref vms, .ref vma, .ref vmm, .ref vmrn, .ref vmkn, .ref vmik, .ref vmon, .int vosm, .int vohp, .ref vmw, .ref vmf, .ref vmb, .int vomb, .ref vmd, .ref vmc, .int vocm_38, .int voct_39, .int vocy_41, .ref vmx, .int votx, .int vose, .ref vml, .ref vmwr, .int voln, .int vohw, .ref vmno, .int vond, .int voon, .int vowi, .int votop])), (vmn, .inl (cy 0, 575, .inl vmnf)), (vmd, .inl (cy 0, 10, .inl vmdf_42)), (vmc, .inl (cy 0, 10, .inl vmcf_40))] := hD
            obtain ⟨z_44, ez_44⟩ : ∃ z : Int32, z = x_13 + 1 := ⟨_, rfl⟩
            have bz_44 : z_44.toInt = x_13.toInt + (1 : Int32).toInt := i_add ez_44 (by omega) (by omega)
            refine lv_iinc (v := z_44) (lv' := [(7, .int z_44), (6, .int r_7), (0, .ref vo), (1, .int vm), (2, .int 8), (3, .int vlf), (4, .int vti), (5, .int vwe)]) hx hb dX11_careerFrom_174 hl (k := 0) rfl ez_44.symm (by decide) rfl (fun ls hl => ?_)
            refine lv_goto (tgt := 103) hx hb dX11_careerFrom_177 (by decide) ?_
            exact ih12 z_44 vocm_38 voct_39 vocy_41 vmcf_40 vmdf_42 ⟨by omega, by omega⟩ ⟨by omega, by omega⟩ (by omega) _ _ (hP.sub [0, 1, 2, 3] rfl) (hD.sub [0, 1, 2, 3] rfl rfl) hS ls (lv_sub hl [0, 1, 2, 3, 4, 5, 6, 7] rfl)
    have k_0 : (0 : Int32).toInt = 0 := by decide
    exact loop12 ((11 - (0 : Int32).toInt).toNat + 1) 0 vocm voct vocy vmcf vmdf ⟨by omega, by omega⟩ ⟨by omega, by omega⟩ (by omega) _ _ hP hD hS ls (lv_sub hl [0, 1, 2, 3, 4, 5, 6, 7] rfl)
  · skip
    have c_3 : (8 : Int32).toInt = z_2.toInt := i_eq.mp c_3
    have join45 : ∀ (H : Heap) (locs : List Loc), va_P (dC, dI) vwCl [(vo, .inr (12, [.int voth, .ref vmt, .int votp, .int vosz, .int volm, .int voto, .int vofr, .int vokd, .int vonu, .int vosg, .int vofa, .int vopl, .long vowd, .int votd, .ref vmn, .ref vmr, .ref vmk, .ref vms, .ref vma, .ref vmm, .ref vmrn, .ref vmkn, .ref vmik, .ref vmon, .int vosm, .int vohp, .ref vmw, .ref vmf, .ref vmb, .int vomb, .ref vmd, .ref vmc, .int vocm, .int voct, .int vocy, .ref vmx, .int votx, .int vose, .ref vml, .ref vmwr, .int voln, .int vohw, .ref vmno, .int vond, .int voon, .int vowi, .int votop])), (vmn, .inl (cy 0, 575, .inl vmnf)), (vmd, .inl (cy 0, 10, .inl vmdf)), (vmc, .inl (cy 0, 10, .inl vmcf))] H → va_D A [(vo, .inr (12, [.int voth, .ref vmt, .int votp, .int vosz, .int volm, .int voto, .int vofr, .int vokd, .int vonu, .int vosg, .int vofa, .int vopl, .long vowd, .int votd, .ref vmn, .ref vmr, .ref vmk, .ref vms, .ref vma, .ref vmm, .ref vmrn, .ref vmkn, .ref vmik, .ref vmon, .int vosm, .int vohp, .ref vmw, .ref vmf, .ref vmb, .int vomb, .ref vmd, .ref vmc, .int vocm, .int voct, .int vocy, .ref vmx, .int votx, .int vose, .ref vml, .ref vmwr, .int voln, .int vohw, .ref vmno, .int vond, .int voon, .int vowi, .int votop])), (vmn, .inl (cy 0, 575, .inl vmnf)), (vmd, .inl (cy 0, 10, .inl vmdf)), (vmc, .inl (cy 0, 10, .inl vmcf))] → va_S A s.heap H locs → ∀ ls : Array Slot, lv_has ls 8 [(0, .ref vo), (1, .int vm), (2, .int 8), (3, .int vlf), (4, .int vti), (5, .int vwe)] → W p l e ({ frames := 3, cells := 0, slots := 0, locals := 192 }) s m av9 below meth c H locs 0 0 Q9 (F0 m 38 ls []) := by
      intro  H locs hP hD hS ls hl
      refine lv_aload_n hx hb dX11_careerFrom_38 rfl (lv_at hl 0 rfl) ?_
      refine lv_iload hx hb dX11_careerFrom_39 (lv_at hl 5 rfl) ?_
      refine pf_X11_322 hx hb hts hown hK hP hD hS 0 rfl rfl rfl (Nat.le_of_ble_eq_true rfl) dX11_careerFrom_41 (fun H locs hP hD hS => ?_)
      have hP : va_P (dC, dI) vwCl [(vo, .inr (12, [.int voth, .ref vmt, .int votp, .int vosz, .int volm, .int voto, .int vofr, .int vokd, .int vonu, .int vosg, .int vofa, .int vopl, .long vowd, .int votd, .ref vmn, .ref vmr, .ref vmk, .ref vms, .ref vma, .ref vmm, .ref vmrn, .ref vmkn, .ref vmik, .ref vmon, .int vosm, .int vohp, .ref vmw, .ref vmf, .ref vmb, .int vomb, .ref vmd, .ref vmc, .int vwe, .int voct, .int vocy, .ref vmx, .int votx, .int vose, .ref vml, .ref vmwr, .int voln, .int vohw, .ref vmno, .int vond, .int voon, .int vowi, .int votop])), (vmn, .inl (cy 0, 575, .inl vmnf)), (vmd, .inl (cy 0, 10, .inl vmdf)), (vmc, .inl (cy 0, 10, .inl vmcf))] H := hP
      have hD : va_D A [(vo, .inr (12, [.int voth, .ref vmt, .int votp, .int vosz, .int volm, .int voto, .int vofr, .int vokd, .int vonu, .int vosg, .int vofa, .int vopl, .long vowd, .int votd, .ref vmn, .ref vmr, .ref vmk, .ref vms, .ref vma, .ref vmm, .ref vmrn, .ref vmkn, .ref vmik, .ref vmon, .int vosm, .int vohp, .ref vmw, .ref vmf, .ref vmb, .int vomb, .ref vmd, .ref vmc, .int vwe, .int voct, .int vocy, .ref vmx, .int votx, .int vose, .ref vml, .ref vmwr, .int voln, .int vohw, .ref vmno, .int vond, .int voon, .int vowi, .int votop])), (vmn, .inl (cy 0, 575, .inl vmnf)), (vmd, .inl (cy 0, 10, .inl vmdf)), (vmc, .inl (cy 0, 10, .inl vmcf))] := hD
      refine lv_aload_n hx hb dX11_careerFrom_44 rfl (lv_at hl 0 rfl) ?_
      refine lv_iload hx hb dX11_careerFrom_45 (lv_at hl 4 rfl) ?_
      refine pf_X11_325 hx hb hts hown hK hP hD hS 0 rfl rfl rfl (Nat.le_of_ble_eq_true rfl) dX11_careerFrom_47 (fun H locs hP hD hS => ?_)
      have hP : va_P (dC, dI) vwCl [(vo, .inr (12, [.int voth, .ref vmt, .int votp, .int vosz, .int volm, .int voto, .int vofr, .int vokd, .int vonu, .int vosg, .int vofa, .int vopl, .long vowd, .int votd, .ref vmn, .ref vmr, .ref vmk, .ref vms, .ref vma, .ref vmm, .ref vmrn, .ref vmkn, .ref vmik, .ref vmon, .int vosm, .int vohp, .ref vmw, .ref vmf, .ref vmb, .int vomb, .ref vmd, .ref vmc, .int vwe, .int vti, .int vocy, .ref vmx, .int votx, .int vose, .ref vml, .ref vmwr, .int voln, .int vohw, .ref vmno, .int vond, .int voon, .int vowi, .int votop])), (vmn, .inl (cy 0, 575, .inl vmnf)), (vmd, .inl (cy 0, 10, .inl vmdf)), (vmc, .inl (cy 0, 10, .inl vmcf))] H := hP
      have hD : va_D A [(vo, .inr (12, [.int voth, .ref vmt, .int votp, .int vosz, .int volm, .int voto, .int vofr, .int vokd, .int vonu, .int vosg, .int vofa, .int vopl, .long vowd, .int votd, .ref vmn, .ref vmr, .ref vmk, .ref vms, .ref vma, .ref vmm, .ref vmrn, .ref vmkn, .ref vmik, .ref vmon, .int vosm, .int vohp, .ref vmw, .ref vmf, .ref vmb, .int vomb, .ref vmd, .ref vmc, .int vwe, .int vti, .int vocy, .ref vmx, .int votx, .int vose, .ref vml, .ref vmwr, .int voln, .int vohw, .ref vmno, .int vond, .int voon, .int vowi, .int votop])), (vmn, .inl (cy 0, 575, .inl vmnf)), (vmd, .inl (cy 0, 10, .inl vmdf)), (vmc, .inl (cy 0, 10, .inl vmcf))] := hD
      refine lv_iconst (v := 0) hx hb dX11_careerFrom_50 (by decide) ?_
      refine lv_istore (lv' := [(6, .int 0), (0, .ref vo), (1, .int vm), (2, .int 8), (3, .int vlf), (4, .int vti), (5, .int vwe)]) hx hb dX11_careerFrom_51 hl (by decide) rfl (fun ls hl => ?_)
      have loop46 : ∀ (n46 : Nat) (x_47 : Int32) (g_48 : Nat → Int32), (0 ≤ x_47.toInt ∧ x_47.toInt ≤ 10) → 10 - x_47.toInt < (n46 : Int) → ∀ (H : Heap) (locs : List Loc), va_P (dC, dI) vwCl [(vo, .inr (12, [.int voth, .ref vmt, .int votp, .int vosz, .int volm, .int voto, .int vofr, .int vokd, .int vonu, .int vosg, .int vofa, .int vopl, .long vowd, .int votd, .ref vmn, .ref vmr, .ref vmk, .ref vms, .ref vma, .ref vmm, .ref vmrn, .ref vmkn, .ref vmik, .ref vmon, .int vosm, .int vohp, .ref vmw, .ref vmf, .ref vmb, .int vomb, .ref vmd, .ref vmc, .int vwe, .int vti, .int vocy, .ref vmx, .int votx, .int vose, .ref vml, .ref vmwr, .int voln, .int vohw, .ref vmno, .int vond, .int voon, .int vowi, .int votop])), (vmn, .inl (cy 0, 575, .inl vmnf)), (vmd, .inl (cy 0, 10, .inl vmdf)), (vmc, .inl (cy 0, 10, .inl g_48))] H → va_D A [(vo, .inr (12, [.int voth, .ref vmt, .int votp, .int vosz, .int volm, .int voto, .int vofr, .int vokd, .int vonu, .int vosg, .int vofa, .int vopl, .long vowd, .int votd, .ref vmn, .ref vmr, .ref vmk, .ref vms, .ref vma, .ref vmm, .ref vmrn, .ref vmkn, .ref vmik, .ref vmon, .int vosm, .int vohp, .ref vmw, .ref vmf, .ref vmb, .int vomb, .ref vmd, .ref vmc, .int vwe, .int vti, .int vocy, .ref vmx, .int votx, .int vose, .ref vml, .ref vmwr, .int voln, .int vohw, .ref vmno, .int vond, .int voon, .int vowi, .int votop])), (vmn, .inl (cy 0, 575, .inl vmnf)), (vmd, .inl (cy 0, 10, .inl vmdf)), (vmc, .inl (cy 0, 10, .inl g_48))] → va_S A s.heap H locs → ∀ ls : Array Slot, lv_has ls 8 [(6, .int x_47), (0, .ref vo), (1, .int vm), (2, .int 8), (3, .int vlf), (4, .int vti), (5, .int vwe)] → W p l e ({ frames := 3, cells := 0, slots := 0, locals := 192 }) s m av9 below meth c H locs 0 0 Q9 (F0 m 53 ls []) := by
        intro n46
        induction n46 with
        | zero =>
          intro x_47 g_48 bx_47 hn46 H locs hP hD hS ls hl
          exfalso; omega
        | succ n46 ih46 =>
          intro x_47 g_48 bx_47 hn46 H locs hP hD hS ls hl
          refine lv_iload hx hb dX11_careerFrom_53 (lv_at hl 0 rfl) ?_
          refine lv_iload_n hx hb dX11_careerFrom_55 rfl (lv_at hl 3 rfl) ?_
          refine lv_icmp_ge (tgt := 79) hx hb dX11_careerFrom_56 (by decide) (fun c_49 => ?_) (fun c_49 => ?_)
          · skip
            have c_49 : (8 : Int32).toInt ≤ x_47.toInt := i_le.mp c_49
            refine lv_aload_n hx hb dX11_careerFrom_79 rfl (lv_at hl 1 rfl) ?_
            refine lv_iload_n hx hb dX11_careerFrom_80 rfl (lv_at hl 3 rfl) ?_
            refine pf_X11_328 hx hb hts hown hK hP hD hS 0 rfl rfl rfl (Nat.le_of_ble_eq_true rfl) dX11_careerFrom_81 (fun H locs hP hD hS => ?_)
            have hP : va_P (dC, dI) vwCl [(vo, .inr (12, [.int voth, .ref vmt, .int votp, .int vosz, .int volm, .int voto, .int vofr, .int vokd, .int vonu, .int vosg, .int vofa, .int vopl, .long vowd, .int votd, .ref vmn, .ref vmr, .ref vmk, .ref vms, .ref vma, .ref vmm, .ref vmrn, .ref vmkn, .ref vmik, .ref vmon, .int vosm, .int vohp, .ref vmw, .ref vmf, .ref vmb, .int vomb, .ref vmd, .ref vmc, .int vwe, .int vti, .int 8, .ref vmx, .int votx, .int vose, .ref vml, .ref vmwr, .int voln, .int vohw, .ref vmno, .int vond, .int voon, .int vowi, .int votop])), (vmn, .inl (cy 0, 575, .inl vmnf)), (vmd, .inl (cy 0, 10, .inl vmdf)), (vmc, .inl (cy 0, 10, .inl g_48))] H := hP
            have hD : va_D A [(vo, .inr (12, [.int voth, .ref vmt, .int votp, .int vosz, .int volm, .int voto, .int vofr, .int vokd, .int vonu, .int vosg, .int vofa, .int vopl, .long vowd, .int votd, .ref vmn, .ref vmr, .ref vmk, .ref vms, .ref vma, .ref vmm, .ref vmrn, .ref vmkn, .ref vmik, .ref vmon, .int vosm, .int vohp, .ref vmw, .ref vmf, .ref vmb, .int vomb, .ref vmd, .ref vmc, .int vwe, .int vti, .int 8, .ref vmx, .int votx, .int vose, .ref vml, .ref vmwr, .int voln, .int vohw, .ref vmno, .int vond, .int voon, .int vowi, .int votop])), (vmn, .inl (cy 0, 575, .inl vmnf)), (vmd, .inl (cy 0, 10, .inl vmdf)), (vmc, .inl (cy 0, 10, .inl g_48))] := hD
            rw [hQ9]
            exact re_v (vwe, vti, g_48, (8 : Int32), vmdf) hx hb hr hlocks (show 0 ≤ (8 : Int32).toInt ∧ (8 : Int32).toInt ≤ 10 from ⟨by omega, by omega⟩) (hP.sub [0, 1, 2, 3] rfl) (hD.sub [0, 1, 2, 3] rfl rfl) hS dX11_careerFrom_84
          · skip
            have c_49 : ¬ ((8 : Int32).toInt ≤ x_47.toInt) := fun h9 => c_49 (i_le.mpr h9)
            refine lv_aload_n hx hb dX11_careerFrom_59 rfl (lv_at hl 1 rfl) ?_
            refine gf_X11_145 hx hb hts hown hK hP 0 rfl rfl dX11_careerFrom_60 ?_
            refine lv_iload hx hb dX11_careerFrom_63 (lv_at hl 0 rfl) ?_
            refine lv_aload_n hx hb dX11_careerFrom_65 rfl (lv_at hl 1 rfl) ?_
            refine gf_X11_142 hx hb hts hown hK hP 0 rfl rfl dX11_careerFrom_66 ?_
            refine lv_iload hx hb dX11_careerFrom_69 (lv_at hl 0 rfl) ?_
            have hin_50 : vp_in x_47 10 := vp_in_iff.mpr ⟨by omega, by omega⟩
            refine va_iald hx hb hK hP 2 0 rfl rfl hin_50 dX11_careerFrom_71 ?_
            refine lv_topi (fun z_51 ez_51 => ?_)
            have hin_52 : vp_in x_47 10 := vp_in_iff.mpr ⟨by omega, by omega⟩
            refine va_iast hx hb hK hP hD hS 3 0 rfl rfl hin_52 dX11_careerFrom_72 (fun H locs hP hD hS => ?_)
            obtain ⟨f_53, ef_53⟩ : ∃ z : Nat → Int32, z = upd g_48 (Int32.toNatClampNeg x_47) z_51 := ⟨_, rfl⟩
            have hP : va_P (dC, dI) vwCl [(vo, .inr (12, [.int voth, .ref vmt, .int votp, .int vosz, .int volm, .int voto, .int vofr, .int vokd, .int vonu, .int vosg, .int vofa, .int vopl, .long vowd, .int votd, .ref vmn, .ref vmr, .ref vmk, .ref vms, .ref vma, .ref vmm, .ref vmrn, .ref vmkn, .ref vmik, .ref vmon, .int vosm, .int vohp, .ref vmw, .ref vmf, .ref vmb, .int vomb, .ref vmd, .ref vmc, .int vwe, .int vti, .int vocy, .ref vmx, .int votx, .int vose, .ref vml, .ref vmwr, .int voln, .int vohw, .ref vmno, .int vond, .int voon, .int vowi, .int votop])), (vmn, .inl (cy 0, 575, .inl vmnf)), (vmd, .inl (cy 0, 10, .inl vmdf)), (vmc, .inl (cy 0, 10, .inl f_53))] H := by rw [ef_53]; exact hP
            have hD : va_D A [(vo, .inr (12, [.int voth, .ref vmt, .int votp, .int vosz, .int volm, .int voto, .int vofr, .int vokd, .int vonu, .int vosg, .int vofa, .int vopl, .long vowd, .int votd, .ref vmn, .ref vmr, .ref vmk, .ref vms, .ref vma, .ref vmm, .ref vmrn, .ref vmkn, .ref vmik, .ref vmon, .int vosm, .int vohp, .ref vmw, .ref vmf, .ref vmb, .int vomb, .ref vmd, .ref vmc, .int vwe, .int vti, .int vocy, .ref vmx, .int votx, .int vose, .ref vml, .ref vmwr, .int voln, .int vohw, .ref vmno, .int vond, .int voon, .int vowi, .int votop])), (vmn, .inl (cy 0, 575, .inl vmnf)), (vmd, .inl (cy 0, 10, .inl vmdf)), (vmc, .inl (cy 0, 10, .inl f_53))] := by rw [ef_53]; exact hD
            obtain ⟨z_54, ez_54⟩ : ∃ z : Int32, z = x_47 + 1 := ⟨_, rfl⟩
            have bz_54 : z_54.toInt = x_47.toInt + (1 : Int32).toInt := i_add ez_54 (by omega) (by omega)
            refine lv_iinc (v := z_54) (lv' := [(6, .int z_54), (0, .ref vo), (1, .int vm), (2, .int 8), (3, .int vlf), (4, .int vti), (5, .int vwe)]) hx hb dX11_careerFrom_73 hl (k := 0) rfl ez_54.symm (by decide) rfl (fun ls hl => ?_)
            refine lv_goto (tgt := 53) hx hb dX11_careerFrom_76 (by decide) ?_
            exact ih46 z_54 f_53 ⟨by omega, by omega⟩ (by omega) _ _ (hP.sub [0, 1, 2, 3] rfl) (hD.sub [0, 1, 2, 3] rfl rfl) hS ls (lv_sub hl [0, 1, 2, 3, 4, 5, 6] rfl)
      have k_0 : (0 : Int32).toInt = 0 := by decide
      exact loop46 ((10 - (0 : Int32).toInt).toNat + 1) 0 vmcf ⟨by omega, by omega⟩ (by omega) _ _ hP hD hS ls (lv_sub hl [0, 1, 2, 3, 4, 5, 6] rfl)
    refine lv_iload hx hb dX11_careerFrom_10 (lv_at hl 5 rfl) ?_
    refine lv_aload_n hx hb dX11_careerFrom_12 rfl (lv_at hl 0 rfl) ?_
    refine gf_X11_322 hx hb hts hown hK hP 0 rfl rfl dX11_careerFrom_13 ?_
    refine lv_icmp_lt (tgt := 37) hx hb dX11_careerFrom_16 (by decide) (fun c_55 => ?_) (fun c_55 => ?_)
    · skip
      have c_55 : vwe.toInt < vocm.toInt := i_lt.mp c_55
      rw [hQ9]
      exact re_v (vocm, voct, vmcf, vocy, vmdf) hx hb hr hlocks (show 0 ≤ (vocy : Int32).toInt ∧ (vocy : Int32).toInt ≤ 10 from ⟨by omega, by omega⟩) (hP.sub [0, 1, 2, 3] rfl) (hD.sub [0, 1, 2, 3] rfl rfl) hS dX11_careerFrom_37
    · skip
      have c_55 : ¬ (vwe.toInt < vocm.toInt) := fun h9 => c_55 (i_lt.mpr h9)
      refine lv_iload hx hb dX11_careerFrom_19 (lv_at hl 5 rfl) ?_
      refine lv_aload_n hx hb dX11_careerFrom_21 rfl (lv_at hl 0 rfl) ?_
      refine gf_X11_322 hx hb hts hown hK hP 0 rfl rfl dX11_careerFrom_22 ?_
      refine lv_icmp_ne (tgt := 38) hx hb dX11_careerFrom_25 (by decide) (fun c_56 => ?_) (fun c_56 => ?_)
      · skip
        have c_56 : ¬ (vwe.toInt = vocm.toInt) := fun h9 => c_56 (i_eq.mpr h9)
        exact join45  _ _ (hP.sub [0, 1, 2, 3] rfl) (hD.sub [0, 1, 2, 3] rfl rfl) hS ls (lv_sub hl [0, 1, 2, 3, 4, 5] rfl)
      · skip
        have c_56 : vwe.toInt = vocm.toInt := i_eq.mp c_56
        refine lv_iload hx hb dX11_careerFrom_28 (lv_at hl 4 rfl) ?_
        refine lv_aload_n hx hb dX11_careerFrom_30 rfl (lv_at hl 0 rfl) ?_
        refine gf_X11_325 hx hb hts hown hK hP 0 rfl rfl dX11_careerFrom_31 ?_
        refine lv_icmp_lt (tgt := 38) hx hb dX11_careerFrom_34 (by decide) (fun c_57 => ?_) (fun c_57 => ?_)
        · skip
          have c_57 : vti.toInt < voct.toInt := i_lt.mp c_57
          exact join45  _ _ (hP.sub [0, 1, 2, 3] rfl) (hD.sub [0, 1, 2, 3] rfl rfl) hS ls (lv_sub hl [0, 1, 2, 3, 4, 5] rfl)
        · skip
          have c_57 : ¬ (vti.toInt < voct.toInt) := fun h9 => c_57 (i_lt.mpr h9)
          rw [hQ9]
          exact re_v (vocm, voct, vmcf, vocy, vmdf) hx hb hr hlocks (show 0 ≤ (vocy : Int32).toInt ∧ (vocy : Int32).toInt ≤ 10 from ⟨by omega, by omega⟩) (hP.sub [0, 1, 2, 3] rfl) (hD.sub [0, 1, 2, 3] rfl rfl) hS dX11_careerFrom_37
abbrev O_m_careerFrom_7 (cy : Nat → ClassId) (vo : Nat) (voth : Int32) (vmt : Nat) (votp : Int32) (vosz : Int32) (volm : Int32) (voto : Int32) (vofr : Int32) (vokd : Int32) (vonu : Int32) (vosg : Int32) (vofa : Int32) (vopl : Int32) (vowd : Int64) (votd : Int32) (vmn : Nat) (vmr : Nat) (vmk : Nat) (vms : Nat) (vma : Nat) (vmm : Nat) (vmrn : Nat) (vmkn : Nat) (vmik : Nat) (vmon : Nat) (vosm : Int32) (vohp : Int32) (vmw : Nat) (vmf : Nat) (vmb : Nat) (vomb : Int32) (vmd : Nat) (vmc : Nat) (vocm : Int32) (voct : Int32) (vocy : Int32) (vmx : Nat) (votx : Int32) (vose : Int32) (vml : Nat) (vmwr : Nat) (voln : Int32) (vohw : Int32) (vmno : Nat) (vond : Int32) (voon : Int32) (vowi : Int32) (votop : Int32) (vmnf : Nat → Int32) (vmdf : Nat → Int32) (vmcf : Nat → Int32) (vm : Int32) (vlf : Int32) (vti : Int32) (vwe : Int32) (u : Int32 × Int32 × (Nat → Int32) × Int32 × (Nat → Int32)) : va_W := [(vo, .inr (12, [.int voth, .ref vmt, .int votp, .int vosz, .int volm, .int voto, .int vofr, .int vokd, .int vonu, .int vosg, .int vofa, .int vopl, .long vowd, .int votd, .ref vmn, .ref vmr, .ref vmk, .ref vms, .ref vma, .ref vmm, .ref vmrn, .ref vmkn, .ref vmik, .ref vmon, .int vosm, .int vohp, .ref vmw, .ref vmf, .ref vmb, .int vomb, .ref vmd, .ref vmc, .int u.1, .int u.2.1, .int u.2.2.2.1, .ref vmx, .int votx, .int vose, .ref vml, .ref vmwr, .int voln, .int vohw, .ref vmno, .int vond, .int voon, .int vowi, .int votop])), (vmn, .inl (cy 0, 575, .inl vmnf)), (vmd, .inl (cy 0, 10, .inl u.2.2.2.2)), (vmc, .inl (cy 0, 10, .inl u.2.2.1))]
set_option maxHeartbeats 4000000 in
set_option maxRecDepth 100000 in
theorem m_careerFrom_7 (l : Launch) (dC : Nat → ClassId) (dI : Nat → Nat → Nat) (cy : Nat → ClassId) (sz : Nat) (vo : Nat) (voth : Int32) (vmt : Nat) (votp : Int32) (vosz : Int32) (volm : Int32) (voto : Int32) (vofr : Int32) (vokd : Int32) (vonu : Int32) (vosg : Int32) (vofa : Int32) (vopl : Int32) (vowd : Int64) (votd : Int32) (vmn : Nat) (vmr : Nat) (vmk : Nat) (vms : Nat) (vma : Nat) (vmm : Nat) (vmrn : Nat) (vmkn : Nat) (vmik : Nat) (vmon : Nat) (vosm : Int32) (vohp : Int32) (vmw : Nat) (vmf : Nat) (vmb : Nat) (vomb : Int32) (vmd : Nat) (vmc : Nat) (vocm : Int32) (voct : Int32) (vocy : Int32) (vmx : Nat) (votx : Int32) (vose : Int32) (vml : Nat) (vmwr : Nat) (voln : Int32) (vohw : Int32) (vmno : Nat) (vond : Int32) (voon : Int32) (vowi : Int32) (votop : Int32) (vmnf : Nat → Int32) (vmdf : Nat → Int32) (vmcf : Nat → Int32) (vm : Int32) (vlf : Int32) (vti : Int32) (vwe : Int32) (r_vocy : 0 ≤ (vocy : Int32).toInt ∧ (vocy : Int32).toInt ≤ 10) (r_vm : 0 ≤ (vm : Int32).toInt ∧ (vm : Int32).toInt ≤ 6) (r_vlf : 0 ≤ (vlf : Int32).toInt ∧ (vlf : Int32).toInt ≤ 10) (p_vmnf : NW vmnf) (hd : 7 ≤ (vmnf 1).toInt) : Met l yX11_careerFrom (wl yX11_careerFrom cX11_careerFrom 8 none) ({ frames := 4, cells := 0, slots := 0, locals := 256 }) (Pw (dC, dI) vwCl cy [(vo, .inr (12, [.int voth, .ref vmt, .int votp, .int vosz, .int volm, .int voto, .int vofr, .int vokd, .int vonu, .int vosg, .int vofa, .int vopl, .long vowd, .int votd, .ref vmn, .ref vmr, .ref vmk, .ref vms, .ref vma, .ref vmm, .ref vmrn, .ref vmkn, .ref vmik, .ref vmon, .int vosm, .int vohp, .ref vmw, .ref vmf, .ref vmb, .int vomb, .ref vmd, .ref vmc, .int vocm, .int voct, .int vocy, .ref vmx, .int votx, .int vose, .ref vml, .ref vmwr, .int voln, .int vohw, .ref vmno, .int vond, .int voon, .int vowi, .int votop])), (vmn, .inl (cy 0, 575, .inl vmnf)), (vmd, .inl (cy 0, 10, .inl vmdf)), (vmc, .inl (cy 0, 10, .inl vmcf))] sz [.ref vo, .int vm, .int 7, .int vlf, .int vti, .int vwe] nE) (Qv (dC, dI) vwCl (fun (u : Int32 × Int32 × (Nat → Int32) × Int32 × (Nat → Int32)) => (0 ≤ (u.2.2.2.1 : Int32).toInt ∧ (u.2.2.2.1 : Int32).toInt ≤ 10)) (O_m_careerFrom_7 cy vo voth vmt votp vosz volm voto vofr vokd vonu vosg vofa vopl vowd votd vmn vmr vmk vms vma vmm vmrn vmkn vmik vmon vosm vohp vmw vmf vmb vomb vmd vmc vocm voct vocy vmx votx vose vml vmwr voln vohw vmno vond voon vowi votop vmnf vmdf vmcf vm vlf vti vwe) (va_A [(vo, .inr (12, [.int voth, .ref vmt, .int votp, .int vosz, .int volm, .int voto, .int vofr, .int vokd, .int vonu, .int vosg, .int vofa, .int vopl, .long vowd, .int votd, .ref vmn, .ref vmr, .ref vmk, .ref vms, .ref vma, .ref vmm, .ref vmrn, .ref vmkn, .ref vmik, .ref vmon, .int vosm, .int vohp, .ref vmw, .ref vmf, .ref vmb, .int vomb, .ref vmd, .ref vmc, .int vocm, .int voct, .int vocy, .ref vmx, .int votx, .int vose, .ref vml, .ref vmwr, .int voln, .int vohw, .ref vmno, .int vond, .int voon, .int vowi, .int votop])), (vmn, .inl (cy 0, 575, .inl vmnf)), (vmd, .inl (cy 0, 10, .inl vmdf)), (vmc, .inl (cy 0, 10, .inl vmcf))] sz)) 0 0 (va_A [(vo, .inr (12, [.int voth, .ref vmt, .int votp, .int vosz, .int volm, .int voto, .int vofr, .int vokd, .int vonu, .int vosg, .int vofa, .int vopl, .long vowd, .int votd, .ref vmn, .ref vmr, .ref vmk, .ref vms, .ref vma, .ref vmm, .ref vmrn, .ref vmkn, .ref vmik, .ref vmon, .int vosm, .int vohp, .ref vmw, .ref vmf, .ref vmb, .int vomb, .ref vmd, .ref vmc, .int vocm, .int voct, .int vocy, .ref vmx, .int votx, .int vose, .ref vml, .ref vmwr, .int voln, .int vohw, .ref vmno, .int vond, .int voon, .int vowi, .int votop])), (vmn, .inl (cy 0, 575, .inl vmnf)), (vmd, .inl (cy 0, 10, .inl vmdf)), (vmc, .inl (cy 0, 10, .inl vmcf))] sz) := by
  refine mw (Qc := Qv (dC, dI) vwCl (fun (u : Int32 × Int32 × (Nat → Int32) × Int32 × (Nat → Int32)) => (0 ≤ (u.2.2.2.1 : Int32).toInt ∧ (u.2.2.2.1 : Int32).toInt ≤ 10)) (O_m_careerFrom_7 cy vo voth vmt votp vosz volm voto vofr vokd vonu vosg vofa vopl vowd votd vmn vmr vmk vms vma vmm vmrn vmkn vmik vmon vosm vohp vmw vmf vmb vomb vmd vmc vocm voct vocy vmx votx vose vml vmwr voln vohw vmno vond voon vowi votop vmnf vmdf vmcf vm vlf vti vwe)) RX11 rfl (by decide +kernel) (Nat.le_of_ble_eq_true rfl) ?_
  intro p e s m below meth c A hx hb hr hlocks av9 hav hts hown hnm hml hK hP hD hA hS hE hAe Q9 hQ9 ls hl
  have hl : lv_has ls 8 [(0, .ref vo), (1, .int vm), (2, .int 7), (3, .int vlf), (4, .int vti), (5, .int vwe)] := hl
  refine lv_iload_n hx hb dX11_careerFrom_0 rfl (lv_at hl 2 rfl) ?_
  refine lv_aload_n hx hb dX11_careerFrom_1 rfl (lv_at hl 0 rfl) ?_
  refine gf_X11_98 hx hb hts hown hK hP 0 rfl rfl dX11_careerFrom_2 ?_
  refine lv_iconst (v := 1) hx hb dX11_careerFrom_5 (by decide) ?_
  have k_1 : (1 : Int32).toInt = 1 := by decide
  have hin_1 : vp_in (1 : Int32) 575 := vp_in_iff.mpr ⟨by omega, by omega⟩
  refine va_iald hx hb hK hP 1 0 rfl rfl hin_1 dX11_careerFrom_6 ?_
  refine lv_topi (fun z_2 ez_2 => ?_)
  have bz_2 := p_vmnf.a1 (x := 1) ⟨by omega, by omega⟩ ez_2
  have tz_2 : z_2.toInt = (vmnf 1).toInt := by rw [ez_2]; rfl
  have k_7 : (7 : Int32).toInt = 7 := by decide
  refine lv_icmp_ne (tgt := 85) hx hb dX11_careerFrom_7 (by decide) (fun c_3 => ?_) (fun c_3 => ?_)
  · skip
    have c_3 : ¬ ((7 : Int32).toInt = z_2.toInt) := fun h9 => c_3 (i_eq.mpr h9)
    refine lv_iload_n hx hb dX11_careerFrom_85 rfl (lv_at hl 3 rfl) ?_
    refine lv_bipush (v := 9) hx hb dX11_careerFrom_86 (by decide) ?_
    refine lv_aload_n hx hb dX11_careerFrom_88 rfl (lv_at hl 0 rfl) ?_
    refine lv_iload_n hx hb dX11_careerFrom_89 rfl (lv_at hl 1 rfl) ?_
    refine lv_iload_n hx hb dX11_careerFrom_90 rfl (lv_at hl 2 rfl) ?_
    refine jr_i (rVr (As := [.int vm, .int 7]) (rest := [.int 9, .int vlf]) (ci := 12) ⟨hx, hb, hml, hown, hts⟩ (m_didOf l dC dI cy vo voth vmt votp vosz volm voto vofr vokd vonu vosg vofa vopl vowd votd vmn vmr vmk vms vma vmm vmrn vmkn vmik vmon vosm vohp vmw vmf vmb vomb vmd vmc vocm voct vocy vmx votx vose vml vmwr voln vohw vmno vond voon vowi votop vmnf vm 7 ⟨by omega, by omega⟩ ⟨by omega, by omega⟩ p_vmnf) (cw_X11_228 hts rfl rfl ⟨Nat.le_of_ble_eq_true rfl, Nat.le_of_ble_eq_true rfl⟩) hP hK [0, 1] rfl rfl rfl rfl hl.1 rfl (Nat.le_of_ble_eq_true rfl) dX11_careerFrom_91 ⟨Nat.le_of_ble_eq_true rfl, Nat.le_of_ble_eq_true rfl⟩) hP hS (fun r_4 H locs hp_5 hP hS => ?_)
    refine lv_isub hx hb dX11_careerFrom_94 ?_
    refine lv_topi (fun z_6 ez_6 => ?_)
    refine jr_i (rSr (As := [.int vlf, .int z_6]) (rest := []) ⟨hx, hb, hml, hown, hts⟩ (m_least l dC dI cy vlf z_6 ) (cw_X11_288 hts rfl rfl ⟨Nat.le_of_ble_eq_true rfl, Nat.le_of_ble_eq_true rfl⟩) hP hK [] rfl rfl hl.1 rfl (Nat.le_of_ble_eq_true rfl) dX11_careerFrom_95 ⟨Nat.le_of_ble_eq_true rfl, Nat.le_of_ble_eq_true rfl⟩) hP hS (fun r_7 H locs hp_8 hP hS => ?_)
    have hp_8 : ((r_7 : Int32).toInt ≤ (vlf : Int32).toInt) ∧ ((r_7 : Int32).toInt ≤ (z_6 : Int32).toInt) ∧ (((r_7 : Int32).toInt = (vlf : Int32).toInt ∨ (r_7 : Int32).toInt = (z_6 : Int32).toInt)) := hp_8
    obtain ⟨q_9, q_10, q_11⟩ := hp_8
    refine lv_istore (lv' := [(6, .int r_7), (0, .ref vo), (1, .int vm), (2, .int 7), (3, .int vlf), (4, .int vti), (5, .int vwe)]) hx hb dX11_careerFrom_98 hl (by decide) rfl (fun ls hl => ?_)
    refine lv_iconst (v := 0) hx hb dX11_careerFrom_100 (by decide) ?_
    refine lv_istore (lv' := [(7, .int 0), (6, .int r_7), (0, .ref vo), (1, .int vm), (2, .int 7), (3, .int vlf), (4, .int vti), (5, .int vwe)]) hx hb dX11_careerFrom_101 hl (by decide) rfl (fun ls hl => ?_)
    have loop12 : ∀ (n12 : Nat) (x_13 : Int32) (x_14 : Int32) (x_15 : Int32) (x_16 : Int32) (g_17 : Nat → Int32) (g_18 : Nat → Int32), (0 ≤ x_13.toInt ∧ x_13.toInt ≤ 11) → (0 ≤ x_16.toInt ∧ x_16.toInt ≤ 10) → 11 - x_13.toInt < (n12 : Int) → ∀ (H : Heap) (locs : List Loc), va_P (dC, dI) vwCl [(vo, .inr (12, [.int voth, .ref vmt, .int votp, .int vosz, .int volm, .int voto, .int vofr, .int vokd, .int vonu, .int vosg, .int vofa, .int vopl, .long vowd, .int votd, .ref vmn, .ref vmr, .ref vmk, .ref vms, .ref vma, .ref vmm, .ref vmrn, .ref vmkn, .ref vmik, .ref vmon, .int vosm, .int vohp, .ref vmw, .ref vmf, .ref vmb, .int vomb, .ref vmd, .ref vmc, .int x_14, .int x_15, .int x_16, .ref vmx, .int votx, .int vose, .ref vml, .ref vmwr, .int voln, .int vohw, .ref vmno, .int vond, .int voon, .int vowi, .int votop])), (vmn, .inl (cy 0, 575, .inl vmnf)), (vmd, .inl (cy 0, 10, .inl g_18)), (vmc, .inl (cy 0, 10, .inl g_17))] H → va_D A [(vo, .inr (12, [.int voth, .ref vmt, .int votp, .int vosz, .int volm, .int voto, .int vofr, .int vokd, .int vonu, .int vosg, .int vofa, .int vopl, .long vowd, .int votd, .ref vmn, .ref vmr, .ref vmk, .ref vms, .ref vma, .ref vmm, .ref vmrn, .ref vmkn, .ref vmik, .ref vmon, .int vosm, .int vohp, .ref vmw, .ref vmf, .ref vmb, .int vomb, .ref vmd, .ref vmc, .int x_14, .int x_15, .int x_16, .ref vmx, .int votx, .int vose, .ref vml, .ref vmwr, .int voln, .int vohw, .ref vmno, .int vond, .int voon, .int vowi, .int votop])), (vmn, .inl (cy 0, 575, .inl vmnf)), (vmd, .inl (cy 0, 10, .inl g_18)), (vmc, .inl (cy 0, 10, .inl g_17))] → va_S A s.heap H locs → ∀ ls : Array Slot, lv_has ls 8 [(7, .int x_13), (6, .int r_7), (0, .ref vo), (1, .int vm), (2, .int 7), (3, .int vlf), (4, .int vti), (5, .int vwe)] → W p l e ({ frames := 4, cells := 0, slots := 0, locals := 256 }) s m av9 below meth c H locs 0 0 Q9 (F0 m 103 ls []) := by
      intro n12
      induction n12 with
      | zero =>
        intro x_13 x_14 x_15 x_16 g_17 g_18 bx_13 bx_16 hn12 H locs hP hD hS ls hl
        exfalso; omega
      | succ n12 ih12 =>
        intro x_13 x_14 x_15 x_16 g_17 g_18 bx_13 bx_16 hn12 H locs hP hD hS ls hl
        refine lv_iload hx hb dX11_careerFrom_103 (lv_at hl 0 rfl) ?_
        refine lv_iload hx hb dX11_careerFrom_105 (lv_at hl 1 rfl) ?_
        refine lv_icmp_gt (tgt := 180) hx hb dX11_careerFrom_107 (by decide) (fun c_19 => ?_) (fun c_19 => ?_)
        · skip
          have c_19 : r_7.toInt < x_13.toInt := i_lt.mp c_19
          rw [hQ9]
          exact re_v (x_14, x_15, g_17, x_16, g_18) hx hb hr hlocks (show 0 ≤ (x_16 : Int32).toInt ∧ (x_16 : Int32).toInt ≤ 10 from ⟨by omega, by omega⟩) (hP.sub [0, 1, 2, 3] rfl) (hD.sub [0, 1, 2, 3] rfl rfl) hS dX11_careerFrom_180
        · skip
          have c_19 : ¬ (r_7.toInt < x_13.toInt) := fun h9 => c_19 (i_lt.mpr h9)
          refine lv_iload hx hb dX11_careerFrom_110 (lv_at hl 7 rfl) ?_
          refine lv_iload hx hb dX11_careerFrom_112 (lv_at hl 0 rfl) ?_
          refine lv_aload_n hx hb dX11_careerFrom_114 rfl (lv_at hl 2 rfl) ?_
          refine gf_X11_98 hx hb hts hown hK hP 0 rfl rfl dX11_careerFrom_115 ?_
          refine lv_bipush (v := 11) hx hb dX11_careerFrom_118 (by decide) ?_
          refine lv_iload_n hx hb dX11_careerFrom_120 rfl (lv_at hl 4 rfl) ?_
          refine lv_iadd hx hb dX11_careerFrom_121 ?_
          refine as_i 18 (by decide) ?_
          have k_18 : (18 : Int32).toInt = 18 := by decide
          have hin_20 : vp_in (18 : Int32) 575 := vp_in_iff.mpr ⟨by omega, by omega⟩
          refine va_iald hx hb hK hP 1 0 rfl rfl hin_20 dX11_careerFrom_122 ?_
          refine lv_topi (fun z_21 ez_21 => ?_)
          have bz_21 := p_vmnf.aw (x := 18) ⟨by omega, by omega⟩ ez_21
          have tz_21 : z_21.toInt = (vmnf 18).toInt := by rw [ez_21]; rfl
          refine lv_imul hx hb dX11_careerFrom_123 ?_
          refine lv_topi (fun z_22 ez_22 => ?_)
          have bz_22 : 0 ≤ z_22.toInt ∧ z_22.toInt ≤ 400 ∧ z_22.toInt = x_13.toInt * z_21.toInt := i_mulb (A := 10) (B := 40) ez_22 ⟨by omega, by omega⟩ ⟨by omega, by omega⟩ (by decide)
          refine lv_iadd hx hb dX11_careerFrom_124 ?_
          refine lv_topi (fun z_23 ez_23 => ?_)
          refine lv_aload_n hx hb dX11_careerFrom_125 rfl (lv_at hl 2 rfl) ?_
          refine gf_X11_98 hx hb hts hown hK hP 0 rfl rfl dX11_careerFrom_126 ?_
          refine lv_iconst (v := 2) hx hb dX11_careerFrom_129 (by decide) ?_
          have k_2 : (2 : Int32).toInt = 2 := by decide
          have hin_24 : vp_in (2 : Int32) 575 := vp_in_iff.mpr ⟨by omega, by omega⟩
          refine va_iald hx hb hK hP 1 0 rfl rfl hin_24 dX11_careerFrom_130 ?_
          refine lv_topi (fun z_25 ez_25 => ?_)
          have tz_25 : z_25.toInt = (vmnf 2).toInt := by rw [ez_25]; rfl
          refine lv_icmp_gt (tgt := 180) hx hb dX11_careerFrom_131 (by decide) (fun c_26 => ?_) (fun c_26 => ?_)
          · skip
            have c_26 : z_25.toInt < z_23.toInt := i_lt.mp c_26
            rw [hQ9]
            exact re_v (x_14, x_15, g_17, x_16, g_18) hx hb hr hlocks (show 0 ≤ (x_16 : Int32).toInt ∧ (x_16 : Int32).toInt ≤ 10 from ⟨by omega, by omega⟩) (hP.sub [0, 1, 2, 3] rfl) (hD.sub [0, 1, 2, 3] rfl rfl) hS dX11_careerFrom_180
          · skip
            have c_26 : ¬ (z_25.toInt < z_23.toInt) := fun h9 => c_26 (i_lt.mpr h9)
            refine lv_aload_n hx hb dX11_careerFrom_134 rfl (lv_at hl 2 rfl) ?_
            refine gf_X11_142 hx hb hts hown hK hP 0 rfl rfl dX11_careerFrom_135 ?_
            refine lv_iload_n hx hb dX11_careerFrom_138 rfl (lv_at hl 4 rfl) ?_
            refine lv_iload hx hb dX11_careerFrom_139 (lv_at hl 0 rfl) ?_
            have hin_27 : vp_in (7 : Int32) 10 := vp_in_iff.mpr ⟨by omega, by omega⟩
            refine va_iast hx hb hK hP hD hS 2 0 rfl rfl hin_27 dX11_careerFrom_141 (fun H locs hP hD hS => ?_)
            obtain ⟨f_28, ef_28⟩ : ∃ z : Nat → Int32, z = upd g_18 (Int32.toNatClampNeg 7) x_13 := ⟨_, rfl⟩
            have hP : va_P (dC, dI) vwCl [(vo, .inr (12, [.int voth, .ref vmt, .int votp, .int vosz, .int volm, .int voto, .int vofr, .int vokd, .int vonu, .int vosg, .int vofa, .int vopl, .long vowd, .int votd, .ref vmn, .ref vmr, .ref vmk, .ref vms, .ref vma, .ref vmm, .ref vmrn, .ref vmkn, .ref vmik, .ref vmon, .int vosm, .int vohp, .ref vmw, .ref vmf, .ref vmb, .int vomb, .ref vmd, .ref vmc, .int x_14, .int x_15, .int x_16, .ref vmx, .int votx, .int vose, .ref vml, .ref vmwr, .int voln, .int vohw, .ref vmno, .int vond, .int voon, .int vowi, .int votop])), (vmn, .inl (cy 0, 575, .inl vmnf)), (vmd, .inl (cy 0, 10, .inl f_28)), (vmc, .inl (cy 0, 10, .inl g_17))] H := by rw [ef_28]; exact hP
            have hD : va_D A [(vo, .inr (12, [.int voth, .ref vmt, .int votp, .int vosz, .int volm, .int voto, .int vofr, .int vokd, .int vonu, .int vosg, .int vofa, .int vopl, .long vowd, .int votd, .ref vmn, .ref vmr, .ref vmk, .ref vms, .ref vma, .ref vmm, .ref vmrn, .ref vmkn, .ref vmik, .ref vmon, .int vosm, .int vohp, .ref vmw, .ref vmf, .ref vmb, .int vomb, .ref vmd, .ref vmc, .int x_14, .int x_15, .int x_16, .ref vmx, .int votx, .int vose, .ref vml, .ref vmwr, .int voln, .int vohw, .ref vmno, .int vond, .int voon, .int vowi, .int votop])), (vmn, .inl (cy 0, 575, .inl vmnf)), (vmd, .inl (cy 0, 10, .inl f_28)), (vmc, .inl (cy 0, 10, .inl g_17))] := by rw [ef_28]; exact hD
            refine lv_aload_n hx hb dX11_careerFrom_142 rfl (lv_at hl 2 rfl) ?_
            refine lv_iload_n hx hb dX11_careerFrom_143 rfl (lv_at hl 3 rfl) ?_
            refine lv_iload_n hx hb dX11_careerFrom_144 rfl (lv_at hl 4 rfl) ?_
            refine lv_iconst (v := 1) hx hb dX11_careerFrom_145 (by decide) ?_
            refine lv_iadd hx hb dX11_careerFrom_146 ?_
            refine as_i 8 (by decide) ?_
            refine lv_iload_n hx hb dX11_careerFrom_147 rfl (lv_at hl 5 rfl) ?_
            refine lv_iload hx hb dX11_careerFrom_148 (lv_at hl 0 rfl) ?_
            refine lv_isub hx hb dX11_careerFrom_150 ?_
            refine lv_topi (fun z_29 ez_29 => ?_)
            have bz_29 : z_29.toInt = vlf.toInt - x_13.toInt := i_sub ez_29 (by omega) (by omega)
            refine lv_iload hx hb dX11_careerFrom_151 (lv_at hl 6 rfl) ?_
            refine lv_iload hx hb dX11_careerFrom_153 (lv_at hl 0 rfl) ?_
            refine lv_iadd hx hb dX11_careerFrom_155 ?_
            refine lv_topi (fun z_30 ez_30 => ?_)
            refine lv_iload hx hb dX11_careerFrom_156 (lv_at hl 7 rfl) ?_
            refine lv_iload hx hb dX11_careerFrom_158 (lv_at hl 0 rfl) ?_
            refine lv_aload_n hx hb dX11_careerFrom_160 rfl (lv_at hl 2 rfl) ?_
            refine gf_X11_98 hx hb hts hown hK hP 0 rfl rfl dX11_careerFrom_161 ?_
            refine lv_bipush (v := 11) hx hb dX11_careerFrom_164 (by decide) ?_
            refine lv_iload_n hx hb dX11_careerFrom_166 rfl (lv_at hl 4 rfl) ?_
            refine lv_iadd hx hb dX11_careerFrom_167 ?_
            refine as_i 18 (by decide) ?_
            have hin_31 : vp_in (18 : Int32) 575 := vp_in_iff.mpr ⟨by omega, by omega⟩
            refine va_iald hx hb hK hP 1 0 rfl rfl hin_31 dX11_careerFrom_168 ?_
            refine lv_topi (fun z_32 ez_32 => ?_)
            have bz_32 := p_vmnf.aw (x := 18) ⟨by omega, by omega⟩ ez_32
            have tz_32 : z_32.toInt = (vmnf 18).toInt := by rw [ez_32]; rfl
            refine lv_imul hx hb dX11_careerFrom_169 ?_
            refine lv_topi (fun z_33 ez_33 => ?_)
            have bz_33 : 0 ≤ z_33.toInt ∧ z_33.toInt ≤ 400 ∧ z_33.toInt = x_13.toInt * z_32.toInt := i_mulb (A := 10) (B := 40) ez_33 ⟨by omega, by omega⟩ ⟨by omega, by omega⟩ (by decide)
            refine lv_iadd hx hb dX11_careerFrom_170 ?_
            refine lv_topi (fun z_34 ez_34 => ?_)
            refine jn_v (wr := []) (rV (As := [.int vm, .int 8, .int z_29, .int z_30, .int z_34]) (rest := []) (ci := 12) ⟨hx, hb, hml, hown, hts⟩ (m_careerFrom_8 l dC dI cy _ vo voth vmt votp vosz volm voto vofr vokd vonu vosg vofa vopl vowd votd vmn vmr vmk vms vma vmm vmrn vmkn vmik vmon vosm vohp vmw vmf vmb vomb vmd vmc x_14 x_15 x_16 vmx votx vose vml vmwr voln vohw vmno vond voon vowi votop vmnf f_28 g_17 vm z_29 z_30 z_34 ⟨by omega, by omega⟩ r_vm ⟨by omega, by omega⟩ p_vmnf (by omega)) (cw_X11_331 hts rfl rfl ⟨Nat.le_of_ble_eq_true rfl, Nat.le_of_ble_eq_true rfl⟩) hP hD hK [0, 1, 2, 3] rfl rfl rfl rfl bl0 e0 rfl hl.1 rfl (Nat.le_of_ble_eq_true rfl) dX11_careerFrom_171 ⟨Nat.le_of_ble_eq_true rfl, Nat.le_of_ble_eq_true rfl⟩) hP hD hS hA [0, 1, 2, 3] [] rfl rfl rfl (by decide) (fun u_37 H locs hp_36 hP hD hS => ?_)
            obtain ⟨vocm_38, voct_39, vmcf_40, vocy_41, vmdf_42⟩ := u_37
            have hp_36 : (0 ≤ (vocy_41 : Int32).toInt ∧ (vocy_41 : Int32).toInt ≤ 10) := hp_36
            have q_43 := hp_36
            have hP : va_P (dC, dI) vwCl [(vo, .inr (12, [.int voth, .ref vmt, .int votp, .int vosz, .int volm, .int voto, .int vofr, .int vokd, .int vonu, .int vosg, .int vofa, .int vopl, .long vowd, .int votd, .ref vmn, .ref vmr, .ref vmk, .ref vms, .ref vma, .ref vmm, .ref vmrn, .ref vmkn, .ref vmik, .ref vmon, .int vosm, .int vohp, .ref vmw, .ref vmf, .ref vmb, .int vomb, .ref vmd, .ref vmc, .int vocm_38, .int voct_39, .int vocy_41, .ref vmx, .int votx, .int vose, .ref vml, .ref vmwr, .int voln, .int vohw, .ref vmno, .int vond, .int voon, .int vowi, .int votop])), (vmn, .inl (cy 0, 575, .inl vmnf)), (vmd, .inl (cy 0, 10, .inl vmdf_42)), (vmc, .inl (cy 0, 10, .inl vmcf_40))] H := hP
            have hD : va_D A [(vo, .inr (12, [.int voth, .ref vmt, .int votp, .int vosz, .int volm, .int voto, .int vofr, .int vokd, .int vonu, .int vosg, .int vofa, .int vopl, .long vowd, .int votd, .ref vmn, .ref vmr, .ref vmk, .ref vms, .ref vma, .ref vmm, .ref vmrn, .ref vmkn, .ref vmik, .ref vmon, .int vosm, .int vohp, .ref vmw, .ref vmf, .ref vmb, .int vomb, .ref vmd, .ref vmc, .int vocm_38, .int voct_39, .int vocy_41, .ref vmx, .int votx, .int vose, .ref vml, .ref vmwr, .int voln, .int vohw, .ref vmno, .int vond, .int voon, .int vowi, .int votop])), (vmn, .inl (cy 0, 575, .inl vmnf)), (vmd, .inl (cy 0, 10, .inl vmdf_42)), (vmc, .inl (cy 0, 10, .inl vmcf_40))] := hD
            obtain ⟨z_44, ez_44⟩ : ∃ z : Int32, z = x_13 + 1 := ⟨_, rfl⟩
            have bz_44 : z_44.toInt = x_13.toInt + (1 : Int32).toInt := i_add ez_44 (by omega) (by omega)
            refine lv_iinc (v := z_44) (lv' := [(7, .int z_44), (6, .int r_7), (0, .ref vo), (1, .int vm), (2, .int 7), (3, .int vlf), (4, .int vti), (5, .int vwe)]) hx hb dX11_careerFrom_174 hl (k := 0) rfl ez_44.symm (by decide) rfl (fun ls hl => ?_)
            refine lv_goto (tgt := 103) hx hb dX11_careerFrom_177 (by decide) ?_
            exact ih12 z_44 vocm_38 voct_39 vocy_41 vmcf_40 vmdf_42 ⟨by omega, by omega⟩ ⟨by omega, by omega⟩ (by omega) _ _ (hP.sub [0, 1, 2, 3] rfl) (hD.sub [0, 1, 2, 3] rfl rfl) hS ls (lv_sub hl [0, 1, 2, 3, 4, 5, 6, 7] rfl)
    have k_0 : (0 : Int32).toInt = 0 := by decide
    exact loop12 ((11 - (0 : Int32).toInt).toNat + 1) 0 vocm voct vocy vmcf vmdf ⟨by omega, by omega⟩ ⟨by omega, by omega⟩ (by omega) _ _ hP hD hS ls (lv_sub hl [0, 1, 2, 3, 4, 5, 6, 7] rfl)
  · skip
    have c_3 : (7 : Int32).toInt = z_2.toInt := i_eq.mp c_3
    have join45 : ∀ (H : Heap) (locs : List Loc), va_P (dC, dI) vwCl [(vo, .inr (12, [.int voth, .ref vmt, .int votp, .int vosz, .int volm, .int voto, .int vofr, .int vokd, .int vonu, .int vosg, .int vofa, .int vopl, .long vowd, .int votd, .ref vmn, .ref vmr, .ref vmk, .ref vms, .ref vma, .ref vmm, .ref vmrn, .ref vmkn, .ref vmik, .ref vmon, .int vosm, .int vohp, .ref vmw, .ref vmf, .ref vmb, .int vomb, .ref vmd, .ref vmc, .int vocm, .int voct, .int vocy, .ref vmx, .int votx, .int vose, .ref vml, .ref vmwr, .int voln, .int vohw, .ref vmno, .int vond, .int voon, .int vowi, .int votop])), (vmn, .inl (cy 0, 575, .inl vmnf)), (vmd, .inl (cy 0, 10, .inl vmdf)), (vmc, .inl (cy 0, 10, .inl vmcf))] H → va_D A [(vo, .inr (12, [.int voth, .ref vmt, .int votp, .int vosz, .int volm, .int voto, .int vofr, .int vokd, .int vonu, .int vosg, .int vofa, .int vopl, .long vowd, .int votd, .ref vmn, .ref vmr, .ref vmk, .ref vms, .ref vma, .ref vmm, .ref vmrn, .ref vmkn, .ref vmik, .ref vmon, .int vosm, .int vohp, .ref vmw, .ref vmf, .ref vmb, .int vomb, .ref vmd, .ref vmc, .int vocm, .int voct, .int vocy, .ref vmx, .int votx, .int vose, .ref vml, .ref vmwr, .int voln, .int vohw, .ref vmno, .int vond, .int voon, .int vowi, .int votop])), (vmn, .inl (cy 0, 575, .inl vmnf)), (vmd, .inl (cy 0, 10, .inl vmdf)), (vmc, .inl (cy 0, 10, .inl vmcf))] → va_S A s.heap H locs → ∀ ls : Array Slot, lv_has ls 8 [(0, .ref vo), (1, .int vm), (2, .int 7), (3, .int vlf), (4, .int vti), (5, .int vwe)] → W p l e ({ frames := 4, cells := 0, slots := 0, locals := 256 }) s m av9 below meth c H locs 0 0 Q9 (F0 m 38 ls []) := by
      intro  H locs hP hD hS ls hl
      refine lv_aload_n hx hb dX11_careerFrom_38 rfl (lv_at hl 0 rfl) ?_
      refine lv_iload hx hb dX11_careerFrom_39 (lv_at hl 5 rfl) ?_
      refine pf_X11_322 hx hb hts hown hK hP hD hS 0 rfl rfl rfl (Nat.le_of_ble_eq_true rfl) dX11_careerFrom_41 (fun H locs hP hD hS => ?_)
      have hP : va_P (dC, dI) vwCl [(vo, .inr (12, [.int voth, .ref vmt, .int votp, .int vosz, .int volm, .int voto, .int vofr, .int vokd, .int vonu, .int vosg, .int vofa, .int vopl, .long vowd, .int votd, .ref vmn, .ref vmr, .ref vmk, .ref vms, .ref vma, .ref vmm, .ref vmrn, .ref vmkn, .ref vmik, .ref vmon, .int vosm, .int vohp, .ref vmw, .ref vmf, .ref vmb, .int vomb, .ref vmd, .ref vmc, .int vwe, .int voct, .int vocy, .ref vmx, .int votx, .int vose, .ref vml, .ref vmwr, .int voln, .int vohw, .ref vmno, .int vond, .int voon, .int vowi, .int votop])), (vmn, .inl (cy 0, 575, .inl vmnf)), (vmd, .inl (cy 0, 10, .inl vmdf)), (vmc, .inl (cy 0, 10, .inl vmcf))] H := hP
      have hD : va_D A [(vo, .inr (12, [.int voth, .ref vmt, .int votp, .int vosz, .int volm, .int voto, .int vofr, .int vokd, .int vonu, .int vosg, .int vofa, .int vopl, .long vowd, .int votd, .ref vmn, .ref vmr, .ref vmk, .ref vms, .ref vma, .ref vmm, .ref vmrn, .ref vmkn, .ref vmik, .ref vmon, .int vosm, .int vohp, .ref vmw, .ref vmf, .ref vmb, .int vomb, .ref vmd, .ref vmc, .int vwe, .int voct, .int vocy, .ref vmx, .int votx, .int vose, .ref vml, .ref vmwr, .int voln, .int vohw, .ref vmno, .int vond, .int voon, .int vowi, .int votop])), (vmn, .inl (cy 0, 575, .inl vmnf)), (vmd, .inl (cy 0, 10, .inl vmdf)), (vmc, .inl (cy 0, 10, .inl vmcf))] := hD
      refine lv_aload_n hx hb dX11_careerFrom_44 rfl (lv_at hl 0 rfl) ?_
      refine lv_iload hx hb dX11_careerFrom_45 (lv_at hl 4 rfl) ?_
      refine pf_X11_325 hx hb hts hown hK hP hD hS 0 rfl rfl rfl (Nat.le_of_ble_eq_true rfl) dX11_careerFrom_47 (fun H locs hP hD hS => ?_)
      have hP : va_P (dC, dI) vwCl [(vo, .inr (12, [.int voth, .ref vmt, .int votp, .int vosz, .int volm, .int voto, .int vofr, .int vokd, .int vonu, .int vosg, .int vofa, .int vopl, .long vowd, .int votd, .ref vmn, .ref vmr, .ref vmk, .ref vms, .ref vma, .ref vmm, .ref vmrn, .ref vmkn, .ref vmik, .ref vmon, .int vosm, .int vohp, .ref vmw, .ref vmf, .ref vmb, .int vomb, .ref vmd, .ref vmc, .int vwe, .int vti, .int vocy, .ref vmx, .int votx, .int vose, .ref vml, .ref vmwr, .int voln, .int vohw, .ref vmno, .int vond, .int voon, .int vowi, .int votop])), (vmn, .inl (cy 0, 575, .inl vmnf)), (vmd, .inl (cy 0, 10, .inl vmdf)), (vmc, .inl (cy 0, 10, .inl vmcf))] H := hP
      have hD : va_D A [(vo, .inr (12, [.int voth, .ref vmt, .int votp, .int vosz, .int volm, .int voto, .int vofr, .int vokd, .int vonu, .int vosg, .int vofa, .int vopl, .long vowd, .int votd, .ref vmn, .ref vmr, .ref vmk, .ref vms, .ref vma, .ref vmm, .ref vmrn, .ref vmkn, .ref vmik, .ref vmon, .int vosm, .int vohp, .ref vmw, .ref vmf, .ref vmb, .int vomb, .ref vmd, .ref vmc, .int vwe, .int vti, .int vocy, .ref vmx, .int votx, .int vose, .ref vml, .ref vmwr, .int voln, .int vohw, .ref vmno, .int vond, .int voon, .int vowi, .int votop])), (vmn, .inl (cy 0, 575, .inl vmnf)), (vmd, .inl (cy 0, 10, .inl vmdf)), (vmc, .inl (cy 0, 10, .inl vmcf))] := hD
      refine lv_iconst (v := 0) hx hb dX11_careerFrom_50 (by decide) ?_
      refine lv_istore (lv' := [(6, .int 0), (0, .ref vo), (1, .int vm), (2, .int 7), (3, .int vlf), (4, .int vti), (5, .int vwe)]) hx hb dX11_careerFrom_51 hl (by decide) rfl (fun ls hl => ?_)
      have loop46 : ∀ (n46 : Nat) (x_47 : Int32) (g_48 : Nat → Int32), (0 ≤ x_47.toInt ∧ x_47.toInt ≤ 10) → 10 - x_47.toInt < (n46 : Int) → ∀ (H : Heap) (locs : List Loc), va_P (dC, dI) vwCl [(vo, .inr (12, [.int voth, .ref vmt, .int votp, .int vosz, .int volm, .int voto, .int vofr, .int vokd, .int vonu, .int vosg, .int vofa, .int vopl, .long vowd, .int votd, .ref vmn, .ref vmr, .ref vmk, .ref vms, .ref vma, .ref vmm, .ref vmrn, .ref vmkn, .ref vmik, .ref vmon, .int vosm, .int vohp, .ref vmw, .ref vmf, .ref vmb, .int vomb, .ref vmd, .ref vmc, .int vwe, .int vti, .int vocy, .ref vmx, .int votx, .int vose, .ref vml, .ref vmwr, .int voln, .int vohw, .ref vmno, .int vond, .int voon, .int vowi, .int votop])), (vmn, .inl (cy 0, 575, .inl vmnf)), (vmd, .inl (cy 0, 10, .inl vmdf)), (vmc, .inl (cy 0, 10, .inl g_48))] H → va_D A [(vo, .inr (12, [.int voth, .ref vmt, .int votp, .int vosz, .int volm, .int voto, .int vofr, .int vokd, .int vonu, .int vosg, .int vofa, .int vopl, .long vowd, .int votd, .ref vmn, .ref vmr, .ref vmk, .ref vms, .ref vma, .ref vmm, .ref vmrn, .ref vmkn, .ref vmik, .ref vmon, .int vosm, .int vohp, .ref vmw, .ref vmf, .ref vmb, .int vomb, .ref vmd, .ref vmc, .int vwe, .int vti, .int vocy, .ref vmx, .int votx, .int vose, .ref vml, .ref vmwr, .int voln, .int vohw, .ref vmno, .int vond, .int voon, .int vowi, .int votop])), (vmn, .inl (cy 0, 575, .inl vmnf)), (vmd, .inl (cy 0, 10, .inl vmdf)), (vmc, .inl (cy 0, 10, .inl g_48))] → va_S A s.heap H locs → ∀ ls : Array Slot, lv_has ls 8 [(6, .int x_47), (0, .ref vo), (1, .int vm), (2, .int 7), (3, .int vlf), (4, .int vti), (5, .int vwe)] → W p l e ({ frames := 4, cells := 0, slots := 0, locals := 256 }) s m av9 below meth c H locs 0 0 Q9 (F0 m 53 ls []) := by
        intro n46
        induction n46 with
        | zero =>
          intro x_47 g_48 bx_47 hn46 H locs hP hD hS ls hl
          exfalso; omega
        | succ n46 ih46 =>
          intro x_47 g_48 bx_47 hn46 H locs hP hD hS ls hl
          refine lv_iload hx hb dX11_careerFrom_53 (lv_at hl 0 rfl) ?_
          refine lv_iload_n hx hb dX11_careerFrom_55 rfl (lv_at hl 3 rfl) ?_
          refine lv_icmp_ge (tgt := 79) hx hb dX11_careerFrom_56 (by decide) (fun c_49 => ?_) (fun c_49 => ?_)
          · skip
            have c_49 : (7 : Int32).toInt ≤ x_47.toInt := i_le.mp c_49
            refine lv_aload_n hx hb dX11_careerFrom_79 rfl (lv_at hl 1 rfl) ?_
            refine lv_iload_n hx hb dX11_careerFrom_80 rfl (lv_at hl 3 rfl) ?_
            refine pf_X11_328 hx hb hts hown hK hP hD hS 0 rfl rfl rfl (Nat.le_of_ble_eq_true rfl) dX11_careerFrom_81 (fun H locs hP hD hS => ?_)
            have hP : va_P (dC, dI) vwCl [(vo, .inr (12, [.int voth, .ref vmt, .int votp, .int vosz, .int volm, .int voto, .int vofr, .int vokd, .int vonu, .int vosg, .int vofa, .int vopl, .long vowd, .int votd, .ref vmn, .ref vmr, .ref vmk, .ref vms, .ref vma, .ref vmm, .ref vmrn, .ref vmkn, .ref vmik, .ref vmon, .int vosm, .int vohp, .ref vmw, .ref vmf, .ref vmb, .int vomb, .ref vmd, .ref vmc, .int vwe, .int vti, .int 7, .ref vmx, .int votx, .int vose, .ref vml, .ref vmwr, .int voln, .int vohw, .ref vmno, .int vond, .int voon, .int vowi, .int votop])), (vmn, .inl (cy 0, 575, .inl vmnf)), (vmd, .inl (cy 0, 10, .inl vmdf)), (vmc, .inl (cy 0, 10, .inl g_48))] H := hP
            have hD : va_D A [(vo, .inr (12, [.int voth, .ref vmt, .int votp, .int vosz, .int volm, .int voto, .int vofr, .int vokd, .int vonu, .int vosg, .int vofa, .int vopl, .long vowd, .int votd, .ref vmn, .ref vmr, .ref vmk, .ref vms, .ref vma, .ref vmm, .ref vmrn, .ref vmkn, .ref vmik, .ref vmon, .int vosm, .int vohp, .ref vmw, .ref vmf, .ref vmb, .int vomb, .ref vmd, .ref vmc, .int vwe, .int vti, .int 7, .ref vmx, .int votx, .int vose, .ref vml, .ref vmwr, .int voln, .int vohw, .ref vmno, .int vond, .int voon, .int vowi, .int votop])), (vmn, .inl (cy 0, 575, .inl vmnf)), (vmd, .inl (cy 0, 10, .inl vmdf)), (vmc, .inl (cy 0, 10, .inl g_48))] := hD
            rw [hQ9]
            exact re_v (vwe, vti, g_48, (7 : Int32), vmdf) hx hb hr hlocks (show 0 ≤ (7 : Int32).toInt ∧ (7 : Int32).toInt ≤ 10 from ⟨by omega, by omega⟩) (hP.sub [0, 1, 2, 3] rfl) (hD.sub [0, 1, 2, 3] rfl rfl) hS dX11_careerFrom_84
          · skip
            have c_49 : ¬ ((7 : Int32).toInt ≤ x_47.toInt) := fun h9 => c_49 (i_le.mpr h9)
            refine lv_aload_n hx hb dX11_careerFrom_59 rfl (lv_at hl 1 rfl) ?_
            refine gf_X11_145 hx hb hts hown hK hP 0 rfl rfl dX11_careerFrom_60 ?_
            refine lv_iload hx hb dX11_careerFrom_63 (lv_at hl 0 rfl) ?_
            refine lv_aload_n hx hb dX11_careerFrom_65 rfl (lv_at hl 1 rfl) ?_
            refine gf_X11_142 hx hb hts hown hK hP 0 rfl rfl dX11_careerFrom_66 ?_
            refine lv_iload hx hb dX11_careerFrom_69 (lv_at hl 0 rfl) ?_
            have hin_50 : vp_in x_47 10 := vp_in_iff.mpr ⟨by omega, by omega⟩
            refine va_iald hx hb hK hP 2 0 rfl rfl hin_50 dX11_careerFrom_71 ?_
            refine lv_topi (fun z_51 ez_51 => ?_)
            have hin_52 : vp_in x_47 10 := vp_in_iff.mpr ⟨by omega, by omega⟩
            refine va_iast hx hb hK hP hD hS 3 0 rfl rfl hin_52 dX11_careerFrom_72 (fun H locs hP hD hS => ?_)
            obtain ⟨f_53, ef_53⟩ : ∃ z : Nat → Int32, z = upd g_48 (Int32.toNatClampNeg x_47) z_51 := ⟨_, rfl⟩
            have hP : va_P (dC, dI) vwCl [(vo, .inr (12, [.int voth, .ref vmt, .int votp, .int vosz, .int volm, .int voto, .int vofr, .int vokd, .int vonu, .int vosg, .int vofa, .int vopl, .long vowd, .int votd, .ref vmn, .ref vmr, .ref vmk, .ref vms, .ref vma, .ref vmm, .ref vmrn, .ref vmkn, .ref vmik, .ref vmon, .int vosm, .int vohp, .ref vmw, .ref vmf, .ref vmb, .int vomb, .ref vmd, .ref vmc, .int vwe, .int vti, .int vocy, .ref vmx, .int votx, .int vose, .ref vml, .ref vmwr, .int voln, .int vohw, .ref vmno, .int vond, .int voon, .int vowi, .int votop])), (vmn, .inl (cy 0, 575, .inl vmnf)), (vmd, .inl (cy 0, 10, .inl vmdf)), (vmc, .inl (cy 0, 10, .inl f_53))] H := by rw [ef_53]; exact hP
            have hD : va_D A [(vo, .inr (12, [.int voth, .ref vmt, .int votp, .int vosz, .int volm, .int voto, .int vofr, .int vokd, .int vonu, .int vosg, .int vofa, .int vopl, .long vowd, .int votd, .ref vmn, .ref vmr, .ref vmk, .ref vms, .ref vma, .ref vmm, .ref vmrn, .ref vmkn, .ref vmik, .ref vmon, .int vosm, .int vohp, .ref vmw, .ref vmf, .ref vmb, .int vomb, .ref vmd, .ref vmc, .int vwe, .int vti, .int vocy, .ref vmx, .int votx, .int vose, .ref vml, .ref vmwr, .int voln, .int vohw, .ref vmno, .int vond, .int voon, .int vowi, .int votop])), (vmn, .inl (cy 0, 575, .inl vmnf)), (vmd, .inl (cy 0, 10, .inl vmdf)), (vmc, .inl (cy 0, 10, .inl f_53))] := by rw [ef_53]; exact hD
            obtain ⟨z_54, ez_54⟩ : ∃ z : Int32, z = x_47 + 1 := ⟨_, rfl⟩
            have bz_54 : z_54.toInt = x_47.toInt + (1 : Int32).toInt := i_add ez_54 (by omega) (by omega)
            refine lv_iinc (v := z_54) (lv' := [(6, .int z_54), (0, .ref vo), (1, .int vm), (2, .int 7), (3, .int vlf), (4, .int vti), (5, .int vwe)]) hx hb dX11_careerFrom_73 hl (k := 0) rfl ez_54.symm (by decide) rfl (fun ls hl => ?_)
            refine lv_goto (tgt := 53) hx hb dX11_careerFrom_76 (by decide) ?_
            exact ih46 z_54 f_53 ⟨by omega, by omega⟩ (by omega) _ _ (hP.sub [0, 1, 2, 3] rfl) (hD.sub [0, 1, 2, 3] rfl rfl) hS ls (lv_sub hl [0, 1, 2, 3, 4, 5, 6] rfl)
      have k_0 : (0 : Int32).toInt = 0 := by decide
      exact loop46 ((10 - (0 : Int32).toInt).toNat + 1) 0 vmcf ⟨by omega, by omega⟩ (by omega) _ _ hP hD hS ls (lv_sub hl [0, 1, 2, 3, 4, 5, 6] rfl)
    refine lv_iload hx hb dX11_careerFrom_10 (lv_at hl 5 rfl) ?_
    refine lv_aload_n hx hb dX11_careerFrom_12 rfl (lv_at hl 0 rfl) ?_
    refine gf_X11_322 hx hb hts hown hK hP 0 rfl rfl dX11_careerFrom_13 ?_
    refine lv_icmp_lt (tgt := 37) hx hb dX11_careerFrom_16 (by decide) (fun c_55 => ?_) (fun c_55 => ?_)
    · skip
      have c_55 : vwe.toInt < vocm.toInt := i_lt.mp c_55
      rw [hQ9]
      exact re_v (vocm, voct, vmcf, vocy, vmdf) hx hb hr hlocks (show 0 ≤ (vocy : Int32).toInt ∧ (vocy : Int32).toInt ≤ 10 from ⟨by omega, by omega⟩) (hP.sub [0, 1, 2, 3] rfl) (hD.sub [0, 1, 2, 3] rfl rfl) hS dX11_careerFrom_37
    · skip
      have c_55 : ¬ (vwe.toInt < vocm.toInt) := fun h9 => c_55 (i_lt.mpr h9)
      refine lv_iload hx hb dX11_careerFrom_19 (lv_at hl 5 rfl) ?_
      refine lv_aload_n hx hb dX11_careerFrom_21 rfl (lv_at hl 0 rfl) ?_
      refine gf_X11_322 hx hb hts hown hK hP 0 rfl rfl dX11_careerFrom_22 ?_
      refine lv_icmp_ne (tgt := 38) hx hb dX11_careerFrom_25 (by decide) (fun c_56 => ?_) (fun c_56 => ?_)
      · skip
        have c_56 : ¬ (vwe.toInt = vocm.toInt) := fun h9 => c_56 (i_eq.mpr h9)
        exact join45  _ _ (hP.sub [0, 1, 2, 3] rfl) (hD.sub [0, 1, 2, 3] rfl rfl) hS ls (lv_sub hl [0, 1, 2, 3, 4, 5] rfl)
      · skip
        have c_56 : vwe.toInt = vocm.toInt := i_eq.mp c_56
        refine lv_iload hx hb dX11_careerFrom_28 (lv_at hl 4 rfl) ?_
        refine lv_aload_n hx hb dX11_careerFrom_30 rfl (lv_at hl 0 rfl) ?_
        refine gf_X11_325 hx hb hts hown hK hP 0 rfl rfl dX11_careerFrom_31 ?_
        refine lv_icmp_lt (tgt := 38) hx hb dX11_careerFrom_34 (by decide) (fun c_57 => ?_) (fun c_57 => ?_)
        · skip
          have c_57 : vti.toInt < voct.toInt := i_lt.mp c_57
          exact join45  _ _ (hP.sub [0, 1, 2, 3] rfl) (hD.sub [0, 1, 2, 3] rfl rfl) hS ls (lv_sub hl [0, 1, 2, 3, 4, 5] rfl)
        · skip
          have c_57 : ¬ (vti.toInt < voct.toInt) := fun h9 => c_57 (i_lt.mpr h9)
          rw [hQ9]
          exact re_v (vocm, voct, vmcf, vocy, vmdf) hx hb hr hlocks (show 0 ≤ (vocy : Int32).toInt ∧ (vocy : Int32).toInt ≤ 10 from ⟨by omega, by omega⟩) (hP.sub [0, 1, 2, 3] rfl) (hD.sub [0, 1, 2, 3] rfl rfl) hS dX11_careerFrom_37
abbrev O_m_careerFrom_6 (cy : Nat → ClassId) (vo : Nat) (voth : Int32) (vmt : Nat) (votp : Int32) (vosz : Int32) (volm : Int32) (voto : Int32) (vofr : Int32) (vokd : Int32) (vonu : Int32) (vosg : Int32) (vofa : Int32) (vopl : Int32) (vowd : Int64) (votd : Int32) (vmn : Nat) (vmr : Nat) (vmk : Nat) (vms : Nat) (vma : Nat) (vmm : Nat) (vmrn : Nat) (vmkn : Nat) (vmik : Nat) (vmon : Nat) (vosm : Int32) (vohp : Int32) (vmw : Nat) (vmf : Nat) (vmb : Nat) (vomb : Int32) (vmd : Nat) (vmc : Nat) (vocm : Int32) (voct : Int32) (vocy : Int32) (vmx : Nat) (votx : Int32) (vose : Int32) (vml : Nat) (vmwr : Nat) (voln : Int32) (vohw : Int32) (vmno : Nat) (vond : Int32) (voon : Int32) (vowi : Int32) (votop : Int32) (vmnf : Nat → Int32) (vmdf : Nat → Int32) (vmcf : Nat → Int32) (vm : Int32) (vlf : Int32) (vti : Int32) (vwe : Int32) (u : Int32 × Int32 × (Nat → Int32) × Int32 × (Nat → Int32)) : va_W := [(vo, .inr (12, [.int voth, .ref vmt, .int votp, .int vosz, .int volm, .int voto, .int vofr, .int vokd, .int vonu, .int vosg, .int vofa, .int vopl, .long vowd, .int votd, .ref vmn, .ref vmr, .ref vmk, .ref vms, .ref vma, .ref vmm, .ref vmrn, .ref vmkn, .ref vmik, .ref vmon, .int vosm, .int vohp, .ref vmw, .ref vmf, .ref vmb, .int vomb, .ref vmd, .ref vmc, .int u.1, .int u.2.1, .int u.2.2.2.1, .ref vmx, .int votx, .int vose, .ref vml, .ref vmwr, .int voln, .int vohw, .ref vmno, .int vond, .int voon, .int vowi, .int votop])), (vmn, .inl (cy 0, 575, .inl vmnf)), (vmd, .inl (cy 0, 10, .inl u.2.2.2.2)), (vmc, .inl (cy 0, 10, .inl u.2.2.1))]
set_option maxHeartbeats 4000000 in
set_option maxRecDepth 100000 in
theorem m_careerFrom_6 (l : Launch) (dC : Nat → ClassId) (dI : Nat → Nat → Nat) (cy : Nat → ClassId) (sz : Nat) (vo : Nat) (voth : Int32) (vmt : Nat) (votp : Int32) (vosz : Int32) (volm : Int32) (voto : Int32) (vofr : Int32) (vokd : Int32) (vonu : Int32) (vosg : Int32) (vofa : Int32) (vopl : Int32) (vowd : Int64) (votd : Int32) (vmn : Nat) (vmr : Nat) (vmk : Nat) (vms : Nat) (vma : Nat) (vmm : Nat) (vmrn : Nat) (vmkn : Nat) (vmik : Nat) (vmon : Nat) (vosm : Int32) (vohp : Int32) (vmw : Nat) (vmf : Nat) (vmb : Nat) (vomb : Int32) (vmd : Nat) (vmc : Nat) (vocm : Int32) (voct : Int32) (vocy : Int32) (vmx : Nat) (votx : Int32) (vose : Int32) (vml : Nat) (vmwr : Nat) (voln : Int32) (vohw : Int32) (vmno : Nat) (vond : Int32) (voon : Int32) (vowi : Int32) (votop : Int32) (vmnf : Nat → Int32) (vmdf : Nat → Int32) (vmcf : Nat → Int32) (vm : Int32) (vlf : Int32) (vti : Int32) (vwe : Int32) (r_vocy : 0 ≤ (vocy : Int32).toInt ∧ (vocy : Int32).toInt ≤ 10) (r_vm : 0 ≤ (vm : Int32).toInt ∧ (vm : Int32).toInt ≤ 6) (r_vlf : 0 ≤ (vlf : Int32).toInt ∧ (vlf : Int32).toInt ≤ 10) (p_vmnf : NW vmnf) (hd : 6 ≤ (vmnf 1).toInt) : Met l yX11_careerFrom (wl yX11_careerFrom cX11_careerFrom 8 none) ({ frames := 5, cells := 0, slots := 0, locals := 320 }) (Pw (dC, dI) vwCl cy [(vo, .inr (12, [.int voth, .ref vmt, .int votp, .int vosz, .int volm, .int voto, .int vofr, .int vokd, .int vonu, .int vosg, .int vofa, .int vopl, .long vowd, .int votd, .ref vmn, .ref vmr, .ref vmk, .ref vms, .ref vma, .ref vmm, .ref vmrn, .ref vmkn, .ref vmik, .ref vmon, .int vosm, .int vohp, .ref vmw, .ref vmf, .ref vmb, .int vomb, .ref vmd, .ref vmc, .int vocm, .int voct, .int vocy, .ref vmx, .int votx, .int vose, .ref vml, .ref vmwr, .int voln, .int vohw, .ref vmno, .int vond, .int voon, .int vowi, .int votop])), (vmn, .inl (cy 0, 575, .inl vmnf)), (vmd, .inl (cy 0, 10, .inl vmdf)), (vmc, .inl (cy 0, 10, .inl vmcf))] sz [.ref vo, .int vm, .int 6, .int vlf, .int vti, .int vwe] nE) (Qv (dC, dI) vwCl (fun (u : Int32 × Int32 × (Nat → Int32) × Int32 × (Nat → Int32)) => (0 ≤ (u.2.2.2.1 : Int32).toInt ∧ (u.2.2.2.1 : Int32).toInt ≤ 10)) (O_m_careerFrom_6 cy vo voth vmt votp vosz volm voto vofr vokd vonu vosg vofa vopl vowd votd vmn vmr vmk vms vma vmm vmrn vmkn vmik vmon vosm vohp vmw vmf vmb vomb vmd vmc vocm voct vocy vmx votx vose vml vmwr voln vohw vmno vond voon vowi votop vmnf vmdf vmcf vm vlf vti vwe) (va_A [(vo, .inr (12, [.int voth, .ref vmt, .int votp, .int vosz, .int volm, .int voto, .int vofr, .int vokd, .int vonu, .int vosg, .int vofa, .int vopl, .long vowd, .int votd, .ref vmn, .ref vmr, .ref vmk, .ref vms, .ref vma, .ref vmm, .ref vmrn, .ref vmkn, .ref vmik, .ref vmon, .int vosm, .int vohp, .ref vmw, .ref vmf, .ref vmb, .int vomb, .ref vmd, .ref vmc, .int vocm, .int voct, .int vocy, .ref vmx, .int votx, .int vose, .ref vml, .ref vmwr, .int voln, .int vohw, .ref vmno, .int vond, .int voon, .int vowi, .int votop])), (vmn, .inl (cy 0, 575, .inl vmnf)), (vmd, .inl (cy 0, 10, .inl vmdf)), (vmc, .inl (cy 0, 10, .inl vmcf))] sz)) 0 0 (va_A [(vo, .inr (12, [.int voth, .ref vmt, .int votp, .int vosz, .int volm, .int voto, .int vofr, .int vokd, .int vonu, .int vosg, .int vofa, .int vopl, .long vowd, .int votd, .ref vmn, .ref vmr, .ref vmk, .ref vms, .ref vma, .ref vmm, .ref vmrn, .ref vmkn, .ref vmik, .ref vmon, .int vosm, .int vohp, .ref vmw, .ref vmf, .ref vmb, .int vomb, .ref vmd, .ref vmc, .int vocm, .int voct, .int vocy, .ref vmx, .int votx, .int vose, .ref vml, .ref vmwr, .int voln, .int vohw, .ref vmno, .int vond, .int voon, .int vowi, .int votop])), (vmn, .inl (cy 0, 575, .inl vmnf)), (vmd, .inl (cy 0, 10, .inl vmdf)), (vmc, .inl (cy 0, 10, .inl vmcf))] sz) := by
  refine mw (Qc := Qv (dC, dI) vwCl (fun (u : Int32 × Int32 × (Nat → Int32) × Int32 × (Nat → Int32)) => (0 ≤ (u.2.2.2.1 : Int32).toInt ∧ (u.2.2.2.1 : Int32).toInt ≤ 10)) (O_m_careerFrom_6 cy vo voth vmt votp vosz volm voto vofr vokd vonu vosg vofa vopl vowd votd vmn vmr vmk vms vma vmm vmrn vmkn vmik vmon vosm vohp vmw vmf vmb vomb vmd vmc vocm voct vocy vmx votx vose vml vmwr voln vohw vmno vond voon vowi votop vmnf vmdf vmcf vm vlf vti vwe)) RX11 rfl (by decide +kernel) (Nat.le_of_ble_eq_true rfl) ?_
  intro p e s m below meth c A hx hb hr hlocks av9 hav hts hown hnm hml hK hP hD hA hS hE hAe Q9 hQ9 ls hl
  have hl : lv_has ls 8 [(0, .ref vo), (1, .int vm), (2, .int 6), (3, .int vlf), (4, .int vti), (5, .int vwe)] := hl
  refine lv_iload_n hx hb dX11_careerFrom_0 rfl (lv_at hl 2 rfl) ?_
  refine lv_aload_n hx hb dX11_careerFrom_1 rfl (lv_at hl 0 rfl) ?_
  refine gf_X11_98 hx hb hts hown hK hP 0 rfl rfl dX11_careerFrom_2 ?_
  refine lv_iconst (v := 1) hx hb dX11_careerFrom_5 (by decide) ?_
  have k_1 : (1 : Int32).toInt = 1 := by decide
  have hin_1 : vp_in (1 : Int32) 575 := vp_in_iff.mpr ⟨by omega, by omega⟩
  refine va_iald hx hb hK hP 1 0 rfl rfl hin_1 dX11_careerFrom_6 ?_
  refine lv_topi (fun z_2 ez_2 => ?_)
  have bz_2 := p_vmnf.a1 (x := 1) ⟨by omega, by omega⟩ ez_2
  have tz_2 : z_2.toInt = (vmnf 1).toInt := by rw [ez_2]; rfl
  have k_6 : (6 : Int32).toInt = 6 := by decide
  refine lv_icmp_ne (tgt := 85) hx hb dX11_careerFrom_7 (by decide) (fun c_3 => ?_) (fun c_3 => ?_)
  · skip
    have c_3 : ¬ ((6 : Int32).toInt = z_2.toInt) := fun h9 => c_3 (i_eq.mpr h9)
    refine lv_iload_n hx hb dX11_careerFrom_85 rfl (lv_at hl 3 rfl) ?_
    refine lv_bipush (v := 9) hx hb dX11_careerFrom_86 (by decide) ?_
    refine lv_aload_n hx hb dX11_careerFrom_88 rfl (lv_at hl 0 rfl) ?_
    refine lv_iload_n hx hb dX11_careerFrom_89 rfl (lv_at hl 1 rfl) ?_
    refine lv_iload_n hx hb dX11_careerFrom_90 rfl (lv_at hl 2 rfl) ?_
    refine jr_i (rVr (As := [.int vm, .int 6]) (rest := [.int 9, .int vlf]) (ci := 12) ⟨hx, hb, hml, hown, hts⟩ (m_didOf l dC dI cy vo voth vmt votp vosz volm voto vofr vokd vonu vosg vofa vopl vowd votd vmn vmr vmk vms vma vmm vmrn vmkn vmik vmon vosm vohp vmw vmf vmb vomb vmd vmc vocm voct vocy vmx votx vose vml vmwr voln vohw vmno vond voon vowi votop vmnf vm 6 ⟨by omega, by omega⟩ ⟨by omega, by omega⟩ p_vmnf) (cw_X11_228 hts rfl rfl ⟨Nat.le_of_ble_eq_true rfl, Nat.le_of_ble_eq_true rfl⟩) hP hK [0, 1] rfl rfl rfl rfl hl.1 rfl (Nat.le_of_ble_eq_true rfl) dX11_careerFrom_91 ⟨Nat.le_of_ble_eq_true rfl, Nat.le_of_ble_eq_true rfl⟩) hP hS (fun r_4 H locs hp_5 hP hS => ?_)
    refine lv_isub hx hb dX11_careerFrom_94 ?_
    refine lv_topi (fun z_6 ez_6 => ?_)
    refine jr_i (rSr (As := [.int vlf, .int z_6]) (rest := []) ⟨hx, hb, hml, hown, hts⟩ (m_least l dC dI cy vlf z_6 ) (cw_X11_288 hts rfl rfl ⟨Nat.le_of_ble_eq_true rfl, Nat.le_of_ble_eq_true rfl⟩) hP hK [] rfl rfl hl.1 rfl (Nat.le_of_ble_eq_true rfl) dX11_careerFrom_95 ⟨Nat.le_of_ble_eq_true rfl, Nat.le_of_ble_eq_true rfl⟩) hP hS (fun r_7 H locs hp_8 hP hS => ?_)
    have hp_8 : ((r_7 : Int32).toInt ≤ (vlf : Int32).toInt) ∧ ((r_7 : Int32).toInt ≤ (z_6 : Int32).toInt) ∧ (((r_7 : Int32).toInt = (vlf : Int32).toInt ∨ (r_7 : Int32).toInt = (z_6 : Int32).toInt)) := hp_8
    obtain ⟨q_9, q_10, q_11⟩ := hp_8
    refine lv_istore (lv' := [(6, .int r_7), (0, .ref vo), (1, .int vm), (2, .int 6), (3, .int vlf), (4, .int vti), (5, .int vwe)]) hx hb dX11_careerFrom_98 hl (by decide) rfl (fun ls hl => ?_)
    refine lv_iconst (v := 0) hx hb dX11_careerFrom_100 (by decide) ?_
    refine lv_istore (lv' := [(7, .int 0), (6, .int r_7), (0, .ref vo), (1, .int vm), (2, .int 6), (3, .int vlf), (4, .int vti), (5, .int vwe)]) hx hb dX11_careerFrom_101 hl (by decide) rfl (fun ls hl => ?_)
    have loop12 : ∀ (n12 : Nat) (x_13 : Int32) (x_14 : Int32) (x_15 : Int32) (x_16 : Int32) (g_17 : Nat → Int32) (g_18 : Nat → Int32), (0 ≤ x_13.toInt ∧ x_13.toInt ≤ 11) → (0 ≤ x_16.toInt ∧ x_16.toInt ≤ 10) → 11 - x_13.toInt < (n12 : Int) → ∀ (H : Heap) (locs : List Loc), va_P (dC, dI) vwCl [(vo, .inr (12, [.int voth, .ref vmt, .int votp, .int vosz, .int volm, .int voto, .int vofr, .int vokd, .int vonu, .int vosg, .int vofa, .int vopl, .long vowd, .int votd, .ref vmn, .ref vmr, .ref vmk, .ref vms, .ref vma, .ref vmm, .ref vmrn, .ref vmkn, .ref vmik, .ref vmon, .int vosm, .int vohp, .ref vmw, .ref vmf, .ref vmb, .int vomb, .ref vmd, .ref vmc, .int x_14, .int x_15, .int x_16, .ref vmx, .int votx, .int vose, .ref vml, .ref vmwr, .int voln, .int vohw, .ref vmno, .int vond, .int voon, .int vowi, .int votop])), (vmn, .inl (cy 0, 575, .inl vmnf)), (vmd, .inl (cy 0, 10, .inl g_18)), (vmc, .inl (cy 0, 10, .inl g_17))] H → va_D A [(vo, .inr (12, [.int voth, .ref vmt, .int votp, .int vosz, .int volm, .int voto, .int vofr, .int vokd, .int vonu, .int vosg, .int vofa, .int vopl, .long vowd, .int votd, .ref vmn, .ref vmr, .ref vmk, .ref vms, .ref vma, .ref vmm, .ref vmrn, .ref vmkn, .ref vmik, .ref vmon, .int vosm, .int vohp, .ref vmw, .ref vmf, .ref vmb, .int vomb, .ref vmd, .ref vmc, .int x_14, .int x_15, .int x_16, .ref vmx, .int votx, .int vose, .ref vml, .ref vmwr, .int voln, .int vohw, .ref vmno, .int vond, .int voon, .int vowi, .int votop])), (vmn, .inl (cy 0, 575, .inl vmnf)), (vmd, .inl (cy 0, 10, .inl g_18)), (vmc, .inl (cy 0, 10, .inl g_17))] → va_S A s.heap H locs → ∀ ls : Array Slot, lv_has ls 8 [(7, .int x_13), (6, .int r_7), (0, .ref vo), (1, .int vm), (2, .int 6), (3, .int vlf), (4, .int vti), (5, .int vwe)] → W p l e ({ frames := 5, cells := 0, slots := 0, locals := 320 }) s m av9 below meth c H locs 0 0 Q9 (F0 m 103 ls []) := by
      intro n12
      induction n12 with
      | zero =>
        intro x_13 x_14 x_15 x_16 g_17 g_18 bx_13 bx_16 hn12 H locs hP hD hS ls hl
        exfalso; omega
      | succ n12 ih12 =>
        intro x_13 x_14 x_15 x_16 g_17 g_18 bx_13 bx_16 hn12 H locs hP hD hS ls hl
        refine lv_iload hx hb dX11_careerFrom_103 (lv_at hl 0 rfl) ?_
        refine lv_iload hx hb dX11_careerFrom_105 (lv_at hl 1 rfl) ?_
        refine lv_icmp_gt (tgt := 180) hx hb dX11_careerFrom_107 (by decide) (fun c_19 => ?_) (fun c_19 => ?_)
        · skip
          have c_19 : r_7.toInt < x_13.toInt := i_lt.mp c_19
          rw [hQ9]
          exact re_v (x_14, x_15, g_17, x_16, g_18) hx hb hr hlocks (show 0 ≤ (x_16 : Int32).toInt ∧ (x_16 : Int32).toInt ≤ 10 from ⟨by omega, by omega⟩) (hP.sub [0, 1, 2, 3] rfl) (hD.sub [0, 1, 2, 3] rfl rfl) hS dX11_careerFrom_180
        · skip
          have c_19 : ¬ (r_7.toInt < x_13.toInt) := fun h9 => c_19 (i_lt.mpr h9)
          refine lv_iload hx hb dX11_careerFrom_110 (lv_at hl 7 rfl) ?_
          refine lv_iload hx hb dX11_careerFrom_112 (lv_at hl 0 rfl) ?_
          refine lv_aload_n hx hb dX11_careerFrom_114 rfl (lv_at hl 2 rfl) ?_
          refine gf_X11_98 hx hb hts hown hK hP 0 rfl rfl dX11_careerFrom_115 ?_
          refine lv_bipush (v := 11) hx hb dX11_careerFrom_118 (by decide) ?_
          refine lv_iload_n hx hb dX11_careerFrom_120 rfl (lv_at hl 4 rfl) ?_
          refine lv_iadd hx hb dX11_careerFrom_121 ?_
          refine as_i 17 (by decide) ?_
          have k_17 : (17 : Int32).toInt = 17 := by decide
          have hin_20 : vp_in (17 : Int32) 575 := vp_in_iff.mpr ⟨by omega, by omega⟩
          refine va_iald hx hb hK hP 1 0 rfl rfl hin_20 dX11_careerFrom_122 ?_
          refine lv_topi (fun z_21 ez_21 => ?_)
          have bz_21 := p_vmnf.aw (x := 17) ⟨by omega, by omega⟩ ez_21
          have tz_21 : z_21.toInt = (vmnf 17).toInt := by rw [ez_21]; rfl
          refine lv_imul hx hb dX11_careerFrom_123 ?_
          refine lv_topi (fun z_22 ez_22 => ?_)
          have bz_22 : 0 ≤ z_22.toInt ∧ z_22.toInt ≤ 400 ∧ z_22.toInt = x_13.toInt * z_21.toInt := i_mulb (A := 10) (B := 40) ez_22 ⟨by omega, by omega⟩ ⟨by omega, by omega⟩ (by decide)
          refine lv_iadd hx hb dX11_careerFrom_124 ?_
          refine lv_topi (fun z_23 ez_23 => ?_)
          refine lv_aload_n hx hb dX11_careerFrom_125 rfl (lv_at hl 2 rfl) ?_
          refine gf_X11_98 hx hb hts hown hK hP 0 rfl rfl dX11_careerFrom_126 ?_
          refine lv_iconst (v := 2) hx hb dX11_careerFrom_129 (by decide) ?_
          have k_2 : (2 : Int32).toInt = 2 := by decide
          have hin_24 : vp_in (2 : Int32) 575 := vp_in_iff.mpr ⟨by omega, by omega⟩
          refine va_iald hx hb hK hP 1 0 rfl rfl hin_24 dX11_careerFrom_130 ?_
          refine lv_topi (fun z_25 ez_25 => ?_)
          have tz_25 : z_25.toInt = (vmnf 2).toInt := by rw [ez_25]; rfl
          refine lv_icmp_gt (tgt := 180) hx hb dX11_careerFrom_131 (by decide) (fun c_26 => ?_) (fun c_26 => ?_)
          · skip
            have c_26 : z_25.toInt < z_23.toInt := i_lt.mp c_26
            rw [hQ9]
            exact re_v (x_14, x_15, g_17, x_16, g_18) hx hb hr hlocks (show 0 ≤ (x_16 : Int32).toInt ∧ (x_16 : Int32).toInt ≤ 10 from ⟨by omega, by omega⟩) (hP.sub [0, 1, 2, 3] rfl) (hD.sub [0, 1, 2, 3] rfl rfl) hS dX11_careerFrom_180
          · skip
            have c_26 : ¬ (z_25.toInt < z_23.toInt) := fun h9 => c_26 (i_lt.mpr h9)
            refine lv_aload_n hx hb dX11_careerFrom_134 rfl (lv_at hl 2 rfl) ?_
            refine gf_X11_142 hx hb hts hown hK hP 0 rfl rfl dX11_careerFrom_135 ?_
            refine lv_iload_n hx hb dX11_careerFrom_138 rfl (lv_at hl 4 rfl) ?_
            refine lv_iload hx hb dX11_careerFrom_139 (lv_at hl 0 rfl) ?_
            have hin_27 : vp_in (6 : Int32) 10 := vp_in_iff.mpr ⟨by omega, by omega⟩
            refine va_iast hx hb hK hP hD hS 2 0 rfl rfl hin_27 dX11_careerFrom_141 (fun H locs hP hD hS => ?_)
            obtain ⟨f_28, ef_28⟩ : ∃ z : Nat → Int32, z = upd g_18 (Int32.toNatClampNeg 6) x_13 := ⟨_, rfl⟩
            have hP : va_P (dC, dI) vwCl [(vo, .inr (12, [.int voth, .ref vmt, .int votp, .int vosz, .int volm, .int voto, .int vofr, .int vokd, .int vonu, .int vosg, .int vofa, .int vopl, .long vowd, .int votd, .ref vmn, .ref vmr, .ref vmk, .ref vms, .ref vma, .ref vmm, .ref vmrn, .ref vmkn, .ref vmik, .ref vmon, .int vosm, .int vohp, .ref vmw, .ref vmf, .ref vmb, .int vomb, .ref vmd, .ref vmc, .int x_14, .int x_15, .int x_16, .ref vmx, .int votx, .int vose, .ref vml, .ref vmwr, .int voln, .int vohw, .ref vmno, .int vond, .int voon, .int vowi, .int votop])), (vmn, .inl (cy 0, 575, .inl vmnf)), (vmd, .inl (cy 0, 10, .inl f_28)), (vmc, .inl (cy 0, 10, .inl g_17))] H := by rw [ef_28]; exact hP
            have hD : va_D A [(vo, .inr (12, [.int voth, .ref vmt, .int votp, .int vosz, .int volm, .int voto, .int vofr, .int vokd, .int vonu, .int vosg, .int vofa, .int vopl, .long vowd, .int votd, .ref vmn, .ref vmr, .ref vmk, .ref vms, .ref vma, .ref vmm, .ref vmrn, .ref vmkn, .ref vmik, .ref vmon, .int vosm, .int vohp, .ref vmw, .ref vmf, .ref vmb, .int vomb, .ref vmd, .ref vmc, .int x_14, .int x_15, .int x_16, .ref vmx, .int votx, .int vose, .ref vml, .ref vmwr, .int voln, .int vohw, .ref vmno, .int vond, .int voon, .int vowi, .int votop])), (vmn, .inl (cy 0, 575, .inl vmnf)), (vmd, .inl (cy 0, 10, .inl f_28)), (vmc, .inl (cy 0, 10, .inl g_17))] := by rw [ef_28]; exact hD
            refine lv_aload_n hx hb dX11_careerFrom_142 rfl (lv_at hl 2 rfl) ?_
            refine lv_iload_n hx hb dX11_careerFrom_143 rfl (lv_at hl 3 rfl) ?_
            refine lv_iload_n hx hb dX11_careerFrom_144 rfl (lv_at hl 4 rfl) ?_
            refine lv_iconst (v := 1) hx hb dX11_careerFrom_145 (by decide) ?_
            refine lv_iadd hx hb dX11_careerFrom_146 ?_
            refine as_i 7 (by decide) ?_
            refine lv_iload_n hx hb dX11_careerFrom_147 rfl (lv_at hl 5 rfl) ?_
            refine lv_iload hx hb dX11_careerFrom_148 (lv_at hl 0 rfl) ?_
            refine lv_isub hx hb dX11_careerFrom_150 ?_
            refine lv_topi (fun z_29 ez_29 => ?_)
            have bz_29 : z_29.toInt = vlf.toInt - x_13.toInt := i_sub ez_29 (by omega) (by omega)
            refine lv_iload hx hb dX11_careerFrom_151 (lv_at hl 6 rfl) ?_
            refine lv_iload hx hb dX11_careerFrom_153 (lv_at hl 0 rfl) ?_
            refine lv_iadd hx hb dX11_careerFrom_155 ?_
            refine lv_topi (fun z_30 ez_30 => ?_)
            refine lv_iload hx hb dX11_careerFrom_156 (lv_at hl 7 rfl) ?_
            refine lv_iload hx hb dX11_careerFrom_158 (lv_at hl 0 rfl) ?_
            refine lv_aload_n hx hb dX11_careerFrom_160 rfl (lv_at hl 2 rfl) ?_
            refine gf_X11_98 hx hb hts hown hK hP 0 rfl rfl dX11_careerFrom_161 ?_
            refine lv_bipush (v := 11) hx hb dX11_careerFrom_164 (by decide) ?_
            refine lv_iload_n hx hb dX11_careerFrom_166 rfl (lv_at hl 4 rfl) ?_
            refine lv_iadd hx hb dX11_careerFrom_167 ?_
            refine as_i 17 (by decide) ?_
            have hin_31 : vp_in (17 : Int32) 575 := vp_in_iff.mpr ⟨by omega, by omega⟩
            refine va_iald hx hb hK hP 1 0 rfl rfl hin_31 dX11_careerFrom_168 ?_
            refine lv_topi (fun z_32 ez_32 => ?_)
            have bz_32 := p_vmnf.aw (x := 17) ⟨by omega, by omega⟩ ez_32
            have tz_32 : z_32.toInt = (vmnf 17).toInt := by rw [ez_32]; rfl
            refine lv_imul hx hb dX11_careerFrom_169 ?_
            refine lv_topi (fun z_33 ez_33 => ?_)
            have bz_33 : 0 ≤ z_33.toInt ∧ z_33.toInt ≤ 400 ∧ z_33.toInt = x_13.toInt * z_32.toInt := i_mulb (A := 10) (B := 40) ez_33 ⟨by omega, by omega⟩ ⟨by omega, by omega⟩ (by decide)
            refine lv_iadd hx hb dX11_careerFrom_170 ?_
            refine lv_topi (fun z_34 ez_34 => ?_)
            refine jn_v (wr := []) (rV (As := [.int vm, .int 7, .int z_29, .int z_30, .int z_34]) (rest := []) (ci := 12) ⟨hx, hb, hml, hown, hts⟩ (m_careerFrom_7 l dC dI cy _ vo voth vmt votp vosz volm voto vofr vokd vonu vosg vofa vopl vowd votd vmn vmr vmk vms vma vmm vmrn vmkn vmik vmon vosm vohp vmw vmf vmb vomb vmd vmc x_14 x_15 x_16 vmx votx vose vml vmwr voln vohw vmno vond voon vowi votop vmnf f_28 g_17 vm z_29 z_30 z_34 ⟨by omega, by omega⟩ r_vm ⟨by omega, by omega⟩ p_vmnf (by omega)) (cw_X11_331 hts rfl rfl ⟨Nat.le_of_ble_eq_true rfl, Nat.le_of_ble_eq_true rfl⟩) hP hD hK [0, 1, 2, 3] rfl rfl rfl rfl bl0 e0 rfl hl.1 rfl (Nat.le_of_ble_eq_true rfl) dX11_careerFrom_171 ⟨Nat.le_of_ble_eq_true rfl, Nat.le_of_ble_eq_true rfl⟩) hP hD hS hA [0, 1, 2, 3] [] rfl rfl rfl (by decide) (fun u_37 H locs hp_36 hP hD hS => ?_)
            obtain ⟨vocm_38, voct_39, vmcf_40, vocy_41, vmdf_42⟩ := u_37
            have hp_36 : (0 ≤ (vocy_41 : Int32).toInt ∧ (vocy_41 : Int32).toInt ≤ 10) := hp_36
            have q_43 := hp_36
            have hP : va_P (dC, dI) vwCl [(vo, .inr (12, [.int voth, .ref vmt, .int votp, .int vosz, .int volm, .int voto, .int vofr, .int vokd, .int vonu, .int vosg, .int vofa, .int vopl, .long vowd, .int votd, .ref vmn, .ref vmr, .ref vmk, .ref vms, .ref vma, .ref vmm, .ref vmrn, .ref vmkn, .ref vmik, .ref vmon, .int vosm, .int vohp, .ref vmw, .ref vmf, .ref vmb, .int vomb, .ref vmd, .ref vmc, .int vocm_38, .int voct_39, .int vocy_41, .ref vmx, .int votx, .int vose, .ref vml, .ref vmwr, .int voln, .int vohw, .ref vmno, .int vond, .int voon, .int vowi, .int votop])), (vmn, .inl (cy 0, 575, .inl vmnf)), (vmd, .inl (cy 0, 10, .inl vmdf_42)), (vmc, .inl (cy 0, 10, .inl vmcf_40))] H := hP
            have hD : va_D A [(vo, .inr (12, [.int voth, .ref vmt, .int votp, .int vosz, .int volm, .int voto, .int vofr, .int vokd, .int vonu, .int vosg, .int vofa, .int vopl, .long vowd, .int votd, .ref vmn, .ref vmr, .ref vmk, .ref vms, .ref vma, .ref vmm, .ref vmrn, .ref vmkn, .ref vmik, .ref vmon, .int vosm, .int vohp, .ref vmw, .ref vmf, .ref vmb, .int vomb, .ref vmd, .ref vmc, .int vocm_38, .int voct_39, .int vocy_41, .ref vmx, .int votx, .int vose, .ref vml, .ref vmwr, .int voln, .int vohw, .ref vmno, .int vond, .int voon, .int vowi, .int votop])), (vmn, .inl (cy 0, 575, .inl vmnf)), (vmd, .inl (cy 0, 10, .inl vmdf_42)), (vmc, .inl (cy 0, 10, .inl vmcf_40))] := hD
            obtain ⟨z_44, ez_44⟩ : ∃ z : Int32, z = x_13 + 1 := ⟨_, rfl⟩
            have bz_44 : z_44.toInt = x_13.toInt + (1 : Int32).toInt := i_add ez_44 (by omega) (by omega)
            refine lv_iinc (v := z_44) (lv' := [(7, .int z_44), (6, .int r_7), (0, .ref vo), (1, .int vm), (2, .int 6), (3, .int vlf), (4, .int vti), (5, .int vwe)]) hx hb dX11_careerFrom_174 hl (k := 0) rfl ez_44.symm (by decide) rfl (fun ls hl => ?_)
            refine lv_goto (tgt := 103) hx hb dX11_careerFrom_177 (by decide) ?_
            exact ih12 z_44 vocm_38 voct_39 vocy_41 vmcf_40 vmdf_42 ⟨by omega, by omega⟩ ⟨by omega, by omega⟩ (by omega) _ _ (hP.sub [0, 1, 2, 3] rfl) (hD.sub [0, 1, 2, 3] rfl rfl) hS ls (lv_sub hl [0, 1, 2, 3, 4, 5, 6, 7] rfl)
    have k_0 : (0 : Int32).toInt = 0 := by decide
    exact loop12 ((11 - (0 : Int32).toInt).toNat + 1) 0 vocm voct vocy vmcf vmdf ⟨by omega, by omega⟩ ⟨by omega, by omega⟩ (by omega) _ _ hP hD hS ls (lv_sub hl [0, 1, 2, 3, 4, 5, 6, 7] rfl)
  · skip
    have c_3 : (6 : Int32).toInt = z_2.toInt := i_eq.mp c_3
    have join45 : ∀ (H : Heap) (locs : List Loc), va_P (dC, dI) vwCl [(vo, .inr (12, [.int voth, .ref vmt, .int votp, .int vosz, .int volm, .int voto, .int vofr, .int vokd, .int vonu, .int vosg, .int vofa, .int vopl, .long vowd, .int votd, .ref vmn, .ref vmr, .ref vmk, .ref vms, .ref vma, .ref vmm, .ref vmrn, .ref vmkn, .ref vmik, .ref vmon, .int vosm, .int vohp, .ref vmw, .ref vmf, .ref vmb, .int vomb, .ref vmd, .ref vmc, .int vocm, .int voct, .int vocy, .ref vmx, .int votx, .int vose, .ref vml, .ref vmwr, .int voln, .int vohw, .ref vmno, .int vond, .int voon, .int vowi, .int votop])), (vmn, .inl (cy 0, 575, .inl vmnf)), (vmd, .inl (cy 0, 10, .inl vmdf)), (vmc, .inl (cy 0, 10, .inl vmcf))] H → va_D A [(vo, .inr (12, [.int voth, .ref vmt, .int votp, .int vosz, .int volm, .int voto, .int vofr, .int vokd, .int vonu, .int vosg, .int vofa, .int vopl, .long vowd, .int votd, .ref vmn, .ref vmr, .ref vmk, .ref vms, .ref vma, .ref vmm, .ref vmrn, .ref vmkn, .ref vmik, .ref vmon, .int vosm, .int vohp, .ref vmw, .ref vmf, .ref vmb, .int vomb, .ref vmd, .ref vmc, .int vocm, .int voct, .int vocy, .ref vmx, .int votx, .int vose, .ref vml, .ref vmwr, .int voln, .int vohw, .ref vmno, .int vond, .int voon, .int vowi, .int votop])), (vmn, .inl (cy 0, 575, .inl vmnf)), (vmd, .inl (cy 0, 10, .inl vmdf)), (vmc, .inl (cy 0, 10, .inl vmcf))] → va_S A s.heap H locs → ∀ ls : Array Slot, lv_has ls 8 [(0, .ref vo), (1, .int vm), (2, .int 6), (3, .int vlf), (4, .int vti), (5, .int vwe)] → W p l e ({ frames := 5, cells := 0, slots := 0, locals := 320 }) s m av9 below meth c H locs 0 0 Q9 (F0 m 38 ls []) := by
      intro  H locs hP hD hS ls hl
      refine lv_aload_n hx hb dX11_careerFrom_38 rfl (lv_at hl 0 rfl) ?_
      refine lv_iload hx hb dX11_careerFrom_39 (lv_at hl 5 rfl) ?_
      refine pf_X11_322 hx hb hts hown hK hP hD hS 0 rfl rfl rfl (Nat.le_of_ble_eq_true rfl) dX11_careerFrom_41 (fun H locs hP hD hS => ?_)
      have hP : va_P (dC, dI) vwCl [(vo, .inr (12, [.int voth, .ref vmt, .int votp, .int vosz, .int volm, .int voto, .int vofr, .int vokd, .int vonu, .int vosg, .int vofa, .int vopl, .long vowd, .int votd, .ref vmn, .ref vmr, .ref vmk, .ref vms, .ref vma, .ref vmm, .ref vmrn, .ref vmkn, .ref vmik, .ref vmon, .int vosm, .int vohp, .ref vmw, .ref vmf, .ref vmb, .int vomb, .ref vmd, .ref vmc, .int vwe, .int voct, .int vocy, .ref vmx, .int votx, .int vose, .ref vml, .ref vmwr, .int voln, .int vohw, .ref vmno, .int vond, .int voon, .int vowi, .int votop])), (vmn, .inl (cy 0, 575, .inl vmnf)), (vmd, .inl (cy 0, 10, .inl vmdf)), (vmc, .inl (cy 0, 10, .inl vmcf))] H := hP
      have hD : va_D A [(vo, .inr (12, [.int voth, .ref vmt, .int votp, .int vosz, .int volm, .int voto, .int vofr, .int vokd, .int vonu, .int vosg, .int vofa, .int vopl, .long vowd, .int votd, .ref vmn, .ref vmr, .ref vmk, .ref vms, .ref vma, .ref vmm, .ref vmrn, .ref vmkn, .ref vmik, .ref vmon, .int vosm, .int vohp, .ref vmw, .ref vmf, .ref vmb, .int vomb, .ref vmd, .ref vmc, .int vwe, .int voct, .int vocy, .ref vmx, .int votx, .int vose, .ref vml, .ref vmwr, .int voln, .int vohw, .ref vmno, .int vond, .int voon, .int vowi, .int votop])), (vmn, .inl (cy 0, 575, .inl vmnf)), (vmd, .inl (cy 0, 10, .inl vmdf)), (vmc, .inl (cy 0, 10, .inl vmcf))] := hD
      refine lv_aload_n hx hb dX11_careerFrom_44 rfl (lv_at hl 0 rfl) ?_
      refine lv_iload hx hb dX11_careerFrom_45 (lv_at hl 4 rfl) ?_
      refine pf_X11_325 hx hb hts hown hK hP hD hS 0 rfl rfl rfl (Nat.le_of_ble_eq_true rfl) dX11_careerFrom_47 (fun H locs hP hD hS => ?_)
      have hP : va_P (dC, dI) vwCl [(vo, .inr (12, [.int voth, .ref vmt, .int votp, .int vosz, .int volm, .int voto, .int vofr, .int vokd, .int vonu, .int vosg, .int vofa, .int vopl, .long vowd, .int votd, .ref vmn, .ref vmr, .ref vmk, .ref vms, .ref vma, .ref vmm, .ref vmrn, .ref vmkn, .ref vmik, .ref vmon, .int vosm, .int vohp, .ref vmw, .ref vmf, .ref vmb, .int vomb, .ref vmd, .ref vmc, .int vwe, .int vti, .int vocy, .ref vmx, .int votx, .int vose, .ref vml, .ref vmwr, .int voln, .int vohw, .ref vmno, .int vond, .int voon, .int vowi, .int votop])), (vmn, .inl (cy 0, 575, .inl vmnf)), (vmd, .inl (cy 0, 10, .inl vmdf)), (vmc, .inl (cy 0, 10, .inl vmcf))] H := hP
      have hD : va_D A [(vo, .inr (12, [.int voth, .ref vmt, .int votp, .int vosz, .int volm, .int voto, .int vofr, .int vokd, .int vonu, .int vosg, .int vofa, .int vopl, .long vowd, .int votd, .ref vmn, .ref vmr, .ref vmk, .ref vms, .ref vma, .ref vmm, .ref vmrn, .ref vmkn, .ref vmik, .ref vmon, .int vosm, .int vohp, .ref vmw, .ref vmf, .ref vmb, .int vomb, .ref vmd, .ref vmc, .int vwe, .int vti, .int vocy, .ref vmx, .int votx, .int vose, .ref vml, .ref vmwr, .int voln, .int vohw, .ref vmno, .int vond, .int voon, .int vowi, .int votop])), (vmn, .inl (cy 0, 575, .inl vmnf)), (vmd, .inl (cy 0, 10, .inl vmdf)), (vmc, .inl (cy 0, 10, .inl vmcf))] := hD
      refine lv_iconst (v := 0) hx hb dX11_careerFrom_50 (by decide) ?_
      refine lv_istore (lv' := [(6, .int 0), (0, .ref vo), (1, .int vm), (2, .int 6), (3, .int vlf), (4, .int vti), (5, .int vwe)]) hx hb dX11_careerFrom_51 hl (by decide) rfl (fun ls hl => ?_)
      have loop46 : ∀ (n46 : Nat) (x_47 : Int32) (g_48 : Nat → Int32), (0 ≤ x_47.toInt ∧ x_47.toInt ≤ 10) → 10 - x_47.toInt < (n46 : Int) → ∀ (H : Heap) (locs : List Loc), va_P (dC, dI) vwCl [(vo, .inr (12, [.int voth, .ref vmt, .int votp, .int vosz, .int volm, .int voto, .int vofr, .int vokd, .int vonu, .int vosg, .int vofa, .int vopl, .long vowd, .int votd, .ref vmn, .ref vmr, .ref vmk, .ref vms, .ref vma, .ref vmm, .ref vmrn, .ref vmkn, .ref vmik, .ref vmon, .int vosm, .int vohp, .ref vmw, .ref vmf, .ref vmb, .int vomb, .ref vmd, .ref vmc, .int vwe, .int vti, .int vocy, .ref vmx, .int votx, .int vose, .ref vml, .ref vmwr, .int voln, .int vohw, .ref vmno, .int vond, .int voon, .int vowi, .int votop])), (vmn, .inl (cy 0, 575, .inl vmnf)), (vmd, .inl (cy 0, 10, .inl vmdf)), (vmc, .inl (cy 0, 10, .inl g_48))] H → va_D A [(vo, .inr (12, [.int voth, .ref vmt, .int votp, .int vosz, .int volm, .int voto, .int vofr, .int vokd, .int vonu, .int vosg, .int vofa, .int vopl, .long vowd, .int votd, .ref vmn, .ref vmr, .ref vmk, .ref vms, .ref vma, .ref vmm, .ref vmrn, .ref vmkn, .ref vmik, .ref vmon, .int vosm, .int vohp, .ref vmw, .ref vmf, .ref vmb, .int vomb, .ref vmd, .ref vmc, .int vwe, .int vti, .int vocy, .ref vmx, .int votx, .int vose, .ref vml, .ref vmwr, .int voln, .int vohw, .ref vmno, .int vond, .int voon, .int vowi, .int votop])), (vmn, .inl (cy 0, 575, .inl vmnf)), (vmd, .inl (cy 0, 10, .inl vmdf)), (vmc, .inl (cy 0, 10, .inl g_48))] → va_S A s.heap H locs → ∀ ls : Array Slot, lv_has ls 8 [(6, .int x_47), (0, .ref vo), (1, .int vm), (2, .int 6), (3, .int vlf), (4, .int vti), (5, .int vwe)] → W p l e ({ frames := 5, cells := 0, slots := 0, locals := 320 }) s m av9 below meth c H locs 0 0 Q9 (F0 m 53 ls []) := by
        intro n46
        induction n46 with
        | zero =>
          intro x_47 g_48 bx_47 hn46 H locs hP hD hS ls hl
          exfalso; omega
        | succ n46 ih46 =>
          intro x_47 g_48 bx_47 hn46 H locs hP hD hS ls hl
          refine lv_iload hx hb dX11_careerFrom_53 (lv_at hl 0 rfl) ?_
          refine lv_iload_n hx hb dX11_careerFrom_55 rfl (lv_at hl 3 rfl) ?_
          refine lv_icmp_ge (tgt := 79) hx hb dX11_careerFrom_56 (by decide) (fun c_49 => ?_) (fun c_49 => ?_)
          · skip
            have c_49 : (6 : Int32).toInt ≤ x_47.toInt := i_le.mp c_49
            refine lv_aload_n hx hb dX11_careerFrom_79 rfl (lv_at hl 1 rfl) ?_
            refine lv_iload_n hx hb dX11_careerFrom_80 rfl (lv_at hl 3 rfl) ?_
            refine pf_X11_328 hx hb hts hown hK hP hD hS 0 rfl rfl rfl (Nat.le_of_ble_eq_true rfl) dX11_careerFrom_81 (fun H locs hP hD hS => ?_)
            have hP : va_P (dC, dI) vwCl [(vo, .inr (12, [.int voth, .ref vmt, .int votp, .int vosz, .int volm, .int voto, .int vofr, .int vokd, .int vonu, .int vosg, .int vofa, .int vopl, .long vowd, .int votd, .ref vmn, .ref vmr, .ref vmk, .ref vms, .ref vma, .ref vmm, .ref vmrn, .ref vmkn, .ref vmik, .ref vmon, .int vosm, .int vohp, .ref vmw, .ref vmf, .ref vmb, .int vomb, .ref vmd, .ref vmc, .int vwe, .int vti, .int 6, .ref vmx, .int votx, .int vose, .ref vml, .ref vmwr, .int voln, .int vohw, .ref vmno, .int vond, .int voon, .int vowi, .int votop])), (vmn, .inl (cy 0, 575, .inl vmnf)), (vmd, .inl (cy 0, 10, .inl vmdf)), (vmc, .inl (cy 0, 10, .inl g_48))] H := hP
            have hD : va_D A [(vo, .inr (12, [.int voth, .ref vmt, .int votp, .int vosz, .int volm, .int voto, .int vofr, .int vokd, .int vonu, .int vosg, .int vofa, .int vopl, .long vowd, .int votd, .ref vmn, .ref vmr, .ref vmk, .ref vms, .ref vma, .ref vmm, .ref vmrn, .ref vmkn, .ref vmik, .ref vmon, .int vosm, .int vohp, .ref vmw, .ref vmf, .ref vmb, .int vomb, .ref vmd, .ref vmc, .int vwe, .int vti, .int 6, .ref vmx, .int votx, .int vose, .ref vml, .ref vmwr, .int voln, .int vohw, .ref vmno, .int vond, .int voon, .int vowi, .int votop])), (vmn, .inl (cy 0, 575, .inl vmnf)), (vmd, .inl (cy 0, 10, .inl vmdf)), (vmc, .inl (cy 0, 10, .inl g_48))] := hD
            rw [hQ9]
            exact re_v (vwe, vti, g_48, (6 : Int32), vmdf) hx hb hr hlocks (show 0 ≤ (6 : Int32).toInt ∧ (6 : Int32).toInt ≤ 10 from ⟨by omega, by omega⟩) (hP.sub [0, 1, 2, 3] rfl) (hD.sub [0, 1, 2, 3] rfl rfl) hS dX11_careerFrom_84
          · skip
            have c_49 : ¬ ((6 : Int32).toInt ≤ x_47.toInt) := fun h9 => c_49 (i_le.mpr h9)
            refine lv_aload_n hx hb dX11_careerFrom_59 rfl (lv_at hl 1 rfl) ?_
            refine gf_X11_145 hx hb hts hown hK hP 0 rfl rfl dX11_careerFrom_60 ?_
            refine lv_iload hx hb dX11_careerFrom_63 (lv_at hl 0 rfl) ?_
            refine lv_aload_n hx hb dX11_careerFrom_65 rfl (lv_at hl 1 rfl) ?_
            refine gf_X11_142 hx hb hts hown hK hP 0 rfl rfl dX11_careerFrom_66 ?_
            refine lv_iload hx hb dX11_careerFrom_69 (lv_at hl 0 rfl) ?_
            have hin_50 : vp_in x_47 10 := vp_in_iff.mpr ⟨by omega, by omega⟩
            refine va_iald hx hb hK hP 2 0 rfl rfl hin_50 dX11_careerFrom_71 ?_
            refine lv_topi (fun z_51 ez_51 => ?_)
            have hin_52 : vp_in x_47 10 := vp_in_iff.mpr ⟨by omega, by omega⟩
            refine va_iast hx hb hK hP hD hS 3 0 rfl rfl hin_52 dX11_careerFrom_72 (fun H locs hP hD hS => ?_)
            obtain ⟨f_53, ef_53⟩ : ∃ z : Nat → Int32, z = upd g_48 (Int32.toNatClampNeg x_47) z_51 := ⟨_, rfl⟩
            have hP : va_P (dC, dI) vwCl [(vo, .inr (12, [.int voth, .ref vmt, .int votp, .int vosz, .int volm, .int voto, .int vofr, .int vokd, .int vonu, .int vosg, .int vofa, .int vopl, .long vowd, .int votd, .ref vmn, .ref vmr, .ref vmk, .ref vms, .ref vma, .ref vmm, .ref vmrn, .ref vmkn, .ref vmik, .ref vmon, .int vosm, .int vohp, .ref vmw, .ref vmf, .ref vmb, .int vomb, .ref vmd, .ref vmc, .int vwe, .int vti, .int vocy, .ref vmx, .int votx, .int vose, .ref vml, .ref vmwr, .int voln, .int vohw, .ref vmno, .int vond, .int voon, .int vowi, .int votop])), (vmn, .inl (cy 0, 575, .inl vmnf)), (vmd, .inl (cy 0, 10, .inl vmdf)), (vmc, .inl (cy 0, 10, .inl f_53))] H := by rw [ef_53]; exact hP
            have hD : va_D A [(vo, .inr (12, [.int voth, .ref vmt, .int votp, .int vosz, .int volm, .int voto, .int vofr, .int vokd, .int vonu, .int vosg, .int vofa, .int vopl, .long vowd, .int votd, .ref vmn, .ref vmr, .ref vmk, .ref vms, .ref vma, .ref vmm, .ref vmrn, .ref vmkn, .ref vmik, .ref vmon, .int vosm, .int vohp, .ref vmw, .ref vmf, .ref vmb, .int vomb, .ref vmd, .ref vmc, .int vwe, .int vti, .int vocy, .ref vmx, .int votx, .int vose, .ref vml, .ref vmwr, .int voln, .int vohw, .ref vmno, .int vond, .int voon, .int vowi, .int votop])), (vmn, .inl (cy 0, 575, .inl vmnf)), (vmd, .inl (cy 0, 10, .inl vmdf)), (vmc, .inl (cy 0, 10, .inl f_53))] := by rw [ef_53]; exact hD
            obtain ⟨z_54, ez_54⟩ : ∃ z : Int32, z = x_47 + 1 := ⟨_, rfl⟩
            have bz_54 : z_54.toInt = x_47.toInt + (1 : Int32).toInt := i_add ez_54 (by omega) (by omega)
            refine lv_iinc (v := z_54) (lv' := [(6, .int z_54), (0, .ref vo), (1, .int vm), (2, .int 6), (3, .int vlf), (4, .int vti), (5, .int vwe)]) hx hb dX11_careerFrom_73 hl (k := 0) rfl ez_54.symm (by decide) rfl (fun ls hl => ?_)
            refine lv_goto (tgt := 53) hx hb dX11_careerFrom_76 (by decide) ?_
            exact ih46 z_54 f_53 ⟨by omega, by omega⟩ (by omega) _ _ (hP.sub [0, 1, 2, 3] rfl) (hD.sub [0, 1, 2, 3] rfl rfl) hS ls (lv_sub hl [0, 1, 2, 3, 4, 5, 6] rfl)
      have k_0 : (0 : Int32).toInt = 0 := by decide
      exact loop46 ((10 - (0 : Int32).toInt).toNat + 1) 0 vmcf ⟨by omega, by omega⟩ (by omega) _ _ hP hD hS ls (lv_sub hl [0, 1, 2, 3, 4, 5, 6] rfl)
    refine lv_iload hx hb dX11_careerFrom_10 (lv_at hl 5 rfl) ?_
    refine lv_aload_n hx hb dX11_careerFrom_12 rfl (lv_at hl 0 rfl) ?_
    refine gf_X11_322 hx hb hts hown hK hP 0 rfl rfl dX11_careerFrom_13 ?_
    refine lv_icmp_lt (tgt := 37) hx hb dX11_careerFrom_16 (by decide) (fun c_55 => ?_) (fun c_55 => ?_)
    · skip
      have c_55 : vwe.toInt < vocm.toInt := i_lt.mp c_55
      rw [hQ9]
      exact re_v (vocm, voct, vmcf, vocy, vmdf) hx hb hr hlocks (show 0 ≤ (vocy : Int32).toInt ∧ (vocy : Int32).toInt ≤ 10 from ⟨by omega, by omega⟩) (hP.sub [0, 1, 2, 3] rfl) (hD.sub [0, 1, 2, 3] rfl rfl) hS dX11_careerFrom_37
    · skip
      have c_55 : ¬ (vwe.toInt < vocm.toInt) := fun h9 => c_55 (i_lt.mpr h9)
      refine lv_iload hx hb dX11_careerFrom_19 (lv_at hl 5 rfl) ?_
      refine lv_aload_n hx hb dX11_careerFrom_21 rfl (lv_at hl 0 rfl) ?_
      refine gf_X11_322 hx hb hts hown hK hP 0 rfl rfl dX11_careerFrom_22 ?_
      refine lv_icmp_ne (tgt := 38) hx hb dX11_careerFrom_25 (by decide) (fun c_56 => ?_) (fun c_56 => ?_)
      · skip
        have c_56 : ¬ (vwe.toInt = vocm.toInt) := fun h9 => c_56 (i_eq.mpr h9)
        exact join45  _ _ (hP.sub [0, 1, 2, 3] rfl) (hD.sub [0, 1, 2, 3] rfl rfl) hS ls (lv_sub hl [0, 1, 2, 3, 4, 5] rfl)
      · skip
        have c_56 : vwe.toInt = vocm.toInt := i_eq.mp c_56
        refine lv_iload hx hb dX11_careerFrom_28 (lv_at hl 4 rfl) ?_
        refine lv_aload_n hx hb dX11_careerFrom_30 rfl (lv_at hl 0 rfl) ?_
        refine gf_X11_325 hx hb hts hown hK hP 0 rfl rfl dX11_careerFrom_31 ?_
        refine lv_icmp_lt (tgt := 38) hx hb dX11_careerFrom_34 (by decide) (fun c_57 => ?_) (fun c_57 => ?_)
        · skip
          have c_57 : vti.toInt < voct.toInt := i_lt.mp c_57
          exact join45  _ _ (hP.sub [0, 1, 2, 3] rfl) (hD.sub [0, 1, 2, 3] rfl rfl) hS ls (lv_sub hl [0, 1, 2, 3, 4, 5] rfl)
        · skip
          have c_57 : ¬ (vti.toInt < voct.toInt) := fun h9 => c_57 (i_lt.mpr h9)
          rw [hQ9]
          exact re_v (vocm, voct, vmcf, vocy, vmdf) hx hb hr hlocks (show 0 ≤ (vocy : Int32).toInt ∧ (vocy : Int32).toInt ≤ 10 from ⟨by omega, by omega⟩) (hP.sub [0, 1, 2, 3] rfl) (hD.sub [0, 1, 2, 3] rfl rfl) hS dX11_careerFrom_37
abbrev O_m_careerFrom_5 (cy : Nat → ClassId) (vo : Nat) (voth : Int32) (vmt : Nat) (votp : Int32) (vosz : Int32) (volm : Int32) (voto : Int32) (vofr : Int32) (vokd : Int32) (vonu : Int32) (vosg : Int32) (vofa : Int32) (vopl : Int32) (vowd : Int64) (votd : Int32) (vmn : Nat) (vmr : Nat) (vmk : Nat) (vms : Nat) (vma : Nat) (vmm : Nat) (vmrn : Nat) (vmkn : Nat) (vmik : Nat) (vmon : Nat) (vosm : Int32) (vohp : Int32) (vmw : Nat) (vmf : Nat) (vmb : Nat) (vomb : Int32) (vmd : Nat) (vmc : Nat) (vocm : Int32) (voct : Int32) (vocy : Int32) (vmx : Nat) (votx : Int32) (vose : Int32) (vml : Nat) (vmwr : Nat) (voln : Int32) (vohw : Int32) (vmno : Nat) (vond : Int32) (voon : Int32) (vowi : Int32) (votop : Int32) (vmnf : Nat → Int32) (vmdf : Nat → Int32) (vmcf : Nat → Int32) (vm : Int32) (vlf : Int32) (vti : Int32) (vwe : Int32) (u : Int32 × Int32 × (Nat → Int32) × Int32 × (Nat → Int32)) : va_W := [(vo, .inr (12, [.int voth, .ref vmt, .int votp, .int vosz, .int volm, .int voto, .int vofr, .int vokd, .int vonu, .int vosg, .int vofa, .int vopl, .long vowd, .int votd, .ref vmn, .ref vmr, .ref vmk, .ref vms, .ref vma, .ref vmm, .ref vmrn, .ref vmkn, .ref vmik, .ref vmon, .int vosm, .int vohp, .ref vmw, .ref vmf, .ref vmb, .int vomb, .ref vmd, .ref vmc, .int u.1, .int u.2.1, .int u.2.2.2.1, .ref vmx, .int votx, .int vose, .ref vml, .ref vmwr, .int voln, .int vohw, .ref vmno, .int vond, .int voon, .int vowi, .int votop])), (vmn, .inl (cy 0, 575, .inl vmnf)), (vmd, .inl (cy 0, 10, .inl u.2.2.2.2)), (vmc, .inl (cy 0, 10, .inl u.2.2.1))]
set_option maxHeartbeats 4000000 in
set_option maxRecDepth 100000 in
theorem m_careerFrom_5 (l : Launch) (dC : Nat → ClassId) (dI : Nat → Nat → Nat) (cy : Nat → ClassId) (sz : Nat) (vo : Nat) (voth : Int32) (vmt : Nat) (votp : Int32) (vosz : Int32) (volm : Int32) (voto : Int32) (vofr : Int32) (vokd : Int32) (vonu : Int32) (vosg : Int32) (vofa : Int32) (vopl : Int32) (vowd : Int64) (votd : Int32) (vmn : Nat) (vmr : Nat) (vmk : Nat) (vms : Nat) (vma : Nat) (vmm : Nat) (vmrn : Nat) (vmkn : Nat) (vmik : Nat) (vmon : Nat) (vosm : Int32) (vohp : Int32) (vmw : Nat) (vmf : Nat) (vmb : Nat) (vomb : Int32) (vmd : Nat) (vmc : Nat) (vocm : Int32) (voct : Int32) (vocy : Int32) (vmx : Nat) (votx : Int32) (vose : Int32) (vml : Nat) (vmwr : Nat) (voln : Int32) (vohw : Int32) (vmno : Nat) (vond : Int32) (voon : Int32) (vowi : Int32) (votop : Int32) (vmnf : Nat → Int32) (vmdf : Nat → Int32) (vmcf : Nat → Int32) (vm : Int32) (vlf : Int32) (vti : Int32) (vwe : Int32) (r_vocy : 0 ≤ (vocy : Int32).toInt ∧ (vocy : Int32).toInt ≤ 10) (r_vm : 0 ≤ (vm : Int32).toInt ∧ (vm : Int32).toInt ≤ 6) (r_vlf : 0 ≤ (vlf : Int32).toInt ∧ (vlf : Int32).toInt ≤ 10) (p_vmnf : NW vmnf) (hd : 5 ≤ (vmnf 1).toInt) : Met l yX11_careerFrom (wl yX11_careerFrom cX11_careerFrom 8 none) ({ frames := 6, cells := 0, slots := 0, locals := 384 }) (Pw (dC, dI) vwCl cy [(vo, .inr (12, [.int voth, .ref vmt, .int votp, .int vosz, .int volm, .int voto, .int vofr, .int vokd, .int vonu, .int vosg, .int vofa, .int vopl, .long vowd, .int votd, .ref vmn, .ref vmr, .ref vmk, .ref vms, .ref vma, .ref vmm, .ref vmrn, .ref vmkn, .ref vmik, .ref vmon, .int vosm, .int vohp, .ref vmw, .ref vmf, .ref vmb, .int vomb, .ref vmd, .ref vmc, .int vocm, .int voct, .int vocy, .ref vmx, .int votx, .int vose, .ref vml, .ref vmwr, .int voln, .int vohw, .ref vmno, .int vond, .int voon, .int vowi, .int votop])), (vmn, .inl (cy 0, 575, .inl vmnf)), (vmd, .inl (cy 0, 10, .inl vmdf)), (vmc, .inl (cy 0, 10, .inl vmcf))] sz [.ref vo, .int vm, .int 5, .int vlf, .int vti, .int vwe] nE) (Qv (dC, dI) vwCl (fun (u : Int32 × Int32 × (Nat → Int32) × Int32 × (Nat → Int32)) => (0 ≤ (u.2.2.2.1 : Int32).toInt ∧ (u.2.2.2.1 : Int32).toInt ≤ 10)) (O_m_careerFrom_5 cy vo voth vmt votp vosz volm voto vofr vokd vonu vosg vofa vopl vowd votd vmn vmr vmk vms vma vmm vmrn vmkn vmik vmon vosm vohp vmw vmf vmb vomb vmd vmc vocm voct vocy vmx votx vose vml vmwr voln vohw vmno vond voon vowi votop vmnf vmdf vmcf vm vlf vti vwe) (va_A [(vo, .inr (12, [.int voth, .ref vmt, .int votp, .int vosz, .int volm, .int voto, .int vofr, .int vokd, .int vonu, .int vosg, .int vofa, .int vopl, .long vowd, .int votd, .ref vmn, .ref vmr, .ref vmk, .ref vms, .ref vma, .ref vmm, .ref vmrn, .ref vmkn, .ref vmik, .ref vmon, .int vosm, .int vohp, .ref vmw, .ref vmf, .ref vmb, .int vomb, .ref vmd, .ref vmc, .int vocm, .int voct, .int vocy, .ref vmx, .int votx, .int vose, .ref vml, .ref vmwr, .int voln, .int vohw, .ref vmno, .int vond, .int voon, .int vowi, .int votop])), (vmn, .inl (cy 0, 575, .inl vmnf)), (vmd, .inl (cy 0, 10, .inl vmdf)), (vmc, .inl (cy 0, 10, .inl vmcf))] sz)) 0 0 (va_A [(vo, .inr (12, [.int voth, .ref vmt, .int votp, .int vosz, .int volm, .int voto, .int vofr, .int vokd, .int vonu, .int vosg, .int vofa, .int vopl, .long vowd, .int votd, .ref vmn, .ref vmr, .ref vmk, .ref vms, .ref vma, .ref vmm, .ref vmrn, .ref vmkn, .ref vmik, .ref vmon, .int vosm, .int vohp, .ref vmw, .ref vmf, .ref vmb, .int vomb, .ref vmd, .ref vmc, .int vocm, .int voct, .int vocy, .ref vmx, .int votx, .int vose, .ref vml, .ref vmwr, .int voln, .int vohw, .ref vmno, .int vond, .int voon, .int vowi, .int votop])), (vmn, .inl (cy 0, 575, .inl vmnf)), (vmd, .inl (cy 0, 10, .inl vmdf)), (vmc, .inl (cy 0, 10, .inl vmcf))] sz) := by
  refine mw (Qc := Qv (dC, dI) vwCl (fun (u : Int32 × Int32 × (Nat → Int32) × Int32 × (Nat → Int32)) => (0 ≤ (u.2.2.2.1 : Int32).toInt ∧ (u.2.2.2.1 : Int32).toInt ≤ 10)) (O_m_careerFrom_5 cy vo voth vmt votp vosz volm voto vofr vokd vonu vosg vofa vopl vowd votd vmn vmr vmk vms vma vmm vmrn vmkn vmik vmon vosm vohp vmw vmf vmb vomb vmd vmc vocm voct vocy vmx votx vose vml vmwr voln vohw vmno vond voon vowi votop vmnf vmdf vmcf vm vlf vti vwe)) RX11 rfl (by decide +kernel) (Nat.le_of_ble_eq_true rfl) ?_
  intro p e s m below meth c A hx hb hr hlocks av9 hav hts hown hnm hml hK hP hD hA hS hE hAe Q9 hQ9 ls hl
  have hl : lv_has ls 8 [(0, .ref vo), (1, .int vm), (2, .int 5), (3, .int vlf), (4, .int vti), (5, .int vwe)] := hl
  refine lv_iload_n hx hb dX11_careerFrom_0 rfl (lv_at hl 2 rfl) ?_
  refine lv_aload_n hx hb dX11_careerFrom_1 rfl (lv_at hl 0 rfl) ?_
  refine gf_X11_98 hx hb hts hown hK hP 0 rfl rfl dX11_careerFrom_2 ?_
  refine lv_iconst (v := 1) hx hb dX11_careerFrom_5 (by decide) ?_
  have k_1 : (1 : Int32).toInt = 1 := by decide
  have hin_1 : vp_in (1 : Int32) 575 := vp_in_iff.mpr ⟨by omega, by omega⟩
  refine va_iald hx hb hK hP 1 0 rfl rfl hin_1 dX11_careerFrom_6 ?_
  refine lv_topi (fun z_2 ez_2 => ?_)
  have bz_2 := p_vmnf.a1 (x := 1) ⟨by omega, by omega⟩ ez_2
  have tz_2 : z_2.toInt = (vmnf 1).toInt := by rw [ez_2]; rfl
  have k_5 : (5 : Int32).toInt = 5 := by decide
  refine lv_icmp_ne (tgt := 85) hx hb dX11_careerFrom_7 (by decide) (fun c_3 => ?_) (fun c_3 => ?_)
  · skip
    have c_3 : ¬ ((5 : Int32).toInt = z_2.toInt) := fun h9 => c_3 (i_eq.mpr h9)
    refine lv_iload_n hx hb dX11_careerFrom_85 rfl (lv_at hl 3 rfl) ?_
    refine lv_bipush (v := 9) hx hb dX11_careerFrom_86 (by decide) ?_
    refine lv_aload_n hx hb dX11_careerFrom_88 rfl (lv_at hl 0 rfl) ?_
    refine lv_iload_n hx hb dX11_careerFrom_89 rfl (lv_at hl 1 rfl) ?_
    refine lv_iload_n hx hb dX11_careerFrom_90 rfl (lv_at hl 2 rfl) ?_
    refine jr_i (rVr (As := [.int vm, .int 5]) (rest := [.int 9, .int vlf]) (ci := 12) ⟨hx, hb, hml, hown, hts⟩ (m_didOf l dC dI cy vo voth vmt votp vosz volm voto vofr vokd vonu vosg vofa vopl vowd votd vmn vmr vmk vms vma vmm vmrn vmkn vmik vmon vosm vohp vmw vmf vmb vomb vmd vmc vocm voct vocy vmx votx vose vml vmwr voln vohw vmno vond voon vowi votop vmnf vm 5 ⟨by omega, by omega⟩ ⟨by omega, by omega⟩ p_vmnf) (cw_X11_228 hts rfl rfl ⟨Nat.le_of_ble_eq_true rfl, Nat.le_of_ble_eq_true rfl⟩) hP hK [0, 1] rfl rfl rfl rfl hl.1 rfl (Nat.le_of_ble_eq_true rfl) dX11_careerFrom_91 ⟨Nat.le_of_ble_eq_true rfl, Nat.le_of_ble_eq_true rfl⟩) hP hS (fun r_4 H locs hp_5 hP hS => ?_)
    refine lv_isub hx hb dX11_careerFrom_94 ?_
    refine lv_topi (fun z_6 ez_6 => ?_)
    refine jr_i (rSr (As := [.int vlf, .int z_6]) (rest := []) ⟨hx, hb, hml, hown, hts⟩ (m_least l dC dI cy vlf z_6 ) (cw_X11_288 hts rfl rfl ⟨Nat.le_of_ble_eq_true rfl, Nat.le_of_ble_eq_true rfl⟩) hP hK [] rfl rfl hl.1 rfl (Nat.le_of_ble_eq_true rfl) dX11_careerFrom_95 ⟨Nat.le_of_ble_eq_true rfl, Nat.le_of_ble_eq_true rfl⟩) hP hS (fun r_7 H locs hp_8 hP hS => ?_)
    have hp_8 : ((r_7 : Int32).toInt ≤ (vlf : Int32).toInt) ∧ ((r_7 : Int32).toInt ≤ (z_6 : Int32).toInt) ∧ (((r_7 : Int32).toInt = (vlf : Int32).toInt ∨ (r_7 : Int32).toInt = (z_6 : Int32).toInt)) := hp_8
    obtain ⟨q_9, q_10, q_11⟩ := hp_8
    refine lv_istore (lv' := [(6, .int r_7), (0, .ref vo), (1, .int vm), (2, .int 5), (3, .int vlf), (4, .int vti), (5, .int vwe)]) hx hb dX11_careerFrom_98 hl (by decide) rfl (fun ls hl => ?_)
    refine lv_iconst (v := 0) hx hb dX11_careerFrom_100 (by decide) ?_
    refine lv_istore (lv' := [(7, .int 0), (6, .int r_7), (0, .ref vo), (1, .int vm), (2, .int 5), (3, .int vlf), (4, .int vti), (5, .int vwe)]) hx hb dX11_careerFrom_101 hl (by decide) rfl (fun ls hl => ?_)
    have loop12 : ∀ (n12 : Nat) (x_13 : Int32) (x_14 : Int32) (x_15 : Int32) (x_16 : Int32) (g_17 : Nat → Int32) (g_18 : Nat → Int32), (0 ≤ x_13.toInt ∧ x_13.toInt ≤ 11) → (0 ≤ x_16.toInt ∧ x_16.toInt ≤ 10) → 11 - x_13.toInt < (n12 : Int) → ∀ (H : Heap) (locs : List Loc), va_P (dC, dI) vwCl [(vo, .inr (12, [.int voth, .ref vmt, .int votp, .int vosz, .int volm, .int voto, .int vofr, .int vokd, .int vonu, .int vosg, .int vofa, .int vopl, .long vowd, .int votd, .ref vmn, .ref vmr, .ref vmk, .ref vms, .ref vma, .ref vmm, .ref vmrn, .ref vmkn, .ref vmik, .ref vmon, .int vosm, .int vohp, .ref vmw, .ref vmf, .ref vmb, .int vomb, .ref vmd, .ref vmc, .int x_14, .int x_15, .int x_16, .ref vmx, .int votx, .int vose, .ref vml, .ref vmwr, .int voln, .int vohw, .ref vmno, .int vond, .int voon, .int vowi, .int votop])), (vmn, .inl (cy 0, 575, .inl vmnf)), (vmd, .inl (cy 0, 10, .inl g_18)), (vmc, .inl (cy 0, 10, .inl g_17))] H → va_D A [(vo, .inr (12, [.int voth, .ref vmt, .int votp, .int vosz, .int volm, .int voto, .int vofr, .int vokd, .int vonu, .int vosg, .int vofa, .int vopl, .long vowd, .int votd, .ref vmn, .ref vmr, .ref vmk, .ref vms, .ref vma, .ref vmm, .ref vmrn, .ref vmkn, .ref vmik, .ref vmon, .int vosm, .int vohp, .ref vmw, .ref vmf, .ref vmb, .int vomb, .ref vmd, .ref vmc, .int x_14, .int x_15, .int x_16, .ref vmx, .int votx, .int vose, .ref vml, .ref vmwr, .int voln, .int vohw, .ref vmno, .int vond, .int voon, .int vowi, .int votop])), (vmn, .inl (cy 0, 575, .inl vmnf)), (vmd, .inl (cy 0, 10, .inl g_18)), (vmc, .inl (cy 0, 10, .inl g_17))] → va_S A s.heap H locs → ∀ ls : Array Slot, lv_has ls 8 [(7, .int x_13), (6, .int r_7), (0, .ref vo), (1, .int vm), (2, .int 5), (3, .int vlf), (4, .int vti), (5, .int vwe)] → W p l e ({ frames := 6, cells := 0, slots := 0, locals := 384 }) s m av9 below meth c H locs 0 0 Q9 (F0 m 103 ls []) := by
      intro n12
      induction n12 with
      | zero =>
        intro x_13 x_14 x_15 x_16 g_17 g_18 bx_13 bx_16 hn12 H locs hP hD hS ls hl
        exfalso; omega
      | succ n12 ih12 =>
        intro x_13 x_14 x_15 x_16 g_17 g_18 bx_13 bx_16 hn12 H locs hP hD hS ls hl
        refine lv_iload hx hb dX11_careerFrom_103 (lv_at hl 0 rfl) ?_
        refine lv_iload hx hb dX11_careerFrom_105 (lv_at hl 1 rfl) ?_
        refine lv_icmp_gt (tgt := 180) hx hb dX11_careerFrom_107 (by decide) (fun c_19 => ?_) (fun c_19 => ?_)
        · skip
          have c_19 : r_7.toInt < x_13.toInt := i_lt.mp c_19
          rw [hQ9]
          exact re_v (x_14, x_15, g_17, x_16, g_18) hx hb hr hlocks (show 0 ≤ (x_16 : Int32).toInt ∧ (x_16 : Int32).toInt ≤ 10 from ⟨by omega, by omega⟩) (hP.sub [0, 1, 2, 3] rfl) (hD.sub [0, 1, 2, 3] rfl rfl) hS dX11_careerFrom_180
        · skip
          have c_19 : ¬ (r_7.toInt < x_13.toInt) := fun h9 => c_19 (i_lt.mpr h9)
          refine lv_iload hx hb dX11_careerFrom_110 (lv_at hl 7 rfl) ?_
          refine lv_iload hx hb dX11_careerFrom_112 (lv_at hl 0 rfl) ?_
          refine lv_aload_n hx hb dX11_careerFrom_114 rfl (lv_at hl 2 rfl) ?_
          refine gf_X11_98 hx hb hts hown hK hP 0 rfl rfl dX11_careerFrom_115 ?_
          refine lv_bipush (v := 11) hx hb dX11_careerFrom_118 (by decide) ?_
          refine lv_iload_n hx hb dX11_careerFrom_120 rfl (lv_at hl 4 rfl) ?_
          refine lv_iadd hx hb dX11_careerFrom_121 ?_
          refine as_i 16 (by decide) ?_
          have k_16 : (16 : Int32).toInt = 16 := by decide
          have hin_20 : vp_in (16 : Int32) 575 := vp_in_iff.mpr ⟨by omega, by omega⟩
          refine va_iald hx hb hK hP 1 0 rfl rfl hin_20 dX11_careerFrom_122 ?_
          refine lv_topi (fun z_21 ez_21 => ?_)
          have bz_21 := p_vmnf.aw (x := 16) ⟨by omega, by omega⟩ ez_21
          have tz_21 : z_21.toInt = (vmnf 16).toInt := by rw [ez_21]; rfl
          refine lv_imul hx hb dX11_careerFrom_123 ?_
          refine lv_topi (fun z_22 ez_22 => ?_)
          have bz_22 : 0 ≤ z_22.toInt ∧ z_22.toInt ≤ 400 ∧ z_22.toInt = x_13.toInt * z_21.toInt := i_mulb (A := 10) (B := 40) ez_22 ⟨by omega, by omega⟩ ⟨by omega, by omega⟩ (by decide)
          refine lv_iadd hx hb dX11_careerFrom_124 ?_
          refine lv_topi (fun z_23 ez_23 => ?_)
          refine lv_aload_n hx hb dX11_careerFrom_125 rfl (lv_at hl 2 rfl) ?_
          refine gf_X11_98 hx hb hts hown hK hP 0 rfl rfl dX11_careerFrom_126 ?_
          refine lv_iconst (v := 2) hx hb dX11_careerFrom_129 (by decide) ?_
          have k_2 : (2 : Int32).toInt = 2 := by decide
          have hin_24 : vp_in (2 : Int32) 575 := vp_in_iff.mpr ⟨by omega, by omega⟩
          refine va_iald hx hb hK hP 1 0 rfl rfl hin_24 dX11_careerFrom_130 ?_
          refine lv_topi (fun z_25 ez_25 => ?_)
          have tz_25 : z_25.toInt = (vmnf 2).toInt := by rw [ez_25]; rfl
          refine lv_icmp_gt (tgt := 180) hx hb dX11_careerFrom_131 (by decide) (fun c_26 => ?_) (fun c_26 => ?_)
          · skip
            have c_26 : z_25.toInt < z_23.toInt := i_lt.mp c_26
            rw [hQ9]
            exact re_v (x_14, x_15, g_17, x_16, g_18) hx hb hr hlocks (show 0 ≤ (x_16 : Int32).toInt ∧ (x_16 : Int32).toInt ≤ 10 from ⟨by omega, by omega⟩) (hP.sub [0, 1, 2, 3] rfl) (hD.sub [0, 1, 2, 3] rfl rfl) hS dX11_careerFrom_180
          · skip
            have c_26 : ¬ (z_25.toInt < z_23.toInt) := fun h9 => c_26 (i_lt.mpr h9)
            refine lv_aload_n hx hb dX11_careerFrom_134 rfl (lv_at hl 2 rfl) ?_
            refine gf_X11_142 hx hb hts hown hK hP 0 rfl rfl dX11_careerFrom_135 ?_
            refine lv_iload_n hx hb dX11_careerFrom_138 rfl (lv_at hl 4 rfl) ?_
            refine lv_iload hx hb dX11_careerFrom_139 (lv_at hl 0 rfl) ?_
            have hin_27 : vp_in (5 : Int32) 10 := vp_in_iff.mpr ⟨by omega, by omega⟩
            refine va_iast hx hb hK hP hD hS 2 0 rfl rfl hin_27 dX11_careerFrom_141 (fun H locs hP hD hS => ?_)
            obtain ⟨f_28, ef_28⟩ : ∃ z : Nat → Int32, z = upd g_18 (Int32.toNatClampNeg 5) x_13 := ⟨_, rfl⟩
            have hP : va_P (dC, dI) vwCl [(vo, .inr (12, [.int voth, .ref vmt, .int votp, .int vosz, .int volm, .int voto, .int vofr, .int vokd, .int vonu, .int vosg, .int vofa, .int vopl, .long vowd, .int votd, .ref vmn, .ref vmr, .ref vmk, .ref vms, .ref vma, .ref vmm, .ref vmrn, .ref vmkn, .ref vmik, .ref vmon, .int vosm, .int vohp, .ref vmw, .ref vmf, .ref vmb, .int vomb, .ref vmd, .ref vmc, .int x_14, .int x_15, .int x_16, .ref vmx, .int votx, .int vose, .ref vml, .ref vmwr, .int voln, .int vohw, .ref vmno, .int vond, .int voon, .int vowi, .int votop])), (vmn, .inl (cy 0, 575, .inl vmnf)), (vmd, .inl (cy 0, 10, .inl f_28)), (vmc, .inl (cy 0, 10, .inl g_17))] H := by rw [ef_28]; exact hP
            have hD : va_D A [(vo, .inr (12, [.int voth, .ref vmt, .int votp, .int vosz, .int volm, .int voto, .int vofr, .int vokd, .int vonu, .int vosg, .int vofa, .int vopl, .long vowd, .int votd, .ref vmn, .ref vmr, .ref vmk, .ref vms, .ref vma, .ref vmm, .ref vmrn, .ref vmkn, .ref vmik, .ref vmon, .int vosm, .int vohp, .ref vmw, .ref vmf, .ref vmb, .int vomb, .ref vmd, .ref vmc, .int x_14, .int x_15, .int x_16, .ref vmx, .int votx, .int vose, .ref vml, .ref vmwr, .int voln, .int vohw, .ref vmno, .int vond, .int voon, .int vowi, .int votop])), (vmn, .inl (cy 0, 575, .inl vmnf)), (vmd, .inl (cy 0, 10, .inl f_28)), (vmc, .inl (cy 0, 10, .inl g_17))] := by rw [ef_28]; exact hD
            refine lv_aload_n hx hb dX11_careerFrom_142 rfl (lv_at hl 2 rfl) ?_
            refine lv_iload_n hx hb dX11_careerFrom_143 rfl (lv_at hl 3 rfl) ?_
            refine lv_iload_n hx hb dX11_careerFrom_144 rfl (lv_at hl 4 rfl) ?_
            refine lv_iconst (v := 1) hx hb dX11_careerFrom_145 (by decide) ?_
            refine lv_iadd hx hb dX11_careerFrom_146 ?_
            refine as_i 6 (by decide) ?_
            refine lv_iload_n hx hb dX11_careerFrom_147 rfl (lv_at hl 5 rfl) ?_
            refine lv_iload hx hb dX11_careerFrom_148 (lv_at hl 0 rfl) ?_
            refine lv_isub hx hb dX11_careerFrom_150 ?_
            refine lv_topi (fun z_29 ez_29 => ?_)
            have bz_29 : z_29.toInt = vlf.toInt - x_13.toInt := i_sub ez_29 (by omega) (by omega)
            refine lv_iload hx hb dX11_careerFrom_151 (lv_at hl 6 rfl) ?_
            refine lv_iload hx hb dX11_careerFrom_153 (lv_at hl 0 rfl) ?_
            refine lv_iadd hx hb dX11_careerFrom_155 ?_
            refine lv_topi (fun z_30 ez_30 => ?_)
            refine lv_iload hx hb dX11_careerFrom_156 (lv_at hl 7 rfl) ?_
            refine lv_iload hx hb dX11_careerFrom_158 (lv_at hl 0 rfl) ?_
            refine lv_aload_n hx hb dX11_careerFrom_160 rfl (lv_at hl 2 rfl) ?_
            refine gf_X11_98 hx hb hts hown hK hP 0 rfl rfl dX11_careerFrom_161 ?_
            refine lv_bipush (v := 11) hx hb dX11_careerFrom_164 (by decide) ?_
            refine lv_iload_n hx hb dX11_careerFrom_166 rfl (lv_at hl 4 rfl) ?_
            refine lv_iadd hx hb dX11_careerFrom_167 ?_
            refine as_i 16 (by decide) ?_
            have hin_31 : vp_in (16 : Int32) 575 := vp_in_iff.mpr ⟨by omega, by omega⟩
            refine va_iald hx hb hK hP 1 0 rfl rfl hin_31 dX11_careerFrom_168 ?_
            refine lv_topi (fun z_32 ez_32 => ?_)
            have bz_32 := p_vmnf.aw (x := 16) ⟨by omega, by omega⟩ ez_32
            have tz_32 : z_32.toInt = (vmnf 16).toInt := by rw [ez_32]; rfl
            refine lv_imul hx hb dX11_careerFrom_169 ?_
            refine lv_topi (fun z_33 ez_33 => ?_)
            have bz_33 : 0 ≤ z_33.toInt ∧ z_33.toInt ≤ 400 ∧ z_33.toInt = x_13.toInt * z_32.toInt := i_mulb (A := 10) (B := 40) ez_33 ⟨by omega, by omega⟩ ⟨by omega, by omega⟩ (by decide)
            refine lv_iadd hx hb dX11_careerFrom_170 ?_
            refine lv_topi (fun z_34 ez_34 => ?_)
            refine jn_v (wr := []) (rV (As := [.int vm, .int 6, .int z_29, .int z_30, .int z_34]) (rest := []) (ci := 12) ⟨hx, hb, hml, hown, hts⟩ (m_careerFrom_6 l dC dI cy _ vo voth vmt votp vosz volm voto vofr vokd vonu vosg vofa vopl vowd votd vmn vmr vmk vms vma vmm vmrn vmkn vmik vmon vosm vohp vmw vmf vmb vomb vmd vmc x_14 x_15 x_16 vmx votx vose vml vmwr voln vohw vmno vond voon vowi votop vmnf f_28 g_17 vm z_29 z_30 z_34 ⟨by omega, by omega⟩ r_vm ⟨by omega, by omega⟩ p_vmnf (by omega)) (cw_X11_331 hts rfl rfl ⟨Nat.le_of_ble_eq_true rfl, Nat.le_of_ble_eq_true rfl⟩) hP hD hK [0, 1, 2, 3] rfl rfl rfl rfl bl0 e0 rfl hl.1 rfl (Nat.le_of_ble_eq_true rfl) dX11_careerFrom_171 ⟨Nat.le_of_ble_eq_true rfl, Nat.le_of_ble_eq_true rfl⟩) hP hD hS hA [0, 1, 2, 3] [] rfl rfl rfl (by decide) (fun u_37 H locs hp_36 hP hD hS => ?_)
            obtain ⟨vocm_38, voct_39, vmcf_40, vocy_41, vmdf_42⟩ := u_37
            have hp_36 : (0 ≤ (vocy_41 : Int32).toInt ∧ (vocy_41 : Int32).toInt ≤ 10) := hp_36
            have q_43 := hp_36
            have hP : va_P (dC, dI) vwCl [(vo, .inr (12, [.int voth, .ref vmt, .int votp, .int vosz, .int volm, .int voto, .int vofr, .int vokd, .int vonu, .int vosg, .int vofa, .int vopl, .long vowd, .int votd, .ref vmn, .ref vmr, .ref vmk, .ref vms, .ref vma, .ref vmm, .ref vmrn, .ref vmkn, .ref vmik, .ref vmon, .int vosm, .int vohp, .ref vmw, .ref vmf, .ref vmb, .int vomb, .ref vmd, .ref vmc, .int vocm_38, .int voct_39, .int vocy_41, .ref vmx, .int votx, .int vose, .ref vml, .ref vmwr, .int voln, .int vohw, .ref vmno, .int vond, .int voon, .int vowi, .int votop])), (vmn, .inl (cy 0, 575, .inl vmnf)), (vmd, .inl (cy 0, 10, .inl vmdf_42)), (vmc, .inl (cy 0, 10, .inl vmcf_40))] H := hP
            have hD : va_D A [(vo, .inr (12, [.int voth, .ref vmt, .int votp, .int vosz, .int volm, .int voto, .int vofr, .int vokd, .int vonu, .int vosg, .int vofa, .int vopl, .long vowd, .int votd, .ref vmn, .ref vmr, .ref vmk, .ref vms, .ref vma, .ref vmm, .ref vmrn, .ref vmkn, .ref vmik, .ref vmon, .int vosm, .int vohp, .ref vmw, .ref vmf, .ref vmb, .int vomb, .ref vmd, .ref vmc, .int vocm_38, .int voct_39, .int vocy_41, .ref vmx, .int votx, .int vose, .ref vml, .ref vmwr, .int voln, .int vohw, .ref vmno, .int vond, .int voon, .int vowi, .int votop])), (vmn, .inl (cy 0, 575, .inl vmnf)), (vmd, .inl (cy 0, 10, .inl vmdf_42)), (vmc, .inl (cy 0, 10, .inl vmcf_40))] := hD
            obtain ⟨z_44, ez_44⟩ : ∃ z : Int32, z = x_13 + 1 := ⟨_, rfl⟩
            have bz_44 : z_44.toInt = x_13.toInt + (1 : Int32).toInt := i_add ez_44 (by omega) (by omega)
            refine lv_iinc (v := z_44) (lv' := [(7, .int z_44), (6, .int r_7), (0, .ref vo), (1, .int vm), (2, .int 5), (3, .int vlf), (4, .int vti), (5, .int vwe)]) hx hb dX11_careerFrom_174 hl (k := 0) rfl ez_44.symm (by decide) rfl (fun ls hl => ?_)
            refine lv_goto (tgt := 103) hx hb dX11_careerFrom_177 (by decide) ?_
            exact ih12 z_44 vocm_38 voct_39 vocy_41 vmcf_40 vmdf_42 ⟨by omega, by omega⟩ ⟨by omega, by omega⟩ (by omega) _ _ (hP.sub [0, 1, 2, 3] rfl) (hD.sub [0, 1, 2, 3] rfl rfl) hS ls (lv_sub hl [0, 1, 2, 3, 4, 5, 6, 7] rfl)
    have k_0 : (0 : Int32).toInt = 0 := by decide
    exact loop12 ((11 - (0 : Int32).toInt).toNat + 1) 0 vocm voct vocy vmcf vmdf ⟨by omega, by omega⟩ ⟨by omega, by omega⟩ (by omega) _ _ hP hD hS ls (lv_sub hl [0, 1, 2, 3, 4, 5, 6, 7] rfl)
  · skip
    have c_3 : (5 : Int32).toInt = z_2.toInt := i_eq.mp c_3
    have join45 : ∀ (H : Heap) (locs : List Loc), va_P (dC, dI) vwCl [(vo, .inr (12, [.int voth, .ref vmt, .int votp, .int vosz, .int volm, .int voto, .int vofr, .int vokd, .int vonu, .int vosg, .int vofa, .int vopl, .long vowd, .int votd, .ref vmn, .ref vmr, .ref vmk, .ref vms, .ref vma, .ref vmm, .ref vmrn, .ref vmkn, .ref vmik, .ref vmon, .int vosm, .int vohp, .ref vmw, .ref vmf, .ref vmb, .int vomb, .ref vmd, .ref vmc, .int vocm, .int voct, .int vocy, .ref vmx, .int votx, .int vose, .ref vml, .ref vmwr, .int voln, .int vohw, .ref vmno, .int vond, .int voon, .int vowi, .int votop])), (vmn, .inl (cy 0, 575, .inl vmnf)), (vmd, .inl (cy 0, 10, .inl vmdf)), (vmc, .inl (cy 0, 10, .inl vmcf))] H → va_D A [(vo, .inr (12, [.int voth, .ref vmt, .int votp, .int vosz, .int volm, .int voto, .int vofr, .int vokd, .int vonu, .int vosg, .int vofa, .int vopl, .long vowd, .int votd, .ref vmn, .ref vmr, .ref vmk, .ref vms, .ref vma, .ref vmm, .ref vmrn, .ref vmkn, .ref vmik, .ref vmon, .int vosm, .int vohp, .ref vmw, .ref vmf, .ref vmb, .int vomb, .ref vmd, .ref vmc, .int vocm, .int voct, .int vocy, .ref vmx, .int votx, .int vose, .ref vml, .ref vmwr, .int voln, .int vohw, .ref vmno, .int vond, .int voon, .int vowi, .int votop])), (vmn, .inl (cy 0, 575, .inl vmnf)), (vmd, .inl (cy 0, 10, .inl vmdf)), (vmc, .inl (cy 0, 10, .inl vmcf))] → va_S A s.heap H locs → ∀ ls : Array Slot, lv_has ls 8 [(0, .ref vo), (1, .int vm), (2, .int 5), (3, .int vlf), (4, .int vti), (5, .int vwe)] → W p l e ({ frames := 6, cells := 0, slots := 0, locals := 384 }) s m av9 below meth c H locs 0 0 Q9 (F0 m 38 ls []) := by
      intro  H locs hP hD hS ls hl
      refine lv_aload_n hx hb dX11_careerFrom_38 rfl (lv_at hl 0 rfl) ?_
      refine lv_iload hx hb dX11_careerFrom_39 (lv_at hl 5 rfl) ?_
      refine pf_X11_322 hx hb hts hown hK hP hD hS 0 rfl rfl rfl (Nat.le_of_ble_eq_true rfl) dX11_careerFrom_41 (fun H locs hP hD hS => ?_)
      have hP : va_P (dC, dI) vwCl [(vo, .inr (12, [.int voth, .ref vmt, .int votp, .int vosz, .int volm, .int voto, .int vofr, .int vokd, .int vonu, .int vosg, .int vofa, .int vopl, .long vowd, .int votd, .ref vmn, .ref vmr, .ref vmk, .ref vms, .ref vma, .ref vmm, .ref vmrn, .ref vmkn, .ref vmik, .ref vmon, .int vosm, .int vohp, .ref vmw, .ref vmf, .ref vmb, .int vomb, .ref vmd, .ref vmc, .int vwe, .int voct, .int vocy, .ref vmx, .int votx, .int vose, .ref vml, .ref vmwr, .int voln, .int vohw, .ref vmno, .int vond, .int voon, .int vowi, .int votop])), (vmn, .inl (cy 0, 575, .inl vmnf)), (vmd, .inl (cy 0, 10, .inl vmdf)), (vmc, .inl (cy 0, 10, .inl vmcf))] H := hP
      have hD : va_D A [(vo, .inr (12, [.int voth, .ref vmt, .int votp, .int vosz, .int volm, .int voto, .int vofr, .int vokd, .int vonu, .int vosg, .int vofa, .int vopl, .long vowd, .int votd, .ref vmn, .ref vmr, .ref vmk, .ref vms, .ref vma, .ref vmm, .ref vmrn, .ref vmkn, .ref vmik, .ref vmon, .int vosm, .int vohp, .ref vmw, .ref vmf, .ref vmb, .int vomb, .ref vmd, .ref vmc, .int vwe, .int voct, .int vocy, .ref vmx, .int votx, .int vose, .ref vml, .ref vmwr, .int voln, .int vohw, .ref vmno, .int vond, .int voon, .int vowi, .int votop])), (vmn, .inl (cy 0, 575, .inl vmnf)), (vmd, .inl (cy 0, 10, .inl vmdf)), (vmc, .inl (cy 0, 10, .inl vmcf))] := hD
      refine lv_aload_n hx hb dX11_careerFrom_44 rfl (lv_at hl 0 rfl) ?_
      refine lv_iload hx hb dX11_careerFrom_45 (lv_at hl 4 rfl) ?_
      refine pf_X11_325 hx hb hts hown hK hP hD hS 0 rfl rfl rfl (Nat.le_of_ble_eq_true rfl) dX11_careerFrom_47 (fun H locs hP hD hS => ?_)
      have hP : va_P (dC, dI) vwCl [(vo, .inr (12, [.int voth, .ref vmt, .int votp, .int vosz, .int volm, .int voto, .int vofr, .int vokd, .int vonu, .int vosg, .int vofa, .int vopl, .long vowd, .int votd, .ref vmn, .ref vmr, .ref vmk, .ref vms, .ref vma, .ref vmm, .ref vmrn, .ref vmkn, .ref vmik, .ref vmon, .int vosm, .int vohp, .ref vmw, .ref vmf, .ref vmb, .int vomb, .ref vmd, .ref vmc, .int vwe, .int vti, .int vocy, .ref vmx, .int votx, .int vose, .ref vml, .ref vmwr, .int voln, .int vohw, .ref vmno, .int vond, .int voon, .int vowi, .int votop])), (vmn, .inl (cy 0, 575, .inl vmnf)), (vmd, .inl (cy 0, 10, .inl vmdf)), (vmc, .inl (cy 0, 10, .inl vmcf))] H := hP
      have hD : va_D A [(vo, .inr (12, [.int voth, .ref vmt, .int votp, .int vosz, .int volm, .int voto, .int vofr, .int vokd, .int vonu, .int vosg, .int vofa, .int vopl, .long vowd, .int votd, .ref vmn, .ref vmr, .ref vmk, .ref vms, .ref vma, .ref vmm, .ref vmrn, .ref vmkn, .ref vmik, .ref vmon, .int vosm, .int vohp, .ref vmw, .ref vmf, .ref vmb, .int vomb, .ref vmd, .ref vmc, .int vwe, .int vti, .int vocy, .ref vmx, .int votx, .int vose, .ref vml, .ref vmwr, .int voln, .int vohw, .ref vmno, .int vond, .int voon, .int vowi, .int votop])), (vmn, .inl (cy 0, 575, .inl vmnf)), (vmd, .inl (cy 0, 10, .inl vmdf)), (vmc, .inl (cy 0, 10, .inl vmcf))] := hD
      refine lv_iconst (v := 0) hx hb dX11_careerFrom_50 (by decide) ?_
      refine lv_istore (lv' := [(6, .int 0), (0, .ref vo), (1, .int vm), (2, .int 5), (3, .int vlf), (4, .int vti), (5, .int vwe)]) hx hb dX11_careerFrom_51 hl (by decide) rfl (fun ls hl => ?_)
      have loop46 : ∀ (n46 : Nat) (x_47 : Int32) (g_48 : Nat → Int32), (0 ≤ x_47.toInt ∧ x_47.toInt ≤ 10) → 10 - x_47.toInt < (n46 : Int) → ∀ (H : Heap) (locs : List Loc), va_P (dC, dI) vwCl [(vo, .inr (12, [.int voth, .ref vmt, .int votp, .int vosz, .int volm, .int voto, .int vofr, .int vokd, .int vonu, .int vosg, .int vofa, .int vopl, .long vowd, .int votd, .ref vmn, .ref vmr, .ref vmk, .ref vms, .ref vma, .ref vmm, .ref vmrn, .ref vmkn, .ref vmik, .ref vmon, .int vosm, .int vohp, .ref vmw, .ref vmf, .ref vmb, .int vomb, .ref vmd, .ref vmc, .int vwe, .int vti, .int vocy, .ref vmx, .int votx, .int vose, .ref vml, .ref vmwr, .int voln, .int vohw, .ref vmno, .int vond, .int voon, .int vowi, .int votop])), (vmn, .inl (cy 0, 575, .inl vmnf)), (vmd, .inl (cy 0, 10, .inl vmdf)), (vmc, .inl (cy 0, 10, .inl g_48))] H → va_D A [(vo, .inr (12, [.int voth, .ref vmt, .int votp, .int vosz, .int volm, .int voto, .int vofr, .int vokd, .int vonu, .int vosg, .int vofa, .int vopl, .long vowd, .int votd, .ref vmn, .ref vmr, .ref vmk, .ref vms, .ref vma, .ref vmm, .ref vmrn, .ref vmkn, .ref vmik, .ref vmon, .int vosm, .int vohp, .ref vmw, .ref vmf, .ref vmb, .int vomb, .ref vmd, .ref vmc, .int vwe, .int vti, .int vocy, .ref vmx, .int votx, .int vose, .ref vml, .ref vmwr, .int voln, .int vohw, .ref vmno, .int vond, .int voon, .int vowi, .int votop])), (vmn, .inl (cy 0, 575, .inl vmnf)), (vmd, .inl (cy 0, 10, .inl vmdf)), (vmc, .inl (cy 0, 10, .inl g_48))] → va_S A s.heap H locs → ∀ ls : Array Slot, lv_has ls 8 [(6, .int x_47), (0, .ref vo), (1, .int vm), (2, .int 5), (3, .int vlf), (4, .int vti), (5, .int vwe)] → W p l e ({ frames := 6, cells := 0, slots := 0, locals := 384 }) s m av9 below meth c H locs 0 0 Q9 (F0 m 53 ls []) := by
        intro n46
        induction n46 with
        | zero =>
          intro x_47 g_48 bx_47 hn46 H locs hP hD hS ls hl
          exfalso; omega
        | succ n46 ih46 =>
          intro x_47 g_48 bx_47 hn46 H locs hP hD hS ls hl
          refine lv_iload hx hb dX11_careerFrom_53 (lv_at hl 0 rfl) ?_
          refine lv_iload_n hx hb dX11_careerFrom_55 rfl (lv_at hl 3 rfl) ?_
          refine lv_icmp_ge (tgt := 79) hx hb dX11_careerFrom_56 (by decide) (fun c_49 => ?_) (fun c_49 => ?_)
          · skip
            have c_49 : (5 : Int32).toInt ≤ x_47.toInt := i_le.mp c_49
            refine lv_aload_n hx hb dX11_careerFrom_79 rfl (lv_at hl 1 rfl) ?_
            refine lv_iload_n hx hb dX11_careerFrom_80 rfl (lv_at hl 3 rfl) ?_
            refine pf_X11_328 hx hb hts hown hK hP hD hS 0 rfl rfl rfl (Nat.le_of_ble_eq_true rfl) dX11_careerFrom_81 (fun H locs hP hD hS => ?_)
            have hP : va_P (dC, dI) vwCl [(vo, .inr (12, [.int voth, .ref vmt, .int votp, .int vosz, .int volm, .int voto, .int vofr, .int vokd, .int vonu, .int vosg, .int vofa, .int vopl, .long vowd, .int votd, .ref vmn, .ref vmr, .ref vmk, .ref vms, .ref vma, .ref vmm, .ref vmrn, .ref vmkn, .ref vmik, .ref vmon, .int vosm, .int vohp, .ref vmw, .ref vmf, .ref vmb, .int vomb, .ref vmd, .ref vmc, .int vwe, .int vti, .int 5, .ref vmx, .int votx, .int vose, .ref vml, .ref vmwr, .int voln, .int vohw, .ref vmno, .int vond, .int voon, .int vowi, .int votop])), (vmn, .inl (cy 0, 575, .inl vmnf)), (vmd, .inl (cy 0, 10, .inl vmdf)), (vmc, .inl (cy 0, 10, .inl g_48))] H := hP
            have hD : va_D A [(vo, .inr (12, [.int voth, .ref vmt, .int votp, .int vosz, .int volm, .int voto, .int vofr, .int vokd, .int vonu, .int vosg, .int vofa, .int vopl, .long vowd, .int votd, .ref vmn, .ref vmr, .ref vmk, .ref vms, .ref vma, .ref vmm, .ref vmrn, .ref vmkn, .ref vmik, .ref vmon, .int vosm, .int vohp, .ref vmw, .ref vmf, .ref vmb, .int vomb, .ref vmd, .ref vmc, .int vwe, .int vti, .int 5, .ref vmx, .int votx, .int vose, .ref vml, .ref vmwr, .int voln, .int vohw, .ref vmno, .int vond, .int voon, .int vowi, .int votop])), (vmn, .inl (cy 0, 575, .inl vmnf)), (vmd, .inl (cy 0, 10, .inl vmdf)), (vmc, .inl (cy 0, 10, .inl g_48))] := hD
            rw [hQ9]
            exact re_v (vwe, vti, g_48, (5 : Int32), vmdf) hx hb hr hlocks (show 0 ≤ (5 : Int32).toInt ∧ (5 : Int32).toInt ≤ 10 from ⟨by omega, by omega⟩) (hP.sub [0, 1, 2, 3] rfl) (hD.sub [0, 1, 2, 3] rfl rfl) hS dX11_careerFrom_84
          · skip
            have c_49 : ¬ ((5 : Int32).toInt ≤ x_47.toInt) := fun h9 => c_49 (i_le.mpr h9)
            refine lv_aload_n hx hb dX11_careerFrom_59 rfl (lv_at hl 1 rfl) ?_
            refine gf_X11_145 hx hb hts hown hK hP 0 rfl rfl dX11_careerFrom_60 ?_
            refine lv_iload hx hb dX11_careerFrom_63 (lv_at hl 0 rfl) ?_
            refine lv_aload_n hx hb dX11_careerFrom_65 rfl (lv_at hl 1 rfl) ?_
            refine gf_X11_142 hx hb hts hown hK hP 0 rfl rfl dX11_careerFrom_66 ?_
            refine lv_iload hx hb dX11_careerFrom_69 (lv_at hl 0 rfl) ?_
            have hin_50 : vp_in x_47 10 := vp_in_iff.mpr ⟨by omega, by omega⟩
            refine va_iald hx hb hK hP 2 0 rfl rfl hin_50 dX11_careerFrom_71 ?_
            refine lv_topi (fun z_51 ez_51 => ?_)
            have hin_52 : vp_in x_47 10 := vp_in_iff.mpr ⟨by omega, by omega⟩
            refine va_iast hx hb hK hP hD hS 3 0 rfl rfl hin_52 dX11_careerFrom_72 (fun H locs hP hD hS => ?_)
            obtain ⟨f_53, ef_53⟩ : ∃ z : Nat → Int32, z = upd g_48 (Int32.toNatClampNeg x_47) z_51 := ⟨_, rfl⟩
            have hP : va_P (dC, dI) vwCl [(vo, .inr (12, [.int voth, .ref vmt, .int votp, .int vosz, .int volm, .int voto, .int vofr, .int vokd, .int vonu, .int vosg, .int vofa, .int vopl, .long vowd, .int votd, .ref vmn, .ref vmr, .ref vmk, .ref vms, .ref vma, .ref vmm, .ref vmrn, .ref vmkn, .ref vmik, .ref vmon, .int vosm, .int vohp, .ref vmw, .ref vmf, .ref vmb, .int vomb, .ref vmd, .ref vmc, .int vwe, .int vti, .int vocy, .ref vmx, .int votx, .int vose, .ref vml, .ref vmwr, .int voln, .int vohw, .ref vmno, .int vond, .int voon, .int vowi, .int votop])), (vmn, .inl (cy 0, 575, .inl vmnf)), (vmd, .inl (cy 0, 10, .inl vmdf)), (vmc, .inl (cy 0, 10, .inl f_53))] H := by rw [ef_53]; exact hP
            have hD : va_D A [(vo, .inr (12, [.int voth, .ref vmt, .int votp, .int vosz, .int volm, .int voto, .int vofr, .int vokd, .int vonu, .int vosg, .int vofa, .int vopl, .long vowd, .int votd, .ref vmn, .ref vmr, .ref vmk, .ref vms, .ref vma, .ref vmm, .ref vmrn, .ref vmkn, .ref vmik, .ref vmon, .int vosm, .int vohp, .ref vmw, .ref vmf, .ref vmb, .int vomb, .ref vmd, .ref vmc, .int vwe, .int vti, .int vocy, .ref vmx, .int votx, .int vose, .ref vml, .ref vmwr, .int voln, .int vohw, .ref vmno, .int vond, .int voon, .int vowi, .int votop])), (vmn, .inl (cy 0, 575, .inl vmnf)), (vmd, .inl (cy 0, 10, .inl vmdf)), (vmc, .inl (cy 0, 10, .inl f_53))] := by rw [ef_53]; exact hD
            obtain ⟨z_54, ez_54⟩ : ∃ z : Int32, z = x_47 + 1 := ⟨_, rfl⟩
            have bz_54 : z_54.toInt = x_47.toInt + (1 : Int32).toInt := i_add ez_54 (by omega) (by omega)
            refine lv_iinc (v := z_54) (lv' := [(6, .int z_54), (0, .ref vo), (1, .int vm), (2, .int 5), (3, .int vlf), (4, .int vti), (5, .int vwe)]) hx hb dX11_careerFrom_73 hl (k := 0) rfl ez_54.symm (by decide) rfl (fun ls hl => ?_)
            refine lv_goto (tgt := 53) hx hb dX11_careerFrom_76 (by decide) ?_
            exact ih46 z_54 f_53 ⟨by omega, by omega⟩ (by omega) _ _ (hP.sub [0, 1, 2, 3] rfl) (hD.sub [0, 1, 2, 3] rfl rfl) hS ls (lv_sub hl [0, 1, 2, 3, 4, 5, 6] rfl)
      have k_0 : (0 : Int32).toInt = 0 := by decide
      exact loop46 ((10 - (0 : Int32).toInt).toNat + 1) 0 vmcf ⟨by omega, by omega⟩ (by omega) _ _ hP hD hS ls (lv_sub hl [0, 1, 2, 3, 4, 5, 6] rfl)
    refine lv_iload hx hb dX11_careerFrom_10 (lv_at hl 5 rfl) ?_
    refine lv_aload_n hx hb dX11_careerFrom_12 rfl (lv_at hl 0 rfl) ?_
    refine gf_X11_322 hx hb hts hown hK hP 0 rfl rfl dX11_careerFrom_13 ?_
    refine lv_icmp_lt (tgt := 37) hx hb dX11_careerFrom_16 (by decide) (fun c_55 => ?_) (fun c_55 => ?_)
    · skip
      have c_55 : vwe.toInt < vocm.toInt := i_lt.mp c_55
      rw [hQ9]
      exact re_v (vocm, voct, vmcf, vocy, vmdf) hx hb hr hlocks (show 0 ≤ (vocy : Int32).toInt ∧ (vocy : Int32).toInt ≤ 10 from ⟨by omega, by omega⟩) (hP.sub [0, 1, 2, 3] rfl) (hD.sub [0, 1, 2, 3] rfl rfl) hS dX11_careerFrom_37
    · skip
      have c_55 : ¬ (vwe.toInt < vocm.toInt) := fun h9 => c_55 (i_lt.mpr h9)
      refine lv_iload hx hb dX11_careerFrom_19 (lv_at hl 5 rfl) ?_
      refine lv_aload_n hx hb dX11_careerFrom_21 rfl (lv_at hl 0 rfl) ?_
      refine gf_X11_322 hx hb hts hown hK hP 0 rfl rfl dX11_careerFrom_22 ?_
      refine lv_icmp_ne (tgt := 38) hx hb dX11_careerFrom_25 (by decide) (fun c_56 => ?_) (fun c_56 => ?_)
      · skip
        have c_56 : ¬ (vwe.toInt = vocm.toInt) := fun h9 => c_56 (i_eq.mpr h9)
        exact join45  _ _ (hP.sub [0, 1, 2, 3] rfl) (hD.sub [0, 1, 2, 3] rfl rfl) hS ls (lv_sub hl [0, 1, 2, 3, 4, 5] rfl)
      · skip
        have c_56 : vwe.toInt = vocm.toInt := i_eq.mp c_56
        refine lv_iload hx hb dX11_careerFrom_28 (lv_at hl 4 rfl) ?_
        refine lv_aload_n hx hb dX11_careerFrom_30 rfl (lv_at hl 0 rfl) ?_
        refine gf_X11_325 hx hb hts hown hK hP 0 rfl rfl dX11_careerFrom_31 ?_
        refine lv_icmp_lt (tgt := 38) hx hb dX11_careerFrom_34 (by decide) (fun c_57 => ?_) (fun c_57 => ?_)
        · skip
          have c_57 : vti.toInt < voct.toInt := i_lt.mp c_57
          exact join45  _ _ (hP.sub [0, 1, 2, 3] rfl) (hD.sub [0, 1, 2, 3] rfl rfl) hS ls (lv_sub hl [0, 1, 2, 3, 4, 5] rfl)
        · skip
          have c_57 : ¬ (vti.toInt < voct.toInt) := fun h9 => c_57 (i_lt.mpr h9)
          rw [hQ9]
          exact re_v (vocm, voct, vmcf, vocy, vmdf) hx hb hr hlocks (show 0 ≤ (vocy : Int32).toInt ∧ (vocy : Int32).toInt ≤ 10 from ⟨by omega, by omega⟩) (hP.sub [0, 1, 2, 3] rfl) (hD.sub [0, 1, 2, 3] rfl rfl) hS dX11_careerFrom_37
abbrev O_m_careerFrom_4 (cy : Nat → ClassId) (vo : Nat) (voth : Int32) (vmt : Nat) (votp : Int32) (vosz : Int32) (volm : Int32) (voto : Int32) (vofr : Int32) (vokd : Int32) (vonu : Int32) (vosg : Int32) (vofa : Int32) (vopl : Int32) (vowd : Int64) (votd : Int32) (vmn : Nat) (vmr : Nat) (vmk : Nat) (vms : Nat) (vma : Nat) (vmm : Nat) (vmrn : Nat) (vmkn : Nat) (vmik : Nat) (vmon : Nat) (vosm : Int32) (vohp : Int32) (vmw : Nat) (vmf : Nat) (vmb : Nat) (vomb : Int32) (vmd : Nat) (vmc : Nat) (vocm : Int32) (voct : Int32) (vocy : Int32) (vmx : Nat) (votx : Int32) (vose : Int32) (vml : Nat) (vmwr : Nat) (voln : Int32) (vohw : Int32) (vmno : Nat) (vond : Int32) (voon : Int32) (vowi : Int32) (votop : Int32) (vmnf : Nat → Int32) (vmdf : Nat → Int32) (vmcf : Nat → Int32) (vm : Int32) (vlf : Int32) (vti : Int32) (vwe : Int32) (u : Int32 × Int32 × (Nat → Int32) × Int32 × (Nat → Int32)) : va_W := [(vo, .inr (12, [.int voth, .ref vmt, .int votp, .int vosz, .int volm, .int voto, .int vofr, .int vokd, .int vonu, .int vosg, .int vofa, .int vopl, .long vowd, .int votd, .ref vmn, .ref vmr, .ref vmk, .ref vms, .ref vma, .ref vmm, .ref vmrn, .ref vmkn, .ref vmik, .ref vmon, .int vosm, .int vohp, .ref vmw, .ref vmf, .ref vmb, .int vomb, .ref vmd, .ref vmc, .int u.1, .int u.2.1, .int u.2.2.2.1, .ref vmx, .int votx, .int vose, .ref vml, .ref vmwr, .int voln, .int vohw, .ref vmno, .int vond, .int voon, .int vowi, .int votop])), (vmn, .inl (cy 0, 575, .inl vmnf)), (vmd, .inl (cy 0, 10, .inl u.2.2.2.2)), (vmc, .inl (cy 0, 10, .inl u.2.2.1))]
set_option maxHeartbeats 4000000 in
set_option maxRecDepth 100000 in
theorem m_careerFrom_4 (l : Launch) (dC : Nat → ClassId) (dI : Nat → Nat → Nat) (cy : Nat → ClassId) (sz : Nat) (vo : Nat) (voth : Int32) (vmt : Nat) (votp : Int32) (vosz : Int32) (volm : Int32) (voto : Int32) (vofr : Int32) (vokd : Int32) (vonu : Int32) (vosg : Int32) (vofa : Int32) (vopl : Int32) (vowd : Int64) (votd : Int32) (vmn : Nat) (vmr : Nat) (vmk : Nat) (vms : Nat) (vma : Nat) (vmm : Nat) (vmrn : Nat) (vmkn : Nat) (vmik : Nat) (vmon : Nat) (vosm : Int32) (vohp : Int32) (vmw : Nat) (vmf : Nat) (vmb : Nat) (vomb : Int32) (vmd : Nat) (vmc : Nat) (vocm : Int32) (voct : Int32) (vocy : Int32) (vmx : Nat) (votx : Int32) (vose : Int32) (vml : Nat) (vmwr : Nat) (voln : Int32) (vohw : Int32) (vmno : Nat) (vond : Int32) (voon : Int32) (vowi : Int32) (votop : Int32) (vmnf : Nat → Int32) (vmdf : Nat → Int32) (vmcf : Nat → Int32) (vm : Int32) (vlf : Int32) (vti : Int32) (vwe : Int32) (r_vocy : 0 ≤ (vocy : Int32).toInt ∧ (vocy : Int32).toInt ≤ 10) (r_vm : 0 ≤ (vm : Int32).toInt ∧ (vm : Int32).toInt ≤ 6) (r_vlf : 0 ≤ (vlf : Int32).toInt ∧ (vlf : Int32).toInt ≤ 10) (p_vmnf : NW vmnf) (hd : 4 ≤ (vmnf 1).toInt) : Met l yX11_careerFrom (wl yX11_careerFrom cX11_careerFrom 8 none) ({ frames := 7, cells := 0, slots := 0, locals := 448 }) (Pw (dC, dI) vwCl cy [(vo, .inr (12, [.int voth, .ref vmt, .int votp, .int vosz, .int volm, .int voto, .int vofr, .int vokd, .int vonu, .int vosg, .int vofa, .int vopl, .long vowd, .int votd, .ref vmn, .ref vmr, .ref vmk, .ref vms, .ref vma, .ref vmm, .ref vmrn, .ref vmkn, .ref vmik, .ref vmon, .int vosm, .int vohp, .ref vmw, .ref vmf, .ref vmb, .int vomb, .ref vmd, .ref vmc, .int vocm, .int voct, .int vocy, .ref vmx, .int votx, .int vose, .ref vml, .ref vmwr, .int voln, .int vohw, .ref vmno, .int vond, .int voon, .int vowi, .int votop])), (vmn, .inl (cy 0, 575, .inl vmnf)), (vmd, .inl (cy 0, 10, .inl vmdf)), (vmc, .inl (cy 0, 10, .inl vmcf))] sz [.ref vo, .int vm, .int 4, .int vlf, .int vti, .int vwe] nE) (Qv (dC, dI) vwCl (fun (u : Int32 × Int32 × (Nat → Int32) × Int32 × (Nat → Int32)) => (0 ≤ (u.2.2.2.1 : Int32).toInt ∧ (u.2.2.2.1 : Int32).toInt ≤ 10)) (O_m_careerFrom_4 cy vo voth vmt votp vosz volm voto vofr vokd vonu vosg vofa vopl vowd votd vmn vmr vmk vms vma vmm vmrn vmkn vmik vmon vosm vohp vmw vmf vmb vomb vmd vmc vocm voct vocy vmx votx vose vml vmwr voln vohw vmno vond voon vowi votop vmnf vmdf vmcf vm vlf vti vwe) (va_A [(vo, .inr (12, [.int voth, .ref vmt, .int votp, .int vosz, .int volm, .int voto, .int vofr, .int vokd, .int vonu, .int vosg, .int vofa, .int vopl, .long vowd, .int votd, .ref vmn, .ref vmr, .ref vmk, .ref vms, .ref vma, .ref vmm, .ref vmrn, .ref vmkn, .ref vmik, .ref vmon, .int vosm, .int vohp, .ref vmw, .ref vmf, .ref vmb, .int vomb, .ref vmd, .ref vmc, .int vocm, .int voct, .int vocy, .ref vmx, .int votx, .int vose, .ref vml, .ref vmwr, .int voln, .int vohw, .ref vmno, .int vond, .int voon, .int vowi, .int votop])), (vmn, .inl (cy 0, 575, .inl vmnf)), (vmd, .inl (cy 0, 10, .inl vmdf)), (vmc, .inl (cy 0, 10, .inl vmcf))] sz)) 0 0 (va_A [(vo, .inr (12, [.int voth, .ref vmt, .int votp, .int vosz, .int volm, .int voto, .int vofr, .int vokd, .int vonu, .int vosg, .int vofa, .int vopl, .long vowd, .int votd, .ref vmn, .ref vmr, .ref vmk, .ref vms, .ref vma, .ref vmm, .ref vmrn, .ref vmkn, .ref vmik, .ref vmon, .int vosm, .int vohp, .ref vmw, .ref vmf, .ref vmb, .int vomb, .ref vmd, .ref vmc, .int vocm, .int voct, .int vocy, .ref vmx, .int votx, .int vose, .ref vml, .ref vmwr, .int voln, .int vohw, .ref vmno, .int vond, .int voon, .int vowi, .int votop])), (vmn, .inl (cy 0, 575, .inl vmnf)), (vmd, .inl (cy 0, 10, .inl vmdf)), (vmc, .inl (cy 0, 10, .inl vmcf))] sz) := by
  refine mw (Qc := Qv (dC, dI) vwCl (fun (u : Int32 × Int32 × (Nat → Int32) × Int32 × (Nat → Int32)) => (0 ≤ (u.2.2.2.1 : Int32).toInt ∧ (u.2.2.2.1 : Int32).toInt ≤ 10)) (O_m_careerFrom_4 cy vo voth vmt votp vosz volm voto vofr vokd vonu vosg vofa vopl vowd votd vmn vmr vmk vms vma vmm vmrn vmkn vmik vmon vosm vohp vmw vmf vmb vomb vmd vmc vocm voct vocy vmx votx vose vml vmwr voln vohw vmno vond voon vowi votop vmnf vmdf vmcf vm vlf vti vwe)) RX11 rfl (by decide +kernel) (Nat.le_of_ble_eq_true rfl) ?_
  intro p e s m below meth c A hx hb hr hlocks av9 hav hts hown hnm hml hK hP hD hA hS hE hAe Q9 hQ9 ls hl
  have hl : lv_has ls 8 [(0, .ref vo), (1, .int vm), (2, .int 4), (3, .int vlf), (4, .int vti), (5, .int vwe)] := hl
  refine lv_iload_n hx hb dX11_careerFrom_0 rfl (lv_at hl 2 rfl) ?_
  refine lv_aload_n hx hb dX11_careerFrom_1 rfl (lv_at hl 0 rfl) ?_
  refine gf_X11_98 hx hb hts hown hK hP 0 rfl rfl dX11_careerFrom_2 ?_
  refine lv_iconst (v := 1) hx hb dX11_careerFrom_5 (by decide) ?_
  have k_1 : (1 : Int32).toInt = 1 := by decide
  have hin_1 : vp_in (1 : Int32) 575 := vp_in_iff.mpr ⟨by omega, by omega⟩
  refine va_iald hx hb hK hP 1 0 rfl rfl hin_1 dX11_careerFrom_6 ?_
  refine lv_topi (fun z_2 ez_2 => ?_)
  have bz_2 := p_vmnf.a1 (x := 1) ⟨by omega, by omega⟩ ez_2
  have tz_2 : z_2.toInt = (vmnf 1).toInt := by rw [ez_2]; rfl
  have k_4 : (4 : Int32).toInt = 4 := by decide
  refine lv_icmp_ne (tgt := 85) hx hb dX11_careerFrom_7 (by decide) (fun c_3 => ?_) (fun c_3 => ?_)
  · skip
    have c_3 : ¬ ((4 : Int32).toInt = z_2.toInt) := fun h9 => c_3 (i_eq.mpr h9)
    refine lv_iload_n hx hb dX11_careerFrom_85 rfl (lv_at hl 3 rfl) ?_
    refine lv_bipush (v := 9) hx hb dX11_careerFrom_86 (by decide) ?_
    refine lv_aload_n hx hb dX11_careerFrom_88 rfl (lv_at hl 0 rfl) ?_
    refine lv_iload_n hx hb dX11_careerFrom_89 rfl (lv_at hl 1 rfl) ?_
    refine lv_iload_n hx hb dX11_careerFrom_90 rfl (lv_at hl 2 rfl) ?_
    refine jr_i (rVr (As := [.int vm, .int 4]) (rest := [.int 9, .int vlf]) (ci := 12) ⟨hx, hb, hml, hown, hts⟩ (m_didOf l dC dI cy vo voth vmt votp vosz volm voto vofr vokd vonu vosg vofa vopl vowd votd vmn vmr vmk vms vma vmm vmrn vmkn vmik vmon vosm vohp vmw vmf vmb vomb vmd vmc vocm voct vocy vmx votx vose vml vmwr voln vohw vmno vond voon vowi votop vmnf vm 4 ⟨by omega, by omega⟩ ⟨by omega, by omega⟩ p_vmnf) (cw_X11_228 hts rfl rfl ⟨Nat.le_of_ble_eq_true rfl, Nat.le_of_ble_eq_true rfl⟩) hP hK [0, 1] rfl rfl rfl rfl hl.1 rfl (Nat.le_of_ble_eq_true rfl) dX11_careerFrom_91 ⟨Nat.le_of_ble_eq_true rfl, Nat.le_of_ble_eq_true rfl⟩) hP hS (fun r_4 H locs hp_5 hP hS => ?_)
    refine lv_isub hx hb dX11_careerFrom_94 ?_
    refine lv_topi (fun z_6 ez_6 => ?_)
    refine jr_i (rSr (As := [.int vlf, .int z_6]) (rest := []) ⟨hx, hb, hml, hown, hts⟩ (m_least l dC dI cy vlf z_6 ) (cw_X11_288 hts rfl rfl ⟨Nat.le_of_ble_eq_true rfl, Nat.le_of_ble_eq_true rfl⟩) hP hK [] rfl rfl hl.1 rfl (Nat.le_of_ble_eq_true rfl) dX11_careerFrom_95 ⟨Nat.le_of_ble_eq_true rfl, Nat.le_of_ble_eq_true rfl⟩) hP hS (fun r_7 H locs hp_8 hP hS => ?_)
    have hp_8 : ((r_7 : Int32).toInt ≤ (vlf : Int32).toInt) ∧ ((r_7 : Int32).toInt ≤ (z_6 : Int32).toInt) ∧ (((r_7 : Int32).toInt = (vlf : Int32).toInt ∨ (r_7 : Int32).toInt = (z_6 : Int32).toInt)) := hp_8
    obtain ⟨q_9, q_10, q_11⟩ := hp_8
    refine lv_istore (lv' := [(6, .int r_7), (0, .ref vo), (1, .int vm), (2, .int 4), (3, .int vlf), (4, .int vti), (5, .int vwe)]) hx hb dX11_careerFrom_98 hl (by decide) rfl (fun ls hl => ?_)
    refine lv_iconst (v := 0) hx hb dX11_careerFrom_100 (by decide) ?_
    refine lv_istore (lv' := [(7, .int 0), (6, .int r_7), (0, .ref vo), (1, .int vm), (2, .int 4), (3, .int vlf), (4, .int vti), (5, .int vwe)]) hx hb dX11_careerFrom_101 hl (by decide) rfl (fun ls hl => ?_)
    have loop12 : ∀ (n12 : Nat) (x_13 : Int32) (x_14 : Int32) (x_15 : Int32) (x_16 : Int32) (g_17 : Nat → Int32) (g_18 : Nat → Int32), (0 ≤ x_13.toInt ∧ x_13.toInt ≤ 11) → (0 ≤ x_16.toInt ∧ x_16.toInt ≤ 10) → 11 - x_13.toInt < (n12 : Int) → ∀ (H : Heap) (locs : List Loc), va_P (dC, dI) vwCl [(vo, .inr (12, [.int voth, .ref vmt, .int votp, .int vosz, .int volm, .int voto, .int vofr, .int vokd, .int vonu, .int vosg, .int vofa, .int vopl, .long vowd, .int votd, .ref vmn, .ref vmr, .ref vmk, .ref vms, .ref vma, .ref vmm, .ref vmrn, .ref vmkn, .ref vmik, .ref vmon, .int vosm, .int vohp, .ref vmw, .ref vmf, .ref vmb, .int vomb, .ref vmd, .ref vmc, .int x_14, .int x_15, .int x_16, .ref vmx, .int votx, .int vose, .ref vml, .ref vmwr, .int voln, .int vohw, .ref vmno, .int vond, .int voon, .int vowi, .int votop])), (vmn, .inl (cy 0, 575, .inl vmnf)), (vmd, .inl (cy 0, 10, .inl g_18)), (vmc, .inl (cy 0, 10, .inl g_17))] H → va_D A [(vo, .inr (12, [.int voth, .ref vmt, .int votp, .int vosz, .int volm, .int voto, .int vofr, .int vokd, .int vonu, .int vosg, .int vofa, .int vopl, .long vowd, .int votd, .ref vmn, .ref vmr, .ref vmk, .ref vms, .ref vma, .ref vmm, .ref vmrn, .ref vmkn, .ref vmik, .ref vmon, .int vosm, .int vohp, .ref vmw, .ref vmf, .ref vmb, .int vomb, .ref vmd, .ref vmc, .int x_14, .int x_15, .int x_16, .ref vmx, .int votx, .int vose, .ref vml, .ref vmwr, .int voln, .int vohw, .ref vmno, .int vond, .int voon, .int vowi, .int votop])), (vmn, .inl (cy 0, 575, .inl vmnf)), (vmd, .inl (cy 0, 10, .inl g_18)), (vmc, .inl (cy 0, 10, .inl g_17))] → va_S A s.heap H locs → ∀ ls : Array Slot, lv_has ls 8 [(7, .int x_13), (6, .int r_7), (0, .ref vo), (1, .int vm), (2, .int 4), (3, .int vlf), (4, .int vti), (5, .int vwe)] → W p l e ({ frames := 7, cells := 0, slots := 0, locals := 448 }) s m av9 below meth c H locs 0 0 Q9 (F0 m 103 ls []) := by
      intro n12
      induction n12 with
      | zero =>
        intro x_13 x_14 x_15 x_16 g_17 g_18 bx_13 bx_16 hn12 H locs hP hD hS ls hl
        exfalso; omega
      | succ n12 ih12 =>
        intro x_13 x_14 x_15 x_16 g_17 g_18 bx_13 bx_16 hn12 H locs hP hD hS ls hl
        refine lv_iload hx hb dX11_careerFrom_103 (lv_at hl 0 rfl) ?_
        refine lv_iload hx hb dX11_careerFrom_105 (lv_at hl 1 rfl) ?_
        refine lv_icmp_gt (tgt := 180) hx hb dX11_careerFrom_107 (by decide) (fun c_19 => ?_) (fun c_19 => ?_)
        · skip
          have c_19 : r_7.toInt < x_13.toInt := i_lt.mp c_19
          rw [hQ9]
          exact re_v (x_14, x_15, g_17, x_16, g_18) hx hb hr hlocks (show 0 ≤ (x_16 : Int32).toInt ∧ (x_16 : Int32).toInt ≤ 10 from ⟨by omega, by omega⟩) (hP.sub [0, 1, 2, 3] rfl) (hD.sub [0, 1, 2, 3] rfl rfl) hS dX11_careerFrom_180
        · skip
          have c_19 : ¬ (r_7.toInt < x_13.toInt) := fun h9 => c_19 (i_lt.mpr h9)
          refine lv_iload hx hb dX11_careerFrom_110 (lv_at hl 7 rfl) ?_
          refine lv_iload hx hb dX11_careerFrom_112 (lv_at hl 0 rfl) ?_
          refine lv_aload_n hx hb dX11_careerFrom_114 rfl (lv_at hl 2 rfl) ?_
          refine gf_X11_98 hx hb hts hown hK hP 0 rfl rfl dX11_careerFrom_115 ?_
          refine lv_bipush (v := 11) hx hb dX11_careerFrom_118 (by decide) ?_
          refine lv_iload_n hx hb dX11_careerFrom_120 rfl (lv_at hl 4 rfl) ?_
          refine lv_iadd hx hb dX11_careerFrom_121 ?_
          refine as_i 15 (by decide) ?_
          have k_15 : (15 : Int32).toInt = 15 := by decide
          have hin_20 : vp_in (15 : Int32) 575 := vp_in_iff.mpr ⟨by omega, by omega⟩
          refine va_iald hx hb hK hP 1 0 rfl rfl hin_20 dX11_careerFrom_122 ?_
          refine lv_topi (fun z_21 ez_21 => ?_)
          have bz_21 := p_vmnf.aw (x := 15) ⟨by omega, by omega⟩ ez_21
          have tz_21 : z_21.toInt = (vmnf 15).toInt := by rw [ez_21]; rfl
          refine lv_imul hx hb dX11_careerFrom_123 ?_
          refine lv_topi (fun z_22 ez_22 => ?_)
          have bz_22 : 0 ≤ z_22.toInt ∧ z_22.toInt ≤ 400 ∧ z_22.toInt = x_13.toInt * z_21.toInt := i_mulb (A := 10) (B := 40) ez_22 ⟨by omega, by omega⟩ ⟨by omega, by omega⟩ (by decide)
          refine lv_iadd hx hb dX11_careerFrom_124 ?_
          refine lv_topi (fun z_23 ez_23 => ?_)
          refine lv_aload_n hx hb dX11_careerFrom_125 rfl (lv_at hl 2 rfl) ?_
          refine gf_X11_98 hx hb hts hown hK hP 0 rfl rfl dX11_careerFrom_126 ?_
          refine lv_iconst (v := 2) hx hb dX11_careerFrom_129 (by decide) ?_
          have k_2 : (2 : Int32).toInt = 2 := by decide
          have hin_24 : vp_in (2 : Int32) 575 := vp_in_iff.mpr ⟨by omega, by omega⟩
          refine va_iald hx hb hK hP 1 0 rfl rfl hin_24 dX11_careerFrom_130 ?_
          refine lv_topi (fun z_25 ez_25 => ?_)
          have tz_25 : z_25.toInt = (vmnf 2).toInt := by rw [ez_25]; rfl
          refine lv_icmp_gt (tgt := 180) hx hb dX11_careerFrom_131 (by decide) (fun c_26 => ?_) (fun c_26 => ?_)
          · skip
            have c_26 : z_25.toInt < z_23.toInt := i_lt.mp c_26
            rw [hQ9]
            exact re_v (x_14, x_15, g_17, x_16, g_18) hx hb hr hlocks (show 0 ≤ (x_16 : Int32).toInt ∧ (x_16 : Int32).toInt ≤ 10 from ⟨by omega, by omega⟩) (hP.sub [0, 1, 2, 3] rfl) (hD.sub [0, 1, 2, 3] rfl rfl) hS dX11_careerFrom_180
          · skip
            have c_26 : ¬ (z_25.toInt < z_23.toInt) := fun h9 => c_26 (i_lt.mpr h9)
            refine lv_aload_n hx hb dX11_careerFrom_134 rfl (lv_at hl 2 rfl) ?_
            refine gf_X11_142 hx hb hts hown hK hP 0 rfl rfl dX11_careerFrom_135 ?_
            refine lv_iload_n hx hb dX11_careerFrom_138 rfl (lv_at hl 4 rfl) ?_
            refine lv_iload hx hb dX11_careerFrom_139 (lv_at hl 0 rfl) ?_
            have hin_27 : vp_in (4 : Int32) 10 := vp_in_iff.mpr ⟨by omega, by omega⟩
            refine va_iast hx hb hK hP hD hS 2 0 rfl rfl hin_27 dX11_careerFrom_141 (fun H locs hP hD hS => ?_)
            obtain ⟨f_28, ef_28⟩ : ∃ z : Nat → Int32, z = upd g_18 (Int32.toNatClampNeg 4) x_13 := ⟨_, rfl⟩
            have hP : va_P (dC, dI) vwCl [(vo, .inr (12, [.int voth, .ref vmt, .int votp, .int vosz, .int volm, .int voto, .int vofr, .int vokd, .int vonu, .int vosg, .int vofa, .int vopl, .long vowd, .int votd, .ref vmn, .ref vmr, .ref vmk, .ref vms, .ref vma, .ref vmm, .ref vmrn, .ref vmkn, .ref vmik, .ref vmon, .int vosm, .int vohp, .ref vmw, .ref vmf, .ref vmb, .int vomb, .ref vmd, .ref vmc, .int x_14, .int x_15, .int x_16, .ref vmx, .int votx, .int vose, .ref vml, .ref vmwr, .int voln, .int vohw, .ref vmno, .int vond, .int voon, .int vowi, .int votop])), (vmn, .inl (cy 0, 575, .inl vmnf)), (vmd, .inl (cy 0, 10, .inl f_28)), (vmc, .inl (cy 0, 10, .inl g_17))] H := by rw [ef_28]; exact hP
            have hD : va_D A [(vo, .inr (12, [.int voth, .ref vmt, .int votp, .int vosz, .int volm, .int voto, .int vofr, .int vokd, .int vonu, .int vosg, .int vofa, .int vopl, .long vowd, .int votd, .ref vmn, .ref vmr, .ref vmk, .ref vms, .ref vma, .ref vmm, .ref vmrn, .ref vmkn, .ref vmik, .ref vmon, .int vosm, .int vohp, .ref vmw, .ref vmf, .ref vmb, .int vomb, .ref vmd, .ref vmc, .int x_14, .int x_15, .int x_16, .ref vmx, .int votx, .int vose, .ref vml, .ref vmwr, .int voln, .int vohw, .ref vmno, .int vond, .int voon, .int vowi, .int votop])), (vmn, .inl (cy 0, 575, .inl vmnf)), (vmd, .inl (cy 0, 10, .inl f_28)), (vmc, .inl (cy 0, 10, .inl g_17))] := by rw [ef_28]; exact hD
            refine lv_aload_n hx hb dX11_careerFrom_142 rfl (lv_at hl 2 rfl) ?_
            refine lv_iload_n hx hb dX11_careerFrom_143 rfl (lv_at hl 3 rfl) ?_
            refine lv_iload_n hx hb dX11_careerFrom_144 rfl (lv_at hl 4 rfl) ?_
            refine lv_iconst (v := 1) hx hb dX11_careerFrom_145 (by decide) ?_
            refine lv_iadd hx hb dX11_careerFrom_146 ?_
            refine as_i 5 (by decide) ?_
            refine lv_iload_n hx hb dX11_careerFrom_147 rfl (lv_at hl 5 rfl) ?_
            refine lv_iload hx hb dX11_careerFrom_148 (lv_at hl 0 rfl) ?_
            refine lv_isub hx hb dX11_careerFrom_150 ?_
            refine lv_topi (fun z_29 ez_29 => ?_)
            have bz_29 : z_29.toInt = vlf.toInt - x_13.toInt := i_sub ez_29 (by omega) (by omega)
            refine lv_iload hx hb dX11_careerFrom_151 (lv_at hl 6 rfl) ?_
            refine lv_iload hx hb dX11_careerFrom_153 (lv_at hl 0 rfl) ?_
            refine lv_iadd hx hb dX11_careerFrom_155 ?_
            refine lv_topi (fun z_30 ez_30 => ?_)
            refine lv_iload hx hb dX11_careerFrom_156 (lv_at hl 7 rfl) ?_
            refine lv_iload hx hb dX11_careerFrom_158 (lv_at hl 0 rfl) ?_
            refine lv_aload_n hx hb dX11_careerFrom_160 rfl (lv_at hl 2 rfl) ?_
            refine gf_X11_98 hx hb hts hown hK hP 0 rfl rfl dX11_careerFrom_161 ?_
            refine lv_bipush (v := 11) hx hb dX11_careerFrom_164 (by decide) ?_
            refine lv_iload_n hx hb dX11_careerFrom_166 rfl (lv_at hl 4 rfl) ?_
            refine lv_iadd hx hb dX11_careerFrom_167 ?_
            refine as_i 15 (by decide) ?_
            have hin_31 : vp_in (15 : Int32) 575 := vp_in_iff.mpr ⟨by omega, by omega⟩
            refine va_iald hx hb hK hP 1 0 rfl rfl hin_31 dX11_careerFrom_168 ?_
            refine lv_topi (fun z_32 ez_32 => ?_)
            have bz_32 := p_vmnf.aw (x := 15) ⟨by omega, by omega⟩ ez_32
            have tz_32 : z_32.toInt = (vmnf 15).toInt := by rw [ez_32]; rfl
            refine lv_imul hx hb dX11_careerFrom_169 ?_
            refine lv_topi (fun z_33 ez_33 => ?_)
            have bz_33 : 0 ≤ z_33.toInt ∧ z_33.toInt ≤ 400 ∧ z_33.toInt = x_13.toInt * z_32.toInt := i_mulb (A := 10) (B := 40) ez_33 ⟨by omega, by omega⟩ ⟨by omega, by omega⟩ (by decide)
            refine lv_iadd hx hb dX11_careerFrom_170 ?_
            refine lv_topi (fun z_34 ez_34 => ?_)
            refine jn_v (wr := []) (rV (As := [.int vm, .int 5, .int z_29, .int z_30, .int z_34]) (rest := []) (ci := 12) ⟨hx, hb, hml, hown, hts⟩ (m_careerFrom_5 l dC dI cy _ vo voth vmt votp vosz volm voto vofr vokd vonu vosg vofa vopl vowd votd vmn vmr vmk vms vma vmm vmrn vmkn vmik vmon vosm vohp vmw vmf vmb vomb vmd vmc x_14 x_15 x_16 vmx votx vose vml vmwr voln vohw vmno vond voon vowi votop vmnf f_28 g_17 vm z_29 z_30 z_34 ⟨by omega, by omega⟩ r_vm ⟨by omega, by omega⟩ p_vmnf (by omega)) (cw_X11_331 hts rfl rfl ⟨Nat.le_of_ble_eq_true rfl, Nat.le_of_ble_eq_true rfl⟩) hP hD hK [0, 1, 2, 3] rfl rfl rfl rfl bl0 e0 rfl hl.1 rfl (Nat.le_of_ble_eq_true rfl) dX11_careerFrom_171 ⟨Nat.le_of_ble_eq_true rfl, Nat.le_of_ble_eq_true rfl⟩) hP hD hS hA [0, 1, 2, 3] [] rfl rfl rfl (by decide) (fun u_37 H locs hp_36 hP hD hS => ?_)
            obtain ⟨vocm_38, voct_39, vmcf_40, vocy_41, vmdf_42⟩ := u_37
            have hp_36 : (0 ≤ (vocy_41 : Int32).toInt ∧ (vocy_41 : Int32).toInt ≤ 10) := hp_36
            have q_43 := hp_36
            have hP : va_P (dC, dI) vwCl [(vo, .inr (12, [.int voth, .ref vmt, .int votp, .int vosz, .int volm, .int voto, .int vofr, .int vokd, .int vonu, .int vosg, .int vofa, .int vopl, .long vowd, .int votd, .ref vmn, .ref vmr, .ref vmk, .ref vms, .ref vma, .ref vmm, .ref vmrn, .ref vmkn, .ref vmik, .ref vmon, .int vosm, .int vohp, .ref vmw, .ref vmf, .ref vmb, .int vomb, .ref vmd, .ref vmc, .int vocm_38, .int voct_39, .int vocy_41, .ref vmx, .int votx, .int vose, .ref vml, .ref vmwr, .int voln, .int vohw, .ref vmno, .int vond, .int voon, .int vowi, .int votop])), (vmn, .inl (cy 0, 575, .inl vmnf)), (vmd, .inl (cy 0, 10, .inl vmdf_42)), (vmc, .inl (cy 0, 10, .inl vmcf_40))] H := hP
            have hD : va_D A [(vo, .inr (12, [.int voth, .ref vmt, .int votp, .int vosz, .int volm, .int voto, .int vofr, .int vokd, .int vonu, .int vosg, .int vofa, .int vopl, .long vowd, .int votd, .ref vmn, .ref vmr, .ref vmk, .ref vms, .ref vma, .ref vmm, .ref vmrn, .ref vmkn, .ref vmik, .ref vmon, .int vosm, .int vohp, .ref vmw, .ref vmf, .ref vmb, .int vomb, .ref vmd, .ref vmc, .int vocm_38, .int voct_39, .int vocy_41, .ref vmx, .int votx, .int vose, .ref vml, .ref vmwr, .int voln, .int vohw, .ref vmno, .int vond, .int voon, .int vowi, .int votop])), (vmn, .inl (cy 0, 575, .inl vmnf)), (vmd, .inl (cy 0, 10, .inl vmdf_42)), (vmc, .inl (cy 0, 10, .inl vmcf_40))] := hD
            obtain ⟨z_44, ez_44⟩ : ∃ z : Int32, z = x_13 + 1 := ⟨_, rfl⟩
            have bz_44 : z_44.toInt = x_13.toInt + (1 : Int32).toInt := i_add ez_44 (by omega) (by omega)
            refine lv_iinc (v := z_44) (lv' := [(7, .int z_44), (6, .int r_7), (0, .ref vo), (1, .int vm), (2, .int 4), (3, .int vlf), (4, .int vti), (5, .int vwe)]) hx hb dX11_careerFrom_174 hl (k := 0) rfl ez_44.symm (by decide) rfl (fun ls hl => ?_)
            refine lv_goto (tgt := 103) hx hb dX11_careerFrom_177 (by decide) ?_
            exact ih12 z_44 vocm_38 voct_39 vocy_41 vmcf_40 vmdf_42 ⟨by omega, by omega⟩ ⟨by omega, by omega⟩ (by omega) _ _ (hP.sub [0, 1, 2, 3] rfl) (hD.sub [0, 1, 2, 3] rfl rfl) hS ls (lv_sub hl [0, 1, 2, 3, 4, 5, 6, 7] rfl)
    have k_0 : (0 : Int32).toInt = 0 := by decide
    exact loop12 ((11 - (0 : Int32).toInt).toNat + 1) 0 vocm voct vocy vmcf vmdf ⟨by omega, by omega⟩ ⟨by omega, by omega⟩ (by omega) _ _ hP hD hS ls (lv_sub hl [0, 1, 2, 3, 4, 5, 6, 7] rfl)
  · skip
    have c_3 : (4 : Int32).toInt = z_2.toInt := i_eq.mp c_3
    have join45 : ∀ (H : Heap) (locs : List Loc), va_P (dC, dI) vwCl [(vo, .inr (12, [.int voth, .ref vmt, .int votp, .int vosz, .int volm, .int voto, .int vofr, .int vokd, .int vonu, .int vosg, .int vofa, .int vopl, .long vowd, .int votd, .ref vmn, .ref vmr, .ref vmk, .ref vms, .ref vma, .ref vmm, .ref vmrn, .ref vmkn, .ref vmik, .ref vmon, .int vosm, .int vohp, .ref vmw, .ref vmf, .ref vmb, .int vomb, .ref vmd, .ref vmc, .int vocm, .int voct, .int vocy, .ref vmx, .int votx, .int vose, .ref vml, .ref vmwr, .int voln, .int vohw, .ref vmno, .int vond, .int voon, .int vowi, .int votop])), (vmn, .inl (cy 0, 575, .inl vmnf)), (vmd, .inl (cy 0, 10, .inl vmdf)), (vmc, .inl (cy 0, 10, .inl vmcf))] H → va_D A [(vo, .inr (12, [.int voth, .ref vmt, .int votp, .int vosz, .int volm, .int voto, .int vofr, .int vokd, .int vonu, .int vosg, .int vofa, .int vopl, .long vowd, .int votd, .ref vmn, .ref vmr, .ref vmk, .ref vms, .ref vma, .ref vmm, .ref vmrn, .ref vmkn, .ref vmik, .ref vmon, .int vosm, .int vohp, .ref vmw, .ref vmf, .ref vmb, .int vomb, .ref vmd, .ref vmc, .int vocm, .int voct, .int vocy, .ref vmx, .int votx, .int vose, .ref vml, .ref vmwr, .int voln, .int vohw, .ref vmno, .int vond, .int voon, .int vowi, .int votop])), (vmn, .inl (cy 0, 575, .inl vmnf)), (vmd, .inl (cy 0, 10, .inl vmdf)), (vmc, .inl (cy 0, 10, .inl vmcf))] → va_S A s.heap H locs → ∀ ls : Array Slot, lv_has ls 8 [(0, .ref vo), (1, .int vm), (2, .int 4), (3, .int vlf), (4, .int vti), (5, .int vwe)] → W p l e ({ frames := 7, cells := 0, slots := 0, locals := 448 }) s m av9 below meth c H locs 0 0 Q9 (F0 m 38 ls []) := by
      intro  H locs hP hD hS ls hl
      refine lv_aload_n hx hb dX11_careerFrom_38 rfl (lv_at hl 0 rfl) ?_
      refine lv_iload hx hb dX11_careerFrom_39 (lv_at hl 5 rfl) ?_
      refine pf_X11_322 hx hb hts hown hK hP hD hS 0 rfl rfl rfl (Nat.le_of_ble_eq_true rfl) dX11_careerFrom_41 (fun H locs hP hD hS => ?_)
      have hP : va_P (dC, dI) vwCl [(vo, .inr (12, [.int voth, .ref vmt, .int votp, .int vosz, .int volm, .int voto, .int vofr, .int vokd, .int vonu, .int vosg, .int vofa, .int vopl, .long vowd, .int votd, .ref vmn, .ref vmr, .ref vmk, .ref vms, .ref vma, .ref vmm, .ref vmrn, .ref vmkn, .ref vmik, .ref vmon, .int vosm, .int vohp, .ref vmw, .ref vmf, .ref vmb, .int vomb, .ref vmd, .ref vmc, .int vwe, .int voct, .int vocy, .ref vmx, .int votx, .int vose, .ref vml, .ref vmwr, .int voln, .int vohw, .ref vmno, .int vond, .int voon, .int vowi, .int votop])), (vmn, .inl (cy 0, 575, .inl vmnf)), (vmd, .inl (cy 0, 10, .inl vmdf)), (vmc, .inl (cy 0, 10, .inl vmcf))] H := hP
      have hD : va_D A [(vo, .inr (12, [.int voth, .ref vmt, .int votp, .int vosz, .int volm, .int voto, .int vofr, .int vokd, .int vonu, .int vosg, .int vofa, .int vopl, .long vowd, .int votd, .ref vmn, .ref vmr, .ref vmk, .ref vms, .ref vma, .ref vmm, .ref vmrn, .ref vmkn, .ref vmik, .ref vmon, .int vosm, .int vohp, .ref vmw, .ref vmf, .ref vmb, .int vomb, .ref vmd, .ref vmc, .int vwe, .int voct, .int vocy, .ref vmx, .int votx, .int vose, .ref vml, .ref vmwr, .int voln, .int vohw, .ref vmno, .int vond, .int voon, .int vowi, .int votop])), (vmn, .inl (cy 0, 575, .inl vmnf)), (vmd, .inl (cy 0, 10, .inl vmdf)), (vmc, .inl (cy 0, 10, .inl vmcf))] := hD
      refine lv_aload_n hx hb dX11_careerFrom_44 rfl (lv_at hl 0 rfl) ?_
      refine lv_iload hx hb dX11_careerFrom_45 (lv_at hl 4 rfl) ?_
      refine pf_X11_325 hx hb hts hown hK hP hD hS 0 rfl rfl rfl (Nat.le_of_ble_eq_true rfl) dX11_careerFrom_47 (fun H locs hP hD hS => ?_)
      have hP : va_P (dC, dI) vwCl [(vo, .inr (12, [.int voth, .ref vmt, .int votp, .int vosz, .int volm, .int voto, .int vofr, .int vokd, .int vonu, .int vosg, .int vofa, .int vopl, .long vowd, .int votd, .ref vmn, .ref vmr, .ref vmk, .ref vms, .ref vma, .ref vmm, .ref vmrn, .ref vmkn, .ref vmik, .ref vmon, .int vosm, .int vohp, .ref vmw, .ref vmf, .ref vmb, .int vomb, .ref vmd, .ref vmc, .int vwe, .int vti, .int vocy, .ref vmx, .int votx, .int vose, .ref vml, .ref vmwr, .int voln, .int vohw, .ref vmno, .int vond, .int voon, .int vowi, .int votop])), (vmn, .inl (cy 0, 575, .inl vmnf)), (vmd, .inl (cy 0, 10, .inl vmdf)), (vmc, .inl (cy 0, 10, .inl vmcf))] H := hP
      have hD : va_D A [(vo, .inr (12, [.int voth, .ref vmt, .int votp, .int vosz, .int volm, .int voto, .int vofr, .int vokd, .int vonu, .int vosg, .int vofa, .int vopl, .long vowd, .int votd, .ref vmn, .ref vmr, .ref vmk, .ref vms, .ref vma, .ref vmm, .ref vmrn, .ref vmkn, .ref vmik, .ref vmon, .int vosm, .int vohp, .ref vmw, .ref vmf, .ref vmb, .int vomb, .ref vmd, .ref vmc, .int vwe, .int vti, .int vocy, .ref vmx, .int votx, .int vose, .ref vml, .ref vmwr, .int voln, .int vohw, .ref vmno, .int vond, .int voon, .int vowi, .int votop])), (vmn, .inl (cy 0, 575, .inl vmnf)), (vmd, .inl (cy 0, 10, .inl vmdf)), (vmc, .inl (cy 0, 10, .inl vmcf))] := hD
      refine lv_iconst (v := 0) hx hb dX11_careerFrom_50 (by decide) ?_
      refine lv_istore (lv' := [(6, .int 0), (0, .ref vo), (1, .int vm), (2, .int 4), (3, .int vlf), (4, .int vti), (5, .int vwe)]) hx hb dX11_careerFrom_51 hl (by decide) rfl (fun ls hl => ?_)
      have loop46 : ∀ (n46 : Nat) (x_47 : Int32) (g_48 : Nat → Int32), (0 ≤ x_47.toInt ∧ x_47.toInt ≤ 10) → 10 - x_47.toInt < (n46 : Int) → ∀ (H : Heap) (locs : List Loc), va_P (dC, dI) vwCl [(vo, .inr (12, [.int voth, .ref vmt, .int votp, .int vosz, .int volm, .int voto, .int vofr, .int vokd, .int vonu, .int vosg, .int vofa, .int vopl, .long vowd, .int votd, .ref vmn, .ref vmr, .ref vmk, .ref vms, .ref vma, .ref vmm, .ref vmrn, .ref vmkn, .ref vmik, .ref vmon, .int vosm, .int vohp, .ref vmw, .ref vmf, .ref vmb, .int vomb, .ref vmd, .ref vmc, .int vwe, .int vti, .int vocy, .ref vmx, .int votx, .int vose, .ref vml, .ref vmwr, .int voln, .int vohw, .ref vmno, .int vond, .int voon, .int vowi, .int votop])), (vmn, .inl (cy 0, 575, .inl vmnf)), (vmd, .inl (cy 0, 10, .inl vmdf)), (vmc, .inl (cy 0, 10, .inl g_48))] H → va_D A [(vo, .inr (12, [.int voth, .ref vmt, .int votp, .int vosz, .int volm, .int voto, .int vofr, .int vokd, .int vonu, .int vosg, .int vofa, .int vopl, .long vowd, .int votd, .ref vmn, .ref vmr, .ref vmk, .ref vms, .ref vma, .ref vmm, .ref vmrn, .ref vmkn, .ref vmik, .ref vmon, .int vosm, .int vohp, .ref vmw, .ref vmf, .ref vmb, .int vomb, .ref vmd, .ref vmc, .int vwe, .int vti, .int vocy, .ref vmx, .int votx, .int vose, .ref vml, .ref vmwr, .int voln, .int vohw, .ref vmno, .int vond, .int voon, .int vowi, .int votop])), (vmn, .inl (cy 0, 575, .inl vmnf)), (vmd, .inl (cy 0, 10, .inl vmdf)), (vmc, .inl (cy 0, 10, .inl g_48))] → va_S A s.heap H locs → ∀ ls : Array Slot, lv_has ls 8 [(6, .int x_47), (0, .ref vo), (1, .int vm), (2, .int 4), (3, .int vlf), (4, .int vti), (5, .int vwe)] → W p l e ({ frames := 7, cells := 0, slots := 0, locals := 448 }) s m av9 below meth c H locs 0 0 Q9 (F0 m 53 ls []) := by
        intro n46
        induction n46 with
        | zero =>
          intro x_47 g_48 bx_47 hn46 H locs hP hD hS ls hl
          exfalso; omega
        | succ n46 ih46 =>
          intro x_47 g_48 bx_47 hn46 H locs hP hD hS ls hl
          refine lv_iload hx hb dX11_careerFrom_53 (lv_at hl 0 rfl) ?_
          refine lv_iload_n hx hb dX11_careerFrom_55 rfl (lv_at hl 3 rfl) ?_
          refine lv_icmp_ge (tgt := 79) hx hb dX11_careerFrom_56 (by decide) (fun c_49 => ?_) (fun c_49 => ?_)
          · skip
            have c_49 : (4 : Int32).toInt ≤ x_47.toInt := i_le.mp c_49
            refine lv_aload_n hx hb dX11_careerFrom_79 rfl (lv_at hl 1 rfl) ?_
            refine lv_iload_n hx hb dX11_careerFrom_80 rfl (lv_at hl 3 rfl) ?_
            refine pf_X11_328 hx hb hts hown hK hP hD hS 0 rfl rfl rfl (Nat.le_of_ble_eq_true rfl) dX11_careerFrom_81 (fun H locs hP hD hS => ?_)
            have hP : va_P (dC, dI) vwCl [(vo, .inr (12, [.int voth, .ref vmt, .int votp, .int vosz, .int volm, .int voto, .int vofr, .int vokd, .int vonu, .int vosg, .int vofa, .int vopl, .long vowd, .int votd, .ref vmn, .ref vmr, .ref vmk, .ref vms, .ref vma, .ref vmm, .ref vmrn, .ref vmkn, .ref vmik, .ref vmon, .int vosm, .int vohp, .ref vmw, .ref vmf, .ref vmb, .int vomb, .ref vmd, .ref vmc, .int vwe, .int vti, .int 4, .ref vmx, .int votx, .int vose, .ref vml, .ref vmwr, .int voln, .int vohw, .ref vmno, .int vond, .int voon, .int vowi, .int votop])), (vmn, .inl (cy 0, 575, .inl vmnf)), (vmd, .inl (cy 0, 10, .inl vmdf)), (vmc, .inl (cy 0, 10, .inl g_48))] H := hP
            have hD : va_D A [(vo, .inr (12, [.int voth, .ref vmt, .int votp, .int vosz, .int volm, .int voto, .int vofr, .int vokd, .int vonu, .int vosg, .int vofa, .int vopl, .long vowd, .int votd, .ref vmn, .ref vmr, .ref vmk, .ref vms, .ref vma, .ref vmm, .ref vmrn, .ref vmkn, .ref vmik, .ref vmon, .int vosm, .int vohp, .ref vmw, .ref vmf, .ref vmb, .int vomb, .ref vmd, .ref vmc, .int vwe, .int vti, .int 4, .ref vmx, .int votx, .int vose, .ref vml, .ref vmwr, .int voln, .int vohw, .ref vmno, .int vond, .int voon, .int vowi, .int votop])), (vmn, .inl (cy 0, 575, .inl vmnf)), (vmd, .inl (cy 0, 10, .inl vmdf)), (vmc, .inl (cy 0, 10, .inl g_48))] := hD
            rw [hQ9]
            exact re_v (vwe, vti, g_48, (4 : Int32), vmdf) hx hb hr hlocks (show 0 ≤ (4 : Int32).toInt ∧ (4 : Int32).toInt ≤ 10 from ⟨by omega, by omega⟩) (hP.sub [0, 1, 2, 3] rfl) (hD.sub [0, 1, 2, 3] rfl rfl) hS dX11_careerFrom_84
          · skip
            have c_49 : ¬ ((4 : Int32).toInt ≤ x_47.toInt) := fun h9 => c_49 (i_le.mpr h9)
            refine lv_aload_n hx hb dX11_careerFrom_59 rfl (lv_at hl 1 rfl) ?_
            refine gf_X11_145 hx hb hts hown hK hP 0 rfl rfl dX11_careerFrom_60 ?_
            refine lv_iload hx hb dX11_careerFrom_63 (lv_at hl 0 rfl) ?_
            refine lv_aload_n hx hb dX11_careerFrom_65 rfl (lv_at hl 1 rfl) ?_
            refine gf_X11_142 hx hb hts hown hK hP 0 rfl rfl dX11_careerFrom_66 ?_
            refine lv_iload hx hb dX11_careerFrom_69 (lv_at hl 0 rfl) ?_
            have hin_50 : vp_in x_47 10 := vp_in_iff.mpr ⟨by omega, by omega⟩
            refine va_iald hx hb hK hP 2 0 rfl rfl hin_50 dX11_careerFrom_71 ?_
            refine lv_topi (fun z_51 ez_51 => ?_)
            have hin_52 : vp_in x_47 10 := vp_in_iff.mpr ⟨by omega, by omega⟩
            refine va_iast hx hb hK hP hD hS 3 0 rfl rfl hin_52 dX11_careerFrom_72 (fun H locs hP hD hS => ?_)
            obtain ⟨f_53, ef_53⟩ : ∃ z : Nat → Int32, z = upd g_48 (Int32.toNatClampNeg x_47) z_51 := ⟨_, rfl⟩
            have hP : va_P (dC, dI) vwCl [(vo, .inr (12, [.int voth, .ref vmt, .int votp, .int vosz, .int volm, .int voto, .int vofr, .int vokd, .int vonu, .int vosg, .int vofa, .int vopl, .long vowd, .int votd, .ref vmn, .ref vmr, .ref vmk, .ref vms, .ref vma, .ref vmm, .ref vmrn, .ref vmkn, .ref vmik, .ref vmon, .int vosm, .int vohp, .ref vmw, .ref vmf, .ref vmb, .int vomb, .ref vmd, .ref vmc, .int vwe, .int vti, .int vocy, .ref vmx, .int votx, .int vose, .ref vml, .ref vmwr, .int voln, .int vohw, .ref vmno, .int vond, .int voon, .int vowi, .int votop])), (vmn, .inl (cy 0, 575, .inl vmnf)), (vmd, .inl (cy 0, 10, .inl vmdf)), (vmc, .inl (cy 0, 10, .inl f_53))] H := by rw [ef_53]; exact hP
            have hD : va_D A [(vo, .inr (12, [.int voth, .ref vmt, .int votp, .int vosz, .int volm, .int voto, .int vofr, .int vokd, .int vonu, .int vosg, .int vofa, .int vopl, .long vowd, .int votd, .ref vmn, .ref vmr, .ref vmk, .ref vms, .ref vma, .ref vmm, .ref vmrn, .ref vmkn, .ref vmik, .ref vmon, .int vosm, .int vohp, .ref vmw, .ref vmf, .ref vmb, .int vomb, .ref vmd, .ref vmc, .int vwe, .int vti, .int vocy, .ref vmx, .int votx, .int vose, .ref vml, .ref vmwr, .int voln, .int vohw, .ref vmno, .int vond, .int voon, .int vowi, .int votop])), (vmn, .inl (cy 0, 575, .inl vmnf)), (vmd, .inl (cy 0, 10, .inl vmdf)), (vmc, .inl (cy 0, 10, .inl f_53))] := by rw [ef_53]; exact hD
            obtain ⟨z_54, ez_54⟩ : ∃ z : Int32, z = x_47 + 1 := ⟨_, rfl⟩
            have bz_54 : z_54.toInt = x_47.toInt + (1 : Int32).toInt := i_add ez_54 (by omega) (by omega)
            refine lv_iinc (v := z_54) (lv' := [(6, .int z_54), (0, .ref vo), (1, .int vm), (2, .int 4), (3, .int vlf), (4, .int vti), (5, .int vwe)]) hx hb dX11_careerFrom_73 hl (k := 0) rfl ez_54.symm (by decide) rfl (fun ls hl => ?_)
            refine lv_goto (tgt := 53) hx hb dX11_careerFrom_76 (by decide) ?_
            exact ih46 z_54 f_53 ⟨by omega, by omega⟩ (by omega) _ _ (hP.sub [0, 1, 2, 3] rfl) (hD.sub [0, 1, 2, 3] rfl rfl) hS ls (lv_sub hl [0, 1, 2, 3, 4, 5, 6] rfl)
      have k_0 : (0 : Int32).toInt = 0 := by decide
      exact loop46 ((10 - (0 : Int32).toInt).toNat + 1) 0 vmcf ⟨by omega, by omega⟩ (by omega) _ _ hP hD hS ls (lv_sub hl [0, 1, 2, 3, 4, 5, 6] rfl)
    refine lv_iload hx hb dX11_careerFrom_10 (lv_at hl 5 rfl) ?_
    refine lv_aload_n hx hb dX11_careerFrom_12 rfl (lv_at hl 0 rfl) ?_
    refine gf_X11_322 hx hb hts hown hK hP 0 rfl rfl dX11_careerFrom_13 ?_
    refine lv_icmp_lt (tgt := 37) hx hb dX11_careerFrom_16 (by decide) (fun c_55 => ?_) (fun c_55 => ?_)
    · skip
      have c_55 : vwe.toInt < vocm.toInt := i_lt.mp c_55
      rw [hQ9]
      exact re_v (vocm, voct, vmcf, vocy, vmdf) hx hb hr hlocks (show 0 ≤ (vocy : Int32).toInt ∧ (vocy : Int32).toInt ≤ 10 from ⟨by omega, by omega⟩) (hP.sub [0, 1, 2, 3] rfl) (hD.sub [0, 1, 2, 3] rfl rfl) hS dX11_careerFrom_37
    · skip
      have c_55 : ¬ (vwe.toInt < vocm.toInt) := fun h9 => c_55 (i_lt.mpr h9)
      refine lv_iload hx hb dX11_careerFrom_19 (lv_at hl 5 rfl) ?_
      refine lv_aload_n hx hb dX11_careerFrom_21 rfl (lv_at hl 0 rfl) ?_
      refine gf_X11_322 hx hb hts hown hK hP 0 rfl rfl dX11_careerFrom_22 ?_
      refine lv_icmp_ne (tgt := 38) hx hb dX11_careerFrom_25 (by decide) (fun c_56 => ?_) (fun c_56 => ?_)
      · skip
        have c_56 : ¬ (vwe.toInt = vocm.toInt) := fun h9 => c_56 (i_eq.mpr h9)
        exact join45  _ _ (hP.sub [0, 1, 2, 3] rfl) (hD.sub [0, 1, 2, 3] rfl rfl) hS ls (lv_sub hl [0, 1, 2, 3, 4, 5] rfl)
      · skip
        have c_56 : vwe.toInt = vocm.toInt := i_eq.mp c_56
        refine lv_iload hx hb dX11_careerFrom_28 (lv_at hl 4 rfl) ?_
        refine lv_aload_n hx hb dX11_careerFrom_30 rfl (lv_at hl 0 rfl) ?_
        refine gf_X11_325 hx hb hts hown hK hP 0 rfl rfl dX11_careerFrom_31 ?_
        refine lv_icmp_lt (tgt := 38) hx hb dX11_careerFrom_34 (by decide) (fun c_57 => ?_) (fun c_57 => ?_)
        · skip
          have c_57 : vti.toInt < voct.toInt := i_lt.mp c_57
          exact join45  _ _ (hP.sub [0, 1, 2, 3] rfl) (hD.sub [0, 1, 2, 3] rfl rfl) hS ls (lv_sub hl [0, 1, 2, 3, 4, 5] rfl)
        · skip
          have c_57 : ¬ (vti.toInt < voct.toInt) := fun h9 => c_57 (i_lt.mpr h9)
          rw [hQ9]
          exact re_v (vocm, voct, vmcf, vocy, vmdf) hx hb hr hlocks (show 0 ≤ (vocy : Int32).toInt ∧ (vocy : Int32).toInt ≤ 10 from ⟨by omega, by omega⟩) (hP.sub [0, 1, 2, 3] rfl) (hD.sub [0, 1, 2, 3] rfl rfl) hS dX11_careerFrom_37
abbrev O_m_careerFrom_3 (cy : Nat → ClassId) (vo : Nat) (voth : Int32) (vmt : Nat) (votp : Int32) (vosz : Int32) (volm : Int32) (voto : Int32) (vofr : Int32) (vokd : Int32) (vonu : Int32) (vosg : Int32) (vofa : Int32) (vopl : Int32) (vowd : Int64) (votd : Int32) (vmn : Nat) (vmr : Nat) (vmk : Nat) (vms : Nat) (vma : Nat) (vmm : Nat) (vmrn : Nat) (vmkn : Nat) (vmik : Nat) (vmon : Nat) (vosm : Int32) (vohp : Int32) (vmw : Nat) (vmf : Nat) (vmb : Nat) (vomb : Int32) (vmd : Nat) (vmc : Nat) (vocm : Int32) (voct : Int32) (vocy : Int32) (vmx : Nat) (votx : Int32) (vose : Int32) (vml : Nat) (vmwr : Nat) (voln : Int32) (vohw : Int32) (vmno : Nat) (vond : Int32) (voon : Int32) (vowi : Int32) (votop : Int32) (vmnf : Nat → Int32) (vmdf : Nat → Int32) (vmcf : Nat → Int32) (vm : Int32) (vlf : Int32) (vti : Int32) (vwe : Int32) (u : Int32 × Int32 × (Nat → Int32) × Int32 × (Nat → Int32)) : va_W := [(vo, .inr (12, [.int voth, .ref vmt, .int votp, .int vosz, .int volm, .int voto, .int vofr, .int vokd, .int vonu, .int vosg, .int vofa, .int vopl, .long vowd, .int votd, .ref vmn, .ref vmr, .ref vmk, .ref vms, .ref vma, .ref vmm, .ref vmrn, .ref vmkn, .ref vmik, .ref vmon, .int vosm, .int vohp, .ref vmw, .ref vmf, .ref vmb, .int vomb, .ref vmd, .ref vmc, .int u.1, .int u.2.1, .int u.2.2.2.1, .ref vmx, .int votx, .int vose, .ref vml, .ref vmwr, .int voln, .int vohw, .ref vmno, .int vond, .int voon, .int vowi, .int votop])), (vmn, .inl (cy 0, 575, .inl vmnf)), (vmd, .inl (cy 0, 10, .inl u.2.2.2.2)), (vmc, .inl (cy 0, 10, .inl u.2.2.1))]
set_option maxHeartbeats 4000000 in
set_option maxRecDepth 100000 in
theorem m_careerFrom_3 (l : Launch) (dC : Nat → ClassId) (dI : Nat → Nat → Nat) (cy : Nat → ClassId) (sz : Nat) (vo : Nat) (voth : Int32) (vmt : Nat) (votp : Int32) (vosz : Int32) (volm : Int32) (voto : Int32) (vofr : Int32) (vokd : Int32) (vonu : Int32) (vosg : Int32) (vofa : Int32) (vopl : Int32) (vowd : Int64) (votd : Int32) (vmn : Nat) (vmr : Nat) (vmk : Nat) (vms : Nat) (vma : Nat) (vmm : Nat) (vmrn : Nat) (vmkn : Nat) (vmik : Nat) (vmon : Nat) (vosm : Int32) (vohp : Int32) (vmw : Nat) (vmf : Nat) (vmb : Nat) (vomb : Int32) (vmd : Nat) (vmc : Nat) (vocm : Int32) (voct : Int32) (vocy : Int32) (vmx : Nat) (votx : Int32) (vose : Int32) (vml : Nat) (vmwr : Nat) (voln : Int32) (vohw : Int32) (vmno : Nat) (vond : Int32) (voon : Int32) (vowi : Int32) (votop : Int32) (vmnf : Nat → Int32) (vmdf : Nat → Int32) (vmcf : Nat → Int32) (vm : Int32) (vlf : Int32) (vti : Int32) (vwe : Int32) (r_vocy : 0 ≤ (vocy : Int32).toInt ∧ (vocy : Int32).toInt ≤ 10) (r_vm : 0 ≤ (vm : Int32).toInt ∧ (vm : Int32).toInt ≤ 6) (r_vlf : 0 ≤ (vlf : Int32).toInt ∧ (vlf : Int32).toInt ≤ 10) (p_vmnf : NW vmnf) (hd : 3 ≤ (vmnf 1).toInt) : Met l yX11_careerFrom (wl yX11_careerFrom cX11_careerFrom 8 none) ({ frames := 8, cells := 0, slots := 0, locals := 512 }) (Pw (dC, dI) vwCl cy [(vo, .inr (12, [.int voth, .ref vmt, .int votp, .int vosz, .int volm, .int voto, .int vofr, .int vokd, .int vonu, .int vosg, .int vofa, .int vopl, .long vowd, .int votd, .ref vmn, .ref vmr, .ref vmk, .ref vms, .ref vma, .ref vmm, .ref vmrn, .ref vmkn, .ref vmik, .ref vmon, .int vosm, .int vohp, .ref vmw, .ref vmf, .ref vmb, .int vomb, .ref vmd, .ref vmc, .int vocm, .int voct, .int vocy, .ref vmx, .int votx, .int vose, .ref vml, .ref vmwr, .int voln, .int vohw, .ref vmno, .int vond, .int voon, .int vowi, .int votop])), (vmn, .inl (cy 0, 575, .inl vmnf)), (vmd, .inl (cy 0, 10, .inl vmdf)), (vmc, .inl (cy 0, 10, .inl vmcf))] sz [.ref vo, .int vm, .int 3, .int vlf, .int vti, .int vwe] nE) (Qv (dC, dI) vwCl (fun (u : Int32 × Int32 × (Nat → Int32) × Int32 × (Nat → Int32)) => (0 ≤ (u.2.2.2.1 : Int32).toInt ∧ (u.2.2.2.1 : Int32).toInt ≤ 10)) (O_m_careerFrom_3 cy vo voth vmt votp vosz volm voto vofr vokd vonu vosg vofa vopl vowd votd vmn vmr vmk vms vma vmm vmrn vmkn vmik vmon vosm vohp vmw vmf vmb vomb vmd vmc vocm voct vocy vmx votx vose vml vmwr voln vohw vmno vond voon vowi votop vmnf vmdf vmcf vm vlf vti vwe) (va_A [(vo, .inr (12, [.int voth, .ref vmt, .int votp, .int vosz, .int volm, .int voto, .int vofr, .int vokd, .int vonu, .int vosg, .int vofa, .int vopl, .long vowd, .int votd, .ref vmn, .ref vmr, .ref vmk, .ref vms, .ref vma, .ref vmm, .ref vmrn, .ref vmkn, .ref vmik, .ref vmon, .int vosm, .int vohp, .ref vmw, .ref vmf, .ref vmb, .int vomb, .ref vmd, .ref vmc, .int vocm, .int voct, .int vocy, .ref vmx, .int votx, .int vose, .ref vml, .ref vmwr, .int voln, .int vohw, .ref vmno, .int vond, .int voon, .int vowi, .int votop])), (vmn, .inl (cy 0, 575, .inl vmnf)), (vmd, .inl (cy 0, 10, .inl vmdf)), (vmc, .inl (cy 0, 10, .inl vmcf))] sz)) 0 0 (va_A [(vo, .inr (12, [.int voth, .ref vmt, .int votp, .int vosz, .int volm, .int voto, .int vofr, .int vokd, .int vonu, .int vosg, .int vofa, .int vopl, .long vowd, .int votd, .ref vmn, .ref vmr, .ref vmk, .ref vms, .ref vma, .ref vmm, .ref vmrn, .ref vmkn, .ref vmik, .ref vmon, .int vosm, .int vohp, .ref vmw, .ref vmf, .ref vmb, .int vomb, .ref vmd, .ref vmc, .int vocm, .int voct, .int vocy, .ref vmx, .int votx, .int vose, .ref vml, .ref vmwr, .int voln, .int vohw, .ref vmno, .int vond, .int voon, .int vowi, .int votop])), (vmn, .inl (cy 0, 575, .inl vmnf)), (vmd, .inl (cy 0, 10, .inl vmdf)), (vmc, .inl (cy 0, 10, .inl vmcf))] sz) := by
  refine mw (Qc := Qv (dC, dI) vwCl (fun (u : Int32 × Int32 × (Nat → Int32) × Int32 × (Nat → Int32)) => (0 ≤ (u.2.2.2.1 : Int32).toInt ∧ (u.2.2.2.1 : Int32).toInt ≤ 10)) (O_m_careerFrom_3 cy vo voth vmt votp vosz volm voto vofr vokd vonu vosg vofa vopl vowd votd vmn vmr vmk vms vma vmm vmrn vmkn vmik vmon vosm vohp vmw vmf vmb vomb vmd vmc vocm voct vocy vmx votx vose vml vmwr voln vohw vmno vond voon vowi votop vmnf vmdf vmcf vm vlf vti vwe)) RX11 rfl (by decide +kernel) (Nat.le_of_ble_eq_true rfl) ?_
  intro p e s m below meth c A hx hb hr hlocks av9 hav hts hown hnm hml hK hP hD hA hS hE hAe Q9 hQ9 ls hl
  have hl : lv_has ls 8 [(0, .ref vo), (1, .int vm), (2, .int 3), (3, .int vlf), (4, .int vti), (5, .int vwe)] := hl
  refine lv_iload_n hx hb dX11_careerFrom_0 rfl (lv_at hl 2 rfl) ?_
  refine lv_aload_n hx hb dX11_careerFrom_1 rfl (lv_at hl 0 rfl) ?_
  refine gf_X11_98 hx hb hts hown hK hP 0 rfl rfl dX11_careerFrom_2 ?_
  refine lv_iconst (v := 1) hx hb dX11_careerFrom_5 (by decide) ?_
  have k_1 : (1 : Int32).toInt = 1 := by decide
  have hin_1 : vp_in (1 : Int32) 575 := vp_in_iff.mpr ⟨by omega, by omega⟩
  refine va_iald hx hb hK hP 1 0 rfl rfl hin_1 dX11_careerFrom_6 ?_
  refine lv_topi (fun z_2 ez_2 => ?_)
  have bz_2 := p_vmnf.a1 (x := 1) ⟨by omega, by omega⟩ ez_2
  have tz_2 : z_2.toInt = (vmnf 1).toInt := by rw [ez_2]; rfl
  have k_3 : (3 : Int32).toInt = 3 := by decide
  refine lv_icmp_ne (tgt := 85) hx hb dX11_careerFrom_7 (by decide) (fun c_3 => ?_) (fun c_3 => ?_)
  · skip
    have c_3 : ¬ ((3 : Int32).toInt = z_2.toInt) := fun h9 => c_3 (i_eq.mpr h9)
    refine lv_iload_n hx hb dX11_careerFrom_85 rfl (lv_at hl 3 rfl) ?_
    refine lv_bipush (v := 9) hx hb dX11_careerFrom_86 (by decide) ?_
    refine lv_aload_n hx hb dX11_careerFrom_88 rfl (lv_at hl 0 rfl) ?_
    refine lv_iload_n hx hb dX11_careerFrom_89 rfl (lv_at hl 1 rfl) ?_
    refine lv_iload_n hx hb dX11_careerFrom_90 rfl (lv_at hl 2 rfl) ?_
    refine jr_i (rVr (As := [.int vm, .int 3]) (rest := [.int 9, .int vlf]) (ci := 12) ⟨hx, hb, hml, hown, hts⟩ (m_didOf l dC dI cy vo voth vmt votp vosz volm voto vofr vokd vonu vosg vofa vopl vowd votd vmn vmr vmk vms vma vmm vmrn vmkn vmik vmon vosm vohp vmw vmf vmb vomb vmd vmc vocm voct vocy vmx votx vose vml vmwr voln vohw vmno vond voon vowi votop vmnf vm 3 ⟨by omega, by omega⟩ ⟨by omega, by omega⟩ p_vmnf) (cw_X11_228 hts rfl rfl ⟨Nat.le_of_ble_eq_true rfl, Nat.le_of_ble_eq_true rfl⟩) hP hK [0, 1] rfl rfl rfl rfl hl.1 rfl (Nat.le_of_ble_eq_true rfl) dX11_careerFrom_91 ⟨Nat.le_of_ble_eq_true rfl, Nat.le_of_ble_eq_true rfl⟩) hP hS (fun r_4 H locs hp_5 hP hS => ?_)
    refine lv_isub hx hb dX11_careerFrom_94 ?_
    refine lv_topi (fun z_6 ez_6 => ?_)
    refine jr_i (rSr (As := [.int vlf, .int z_6]) (rest := []) ⟨hx, hb, hml, hown, hts⟩ (m_least l dC dI cy vlf z_6 ) (cw_X11_288 hts rfl rfl ⟨Nat.le_of_ble_eq_true rfl, Nat.le_of_ble_eq_true rfl⟩) hP hK [] rfl rfl hl.1 rfl (Nat.le_of_ble_eq_true rfl) dX11_careerFrom_95 ⟨Nat.le_of_ble_eq_true rfl, Nat.le_of_ble_eq_true rfl⟩) hP hS (fun r_7 H locs hp_8 hP hS => ?_)
    have hp_8 : ((r_7 : Int32).toInt ≤ (vlf : Int32).toInt) ∧ ((r_7 : Int32).toInt ≤ (z_6 : Int32).toInt) ∧ (((r_7 : Int32).toInt = (vlf : Int32).toInt ∨ (r_7 : Int32).toInt = (z_6 : Int32).toInt)) := hp_8
    obtain ⟨q_9, q_10, q_11⟩ := hp_8
    refine lv_istore (lv' := [(6, .int r_7), (0, .ref vo), (1, .int vm), (2, .int 3), (3, .int vlf), (4, .int vti), (5, .int vwe)]) hx hb dX11_careerFrom_98 hl (by decide) rfl (fun ls hl => ?_)
    refine lv_iconst (v := 0) hx hb dX11_careerFrom_100 (by decide) ?_
    refine lv_istore (lv' := [(7, .int 0), (6, .int r_7), (0, .ref vo), (1, .int vm), (2, .int 3), (3, .int vlf), (4, .int vti), (5, .int vwe)]) hx hb dX11_careerFrom_101 hl (by decide) rfl (fun ls hl => ?_)
    have loop12 : ∀ (n12 : Nat) (x_13 : Int32) (x_14 : Int32) (x_15 : Int32) (x_16 : Int32) (g_17 : Nat → Int32) (g_18 : Nat → Int32), (0 ≤ x_13.toInt ∧ x_13.toInt ≤ 11) → (0 ≤ x_16.toInt ∧ x_16.toInt ≤ 10) → 11 - x_13.toInt < (n12 : Int) → ∀ (H : Heap) (locs : List Loc), va_P (dC, dI) vwCl [(vo, .inr (12, [.int voth, .ref vmt, .int votp, .int vosz, .int volm, .int voto, .int vofr, .int vokd, .int vonu, .int vosg, .int vofa, .int vopl, .long vowd, .int votd, .ref vmn, .ref vmr, .ref vmk, .ref vms, .ref vma, .ref vmm, .ref vmrn, .ref vmkn, .ref vmik, .ref vmon, .int vosm, .int vohp, .ref vmw, .ref vmf, .ref vmb, .int vomb, .ref vmd, .ref vmc, .int x_14, .int x_15, .int x_16, .ref vmx, .int votx, .int vose, .ref vml, .ref vmwr, .int voln, .int vohw, .ref vmno, .int vond, .int voon, .int vowi, .int votop])), (vmn, .inl (cy 0, 575, .inl vmnf)), (vmd, .inl (cy 0, 10, .inl g_18)), (vmc, .inl (cy 0, 10, .inl g_17))] H → va_D A [(vo, .inr (12, [.int voth, .ref vmt, .int votp, .int vosz, .int volm, .int voto, .int vofr, .int vokd, .int vonu, .int vosg, .int vofa, .int vopl, .long vowd, .int votd, .ref vmn, .ref vmr, .ref vmk, .ref vms, .ref vma, .ref vmm, .ref vmrn, .ref vmkn, .ref vmik, .ref vmon, .int vosm, .int vohp, .ref vmw, .ref vmf, .ref vmb, .int vomb, .ref vmd, .ref vmc, .int x_14, .int x_15, .int x_16, .ref vmx, .int votx, .int vose, .ref vml, .ref vmwr, .int voln, .int vohw, .ref vmno, .int vond, .int voon, .int vowi, .int votop])), (vmn, .inl (cy 0, 575, .inl vmnf)), (vmd, .inl (cy 0, 10, .inl g_18)), (vmc, .inl (cy 0, 10, .inl g_17))] → va_S A s.heap H locs → ∀ ls : Array Slot, lv_has ls 8 [(7, .int x_13), (6, .int r_7), (0, .ref vo), (1, .int vm), (2, .int 3), (3, .int vlf), (4, .int vti), (5, .int vwe)] → W p l e ({ frames := 8, cells := 0, slots := 0, locals := 512 }) s m av9 below meth c H locs 0 0 Q9 (F0 m 103 ls []) := by
      intro n12
      induction n12 with
      | zero =>
        intro x_13 x_14 x_15 x_16 g_17 g_18 bx_13 bx_16 hn12 H locs hP hD hS ls hl
        exfalso; omega
      | succ n12 ih12 =>
        intro x_13 x_14 x_15 x_16 g_17 g_18 bx_13 bx_16 hn12 H locs hP hD hS ls hl
        refine lv_iload hx hb dX11_careerFrom_103 (lv_at hl 0 rfl) ?_
        refine lv_iload hx hb dX11_careerFrom_105 (lv_at hl 1 rfl) ?_
        refine lv_icmp_gt (tgt := 180) hx hb dX11_careerFrom_107 (by decide) (fun c_19 => ?_) (fun c_19 => ?_)
        · skip
          have c_19 : r_7.toInt < x_13.toInt := i_lt.mp c_19
          rw [hQ9]
          exact re_v (x_14, x_15, g_17, x_16, g_18) hx hb hr hlocks (show 0 ≤ (x_16 : Int32).toInt ∧ (x_16 : Int32).toInt ≤ 10 from ⟨by omega, by omega⟩) (hP.sub [0, 1, 2, 3] rfl) (hD.sub [0, 1, 2, 3] rfl rfl) hS dX11_careerFrom_180
        · skip
          have c_19 : ¬ (r_7.toInt < x_13.toInt) := fun h9 => c_19 (i_lt.mpr h9)
          refine lv_iload hx hb dX11_careerFrom_110 (lv_at hl 7 rfl) ?_
          refine lv_iload hx hb dX11_careerFrom_112 (lv_at hl 0 rfl) ?_
          refine lv_aload_n hx hb dX11_careerFrom_114 rfl (lv_at hl 2 rfl) ?_
          refine gf_X11_98 hx hb hts hown hK hP 0 rfl rfl dX11_careerFrom_115 ?_
          refine lv_bipush (v := 11) hx hb dX11_careerFrom_118 (by decide) ?_
          refine lv_iload_n hx hb dX11_careerFrom_120 rfl (lv_at hl 4 rfl) ?_
          refine lv_iadd hx hb dX11_careerFrom_121 ?_
          refine as_i 14 (by decide) ?_
          have k_14 : (14 : Int32).toInt = 14 := by decide
          have hin_20 : vp_in (14 : Int32) 575 := vp_in_iff.mpr ⟨by omega, by omega⟩
          refine va_iald hx hb hK hP 1 0 rfl rfl hin_20 dX11_careerFrom_122 ?_
          refine lv_topi (fun z_21 ez_21 => ?_)
          have bz_21 := p_vmnf.aw (x := 14) ⟨by omega, by omega⟩ ez_21
          have tz_21 : z_21.toInt = (vmnf 14).toInt := by rw [ez_21]; rfl
          refine lv_imul hx hb dX11_careerFrom_123 ?_
          refine lv_topi (fun z_22 ez_22 => ?_)
          have bz_22 : 0 ≤ z_22.toInt ∧ z_22.toInt ≤ 400 ∧ z_22.toInt = x_13.toInt * z_21.toInt := i_mulb (A := 10) (B := 40) ez_22 ⟨by omega, by omega⟩ ⟨by omega, by omega⟩ (by decide)
          refine lv_iadd hx hb dX11_careerFrom_124 ?_
          refine lv_topi (fun z_23 ez_23 => ?_)
          refine lv_aload_n hx hb dX11_careerFrom_125 rfl (lv_at hl 2 rfl) ?_
          refine gf_X11_98 hx hb hts hown hK hP 0 rfl rfl dX11_careerFrom_126 ?_
          refine lv_iconst (v := 2) hx hb dX11_careerFrom_129 (by decide) ?_
          have k_2 : (2 : Int32).toInt = 2 := by decide
          have hin_24 : vp_in (2 : Int32) 575 := vp_in_iff.mpr ⟨by omega, by omega⟩
          refine va_iald hx hb hK hP 1 0 rfl rfl hin_24 dX11_careerFrom_130 ?_
          refine lv_topi (fun z_25 ez_25 => ?_)
          have tz_25 : z_25.toInt = (vmnf 2).toInt := by rw [ez_25]; rfl
          refine lv_icmp_gt (tgt := 180) hx hb dX11_careerFrom_131 (by decide) (fun c_26 => ?_) (fun c_26 => ?_)
          · skip
            have c_26 : z_25.toInt < z_23.toInt := i_lt.mp c_26
            rw [hQ9]
            exact re_v (x_14, x_15, g_17, x_16, g_18) hx hb hr hlocks (show 0 ≤ (x_16 : Int32).toInt ∧ (x_16 : Int32).toInt ≤ 10 from ⟨by omega, by omega⟩) (hP.sub [0, 1, 2, 3] rfl) (hD.sub [0, 1, 2, 3] rfl rfl) hS dX11_careerFrom_180
          · skip
            have c_26 : ¬ (z_25.toInt < z_23.toInt) := fun h9 => c_26 (i_lt.mpr h9)
            refine lv_aload_n hx hb dX11_careerFrom_134 rfl (lv_at hl 2 rfl) ?_
            refine gf_X11_142 hx hb hts hown hK hP 0 rfl rfl dX11_careerFrom_135 ?_
            refine lv_iload_n hx hb dX11_careerFrom_138 rfl (lv_at hl 4 rfl) ?_
            refine lv_iload hx hb dX11_careerFrom_139 (lv_at hl 0 rfl) ?_
            have hin_27 : vp_in (3 : Int32) 10 := vp_in_iff.mpr ⟨by omega, by omega⟩
            refine va_iast hx hb hK hP hD hS 2 0 rfl rfl hin_27 dX11_careerFrom_141 (fun H locs hP hD hS => ?_)
            obtain ⟨f_28, ef_28⟩ : ∃ z : Nat → Int32, z = upd g_18 (Int32.toNatClampNeg 3) x_13 := ⟨_, rfl⟩
            have hP : va_P (dC, dI) vwCl [(vo, .inr (12, [.int voth, .ref vmt, .int votp, .int vosz, .int volm, .int voto, .int vofr, .int vokd, .int vonu, .int vosg, .int vofa, .int vopl, .long vowd, .int votd, .ref vmn, .ref vmr, .ref vmk, .ref vms, .ref vma, .ref vmm, .ref vmrn, .ref vmkn, .ref vmik, .ref vmon, .int vosm, .int vohp, .ref vmw, .ref vmf, .ref vmb, .int vomb, .ref vmd, .ref vmc, .int x_14, .int x_15, .int x_16, .ref vmx, .int votx, .int vose, .ref vml, .ref vmwr, .int voln, .int vohw, .ref vmno, .int vond, .int voon, .int vowi, .int votop])), (vmn, .inl (cy 0, 575, .inl vmnf)), (vmd, .inl (cy 0, 10, .inl f_28)), (vmc, .inl (cy 0, 10, .inl g_17))] H := by rw [ef_28]; exact hP
            have hD : va_D A [(vo, .inr (12, [.int voth, .ref vmt, .int votp, .int vosz, .int volm, .int voto, .int vofr, .int vokd, .int vonu, .int vosg, .int vofa, .int vopl, .long vowd, .int votd, .ref vmn, .ref vmr, .ref vmk, .ref vms, .ref vma, .ref vmm, .ref vmrn, .ref vmkn, .ref vmik, .ref vmon, .int vosm, .int vohp, .ref vmw, .ref vmf, .ref vmb, .int vomb, .ref vmd, .ref vmc, .int x_14, .int x_15, .int x_16, .ref vmx, .int votx, .int vose, .ref vml, .ref vmwr, .int voln, .int vohw, .ref vmno, .int vond, .int voon, .int vowi, .int votop])), (vmn, .inl (cy 0, 575, .inl vmnf)), (vmd, .inl (cy 0, 10, .inl f_28)), (vmc, .inl (cy 0, 10, .inl g_17))] := by rw [ef_28]; exact hD
            refine lv_aload_n hx hb dX11_careerFrom_142 rfl (lv_at hl 2 rfl) ?_
            refine lv_iload_n hx hb dX11_careerFrom_143 rfl (lv_at hl 3 rfl) ?_
            refine lv_iload_n hx hb dX11_careerFrom_144 rfl (lv_at hl 4 rfl) ?_
            refine lv_iconst (v := 1) hx hb dX11_careerFrom_145 (by decide) ?_
            refine lv_iadd hx hb dX11_careerFrom_146 ?_
            refine as_i 4 (by decide) ?_
            refine lv_iload_n hx hb dX11_careerFrom_147 rfl (lv_at hl 5 rfl) ?_
            refine lv_iload hx hb dX11_careerFrom_148 (lv_at hl 0 rfl) ?_
            refine lv_isub hx hb dX11_careerFrom_150 ?_
            refine lv_topi (fun z_29 ez_29 => ?_)
            have bz_29 : z_29.toInt = vlf.toInt - x_13.toInt := i_sub ez_29 (by omega) (by omega)
            refine lv_iload hx hb dX11_careerFrom_151 (lv_at hl 6 rfl) ?_
            refine lv_iload hx hb dX11_careerFrom_153 (lv_at hl 0 rfl) ?_
            refine lv_iadd hx hb dX11_careerFrom_155 ?_
            refine lv_topi (fun z_30 ez_30 => ?_)
            refine lv_iload hx hb dX11_careerFrom_156 (lv_at hl 7 rfl) ?_
            refine lv_iload hx hb dX11_careerFrom_158 (lv_at hl 0 rfl) ?_
            refine lv_aload_n hx hb dX11_careerFrom_160 rfl (lv_at hl 2 rfl) ?_
            refine gf_X11_98 hx hb hts hown hK hP 0 rfl rfl dX11_careerFrom_161 ?_
            refine lv_bipush (v := 11) hx hb dX11_careerFrom_164 (by decide) ?_
            refine lv_iload_n hx hb dX11_careerFrom_166 rfl (lv_at hl 4 rfl) ?_
            refine lv_iadd hx hb dX11_careerFrom_167 ?_
            refine as_i 14 (by decide) ?_
            have hin_31 : vp_in (14 : Int32) 575 := vp_in_iff.mpr ⟨by omega, by omega⟩
            refine va_iald hx hb hK hP 1 0 rfl rfl hin_31 dX11_careerFrom_168 ?_
            refine lv_topi (fun z_32 ez_32 => ?_)
            have bz_32 := p_vmnf.aw (x := 14) ⟨by omega, by omega⟩ ez_32
            have tz_32 : z_32.toInt = (vmnf 14).toInt := by rw [ez_32]; rfl
            refine lv_imul hx hb dX11_careerFrom_169 ?_
            refine lv_topi (fun z_33 ez_33 => ?_)
            have bz_33 : 0 ≤ z_33.toInt ∧ z_33.toInt ≤ 400 ∧ z_33.toInt = x_13.toInt * z_32.toInt := i_mulb (A := 10) (B := 40) ez_33 ⟨by omega, by omega⟩ ⟨by omega, by omega⟩ (by decide)
            refine lv_iadd hx hb dX11_careerFrom_170 ?_
            refine lv_topi (fun z_34 ez_34 => ?_)
            refine jn_v (wr := []) (rV (As := [.int vm, .int 4, .int z_29, .int z_30, .int z_34]) (rest := []) (ci := 12) ⟨hx, hb, hml, hown, hts⟩ (m_careerFrom_4 l dC dI cy _ vo voth vmt votp vosz volm voto vofr vokd vonu vosg vofa vopl vowd votd vmn vmr vmk vms vma vmm vmrn vmkn vmik vmon vosm vohp vmw vmf vmb vomb vmd vmc x_14 x_15 x_16 vmx votx vose vml vmwr voln vohw vmno vond voon vowi votop vmnf f_28 g_17 vm z_29 z_30 z_34 ⟨by omega, by omega⟩ r_vm ⟨by omega, by omega⟩ p_vmnf (by omega)) (cw_X11_331 hts rfl rfl ⟨Nat.le_of_ble_eq_true rfl, Nat.le_of_ble_eq_true rfl⟩) hP hD hK [0, 1, 2, 3] rfl rfl rfl rfl bl0 e0 rfl hl.1 rfl (Nat.le_of_ble_eq_true rfl) dX11_careerFrom_171 ⟨Nat.le_of_ble_eq_true rfl, Nat.le_of_ble_eq_true rfl⟩) hP hD hS hA [0, 1, 2, 3] [] rfl rfl rfl (by decide) (fun u_37 H locs hp_36 hP hD hS => ?_)
            obtain ⟨vocm_38, voct_39, vmcf_40, vocy_41, vmdf_42⟩ := u_37
            have hp_36 : (0 ≤ (vocy_41 : Int32).toInt ∧ (vocy_41 : Int32).toInt ≤ 10) := hp_36
            have q_43 := hp_36
            have hP : va_P (dC, dI) vwCl [(vo, .inr (12, [.int voth, .ref vmt, .int votp, .int vosz, .int volm, .int voto, .int vofr, .int vokd, .int vonu, .int vosg, .int vofa, .int vopl, .long vowd, .int votd, .ref vmn, .ref vmr, .ref vmk, .ref vms, .ref vma, .ref vmm, .ref vmrn, .ref vmkn, .ref vmik, .ref vmon, .int vosm, .int vohp, .ref vmw, .ref vmf, .ref vmb, .int vomb, .ref vmd, .ref vmc, .int vocm_38, .int voct_39, .int vocy_41, .ref vmx, .int votx, .int vose, .ref vml, .ref vmwr, .int voln, .int vohw, .ref vmno, .int vond, .int voon, .int vowi, .int votop])), (vmn, .inl (cy 0, 575, .inl vmnf)), (vmd, .inl (cy 0, 10, .inl vmdf_42)), (vmc, .inl (cy 0, 10, .inl vmcf_40))] H := hP
            have hD : va_D A [(vo, .inr (12, [.int voth, .ref vmt, .int votp, .int vosz, .int volm, .int voto, .int vofr, .int vokd, .int vonu, .int vosg, .int vofa, .int vopl, .long vowd, .int votd, .ref vmn, .ref vmr, .ref vmk, .ref vms, .ref vma, .ref vmm, .ref vmrn, .ref vmkn, .ref vmik, .ref vmon, .int vosm, .int vohp, .ref vmw, .ref vmf, .ref vmb, .int vomb, .ref vmd, .ref vmc, .int vocm_38, .int voct_39, .int vocy_41, .ref vmx, .int votx, .int vose, .ref vml, .ref vmwr, .int voln, .int vohw, .ref vmno, .int vond, .int voon, .int vowi, .int votop])), (vmn, .inl (cy 0, 575, .inl vmnf)), (vmd, .inl (cy 0, 10, .inl vmdf_42)), (vmc, .inl (cy 0, 10, .inl vmcf_40))] := hD
            obtain ⟨z_44, ez_44⟩ : ∃ z : Int32, z = x_13 + 1 := ⟨_, rfl⟩
            have bz_44 : z_44.toInt = x_13.toInt + (1 : Int32).toInt := i_add ez_44 (by omega) (by omega)
            refine lv_iinc (v := z_44) (lv' := [(7, .int z_44), (6, .int r_7), (0, .ref vo), (1, .int vm), (2, .int 3), (3, .int vlf), (4, .int vti), (5, .int vwe)]) hx hb dX11_careerFrom_174 hl (k := 0) rfl ez_44.symm (by decide) rfl (fun ls hl => ?_)
            refine lv_goto (tgt := 103) hx hb dX11_careerFrom_177 (by decide) ?_
            exact ih12 z_44 vocm_38 voct_39 vocy_41 vmcf_40 vmdf_42 ⟨by omega, by omega⟩ ⟨by omega, by omega⟩ (by omega) _ _ (hP.sub [0, 1, 2, 3] rfl) (hD.sub [0, 1, 2, 3] rfl rfl) hS ls (lv_sub hl [0, 1, 2, 3, 4, 5, 6, 7] rfl)
    have k_0 : (0 : Int32).toInt = 0 := by decide
    exact loop12 ((11 - (0 : Int32).toInt).toNat + 1) 0 vocm voct vocy vmcf vmdf ⟨by omega, by omega⟩ ⟨by omega, by omega⟩ (by omega) _ _ hP hD hS ls (lv_sub hl [0, 1, 2, 3, 4, 5, 6, 7] rfl)
  · skip
    have c_3 : (3 : Int32).toInt = z_2.toInt := i_eq.mp c_3
    have join45 : ∀ (H : Heap) (locs : List Loc), va_P (dC, dI) vwCl [(vo, .inr (12, [.int voth, .ref vmt, .int votp, .int vosz, .int volm, .int voto, .int vofr, .int vokd, .int vonu, .int vosg, .int vofa, .int vopl, .long vowd, .int votd, .ref vmn, .ref vmr, .ref vmk, .ref vms, .ref vma, .ref vmm, .ref vmrn, .ref vmkn, .ref vmik, .ref vmon, .int vosm, .int vohp, .ref vmw, .ref vmf, .ref vmb, .int vomb, .ref vmd, .ref vmc, .int vocm, .int voct, .int vocy, .ref vmx, .int votx, .int vose, .ref vml, .ref vmwr, .int voln, .int vohw, .ref vmno, .int vond, .int voon, .int vowi, .int votop])), (vmn, .inl (cy 0, 575, .inl vmnf)), (vmd, .inl (cy 0, 10, .inl vmdf)), (vmc, .inl (cy 0, 10, .inl vmcf))] H → va_D A [(vo, .inr (12, [.int voth, .ref vmt, .int votp, .int vosz, .int volm, .int voto, .int vofr, .int vokd, .int vonu, .int vosg, .int vofa, .int vopl, .long vowd, .int votd, .ref vmn, .ref vmr, .ref vmk, .ref vms, .ref vma, .ref vmm, .ref vmrn, .ref vmkn, .ref vmik, .ref vmon, .int vosm, .int vohp, .ref vmw, .ref vmf, .ref vmb, .int vomb, .ref vmd, .ref vmc, .int vocm, .int voct, .int vocy, .ref vmx, .int votx, .int vose, .ref vml, .ref vmwr, .int voln, .int vohw, .ref vmno, .int vond, .int voon, .int vowi, .int votop])), (vmn, .inl (cy 0, 575, .inl vmnf)), (vmd, .inl (cy 0, 10, .inl vmdf)), (vmc, .inl (cy 0, 10, .inl vmcf))] → va_S A s.heap H locs → ∀ ls : Array Slot, lv_has ls 8 [(0, .ref vo), (1, .int vm), (2, .int 3), (3, .int vlf), (4, .int vti), (5, .int vwe)] → W p l e ({ frames := 8, cells := 0, slots := 0, locals := 512 }) s m av9 below meth c H locs 0 0 Q9 (F0 m 38 ls []) := by
      intro  H locs hP hD hS ls hl
      refine lv_aload_n hx hb dX11_careerFrom_38 rfl (lv_at hl 0 rfl) ?_
      refine lv_iload hx hb dX11_careerFrom_39 (lv_at hl 5 rfl) ?_
      refine pf_X11_322 hx hb hts hown hK hP hD hS 0 rfl rfl rfl (Nat.le_of_ble_eq_true rfl) dX11_careerFrom_41 (fun H locs hP hD hS => ?_)
      have hP : va_P (dC, dI) vwCl [(vo, .inr (12, [.int voth, .ref vmt, .int votp, .int vosz, .int volm, .int voto, .int vofr, .int vokd, .int vonu, .int vosg, .int vofa, .int vopl, .long vowd, .int votd, .ref vmn, .ref vmr, .ref vmk, .ref vms, .ref vma, .ref vmm, .ref vmrn, .ref vmkn, .ref vmik, .ref vmon, .int vosm, .int vohp, .ref vmw, .ref vmf, .ref vmb, .int vomb, .ref vmd, .ref vmc, .int vwe, .int voct, .int vocy, .ref vmx, .int votx, .int vose, .ref vml, .ref vmwr, .int voln, .int vohw, .ref vmno, .int vond, .int voon, .int vowi, .int votop])), (vmn, .inl (cy 0, 575, .inl vmnf)), (vmd, .inl (cy 0, 10, .inl vmdf)), (vmc, .inl (cy 0, 10, .inl vmcf))] H := hP
      have hD : va_D A [(vo, .inr (12, [.int voth, .ref vmt, .int votp, .int vosz, .int volm, .int voto, .int vofr, .int vokd, .int vonu, .int vosg, .int vofa, .int vopl, .long vowd, .int votd, .ref vmn, .ref vmr, .ref vmk, .ref vms, .ref vma, .ref vmm, .ref vmrn, .ref vmkn, .ref vmik, .ref vmon, .int vosm, .int vohp, .ref vmw, .ref vmf, .ref vmb, .int vomb, .ref vmd, .ref vmc, .int vwe, .int voct, .int vocy, .ref vmx, .int votx, .int vose, .ref vml, .ref vmwr, .int voln, .int vohw, .ref vmno, .int vond, .int voon, .int vowi, .int votop])), (vmn, .inl (cy 0, 575, .inl vmnf)), (vmd, .inl (cy 0, 10, .inl vmdf)), (vmc, .inl (cy 0, 10, .inl vmcf))] := hD
      refine lv_aload_n hx hb dX11_careerFrom_44 rfl (lv_at hl 0 rfl) ?_
      refine lv_iload hx hb dX11_careerFrom_45 (lv_at hl 4 rfl) ?_
      refine pf_X11_325 hx hb hts hown hK hP hD hS 0 rfl rfl rfl (Nat.le_of_ble_eq_true rfl) dX11_careerFrom_47 (fun H locs hP hD hS => ?_)
      have hP : va_P (dC, dI) vwCl [(vo, .inr (12, [.int voth, .ref vmt, .int votp, .int vosz, .int volm, .int voto, .int vofr, .int vokd, .int vonu, .int vosg, .int vofa, .int vopl, .long vowd, .int votd, .ref vmn, .ref vmr, .ref vmk, .ref vms, .ref vma, .ref vmm, .ref vmrn, .ref vmkn, .ref vmik, .ref vmon, .int vosm, .int vohp, .ref vmw, .ref vmf, .ref vmb, .int vomb, .ref vmd, .ref vmc, .int vwe, .int vti, .int vocy, .ref vmx, .int votx, .int vose, .ref vml, .ref vmwr, .int voln, .int vohw, .ref vmno, .int vond, .int voon, .int vowi, .int votop])), (vmn, .inl (cy 0, 575, .inl vmnf)), (vmd, .inl (cy 0, 10, .inl vmdf)), (vmc, .inl (cy 0, 10, .inl vmcf))] H := hP
      have hD : va_D A [(vo, .inr (12, [.int voth, .ref vmt, .int votp, .int vosz, .int volm, .int voto, .int vofr, .int vokd, .int vonu, .int vosg, .int vofa, .int vopl, .long vowd, .int votd, .ref vmn, .ref vmr, .ref vmk, .ref vms, .ref vma, .ref vmm, .ref vmrn, .ref vmkn, .ref vmik, .ref vmon, .int vosm, .int vohp, .ref vmw, .ref vmf, .ref vmb, .int vomb, .ref vmd, .ref vmc, .int vwe, .int vti, .int vocy, .ref vmx, .int votx, .int vose, .ref vml, .ref vmwr, .int voln, .int vohw, .ref vmno, .int vond, .int voon, .int vowi, .int votop])), (vmn, .inl (cy 0, 575, .inl vmnf)), (vmd, .inl (cy 0, 10, .inl vmdf)), (vmc, .inl (cy 0, 10, .inl vmcf))] := hD
      refine lv_iconst (v := 0) hx hb dX11_careerFrom_50 (by decide) ?_
      refine lv_istore (lv' := [(6, .int 0), (0, .ref vo), (1, .int vm), (2, .int 3), (3, .int vlf), (4, .int vti), (5, .int vwe)]) hx hb dX11_careerFrom_51 hl (by decide) rfl (fun ls hl => ?_)
      have loop46 : ∀ (n46 : Nat) (x_47 : Int32) (g_48 : Nat → Int32), (0 ≤ x_47.toInt ∧ x_47.toInt ≤ 10) → 10 - x_47.toInt < (n46 : Int) → ∀ (H : Heap) (locs : List Loc), va_P (dC, dI) vwCl [(vo, .inr (12, [.int voth, .ref vmt, .int votp, .int vosz, .int volm, .int voto, .int vofr, .int vokd, .int vonu, .int vosg, .int vofa, .int vopl, .long vowd, .int votd, .ref vmn, .ref vmr, .ref vmk, .ref vms, .ref vma, .ref vmm, .ref vmrn, .ref vmkn, .ref vmik, .ref vmon, .int vosm, .int vohp, .ref vmw, .ref vmf, .ref vmb, .int vomb, .ref vmd, .ref vmc, .int vwe, .int vti, .int vocy, .ref vmx, .int votx, .int vose, .ref vml, .ref vmwr, .int voln, .int vohw, .ref vmno, .int vond, .int voon, .int vowi, .int votop])), (vmn, .inl (cy 0, 575, .inl vmnf)), (vmd, .inl (cy 0, 10, .inl vmdf)), (vmc, .inl (cy 0, 10, .inl g_48))] H → va_D A [(vo, .inr (12, [.int voth, .ref vmt, .int votp, .int vosz, .int volm, .int voto, .int vofr, .int vokd, .int vonu, .int vosg, .int vofa, .int vopl, .long vowd, .int votd, .ref vmn, .ref vmr, .ref vmk, .ref vms, .ref vma, .ref vmm, .ref vmrn, .ref vmkn, .ref vmik, .ref vmon, .int vosm, .int vohp, .ref vmw, .ref vmf, .ref vmb, .int vomb, .ref vmd, .ref vmc, .int vwe, .int vti, .int vocy, .ref vmx, .int votx, .int vose, .ref vml, .ref vmwr, .int voln, .int vohw, .ref vmno, .int vond, .int voon, .int vowi, .int votop])), (vmn, .inl (cy 0, 575, .inl vmnf)), (vmd, .inl (cy 0, 10, .inl vmdf)), (vmc, .inl (cy 0, 10, .inl g_48))] → va_S A s.heap H locs → ∀ ls : Array Slot, lv_has ls 8 [(6, .int x_47), (0, .ref vo), (1, .int vm), (2, .int 3), (3, .int vlf), (4, .int vti), (5, .int vwe)] → W p l e ({ frames := 8, cells := 0, slots := 0, locals := 512 }) s m av9 below meth c H locs 0 0 Q9 (F0 m 53 ls []) := by
        intro n46
        induction n46 with
        | zero =>
          intro x_47 g_48 bx_47 hn46 H locs hP hD hS ls hl
          exfalso; omega
        | succ n46 ih46 =>
          intro x_47 g_48 bx_47 hn46 H locs hP hD hS ls hl
          refine lv_iload hx hb dX11_careerFrom_53 (lv_at hl 0 rfl) ?_
          refine lv_iload_n hx hb dX11_careerFrom_55 rfl (lv_at hl 3 rfl) ?_
          refine lv_icmp_ge (tgt := 79) hx hb dX11_careerFrom_56 (by decide) (fun c_49 => ?_) (fun c_49 => ?_)
          · skip
            have c_49 : (3 : Int32).toInt ≤ x_47.toInt := i_le.mp c_49
            refine lv_aload_n hx hb dX11_careerFrom_79 rfl (lv_at hl 1 rfl) ?_
            refine lv_iload_n hx hb dX11_careerFrom_80 rfl (lv_at hl 3 rfl) ?_
            refine pf_X11_328 hx hb hts hown hK hP hD hS 0 rfl rfl rfl (Nat.le_of_ble_eq_true rfl) dX11_careerFrom_81 (fun H locs hP hD hS => ?_)
            have hP : va_P (dC, dI) vwCl [(vo, .inr (12, [.int voth, .ref vmt, .int votp, .int vosz, .int volm, .int voto, .int vofr, .int vokd, .int vonu, .int vosg, .int vofa, .int vopl, .long vowd, .int votd, .ref vmn, .ref vmr, .ref vmk, .ref vms, .ref vma, .ref vmm, .ref vmrn, .ref vmkn, .ref vmik, .ref vmon, .int vosm, .int vohp, .ref vmw, .ref vmf, .ref vmb, .int vomb, .ref vmd, .ref vmc, .int vwe, .int vti, .int 3, .ref vmx, .int votx, .int vose, .ref vml, .ref vmwr, .int voln, .int vohw, .ref vmno, .int vond, .int voon, .int vowi, .int votop])), (vmn, .inl (cy 0, 575, .inl vmnf)), (vmd, .inl (cy 0, 10, .inl vmdf)), (vmc, .inl (cy 0, 10, .inl g_48))] H := hP
            have hD : va_D A [(vo, .inr (12, [.int voth, .ref vmt, .int votp, .int vosz, .int volm, .int voto, .int vofr, .int vokd, .int vonu, .int vosg, .int vofa, .int vopl, .long vowd, .int votd, .ref vmn, .ref vmr, .ref vmk, .ref vms, .ref vma, .ref vmm, .ref vmrn, .ref vmkn, .ref vmik, .ref vmon, .int vosm, .int vohp, .ref vmw, .ref vmf, .ref vmb, .int vomb, .ref vmd, .ref vmc, .int vwe, .int vti, .int 3, .ref vmx, .int votx, .int vose, .ref vml, .ref vmwr, .int voln, .int vohw, .ref vmno, .int vond, .int voon, .int vowi, .int votop])), (vmn, .inl (cy 0, 575, .inl vmnf)), (vmd, .inl (cy 0, 10, .inl vmdf)), (vmc, .inl (cy 0, 10, .inl g_48))] := hD
            rw [hQ9]
            exact re_v (vwe, vti, g_48, (3 : Int32), vmdf) hx hb hr hlocks (show 0 ≤ (3 : Int32).toInt ∧ (3 : Int32).toInt ≤ 10 from ⟨by omega, by omega⟩) (hP.sub [0, 1, 2, 3] rfl) (hD.sub [0, 1, 2, 3] rfl rfl) hS dX11_careerFrom_84
          · skip
            have c_49 : ¬ ((3 : Int32).toInt ≤ x_47.toInt) := fun h9 => c_49 (i_le.mpr h9)
            refine lv_aload_n hx hb dX11_careerFrom_59 rfl (lv_at hl 1 rfl) ?_
            refine gf_X11_145 hx hb hts hown hK hP 0 rfl rfl dX11_careerFrom_60 ?_
            refine lv_iload hx hb dX11_careerFrom_63 (lv_at hl 0 rfl) ?_
            refine lv_aload_n hx hb dX11_careerFrom_65 rfl (lv_at hl 1 rfl) ?_
            refine gf_X11_142 hx hb hts hown hK hP 0 rfl rfl dX11_careerFrom_66 ?_
            refine lv_iload hx hb dX11_careerFrom_69 (lv_at hl 0 rfl) ?_
            have hin_50 : vp_in x_47 10 := vp_in_iff.mpr ⟨by omega, by omega⟩
            refine va_iald hx hb hK hP 2 0 rfl rfl hin_50 dX11_careerFrom_71 ?_
            refine lv_topi (fun z_51 ez_51 => ?_)
            have hin_52 : vp_in x_47 10 := vp_in_iff.mpr ⟨by omega, by omega⟩
            refine va_iast hx hb hK hP hD hS 3 0 rfl rfl hin_52 dX11_careerFrom_72 (fun H locs hP hD hS => ?_)
            obtain ⟨f_53, ef_53⟩ : ∃ z : Nat → Int32, z = upd g_48 (Int32.toNatClampNeg x_47) z_51 := ⟨_, rfl⟩
            have hP : va_P (dC, dI) vwCl [(vo, .inr (12, [.int voth, .ref vmt, .int votp, .int vosz, .int volm, .int voto, .int vofr, .int vokd, .int vonu, .int vosg, .int vofa, .int vopl, .long vowd, .int votd, .ref vmn, .ref vmr, .ref vmk, .ref vms, .ref vma, .ref vmm, .ref vmrn, .ref vmkn, .ref vmik, .ref vmon, .int vosm, .int vohp, .ref vmw, .ref vmf, .ref vmb, .int vomb, .ref vmd, .ref vmc, .int vwe, .int vti, .int vocy, .ref vmx, .int votx, .int vose, .ref vml, .ref vmwr, .int voln, .int vohw, .ref vmno, .int vond, .int voon, .int vowi, .int votop])), (vmn, .inl (cy 0, 575, .inl vmnf)), (vmd, .inl (cy 0, 10, .inl vmdf)), (vmc, .inl (cy 0, 10, .inl f_53))] H := by rw [ef_53]; exact hP
            have hD : va_D A [(vo, .inr (12, [.int voth, .ref vmt, .int votp, .int vosz, .int volm, .int voto, .int vofr, .int vokd, .int vonu, .int vosg, .int vofa, .int vopl, .long vowd, .int votd, .ref vmn, .ref vmr, .ref vmk, .ref vms, .ref vma, .ref vmm, .ref vmrn, .ref vmkn, .ref vmik, .ref vmon, .int vosm, .int vohp, .ref vmw, .ref vmf, .ref vmb, .int vomb, .ref vmd, .ref vmc, .int vwe, .int vti, .int vocy, .ref vmx, .int votx, .int vose, .ref vml, .ref vmwr, .int voln, .int vohw, .ref vmno, .int vond, .int voon, .int vowi, .int votop])), (vmn, .inl (cy 0, 575, .inl vmnf)), (vmd, .inl (cy 0, 10, .inl vmdf)), (vmc, .inl (cy 0, 10, .inl f_53))] := by rw [ef_53]; exact hD
            obtain ⟨z_54, ez_54⟩ : ∃ z : Int32, z = x_47 + 1 := ⟨_, rfl⟩
            have bz_54 : z_54.toInt = x_47.toInt + (1 : Int32).toInt := i_add ez_54 (by omega) (by omega)
            refine lv_iinc (v := z_54) (lv' := [(6, .int z_54), (0, .ref vo), (1, .int vm), (2, .int 3), (3, .int vlf), (4, .int vti), (5, .int vwe)]) hx hb dX11_careerFrom_73 hl (k := 0) rfl ez_54.symm (by decide) rfl (fun ls hl => ?_)
            refine lv_goto (tgt := 53) hx hb dX11_careerFrom_76 (by decide) ?_
            exact ih46 z_54 f_53 ⟨by omega, by omega⟩ (by omega) _ _ (hP.sub [0, 1, 2, 3] rfl) (hD.sub [0, 1, 2, 3] rfl rfl) hS ls (lv_sub hl [0, 1, 2, 3, 4, 5, 6] rfl)
      have k_0 : (0 : Int32).toInt = 0 := by decide
      exact loop46 ((10 - (0 : Int32).toInt).toNat + 1) 0 vmcf ⟨by omega, by omega⟩ (by omega) _ _ hP hD hS ls (lv_sub hl [0, 1, 2, 3, 4, 5, 6] rfl)
    refine lv_iload hx hb dX11_careerFrom_10 (lv_at hl 5 rfl) ?_
    refine lv_aload_n hx hb dX11_careerFrom_12 rfl (lv_at hl 0 rfl) ?_
    refine gf_X11_322 hx hb hts hown hK hP 0 rfl rfl dX11_careerFrom_13 ?_
    refine lv_icmp_lt (tgt := 37) hx hb dX11_careerFrom_16 (by decide) (fun c_55 => ?_) (fun c_55 => ?_)
    · skip
      have c_55 : vwe.toInt < vocm.toInt := i_lt.mp c_55
      rw [hQ9]
      exact re_v (vocm, voct, vmcf, vocy, vmdf) hx hb hr hlocks (show 0 ≤ (vocy : Int32).toInt ∧ (vocy : Int32).toInt ≤ 10 from ⟨by omega, by omega⟩) (hP.sub [0, 1, 2, 3] rfl) (hD.sub [0, 1, 2, 3] rfl rfl) hS dX11_careerFrom_37
    · skip
      have c_55 : ¬ (vwe.toInt < vocm.toInt) := fun h9 => c_55 (i_lt.mpr h9)
      refine lv_iload hx hb dX11_careerFrom_19 (lv_at hl 5 rfl) ?_
      refine lv_aload_n hx hb dX11_careerFrom_21 rfl (lv_at hl 0 rfl) ?_
      refine gf_X11_322 hx hb hts hown hK hP 0 rfl rfl dX11_careerFrom_22 ?_
      refine lv_icmp_ne (tgt := 38) hx hb dX11_careerFrom_25 (by decide) (fun c_56 => ?_) (fun c_56 => ?_)
      · skip
        have c_56 : ¬ (vwe.toInt = vocm.toInt) := fun h9 => c_56 (i_eq.mpr h9)
        exact join45  _ _ (hP.sub [0, 1, 2, 3] rfl) (hD.sub [0, 1, 2, 3] rfl rfl) hS ls (lv_sub hl [0, 1, 2, 3, 4, 5] rfl)
      · skip
        have c_56 : vwe.toInt = vocm.toInt := i_eq.mp c_56
        refine lv_iload hx hb dX11_careerFrom_28 (lv_at hl 4 rfl) ?_
        refine lv_aload_n hx hb dX11_careerFrom_30 rfl (lv_at hl 0 rfl) ?_
        refine gf_X11_325 hx hb hts hown hK hP 0 rfl rfl dX11_careerFrom_31 ?_
        refine lv_icmp_lt (tgt := 38) hx hb dX11_careerFrom_34 (by decide) (fun c_57 => ?_) (fun c_57 => ?_)
        · skip
          have c_57 : vti.toInt < voct.toInt := i_lt.mp c_57
          exact join45  _ _ (hP.sub [0, 1, 2, 3] rfl) (hD.sub [0, 1, 2, 3] rfl rfl) hS ls (lv_sub hl [0, 1, 2, 3, 4, 5] rfl)
        · skip
          have c_57 : ¬ (vti.toInt < voct.toInt) := fun h9 => c_57 (i_lt.mpr h9)
          rw [hQ9]
          exact re_v (vocm, voct, vmcf, vocy, vmdf) hx hb hr hlocks (show 0 ≤ (vocy : Int32).toInt ∧ (vocy : Int32).toInt ≤ 10 from ⟨by omega, by omega⟩) (hP.sub [0, 1, 2, 3] rfl) (hD.sub [0, 1, 2, 3] rfl rfl) hS dX11_careerFrom_37
abbrev O_m_careerFrom_2 (cy : Nat → ClassId) (vo : Nat) (voth : Int32) (vmt : Nat) (votp : Int32) (vosz : Int32) (volm : Int32) (voto : Int32) (vofr : Int32) (vokd : Int32) (vonu : Int32) (vosg : Int32) (vofa : Int32) (vopl : Int32) (vowd : Int64) (votd : Int32) (vmn : Nat) (vmr : Nat) (vmk : Nat) (vms : Nat) (vma : Nat) (vmm : Nat) (vmrn : Nat) (vmkn : Nat) (vmik : Nat) (vmon : Nat) (vosm : Int32) (vohp : Int32) (vmw : Nat) (vmf : Nat) (vmb : Nat) (vomb : Int32) (vmd : Nat) (vmc : Nat) (vocm : Int32) (voct : Int32) (vocy : Int32) (vmx : Nat) (votx : Int32) (vose : Int32) (vml : Nat) (vmwr : Nat) (voln : Int32) (vohw : Int32) (vmno : Nat) (vond : Int32) (voon : Int32) (vowi : Int32) (votop : Int32) (vmnf : Nat → Int32) (vmdf : Nat → Int32) (vmcf : Nat → Int32) (vm : Int32) (vlf : Int32) (vti : Int32) (vwe : Int32) (u : Int32 × Int32 × (Nat → Int32) × Int32 × (Nat → Int32)) : va_W := [(vo, .inr (12, [.int voth, .ref vmt, .int votp, .int vosz, .int volm, .int voto, .int vofr, .int vokd, .int vonu, .int vosg, .int vofa, .int vopl, .long vowd, .int votd, .ref vmn, .ref vmr, .ref vmk, .ref vms, .ref vma, .ref vmm, .ref vmrn, .ref vmkn, .ref vmik, .ref vmon, .int vosm, .int vohp, .ref vmw, .ref vmf, .ref vmb, .int vomb, .ref vmd, .ref vmc, .int u.1, .int u.2.1, .int u.2.2.2.1, .ref vmx, .int votx, .int vose, .ref vml, .ref vmwr, .int voln, .int vohw, .ref vmno, .int vond, .int voon, .int vowi, .int votop])), (vmn, .inl (cy 0, 575, .inl vmnf)), (vmd, .inl (cy 0, 10, .inl u.2.2.2.2)), (vmc, .inl (cy 0, 10, .inl u.2.2.1))]
set_option maxHeartbeats 4000000 in
set_option maxRecDepth 100000 in
theorem m_careerFrom_2 (l : Launch) (dC : Nat → ClassId) (dI : Nat → Nat → Nat) (cy : Nat → ClassId) (sz : Nat) (vo : Nat) (voth : Int32) (vmt : Nat) (votp : Int32) (vosz : Int32) (volm : Int32) (voto : Int32) (vofr : Int32) (vokd : Int32) (vonu : Int32) (vosg : Int32) (vofa : Int32) (vopl : Int32) (vowd : Int64) (votd : Int32) (vmn : Nat) (vmr : Nat) (vmk : Nat) (vms : Nat) (vma : Nat) (vmm : Nat) (vmrn : Nat) (vmkn : Nat) (vmik : Nat) (vmon : Nat) (vosm : Int32) (vohp : Int32) (vmw : Nat) (vmf : Nat) (vmb : Nat) (vomb : Int32) (vmd : Nat) (vmc : Nat) (vocm : Int32) (voct : Int32) (vocy : Int32) (vmx : Nat) (votx : Int32) (vose : Int32) (vml : Nat) (vmwr : Nat) (voln : Int32) (vohw : Int32) (vmno : Nat) (vond : Int32) (voon : Int32) (vowi : Int32) (votop : Int32) (vmnf : Nat → Int32) (vmdf : Nat → Int32) (vmcf : Nat → Int32) (vm : Int32) (vlf : Int32) (vti : Int32) (vwe : Int32) (r_vocy : 0 ≤ (vocy : Int32).toInt ∧ (vocy : Int32).toInt ≤ 10) (r_vm : 0 ≤ (vm : Int32).toInt ∧ (vm : Int32).toInt ≤ 6) (r_vlf : 0 ≤ (vlf : Int32).toInt ∧ (vlf : Int32).toInt ≤ 10) (p_vmnf : NW vmnf) (hd : 2 ≤ (vmnf 1).toInt) : Met l yX11_careerFrom (wl yX11_careerFrom cX11_careerFrom 8 none) ({ frames := 9, cells := 0, slots := 0, locals := 576 }) (Pw (dC, dI) vwCl cy [(vo, .inr (12, [.int voth, .ref vmt, .int votp, .int vosz, .int volm, .int voto, .int vofr, .int vokd, .int vonu, .int vosg, .int vofa, .int vopl, .long vowd, .int votd, .ref vmn, .ref vmr, .ref vmk, .ref vms, .ref vma, .ref vmm, .ref vmrn, .ref vmkn, .ref vmik, .ref vmon, .int vosm, .int vohp, .ref vmw, .ref vmf, .ref vmb, .int vomb, .ref vmd, .ref vmc, .int vocm, .int voct, .int vocy, .ref vmx, .int votx, .int vose, .ref vml, .ref vmwr, .int voln, .int vohw, .ref vmno, .int vond, .int voon, .int vowi, .int votop])), (vmn, .inl (cy 0, 575, .inl vmnf)), (vmd, .inl (cy 0, 10, .inl vmdf)), (vmc, .inl (cy 0, 10, .inl vmcf))] sz [.ref vo, .int vm, .int 2, .int vlf, .int vti, .int vwe] nE) (Qv (dC, dI) vwCl (fun (u : Int32 × Int32 × (Nat → Int32) × Int32 × (Nat → Int32)) => (0 ≤ (u.2.2.2.1 : Int32).toInt ∧ (u.2.2.2.1 : Int32).toInt ≤ 10)) (O_m_careerFrom_2 cy vo voth vmt votp vosz volm voto vofr vokd vonu vosg vofa vopl vowd votd vmn vmr vmk vms vma vmm vmrn vmkn vmik vmon vosm vohp vmw vmf vmb vomb vmd vmc vocm voct vocy vmx votx vose vml vmwr voln vohw vmno vond voon vowi votop vmnf vmdf vmcf vm vlf vti vwe) (va_A [(vo, .inr (12, [.int voth, .ref vmt, .int votp, .int vosz, .int volm, .int voto, .int vofr, .int vokd, .int vonu, .int vosg, .int vofa, .int vopl, .long vowd, .int votd, .ref vmn, .ref vmr, .ref vmk, .ref vms, .ref vma, .ref vmm, .ref vmrn, .ref vmkn, .ref vmik, .ref vmon, .int vosm, .int vohp, .ref vmw, .ref vmf, .ref vmb, .int vomb, .ref vmd, .ref vmc, .int vocm, .int voct, .int vocy, .ref vmx, .int votx, .int vose, .ref vml, .ref vmwr, .int voln, .int vohw, .ref vmno, .int vond, .int voon, .int vowi, .int votop])), (vmn, .inl (cy 0, 575, .inl vmnf)), (vmd, .inl (cy 0, 10, .inl vmdf)), (vmc, .inl (cy 0, 10, .inl vmcf))] sz)) 0 0 (va_A [(vo, .inr (12, [.int voth, .ref vmt, .int votp, .int vosz, .int volm, .int voto, .int vofr, .int vokd, .int vonu, .int vosg, .int vofa, .int vopl, .long vowd, .int votd, .ref vmn, .ref vmr, .ref vmk, .ref vms, .ref vma, .ref vmm, .ref vmrn, .ref vmkn, .ref vmik, .ref vmon, .int vosm, .int vohp, .ref vmw, .ref vmf, .ref vmb, .int vomb, .ref vmd, .ref vmc, .int vocm, .int voct, .int vocy, .ref vmx, .int votx, .int vose, .ref vml, .ref vmwr, .int voln, .int vohw, .ref vmno, .int vond, .int voon, .int vowi, .int votop])), (vmn, .inl (cy 0, 575, .inl vmnf)), (vmd, .inl (cy 0, 10, .inl vmdf)), (vmc, .inl (cy 0, 10, .inl vmcf))] sz) := by
  refine mw (Qc := Qv (dC, dI) vwCl (fun (u : Int32 × Int32 × (Nat → Int32) × Int32 × (Nat → Int32)) => (0 ≤ (u.2.2.2.1 : Int32).toInt ∧ (u.2.2.2.1 : Int32).toInt ≤ 10)) (O_m_careerFrom_2 cy vo voth vmt votp vosz volm voto vofr vokd vonu vosg vofa vopl vowd votd vmn vmr vmk vms vma vmm vmrn vmkn vmik vmon vosm vohp vmw vmf vmb vomb vmd vmc vocm voct vocy vmx votx vose vml vmwr voln vohw vmno vond voon vowi votop vmnf vmdf vmcf vm vlf vti vwe)) RX11 rfl (by decide +kernel) (Nat.le_of_ble_eq_true rfl) ?_
  intro p e s m below meth c A hx hb hr hlocks av9 hav hts hown hnm hml hK hP hD hA hS hE hAe Q9 hQ9 ls hl
  have hl : lv_has ls 8 [(0, .ref vo), (1, .int vm), (2, .int 2), (3, .int vlf), (4, .int vti), (5, .int vwe)] := hl
  refine lv_iload_n hx hb dX11_careerFrom_0 rfl (lv_at hl 2 rfl) ?_
  refine lv_aload_n hx hb dX11_careerFrom_1 rfl (lv_at hl 0 rfl) ?_
  refine gf_X11_98 hx hb hts hown hK hP 0 rfl rfl dX11_careerFrom_2 ?_
  refine lv_iconst (v := 1) hx hb dX11_careerFrom_5 (by decide) ?_
  have k_1 : (1 : Int32).toInt = 1 := by decide
  have hin_1 : vp_in (1 : Int32) 575 := vp_in_iff.mpr ⟨by omega, by omega⟩
  refine va_iald hx hb hK hP 1 0 rfl rfl hin_1 dX11_careerFrom_6 ?_
  refine lv_topi (fun z_2 ez_2 => ?_)
  have bz_2 := p_vmnf.a1 (x := 1) ⟨by omega, by omega⟩ ez_2
  have tz_2 : z_2.toInt = (vmnf 1).toInt := by rw [ez_2]; rfl
  have k_2 : (2 : Int32).toInt = 2 := by decide
  refine lv_icmp_ne (tgt := 85) hx hb dX11_careerFrom_7 (by decide) (fun c_3 => ?_) (fun c_3 => ?_)
  · skip
    have c_3 : ¬ ((2 : Int32).toInt = z_2.toInt) := fun h9 => c_3 (i_eq.mpr h9)
    refine lv_iload_n hx hb dX11_careerFrom_85 rfl (lv_at hl 3 rfl) ?_
    refine lv_bipush (v := 9) hx hb dX11_careerFrom_86 (by decide) ?_
    refine lv_aload_n hx hb dX11_careerFrom_88 rfl (lv_at hl 0 rfl) ?_
    refine lv_iload_n hx hb dX11_careerFrom_89 rfl (lv_at hl 1 rfl) ?_
    refine lv_iload_n hx hb dX11_careerFrom_90 rfl (lv_at hl 2 rfl) ?_
    refine jr_i (rVr (As := [.int vm, .int 2]) (rest := [.int 9, .int vlf]) (ci := 12) ⟨hx, hb, hml, hown, hts⟩ (m_didOf l dC dI cy vo voth vmt votp vosz volm voto vofr vokd vonu vosg vofa vopl vowd votd vmn vmr vmk vms vma vmm vmrn vmkn vmik vmon vosm vohp vmw vmf vmb vomb vmd vmc vocm voct vocy vmx votx vose vml vmwr voln vohw vmno vond voon vowi votop vmnf vm 2 ⟨by omega, by omega⟩ ⟨by omega, by omega⟩ p_vmnf) (cw_X11_228 hts rfl rfl ⟨Nat.le_of_ble_eq_true rfl, Nat.le_of_ble_eq_true rfl⟩) hP hK [0, 1] rfl rfl rfl rfl hl.1 rfl (Nat.le_of_ble_eq_true rfl) dX11_careerFrom_91 ⟨Nat.le_of_ble_eq_true rfl, Nat.le_of_ble_eq_true rfl⟩) hP hS (fun r_4 H locs hp_5 hP hS => ?_)
    refine lv_isub hx hb dX11_careerFrom_94 ?_
    refine lv_topi (fun z_6 ez_6 => ?_)
    refine jr_i (rSr (As := [.int vlf, .int z_6]) (rest := []) ⟨hx, hb, hml, hown, hts⟩ (m_least l dC dI cy vlf z_6 ) (cw_X11_288 hts rfl rfl ⟨Nat.le_of_ble_eq_true rfl, Nat.le_of_ble_eq_true rfl⟩) hP hK [] rfl rfl hl.1 rfl (Nat.le_of_ble_eq_true rfl) dX11_careerFrom_95 ⟨Nat.le_of_ble_eq_true rfl, Nat.le_of_ble_eq_true rfl⟩) hP hS (fun r_7 H locs hp_8 hP hS => ?_)
    have hp_8 : ((r_7 : Int32).toInt ≤ (vlf : Int32).toInt) ∧ ((r_7 : Int32).toInt ≤ (z_6 : Int32).toInt) ∧ (((r_7 : Int32).toInt = (vlf : Int32).toInt ∨ (r_7 : Int32).toInt = (z_6 : Int32).toInt)) := hp_8
    obtain ⟨q_9, q_10, q_11⟩ := hp_8
    refine lv_istore (lv' := [(6, .int r_7), (0, .ref vo), (1, .int vm), (2, .int 2), (3, .int vlf), (4, .int vti), (5, .int vwe)]) hx hb dX11_careerFrom_98 hl (by decide) rfl (fun ls hl => ?_)
    refine lv_iconst (v := 0) hx hb dX11_careerFrom_100 (by decide) ?_
    refine lv_istore (lv' := [(7, .int 0), (6, .int r_7), (0, .ref vo), (1, .int vm), (2, .int 2), (3, .int vlf), (4, .int vti), (5, .int vwe)]) hx hb dX11_careerFrom_101 hl (by decide) rfl (fun ls hl => ?_)
    have loop12 : ∀ (n12 : Nat) (x_13 : Int32) (x_14 : Int32) (x_15 : Int32) (x_16 : Int32) (g_17 : Nat → Int32) (g_18 : Nat → Int32), (0 ≤ x_13.toInt ∧ x_13.toInt ≤ 11) → (0 ≤ x_16.toInt ∧ x_16.toInt ≤ 10) → 11 - x_13.toInt < (n12 : Int) → ∀ (H : Heap) (locs : List Loc), va_P (dC, dI) vwCl [(vo, .inr (12, [.int voth, .ref vmt, .int votp, .int vosz, .int volm, .int voto, .int vofr, .int vokd, .int vonu, .int vosg, .int vofa, .int vopl, .long vowd, .int votd, .ref vmn, .ref vmr, .ref vmk, .ref vms, .ref vma, .ref vmm, .ref vmrn, .ref vmkn, .ref vmik, .ref vmon, .int vosm, .int vohp, .ref vmw, .ref vmf, .ref vmb, .int vomb, .ref vmd, .ref vmc, .int x_14, .int x_15, .int x_16, .ref vmx, .int votx, .int vose, .ref vml, .ref vmwr, .int voln, .int vohw, .ref vmno, .int vond, .int voon, .int vowi, .int votop])), (vmn, .inl (cy 0, 575, .inl vmnf)), (vmd, .inl (cy 0, 10, .inl g_18)), (vmc, .inl (cy 0, 10, .inl g_17))] H → va_D A [(vo, .inr (12, [.int voth, .ref vmt, .int votp, .int vosz, .int volm, .int voto, .int vofr, .int vokd, .int vonu, .int vosg, .int vofa, .int vopl, .long vowd, .int votd, .ref vmn, .ref vmr, .ref vmk, .ref vms, .ref vma, .ref vmm, .ref vmrn, .ref vmkn, .ref vmik, .ref vmon, .int vosm, .int vohp, .ref vmw, .ref vmf, .ref vmb, .int vomb, .ref vmd, .ref vmc, .int x_14, .int x_15, .int x_16, .ref vmx, .int votx, .int vose, .ref vml, .ref vmwr, .int voln, .int vohw, .ref vmno, .int vond, .int voon, .int vowi, .int votop])), (vmn, .inl (cy 0, 575, .inl vmnf)), (vmd, .inl (cy 0, 10, .inl g_18)), (vmc, .inl (cy 0, 10, .inl g_17))] → va_S A s.heap H locs → ∀ ls : Array Slot, lv_has ls 8 [(7, .int x_13), (6, .int r_7), (0, .ref vo), (1, .int vm), (2, .int 2), (3, .int vlf), (4, .int vti), (5, .int vwe)] → W p l e ({ frames := 9, cells := 0, slots := 0, locals := 576 }) s m av9 below meth c H locs 0 0 Q9 (F0 m 103 ls []) := by
      intro n12
      induction n12 with
      | zero =>
        intro x_13 x_14 x_15 x_16 g_17 g_18 bx_13 bx_16 hn12 H locs hP hD hS ls hl
        exfalso; omega
      | succ n12 ih12 =>
        intro x_13 x_14 x_15 x_16 g_17 g_18 bx_13 bx_16 hn12 H locs hP hD hS ls hl
        refine lv_iload hx hb dX11_careerFrom_103 (lv_at hl 0 rfl) ?_
        refine lv_iload hx hb dX11_careerFrom_105 (lv_at hl 1 rfl) ?_
        refine lv_icmp_gt (tgt := 180) hx hb dX11_careerFrom_107 (by decide) (fun c_19 => ?_) (fun c_19 => ?_)
        · skip
          have c_19 : r_7.toInt < x_13.toInt := i_lt.mp c_19
          rw [hQ9]
          exact re_v (x_14, x_15, g_17, x_16, g_18) hx hb hr hlocks (show 0 ≤ (x_16 : Int32).toInt ∧ (x_16 : Int32).toInt ≤ 10 from ⟨by omega, by omega⟩) (hP.sub [0, 1, 2, 3] rfl) (hD.sub [0, 1, 2, 3] rfl rfl) hS dX11_careerFrom_180
        · skip
          have c_19 : ¬ (r_7.toInt < x_13.toInt) := fun h9 => c_19 (i_lt.mpr h9)
          refine lv_iload hx hb dX11_careerFrom_110 (lv_at hl 7 rfl) ?_
          refine lv_iload hx hb dX11_careerFrom_112 (lv_at hl 0 rfl) ?_
          refine lv_aload_n hx hb dX11_careerFrom_114 rfl (lv_at hl 2 rfl) ?_
          refine gf_X11_98 hx hb hts hown hK hP 0 rfl rfl dX11_careerFrom_115 ?_
          refine lv_bipush (v := 11) hx hb dX11_careerFrom_118 (by decide) ?_
          refine lv_iload_n hx hb dX11_careerFrom_120 rfl (lv_at hl 4 rfl) ?_
          refine lv_iadd hx hb dX11_careerFrom_121 ?_
          refine as_i 13 (by decide) ?_
          have k_13 : (13 : Int32).toInt = 13 := by decide
          have hin_20 : vp_in (13 : Int32) 575 := vp_in_iff.mpr ⟨by omega, by omega⟩
          refine va_iald hx hb hK hP 1 0 rfl rfl hin_20 dX11_careerFrom_122 ?_
          refine lv_topi (fun z_21 ez_21 => ?_)
          have bz_21 := p_vmnf.aw (x := 13) ⟨by omega, by omega⟩ ez_21
          have tz_21 : z_21.toInt = (vmnf 13).toInt := by rw [ez_21]; rfl
          refine lv_imul hx hb dX11_careerFrom_123 ?_
          refine lv_topi (fun z_22 ez_22 => ?_)
          have bz_22 : 0 ≤ z_22.toInt ∧ z_22.toInt ≤ 400 ∧ z_22.toInt = x_13.toInt * z_21.toInt := i_mulb (A := 10) (B := 40) ez_22 ⟨by omega, by omega⟩ ⟨by omega, by omega⟩ (by decide)
          refine lv_iadd hx hb dX11_careerFrom_124 ?_
          refine lv_topi (fun z_23 ez_23 => ?_)
          refine lv_aload_n hx hb dX11_careerFrom_125 rfl (lv_at hl 2 rfl) ?_
          refine gf_X11_98 hx hb hts hown hK hP 0 rfl rfl dX11_careerFrom_126 ?_
          refine lv_iconst (v := 2) hx hb dX11_careerFrom_129 (by decide) ?_
          have hin_24 : vp_in (2 : Int32) 575 := vp_in_iff.mpr ⟨by omega, by omega⟩
          refine va_iald hx hb hK hP 1 0 rfl rfl hin_24 dX11_careerFrom_130 ?_
          refine lv_topi (fun z_25 ez_25 => ?_)
          have tz_25 : z_25.toInt = (vmnf 2).toInt := by rw [ez_25]; rfl
          refine lv_icmp_gt (tgt := 180) hx hb dX11_careerFrom_131 (by decide) (fun c_26 => ?_) (fun c_26 => ?_)
          · skip
            have c_26 : z_25.toInt < z_23.toInt := i_lt.mp c_26
            rw [hQ9]
            exact re_v (x_14, x_15, g_17, x_16, g_18) hx hb hr hlocks (show 0 ≤ (x_16 : Int32).toInt ∧ (x_16 : Int32).toInt ≤ 10 from ⟨by omega, by omega⟩) (hP.sub [0, 1, 2, 3] rfl) (hD.sub [0, 1, 2, 3] rfl rfl) hS dX11_careerFrom_180
          · skip
            have c_26 : ¬ (z_25.toInt < z_23.toInt) := fun h9 => c_26 (i_lt.mpr h9)
            refine lv_aload_n hx hb dX11_careerFrom_134 rfl (lv_at hl 2 rfl) ?_
            refine gf_X11_142 hx hb hts hown hK hP 0 rfl rfl dX11_careerFrom_135 ?_
            refine lv_iload_n hx hb dX11_careerFrom_138 rfl (lv_at hl 4 rfl) ?_
            refine lv_iload hx hb dX11_careerFrom_139 (lv_at hl 0 rfl) ?_
            have hin_27 : vp_in (2 : Int32) 10 := vp_in_iff.mpr ⟨by omega, by omega⟩
            refine va_iast hx hb hK hP hD hS 2 0 rfl rfl hin_27 dX11_careerFrom_141 (fun H locs hP hD hS => ?_)
            obtain ⟨f_28, ef_28⟩ : ∃ z : Nat → Int32, z = upd g_18 (Int32.toNatClampNeg 2) x_13 := ⟨_, rfl⟩
            have hP : va_P (dC, dI) vwCl [(vo, .inr (12, [.int voth, .ref vmt, .int votp, .int vosz, .int volm, .int voto, .int vofr, .int vokd, .int vonu, .int vosg, .int vofa, .int vopl, .long vowd, .int votd, .ref vmn, .ref vmr, .ref vmk, .ref vms, .ref vma, .ref vmm, .ref vmrn, .ref vmkn, .ref vmik, .ref vmon, .int vosm, .int vohp, .ref vmw, .ref vmf, .ref vmb, .int vomb, .ref vmd, .ref vmc, .int x_14, .int x_15, .int x_16, .ref vmx, .int votx, .int vose, .ref vml, .ref vmwr, .int voln, .int vohw, .ref vmno, .int vond, .int voon, .int vowi, .int votop])), (vmn, .inl (cy 0, 575, .inl vmnf)), (vmd, .inl (cy 0, 10, .inl f_28)), (vmc, .inl (cy 0, 10, .inl g_17))] H := by rw [ef_28]; exact hP
            have hD : va_D A [(vo, .inr (12, [.int voth, .ref vmt, .int votp, .int vosz, .int volm, .int voto, .int vofr, .int vokd, .int vonu, .int vosg, .int vofa, .int vopl, .long vowd, .int votd, .ref vmn, .ref vmr, .ref vmk, .ref vms, .ref vma, .ref vmm, .ref vmrn, .ref vmkn, .ref vmik, .ref vmon, .int vosm, .int vohp, .ref vmw, .ref vmf, .ref vmb, .int vomb, .ref vmd, .ref vmc, .int x_14, .int x_15, .int x_16, .ref vmx, .int votx, .int vose, .ref vml, .ref vmwr, .int voln, .int vohw, .ref vmno, .int vond, .int voon, .int vowi, .int votop])), (vmn, .inl (cy 0, 575, .inl vmnf)), (vmd, .inl (cy 0, 10, .inl f_28)), (vmc, .inl (cy 0, 10, .inl g_17))] := by rw [ef_28]; exact hD
            refine lv_aload_n hx hb dX11_careerFrom_142 rfl (lv_at hl 2 rfl) ?_
            refine lv_iload_n hx hb dX11_careerFrom_143 rfl (lv_at hl 3 rfl) ?_
            refine lv_iload_n hx hb dX11_careerFrom_144 rfl (lv_at hl 4 rfl) ?_
            refine lv_iconst (v := 1) hx hb dX11_careerFrom_145 (by decide) ?_
            refine lv_iadd hx hb dX11_careerFrom_146 ?_
            refine as_i 3 (by decide) ?_
            refine lv_iload_n hx hb dX11_careerFrom_147 rfl (lv_at hl 5 rfl) ?_
            refine lv_iload hx hb dX11_careerFrom_148 (lv_at hl 0 rfl) ?_
            refine lv_isub hx hb dX11_careerFrom_150 ?_
            refine lv_topi (fun z_29 ez_29 => ?_)
            have bz_29 : z_29.toInt = vlf.toInt - x_13.toInt := i_sub ez_29 (by omega) (by omega)
            refine lv_iload hx hb dX11_careerFrom_151 (lv_at hl 6 rfl) ?_
            refine lv_iload hx hb dX11_careerFrom_153 (lv_at hl 0 rfl) ?_
            refine lv_iadd hx hb dX11_careerFrom_155 ?_
            refine lv_topi (fun z_30 ez_30 => ?_)
            refine lv_iload hx hb dX11_careerFrom_156 (lv_at hl 7 rfl) ?_
            refine lv_iload hx hb dX11_careerFrom_158 (lv_at hl 0 rfl) ?_
            refine lv_aload_n hx hb dX11_careerFrom_160 rfl (lv_at hl 2 rfl) ?_
            refine gf_X11_98 hx hb hts hown hK hP 0 rfl rfl dX11_careerFrom_161 ?_
            refine lv_bipush (v := 11) hx hb dX11_careerFrom_164 (by decide) ?_
            refine lv_iload_n hx hb dX11_careerFrom_166 rfl (lv_at hl 4 rfl) ?_
            refine lv_iadd hx hb dX11_careerFrom_167 ?_
            refine as_i 13 (by decide) ?_
            have hin_31 : vp_in (13 : Int32) 575 := vp_in_iff.mpr ⟨by omega, by omega⟩
            refine va_iald hx hb hK hP 1 0 rfl rfl hin_31 dX11_careerFrom_168 ?_
            refine lv_topi (fun z_32 ez_32 => ?_)
            have bz_32 := p_vmnf.aw (x := 13) ⟨by omega, by omega⟩ ez_32
            have tz_32 : z_32.toInt = (vmnf 13).toInt := by rw [ez_32]; rfl
            refine lv_imul hx hb dX11_careerFrom_169 ?_
            refine lv_topi (fun z_33 ez_33 => ?_)
            have bz_33 : 0 ≤ z_33.toInt ∧ z_33.toInt ≤ 400 ∧ z_33.toInt = x_13.toInt * z_32.toInt := i_mulb (A := 10) (B := 40) ez_33 ⟨by omega, by omega⟩ ⟨by omega, by omega⟩ (by decide)
            refine lv_iadd hx hb dX11_careerFrom_170 ?_
            refine lv_topi (fun z_34 ez_34 => ?_)
            refine jn_v (wr := []) (rV (As := [.int vm, .int 3, .int z_29, .int z_30, .int z_34]) (rest := []) (ci := 12) ⟨hx, hb, hml, hown, hts⟩ (m_careerFrom_3 l dC dI cy _ vo voth vmt votp vosz volm voto vofr vokd vonu vosg vofa vopl vowd votd vmn vmr vmk vms vma vmm vmrn vmkn vmik vmon vosm vohp vmw vmf vmb vomb vmd vmc x_14 x_15 x_16 vmx votx vose vml vmwr voln vohw vmno vond voon vowi votop vmnf f_28 g_17 vm z_29 z_30 z_34 ⟨by omega, by omega⟩ r_vm ⟨by omega, by omega⟩ p_vmnf (by omega)) (cw_X11_331 hts rfl rfl ⟨Nat.le_of_ble_eq_true rfl, Nat.le_of_ble_eq_true rfl⟩) hP hD hK [0, 1, 2, 3] rfl rfl rfl rfl bl0 e0 rfl hl.1 rfl (Nat.le_of_ble_eq_true rfl) dX11_careerFrom_171 ⟨Nat.le_of_ble_eq_true rfl, Nat.le_of_ble_eq_true rfl⟩) hP hD hS hA [0, 1, 2, 3] [] rfl rfl rfl (by decide) (fun u_37 H locs hp_36 hP hD hS => ?_)
            obtain ⟨vocm_38, voct_39, vmcf_40, vocy_41, vmdf_42⟩ := u_37
            have hp_36 : (0 ≤ (vocy_41 : Int32).toInt ∧ (vocy_41 : Int32).toInt ≤ 10) := hp_36
            have q_43 := hp_36
            have hP : va_P (dC, dI) vwCl [(vo, .inr (12, [.int voth, .ref vmt, .int votp, .int vosz, .int volm, .int voto, .int vofr, .int vokd, .int vonu, .int vosg, .int vofa, .int vopl, .long vowd, .int votd, .ref vmn, .ref vmr, .ref vmk, .ref vms, .ref vma, .ref vmm, .ref vmrn, .ref vmkn, .ref vmik, .ref vmon, .int vosm, .int vohp, .ref vmw, .ref vmf, .ref vmb, .int vomb, .ref vmd, .ref vmc, .int vocm_38, .int voct_39, .int vocy_41, .ref vmx, .int votx, .int vose, .ref vml, .ref vmwr, .int voln, .int vohw, .ref vmno, .int vond, .int voon, .int vowi, .int votop])), (vmn, .inl (cy 0, 575, .inl vmnf)), (vmd, .inl (cy 0, 10, .inl vmdf_42)), (vmc, .inl (cy 0, 10, .inl vmcf_40))] H := hP
            have hD : va_D A [(vo, .inr (12, [.int voth, .ref vmt, .int votp, .int vosz, .int volm, .int voto, .int vofr, .int vokd, .int vonu, .int vosg, .int vofa, .int vopl, .long vowd, .int votd, .ref vmn, .ref vmr, .ref vmk, .ref vms, .ref vma, .ref vmm, .ref vmrn, .ref vmkn, .ref vmik, .ref vmon, .int vosm, .int vohp, .ref vmw, .ref vmf, .ref vmb, .int vomb, .ref vmd, .ref vmc, .int vocm_38, .int voct_39, .int vocy_41, .ref vmx, .int votx, .int vose, .ref vml, .ref vmwr, .int voln, .int vohw, .ref vmno, .int vond, .int voon, .int vowi, .int votop])), (vmn, .inl (cy 0, 575, .inl vmnf)), (vmd, .inl (cy 0, 10, .inl vmdf_42)), (vmc, .inl (cy 0, 10, .inl vmcf_40))] := hD
            obtain ⟨z_44, ez_44⟩ : ∃ z : Int32, z = x_13 + 1 := ⟨_, rfl⟩
            have bz_44 : z_44.toInt = x_13.toInt + (1 : Int32).toInt := i_add ez_44 (by omega) (by omega)
            refine lv_iinc (v := z_44) (lv' := [(7, .int z_44), (6, .int r_7), (0, .ref vo), (1, .int vm), (2, .int 2), (3, .int vlf), (4, .int vti), (5, .int vwe)]) hx hb dX11_careerFrom_174 hl (k := 0) rfl ez_44.symm (by decide) rfl (fun ls hl => ?_)
            refine lv_goto (tgt := 103) hx hb dX11_careerFrom_177 (by decide) ?_
            exact ih12 z_44 vocm_38 voct_39 vocy_41 vmcf_40 vmdf_42 ⟨by omega, by omega⟩ ⟨by omega, by omega⟩ (by omega) _ _ (hP.sub [0, 1, 2, 3] rfl) (hD.sub [0, 1, 2, 3] rfl rfl) hS ls (lv_sub hl [0, 1, 2, 3, 4, 5, 6, 7] rfl)
    have k_0 : (0 : Int32).toInt = 0 := by decide
    exact loop12 ((11 - (0 : Int32).toInt).toNat + 1) 0 vocm voct vocy vmcf vmdf ⟨by omega, by omega⟩ ⟨by omega, by omega⟩ (by omega) _ _ hP hD hS ls (lv_sub hl [0, 1, 2, 3, 4, 5, 6, 7] rfl)
  · skip
    have c_3 : (2 : Int32).toInt = z_2.toInt := i_eq.mp c_3
    have join45 : ∀ (H : Heap) (locs : List Loc), va_P (dC, dI) vwCl [(vo, .inr (12, [.int voth, .ref vmt, .int votp, .int vosz, .int volm, .int voto, .int vofr, .int vokd, .int vonu, .int vosg, .int vofa, .int vopl, .long vowd, .int votd, .ref vmn, .ref vmr, .ref vmk, .ref vms, .ref vma, .ref vmm, .ref vmrn, .ref vmkn, .ref vmik, .ref vmon, .int vosm, .int vohp, .ref vmw, .ref vmf, .ref vmb, .int vomb, .ref vmd, .ref vmc, .int vocm, .int voct, .int vocy, .ref vmx, .int votx, .int vose, .ref vml, .ref vmwr, .int voln, .int vohw, .ref vmno, .int vond, .int voon, .int vowi, .int votop])), (vmn, .inl (cy 0, 575, .inl vmnf)), (vmd, .inl (cy 0, 10, .inl vmdf)), (vmc, .inl (cy 0, 10, .inl vmcf))] H → va_D A [(vo, .inr (12, [.int voth, .ref vmt, .int votp, .int vosz, .int volm, .int voto, .int vofr, .int vokd, .int vonu, .int vosg, .int vofa, .int vopl, .long vowd, .int votd, .ref vmn, .ref vmr, .ref vmk, .ref vms, .ref vma, .ref vmm, .ref vmrn, .ref vmkn, .ref vmik, .ref vmon, .int vosm, .int vohp, .ref vmw, .ref vmf, .ref vmb, .int vomb, .ref vmd, .ref vmc, .int vocm, .int voct, .int vocy, .ref vmx, .int votx, .int vose, .ref vml, .ref vmwr, .int voln, .int vohw, .ref vmno, .int vond, .int voon, .int vowi, .int votop])), (vmn, .inl (cy 0, 575, .inl vmnf)), (vmd, .inl (cy 0, 10, .inl vmdf)), (vmc, .inl (cy 0, 10, .inl vmcf))] → va_S A s.heap H locs → ∀ ls : Array Slot, lv_has ls 8 [(0, .ref vo), (1, .int vm), (2, .int 2), (3, .int vlf), (4, .int vti), (5, .int vwe)] → W p l e ({ frames := 9, cells := 0, slots := 0, locals := 576 }) s m av9 below meth c H locs 0 0 Q9 (F0 m 38 ls []) := by
      intro  H locs hP hD hS ls hl
      refine lv_aload_n hx hb dX11_careerFrom_38 rfl (lv_at hl 0 rfl) ?_
      refine lv_iload hx hb dX11_careerFrom_39 (lv_at hl 5 rfl) ?_
      refine pf_X11_322 hx hb hts hown hK hP hD hS 0 rfl rfl rfl (Nat.le_of_ble_eq_true rfl) dX11_careerFrom_41 (fun H locs hP hD hS => ?_)
      have hP : va_P (dC, dI) vwCl [(vo, .inr (12, [.int voth, .ref vmt, .int votp, .int vosz, .int volm, .int voto, .int vofr, .int vokd, .int vonu, .int vosg, .int vofa, .int vopl, .long vowd, .int votd, .ref vmn, .ref vmr, .ref vmk, .ref vms, .ref vma, .ref vmm, .ref vmrn, .ref vmkn, .ref vmik, .ref vmon, .int vosm, .int vohp, .ref vmw, .ref vmf, .ref vmb, .int vomb, .ref vmd, .ref vmc, .int vwe, .int voct, .int vocy, .ref vmx, .int votx, .int vose, .ref vml, .ref vmwr, .int voln, .int vohw, .ref vmno, .int vond, .int voon, .int vowi, .int votop])), (vmn, .inl (cy 0, 575, .inl vmnf)), (vmd, .inl (cy 0, 10, .inl vmdf)), (vmc, .inl (cy 0, 10, .inl vmcf))] H := hP
      have hD : va_D A [(vo, .inr (12, [.int voth, .ref vmt, .int votp, .int vosz, .int volm, .int voto, .int vofr, .int vokd, .int vonu, .int vosg, .int vofa, .int vopl, .long vowd, .int votd, .ref vmn, .ref vmr, .ref vmk, .ref vms, .ref vma, .ref vmm, .ref vmrn, .ref vmkn, .ref vmik, .ref vmon, .int vosm, .int vohp, .ref vmw, .ref vmf, .ref vmb, .int vomb, .ref vmd, .ref vmc, .int vwe, .int voct, .int vocy, .ref vmx, .int votx, .int vose, .ref vml, .ref vmwr, .int voln, .int vohw, .ref vmno, .int vond, .int voon, .int vowi, .int votop])), (vmn, .inl (cy 0, 575, .inl vmnf)), (vmd, .inl (cy 0, 10, .inl vmdf)), (vmc, .inl (cy 0, 10, .inl vmcf))] := hD
      refine lv_aload_n hx hb dX11_careerFrom_44 rfl (lv_at hl 0 rfl) ?_
      refine lv_iload hx hb dX11_careerFrom_45 (lv_at hl 4 rfl) ?_
      refine pf_X11_325 hx hb hts hown hK hP hD hS 0 rfl rfl rfl (Nat.le_of_ble_eq_true rfl) dX11_careerFrom_47 (fun H locs hP hD hS => ?_)
      have hP : va_P (dC, dI) vwCl [(vo, .inr (12, [.int voth, .ref vmt, .int votp, .int vosz, .int volm, .int voto, .int vofr, .int vokd, .int vonu, .int vosg, .int vofa, .int vopl, .long vowd, .int votd, .ref vmn, .ref vmr, .ref vmk, .ref vms, .ref vma, .ref vmm, .ref vmrn, .ref vmkn, .ref vmik, .ref vmon, .int vosm, .int vohp, .ref vmw, .ref vmf, .ref vmb, .int vomb, .ref vmd, .ref vmc, .int vwe, .int vti, .int vocy, .ref vmx, .int votx, .int vose, .ref vml, .ref vmwr, .int voln, .int vohw, .ref vmno, .int vond, .int voon, .int vowi, .int votop])), (vmn, .inl (cy 0, 575, .inl vmnf)), (vmd, .inl (cy 0, 10, .inl vmdf)), (vmc, .inl (cy 0, 10, .inl vmcf))] H := hP
      have hD : va_D A [(vo, .inr (12, [.int voth, .ref vmt, .int votp, .int vosz, .int volm, .int voto, .int vofr, .int vokd, .int vonu, .int vosg, .int vofa, .int vopl, .long vowd, .int votd, .ref vmn, .ref vmr, .ref vmk, .ref vms, .ref vma, .ref vmm, .ref vmrn, .ref vmkn, .ref vmik, .ref vmon, .int vosm, .int vohp, .ref vmw, .ref vmf, .ref vmb, .int vomb, .ref vmd, .ref vmc, .int vwe, .int vti, .int vocy, .ref vmx, .int votx, .int vose, .ref vml, .ref vmwr, .int voln, .int vohw, .ref vmno, .int vond, .int voon, .int vowi, .int votop])), (vmn, .inl (cy 0, 575, .inl vmnf)), (vmd, .inl (cy 0, 10, .inl vmdf)), (vmc, .inl (cy 0, 10, .inl vmcf))] := hD
      refine lv_iconst (v := 0) hx hb dX11_careerFrom_50 (by decide) ?_
      refine lv_istore (lv' := [(6, .int 0), (0, .ref vo), (1, .int vm), (2, .int 2), (3, .int vlf), (4, .int vti), (5, .int vwe)]) hx hb dX11_careerFrom_51 hl (by decide) rfl (fun ls hl => ?_)
      have loop46 : ∀ (n46 : Nat) (x_47 : Int32) (g_48 : Nat → Int32), (0 ≤ x_47.toInt ∧ x_47.toInt ≤ 10) → 10 - x_47.toInt < (n46 : Int) → ∀ (H : Heap) (locs : List Loc), va_P (dC, dI) vwCl [(vo, .inr (12, [.int voth, .ref vmt, .int votp, .int vosz, .int volm, .int voto, .int vofr, .int vokd, .int vonu, .int vosg, .int vofa, .int vopl, .long vowd, .int votd, .ref vmn, .ref vmr, .ref vmk, .ref vms, .ref vma, .ref vmm, .ref vmrn, .ref vmkn, .ref vmik, .ref vmon, .int vosm, .int vohp, .ref vmw, .ref vmf, .ref vmb, .int vomb, .ref vmd, .ref vmc, .int vwe, .int vti, .int vocy, .ref vmx, .int votx, .int vose, .ref vml, .ref vmwr, .int voln, .int vohw, .ref vmno, .int vond, .int voon, .int vowi, .int votop])), (vmn, .inl (cy 0, 575, .inl vmnf)), (vmd, .inl (cy 0, 10, .inl vmdf)), (vmc, .inl (cy 0, 10, .inl g_48))] H → va_D A [(vo, .inr (12, [.int voth, .ref vmt, .int votp, .int vosz, .int volm, .int voto, .int vofr, .int vokd, .int vonu, .int vosg, .int vofa, .int vopl, .long vowd, .int votd, .ref vmn, .ref vmr, .ref vmk, .ref vms, .ref vma, .ref vmm, .ref vmrn, .ref vmkn, .ref vmik, .ref vmon, .int vosm, .int vohp, .ref vmw, .ref vmf, .ref vmb, .int vomb, .ref vmd, .ref vmc, .int vwe, .int vti, .int vocy, .ref vmx, .int votx, .int vose, .ref vml, .ref vmwr, .int voln, .int vohw, .ref vmno, .int vond, .int voon, .int vowi, .int votop])), (vmn, .inl (cy 0, 575, .inl vmnf)), (vmd, .inl (cy 0, 10, .inl vmdf)), (vmc, .inl (cy 0, 10, .inl g_48))] → va_S A s.heap H locs → ∀ ls : Array Slot, lv_has ls 8 [(6, .int x_47), (0, .ref vo), (1, .int vm), (2, .int 2), (3, .int vlf), (4, .int vti), (5, .int vwe)] → W p l e ({ frames := 9, cells := 0, slots := 0, locals := 576 }) s m av9 below meth c H locs 0 0 Q9 (F0 m 53 ls []) := by
        intro n46
        induction n46 with
        | zero =>
          intro x_47 g_48 bx_47 hn46 H locs hP hD hS ls hl
          exfalso; omega
        | succ n46 ih46 =>
          intro x_47 g_48 bx_47 hn46 H locs hP hD hS ls hl
          refine lv_iload hx hb dX11_careerFrom_53 (lv_at hl 0 rfl) ?_
          refine lv_iload_n hx hb dX11_careerFrom_55 rfl (lv_at hl 3 rfl) ?_
          refine lv_icmp_ge (tgt := 79) hx hb dX11_careerFrom_56 (by decide) (fun c_49 => ?_) (fun c_49 => ?_)
          · skip
            have c_49 : (2 : Int32).toInt ≤ x_47.toInt := i_le.mp c_49
            refine lv_aload_n hx hb dX11_careerFrom_79 rfl (lv_at hl 1 rfl) ?_
            refine lv_iload_n hx hb dX11_careerFrom_80 rfl (lv_at hl 3 rfl) ?_
            refine pf_X11_328 hx hb hts hown hK hP hD hS 0 rfl rfl rfl (Nat.le_of_ble_eq_true rfl) dX11_careerFrom_81 (fun H locs hP hD hS => ?_)
            have hP : va_P (dC, dI) vwCl [(vo, .inr (12, [.int voth, .ref vmt, .int votp, .int vosz, .int volm, .int voto, .int vofr, .int vokd, .int vonu, .int vosg, .int vofa, .int vopl, .long vowd, .int votd, .ref vmn, .ref vmr, .ref vmk, .ref vms, .ref vma, .ref vmm, .ref vmrn, .ref vmkn, .ref vmik, .ref vmon, .int vosm, .int vohp, .ref vmw, .ref vmf, .ref vmb, .int vomb, .ref vmd, .ref vmc, .int vwe, .int vti, .int 2, .ref vmx, .int votx, .int vose, .ref vml, .ref vmwr, .int voln, .int vohw, .ref vmno, .int vond, .int voon, .int vowi, .int votop])), (vmn, .inl (cy 0, 575, .inl vmnf)), (vmd, .inl (cy 0, 10, .inl vmdf)), (vmc, .inl (cy 0, 10, .inl g_48))] H := hP
            have hD : va_D A [(vo, .inr (12, [.int voth, .ref vmt, .int votp, .int vosz, .int volm, .int voto, .int vofr, .int vokd, .int vonu, .int vosg, .int vofa, .int vopl, .long vowd, .int votd, .ref vmn, .ref vmr, .ref vmk, .ref vms, .ref vma, .ref vmm, .ref vmrn, .ref vmkn, .ref vmik, .ref vmon, .int vosm, .int vohp, .ref vmw, .ref vmf, .ref vmb, .int vomb, .ref vmd, .ref vmc, .int vwe, .int vti, .int 2, .ref vmx, .int votx, .int vose, .ref vml, .ref vmwr, .int voln, .int vohw, .ref vmno, .int vond, .int voon, .int vowi, .int votop])), (vmn, .inl (cy 0, 575, .inl vmnf)), (vmd, .inl (cy 0, 10, .inl vmdf)), (vmc, .inl (cy 0, 10, .inl g_48))] := hD
            rw [hQ9]
            exact re_v (vwe, vti, g_48, (2 : Int32), vmdf) hx hb hr hlocks (show 0 ≤ (2 : Int32).toInt ∧ (2 : Int32).toInt ≤ 10 from ⟨by omega, by omega⟩) (hP.sub [0, 1, 2, 3] rfl) (hD.sub [0, 1, 2, 3] rfl rfl) hS dX11_careerFrom_84
          · skip
            have c_49 : ¬ ((2 : Int32).toInt ≤ x_47.toInt) := fun h9 => c_49 (i_le.mpr h9)
            refine lv_aload_n hx hb dX11_careerFrom_59 rfl (lv_at hl 1 rfl) ?_
            refine gf_X11_145 hx hb hts hown hK hP 0 rfl rfl dX11_careerFrom_60 ?_
            refine lv_iload hx hb dX11_careerFrom_63 (lv_at hl 0 rfl) ?_
            refine lv_aload_n hx hb dX11_careerFrom_65 rfl (lv_at hl 1 rfl) ?_
            refine gf_X11_142 hx hb hts hown hK hP 0 rfl rfl dX11_careerFrom_66 ?_
            refine lv_iload hx hb dX11_careerFrom_69 (lv_at hl 0 rfl) ?_
            have hin_50 : vp_in x_47 10 := vp_in_iff.mpr ⟨by omega, by omega⟩
            refine va_iald hx hb hK hP 2 0 rfl rfl hin_50 dX11_careerFrom_71 ?_
            refine lv_topi (fun z_51 ez_51 => ?_)
            have hin_52 : vp_in x_47 10 := vp_in_iff.mpr ⟨by omega, by omega⟩
            refine va_iast hx hb hK hP hD hS 3 0 rfl rfl hin_52 dX11_careerFrom_72 (fun H locs hP hD hS => ?_)
            obtain ⟨f_53, ef_53⟩ : ∃ z : Nat → Int32, z = upd g_48 (Int32.toNatClampNeg x_47) z_51 := ⟨_, rfl⟩
            have hP : va_P (dC, dI) vwCl [(vo, .inr (12, [.int voth, .ref vmt, .int votp, .int vosz, .int volm, .int voto, .int vofr, .int vokd, .int vonu, .int vosg, .int vofa, .int vopl, .long vowd, .int votd, .ref vmn, .ref vmr, .ref vmk, .ref vms, .ref vma, .ref vmm, .ref vmrn, .ref vmkn, .ref vmik, .ref vmon, .int vosm, .int vohp, .ref vmw, .ref vmf, .ref vmb, .int vomb, .ref vmd, .ref vmc, .int vwe, .int vti, .int vocy, .ref vmx, .int votx, .int vose, .ref vml, .ref vmwr, .int voln, .int vohw, .ref vmno, .int vond, .int voon, .int vowi, .int votop])), (vmn, .inl (cy 0, 575, .inl vmnf)), (vmd, .inl (cy 0, 10, .inl vmdf)), (vmc, .inl (cy 0, 10, .inl f_53))] H := by rw [ef_53]; exact hP
            have hD : va_D A [(vo, .inr (12, [.int voth, .ref vmt, .int votp, .int vosz, .int volm, .int voto, .int vofr, .int vokd, .int vonu, .int vosg, .int vofa, .int vopl, .long vowd, .int votd, .ref vmn, .ref vmr, .ref vmk, .ref vms, .ref vma, .ref vmm, .ref vmrn, .ref vmkn, .ref vmik, .ref vmon, .int vosm, .int vohp, .ref vmw, .ref vmf, .ref vmb, .int vomb, .ref vmd, .ref vmc, .int vwe, .int vti, .int vocy, .ref vmx, .int votx, .int vose, .ref vml, .ref vmwr, .int voln, .int vohw, .ref vmno, .int vond, .int voon, .int vowi, .int votop])), (vmn, .inl (cy 0, 575, .inl vmnf)), (vmd, .inl (cy 0, 10, .inl vmdf)), (vmc, .inl (cy 0, 10, .inl f_53))] := by rw [ef_53]; exact hD
            obtain ⟨z_54, ez_54⟩ : ∃ z : Int32, z = x_47 + 1 := ⟨_, rfl⟩
            have bz_54 : z_54.toInt = x_47.toInt + (1 : Int32).toInt := i_add ez_54 (by omega) (by omega)
            refine lv_iinc (v := z_54) (lv' := [(6, .int z_54), (0, .ref vo), (1, .int vm), (2, .int 2), (3, .int vlf), (4, .int vti), (5, .int vwe)]) hx hb dX11_careerFrom_73 hl (k := 0) rfl ez_54.symm (by decide) rfl (fun ls hl => ?_)
            refine lv_goto (tgt := 53) hx hb dX11_careerFrom_76 (by decide) ?_
            exact ih46 z_54 f_53 ⟨by omega, by omega⟩ (by omega) _ _ (hP.sub [0, 1, 2, 3] rfl) (hD.sub [0, 1, 2, 3] rfl rfl) hS ls (lv_sub hl [0, 1, 2, 3, 4, 5, 6] rfl)
      have k_0 : (0 : Int32).toInt = 0 := by decide
      exact loop46 ((10 - (0 : Int32).toInt).toNat + 1) 0 vmcf ⟨by omega, by omega⟩ (by omega) _ _ hP hD hS ls (lv_sub hl [0, 1, 2, 3, 4, 5, 6] rfl)
    refine lv_iload hx hb dX11_careerFrom_10 (lv_at hl 5 rfl) ?_
    refine lv_aload_n hx hb dX11_careerFrom_12 rfl (lv_at hl 0 rfl) ?_
    refine gf_X11_322 hx hb hts hown hK hP 0 rfl rfl dX11_careerFrom_13 ?_
    refine lv_icmp_lt (tgt := 37) hx hb dX11_careerFrom_16 (by decide) (fun c_55 => ?_) (fun c_55 => ?_)
    · skip
      have c_55 : vwe.toInt < vocm.toInt := i_lt.mp c_55
      rw [hQ9]
      exact re_v (vocm, voct, vmcf, vocy, vmdf) hx hb hr hlocks (show 0 ≤ (vocy : Int32).toInt ∧ (vocy : Int32).toInt ≤ 10 from ⟨by omega, by omega⟩) (hP.sub [0, 1, 2, 3] rfl) (hD.sub [0, 1, 2, 3] rfl rfl) hS dX11_careerFrom_37
    · skip
      have c_55 : ¬ (vwe.toInt < vocm.toInt) := fun h9 => c_55 (i_lt.mpr h9)
      refine lv_iload hx hb dX11_careerFrom_19 (lv_at hl 5 rfl) ?_
      refine lv_aload_n hx hb dX11_careerFrom_21 rfl (lv_at hl 0 rfl) ?_
      refine gf_X11_322 hx hb hts hown hK hP 0 rfl rfl dX11_careerFrom_22 ?_
      refine lv_icmp_ne (tgt := 38) hx hb dX11_careerFrom_25 (by decide) (fun c_56 => ?_) (fun c_56 => ?_)
      · skip
        have c_56 : ¬ (vwe.toInt = vocm.toInt) := fun h9 => c_56 (i_eq.mpr h9)
        exact join45  _ _ (hP.sub [0, 1, 2, 3] rfl) (hD.sub [0, 1, 2, 3] rfl rfl) hS ls (lv_sub hl [0, 1, 2, 3, 4, 5] rfl)
      · skip
        have c_56 : vwe.toInt = vocm.toInt := i_eq.mp c_56
        refine lv_iload hx hb dX11_careerFrom_28 (lv_at hl 4 rfl) ?_
        refine lv_aload_n hx hb dX11_careerFrom_30 rfl (lv_at hl 0 rfl) ?_
        refine gf_X11_325 hx hb hts hown hK hP 0 rfl rfl dX11_careerFrom_31 ?_
        refine lv_icmp_lt (tgt := 38) hx hb dX11_careerFrom_34 (by decide) (fun c_57 => ?_) (fun c_57 => ?_)
        · skip
          have c_57 : vti.toInt < voct.toInt := i_lt.mp c_57
          exact join45  _ _ (hP.sub [0, 1, 2, 3] rfl) (hD.sub [0, 1, 2, 3] rfl rfl) hS ls (lv_sub hl [0, 1, 2, 3, 4, 5] rfl)
        · skip
          have c_57 : ¬ (vti.toInt < voct.toInt) := fun h9 => c_57 (i_lt.mpr h9)
          rw [hQ9]
          exact re_v (vocm, voct, vmcf, vocy, vmdf) hx hb hr hlocks (show 0 ≤ (vocy : Int32).toInt ∧ (vocy : Int32).toInt ≤ 10 from ⟨by omega, by omega⟩) (hP.sub [0, 1, 2, 3] rfl) (hD.sub [0, 1, 2, 3] rfl rfl) hS dX11_careerFrom_37
abbrev O_m_careerFrom_1 (cy : Nat → ClassId) (vo : Nat) (voth : Int32) (vmt : Nat) (votp : Int32) (vosz : Int32) (volm : Int32) (voto : Int32) (vofr : Int32) (vokd : Int32) (vonu : Int32) (vosg : Int32) (vofa : Int32) (vopl : Int32) (vowd : Int64) (votd : Int32) (vmn : Nat) (vmr : Nat) (vmk : Nat) (vms : Nat) (vma : Nat) (vmm : Nat) (vmrn : Nat) (vmkn : Nat) (vmik : Nat) (vmon : Nat) (vosm : Int32) (vohp : Int32) (vmw : Nat) (vmf : Nat) (vmb : Nat) (vomb : Int32) (vmd : Nat) (vmc : Nat) (vocm : Int32) (voct : Int32) (vocy : Int32) (vmx : Nat) (votx : Int32) (vose : Int32) (vml : Nat) (vmwr : Nat) (voln : Int32) (vohw : Int32) (vmno : Nat) (vond : Int32) (voon : Int32) (vowi : Int32) (votop : Int32) (vmnf : Nat → Int32) (vmdf : Nat → Int32) (vmcf : Nat → Int32) (vm : Int32) (vlf : Int32) (vti : Int32) (vwe : Int32) (u : Int32 × Int32 × (Nat → Int32) × Int32 × (Nat → Int32)) : va_W := [(vo, .inr (12, [.int voth, .ref vmt, .int votp, .int vosz, .int volm, .int voto, .int vofr, .int vokd, .int vonu, .int vosg, .int vofa, .int vopl, .long vowd, .int votd, .ref vmn, .ref vmr, .ref vmk, .ref vms, .ref vma, .ref vmm, .ref vmrn, .ref vmkn, .ref vmik, .ref vmon, .int vosm, .int vohp, .ref vmw, .ref vmf, .ref vmb, .int vomb, .ref vmd, .ref vmc, .int u.1, .int u.2.1, .int u.2.2.2.1, .ref vmx, .int votx, .int vose, .ref vml, .ref vmwr, .int voln, .int vohw, .ref vmno, .int vond, .int voon, .int vowi, .int votop])), (vmn, .inl (cy 0, 575, .inl vmnf)), (vmd, .inl (cy 0, 10, .inl u.2.2.2.2)), (vmc, .inl (cy 0, 10, .inl u.2.2.1))]
set_option maxHeartbeats 4000000 in
set_option maxRecDepth 100000 in
theorem m_careerFrom_1 (l : Launch) (dC : Nat → ClassId) (dI : Nat → Nat → Nat) (cy : Nat → ClassId) (sz : Nat) (vo : Nat) (voth : Int32) (vmt : Nat) (votp : Int32) (vosz : Int32) (volm : Int32) (voto : Int32) (vofr : Int32) (vokd : Int32) (vonu : Int32) (vosg : Int32) (vofa : Int32) (vopl : Int32) (vowd : Int64) (votd : Int32) (vmn : Nat) (vmr : Nat) (vmk : Nat) (vms : Nat) (vma : Nat) (vmm : Nat) (vmrn : Nat) (vmkn : Nat) (vmik : Nat) (vmon : Nat) (vosm : Int32) (vohp : Int32) (vmw : Nat) (vmf : Nat) (vmb : Nat) (vomb : Int32) (vmd : Nat) (vmc : Nat) (vocm : Int32) (voct : Int32) (vocy : Int32) (vmx : Nat) (votx : Int32) (vose : Int32) (vml : Nat) (vmwr : Nat) (voln : Int32) (vohw : Int32) (vmno : Nat) (vond : Int32) (voon : Int32) (vowi : Int32) (votop : Int32) (vmnf : Nat → Int32) (vmdf : Nat → Int32) (vmcf : Nat → Int32) (vm : Int32) (vlf : Int32) (vti : Int32) (vwe : Int32) (r_vocy : 0 ≤ (vocy : Int32).toInt ∧ (vocy : Int32).toInt ≤ 10) (r_vm : 0 ≤ (vm : Int32).toInt ∧ (vm : Int32).toInt ≤ 6) (r_vlf : 0 ≤ (vlf : Int32).toInt ∧ (vlf : Int32).toInt ≤ 10) (p_vmnf : NW vmnf) (hd : 1 ≤ (vmnf 1).toInt) : Met l yX11_careerFrom (wl yX11_careerFrom cX11_careerFrom 8 none) ({ frames := 10, cells := 0, slots := 0, locals := 640 }) (Pw (dC, dI) vwCl cy [(vo, .inr (12, [.int voth, .ref vmt, .int votp, .int vosz, .int volm, .int voto, .int vofr, .int vokd, .int vonu, .int vosg, .int vofa, .int vopl, .long vowd, .int votd, .ref vmn, .ref vmr, .ref vmk, .ref vms, .ref vma, .ref vmm, .ref vmrn, .ref vmkn, .ref vmik, .ref vmon, .int vosm, .int vohp, .ref vmw, .ref vmf, .ref vmb, .int vomb, .ref vmd, .ref vmc, .int vocm, .int voct, .int vocy, .ref vmx, .int votx, .int vose, .ref vml, .ref vmwr, .int voln, .int vohw, .ref vmno, .int vond, .int voon, .int vowi, .int votop])), (vmn, .inl (cy 0, 575, .inl vmnf)), (vmd, .inl (cy 0, 10, .inl vmdf)), (vmc, .inl (cy 0, 10, .inl vmcf))] sz [.ref vo, .int vm, .int 1, .int vlf, .int vti, .int vwe] nE) (Qv (dC, dI) vwCl (fun (u : Int32 × Int32 × (Nat → Int32) × Int32 × (Nat → Int32)) => (0 ≤ (u.2.2.2.1 : Int32).toInt ∧ (u.2.2.2.1 : Int32).toInt ≤ 10)) (O_m_careerFrom_1 cy vo voth vmt votp vosz volm voto vofr vokd vonu vosg vofa vopl vowd votd vmn vmr vmk vms vma vmm vmrn vmkn vmik vmon vosm vohp vmw vmf vmb vomb vmd vmc vocm voct vocy vmx votx vose vml vmwr voln vohw vmno vond voon vowi votop vmnf vmdf vmcf vm vlf vti vwe) (va_A [(vo, .inr (12, [.int voth, .ref vmt, .int votp, .int vosz, .int volm, .int voto, .int vofr, .int vokd, .int vonu, .int vosg, .int vofa, .int vopl, .long vowd, .int votd, .ref vmn, .ref vmr, .ref vmk, .ref vms, .ref vma, .ref vmm, .ref vmrn, .ref vmkn, .ref vmik, .ref vmon, .int vosm, .int vohp, .ref vmw, .ref vmf, .ref vmb, .int vomb, .ref vmd, .ref vmc, .int vocm, .int voct, .int vocy, .ref vmx, .int votx, .int vose, .ref vml, .ref vmwr, .int voln, .int vohw, .ref vmno, .int vond, .int voon, .int vowi, .int votop])), (vmn, .inl (cy 0, 575, .inl vmnf)), (vmd, .inl (cy 0, 10, .inl vmdf)), (vmc, .inl (cy 0, 10, .inl vmcf))] sz)) 0 0 (va_A [(vo, .inr (12, [.int voth, .ref vmt, .int votp, .int vosz, .int volm, .int voto, .int vofr, .int vokd, .int vonu, .int vosg, .int vofa, .int vopl, .long vowd, .int votd, .ref vmn, .ref vmr, .ref vmk, .ref vms, .ref vma, .ref vmm, .ref vmrn, .ref vmkn, .ref vmik, .ref vmon, .int vosm, .int vohp, .ref vmw, .ref vmf, .ref vmb, .int vomb, .ref vmd, .ref vmc, .int vocm, .int voct, .int vocy, .ref vmx, .int votx, .int vose, .ref vml, .ref vmwr, .int voln, .int vohw, .ref vmno, .int vond, .int voon, .int vowi, .int votop])), (vmn, .inl (cy 0, 575, .inl vmnf)), (vmd, .inl (cy 0, 10, .inl vmdf)), (vmc, .inl (cy 0, 10, .inl vmcf))] sz) := by
  refine mw (Qc := Qv (dC, dI) vwCl (fun (u : Int32 × Int32 × (Nat → Int32) × Int32 × (Nat → Int32)) => (0 ≤ (u.2.2.2.1 : Int32).toInt ∧ (u.2.2.2.1 : Int32).toInt ≤ 10)) (O_m_careerFrom_1 cy vo voth vmt votp vosz volm voto vofr vokd vonu vosg vofa vopl vowd votd vmn vmr vmk vms vma vmm vmrn vmkn vmik vmon vosm vohp vmw vmf vmb vomb vmd vmc vocm voct vocy vmx votx vose vml vmwr voln vohw vmno vond voon vowi votop vmnf vmdf vmcf vm vlf vti vwe)) RX11 rfl (by decide +kernel) (Nat.le_of_ble_eq_true rfl) ?_
  intro p e s m below meth c A hx hb hr hlocks av9 hav hts hown hnm hml hK hP hD hA hS hE hAe Q9 hQ9 ls hl
  have hl : lv_has ls 8 [(0, .ref vo), (1, .int vm), (2, .int 1), (3, .int vlf), (4, .int vti), (5, .int vwe)] := hl
  refine lv_iload_n hx hb dX11_careerFrom_0 rfl (lv_at hl 2 rfl) ?_
  refine lv_aload_n hx hb dX11_careerFrom_1 rfl (lv_at hl 0 rfl) ?_
  refine gf_X11_98 hx hb hts hown hK hP 0 rfl rfl dX11_careerFrom_2 ?_
  refine lv_iconst (v := 1) hx hb dX11_careerFrom_5 (by decide) ?_
  have k_1 : (1 : Int32).toInt = 1 := by decide
  have hin_1 : vp_in (1 : Int32) 575 := vp_in_iff.mpr ⟨by omega, by omega⟩
  refine va_iald hx hb hK hP 1 0 rfl rfl hin_1 dX11_careerFrom_6 ?_
  refine lv_topi (fun z_2 ez_2 => ?_)
  have bz_2 := p_vmnf.a1 (x := 1) ⟨by omega, by omega⟩ ez_2
  have tz_2 : z_2.toInt = (vmnf 1).toInt := by rw [ez_2]; rfl
  refine lv_icmp_ne (tgt := 85) hx hb dX11_careerFrom_7 (by decide) (fun c_3 => ?_) (fun c_3 => ?_)
  · skip
    have c_3 : ¬ ((1 : Int32).toInt = z_2.toInt) := fun h9 => c_3 (i_eq.mpr h9)
    refine lv_iload_n hx hb dX11_careerFrom_85 rfl (lv_at hl 3 rfl) ?_
    refine lv_bipush (v := 9) hx hb dX11_careerFrom_86 (by decide) ?_
    refine lv_aload_n hx hb dX11_careerFrom_88 rfl (lv_at hl 0 rfl) ?_
    refine lv_iload_n hx hb dX11_careerFrom_89 rfl (lv_at hl 1 rfl) ?_
    refine lv_iload_n hx hb dX11_careerFrom_90 rfl (lv_at hl 2 rfl) ?_
    refine jr_i (rVr (As := [.int vm, .int 1]) (rest := [.int 9, .int vlf]) (ci := 12) ⟨hx, hb, hml, hown, hts⟩ (m_didOf l dC dI cy vo voth vmt votp vosz volm voto vofr vokd vonu vosg vofa vopl vowd votd vmn vmr vmk vms vma vmm vmrn vmkn vmik vmon vosm vohp vmw vmf vmb vomb vmd vmc vocm voct vocy vmx votx vose vml vmwr voln vohw vmno vond voon vowi votop vmnf vm 1 ⟨by omega, by omega⟩ ⟨by omega, by omega⟩ p_vmnf) (cw_X11_228 hts rfl rfl ⟨Nat.le_of_ble_eq_true rfl, Nat.le_of_ble_eq_true rfl⟩) hP hK [0, 1] rfl rfl rfl rfl hl.1 rfl (Nat.le_of_ble_eq_true rfl) dX11_careerFrom_91 ⟨Nat.le_of_ble_eq_true rfl, Nat.le_of_ble_eq_true rfl⟩) hP hS (fun r_4 H locs hp_5 hP hS => ?_)
    refine lv_isub hx hb dX11_careerFrom_94 ?_
    refine lv_topi (fun z_6 ez_6 => ?_)
    refine jr_i (rSr (As := [.int vlf, .int z_6]) (rest := []) ⟨hx, hb, hml, hown, hts⟩ (m_least l dC dI cy vlf z_6 ) (cw_X11_288 hts rfl rfl ⟨Nat.le_of_ble_eq_true rfl, Nat.le_of_ble_eq_true rfl⟩) hP hK [] rfl rfl hl.1 rfl (Nat.le_of_ble_eq_true rfl) dX11_careerFrom_95 ⟨Nat.le_of_ble_eq_true rfl, Nat.le_of_ble_eq_true rfl⟩) hP hS (fun r_7 H locs hp_8 hP hS => ?_)
    have hp_8 : ((r_7 : Int32).toInt ≤ (vlf : Int32).toInt) ∧ ((r_7 : Int32).toInt ≤ (z_6 : Int32).toInt) ∧ (((r_7 : Int32).toInt = (vlf : Int32).toInt ∨ (r_7 : Int32).toInt = (z_6 : Int32).toInt)) := hp_8
    obtain ⟨q_9, q_10, q_11⟩ := hp_8
    refine lv_istore (lv' := [(6, .int r_7), (0, .ref vo), (1, .int vm), (2, .int 1), (3, .int vlf), (4, .int vti), (5, .int vwe)]) hx hb dX11_careerFrom_98 hl (by decide) rfl (fun ls hl => ?_)
    refine lv_iconst (v := 0) hx hb dX11_careerFrom_100 (by decide) ?_
    refine lv_istore (lv' := [(7, .int 0), (6, .int r_7), (0, .ref vo), (1, .int vm), (2, .int 1), (3, .int vlf), (4, .int vti), (5, .int vwe)]) hx hb dX11_careerFrom_101 hl (by decide) rfl (fun ls hl => ?_)
    have loop12 : ∀ (n12 : Nat) (x_13 : Int32) (x_14 : Int32) (x_15 : Int32) (x_16 : Int32) (g_17 : Nat → Int32) (g_18 : Nat → Int32), (0 ≤ x_13.toInt ∧ x_13.toInt ≤ 11) → (0 ≤ x_16.toInt ∧ x_16.toInt ≤ 10) → 11 - x_13.toInt < (n12 : Int) → ∀ (H : Heap) (locs : List Loc), va_P (dC, dI) vwCl [(vo, .inr (12, [.int voth, .ref vmt, .int votp, .int vosz, .int volm, .int voto, .int vofr, .int vokd, .int vonu, .int vosg, .int vofa, .int vopl, .long vowd, .int votd, .ref vmn, .ref vmr, .ref vmk, .ref vms, .ref vma, .ref vmm, .ref vmrn, .ref vmkn, .ref vmik, .ref vmon, .int vosm, .int vohp, .ref vmw, .ref vmf, .ref vmb, .int vomb, .ref vmd, .ref vmc, .int x_14, .int x_15, .int x_16, .ref vmx, .int votx, .int vose, .ref vml, .ref vmwr, .int voln, .int vohw, .ref vmno, .int vond, .int voon, .int vowi, .int votop])), (vmn, .inl (cy 0, 575, .inl vmnf)), (vmd, .inl (cy 0, 10, .inl g_18)), (vmc, .inl (cy 0, 10, .inl g_17))] H → va_D A [(vo, .inr (12, [.int voth, .ref vmt, .int votp, .int vosz, .int volm, .int voto, .int vofr, .int vokd, .int vonu, .int vosg, .int vofa, .int vopl, .long vowd, .int votd, .ref vmn, .ref vmr, .ref vmk, .ref vms, .ref vma, .ref vmm, .ref vmrn, .ref vmkn, .ref vmik, .ref vmon, .int vosm, .int vohp, .ref vmw, .ref vmf, .ref vmb, .int vomb, .ref vmd, .ref vmc, .int x_14, .int x_15, .int x_16, .ref vmx, .int votx, .int vose, .ref vml, .ref vmwr, .int voln, .int vohw, .ref vmno, .int vond, .int voon, .int vowi, .int votop])), (vmn, .inl (cy 0, 575, .inl vmnf)), (vmd, .inl (cy 0, 10, .inl g_18)), (vmc, .inl (cy 0, 10, .inl g_17))] → va_S A s.heap H locs → ∀ ls : Array Slot, lv_has ls 8 [(7, .int x_13), (6, .int r_7), (0, .ref vo), (1, .int vm), (2, .int 1), (3, .int vlf), (4, .int vti), (5, .int vwe)] → W p l e ({ frames := 10, cells := 0, slots := 0, locals := 640 }) s m av9 below meth c H locs 0 0 Q9 (F0 m 103 ls []) := by
      intro n12
      induction n12 with
      | zero =>
        intro x_13 x_14 x_15 x_16 g_17 g_18 bx_13 bx_16 hn12 H locs hP hD hS ls hl
        exfalso; omega
      | succ n12 ih12 =>
        intro x_13 x_14 x_15 x_16 g_17 g_18 bx_13 bx_16 hn12 H locs hP hD hS ls hl
        refine lv_iload hx hb dX11_careerFrom_103 (lv_at hl 0 rfl) ?_
        refine lv_iload hx hb dX11_careerFrom_105 (lv_at hl 1 rfl) ?_
        refine lv_icmp_gt (tgt := 180) hx hb dX11_careerFrom_107 (by decide) (fun c_19 => ?_) (fun c_19 => ?_)
        · skip
          have c_19 : r_7.toInt < x_13.toInt := i_lt.mp c_19
          rw [hQ9]
          exact re_v (x_14, x_15, g_17, x_16, g_18) hx hb hr hlocks (show 0 ≤ (x_16 : Int32).toInt ∧ (x_16 : Int32).toInt ≤ 10 from ⟨by omega, by omega⟩) (hP.sub [0, 1, 2, 3] rfl) (hD.sub [0, 1, 2, 3] rfl rfl) hS dX11_careerFrom_180
        · skip
          have c_19 : ¬ (r_7.toInt < x_13.toInt) := fun h9 => c_19 (i_lt.mpr h9)
          refine lv_iload hx hb dX11_careerFrom_110 (lv_at hl 7 rfl) ?_
          refine lv_iload hx hb dX11_careerFrom_112 (lv_at hl 0 rfl) ?_
          refine lv_aload_n hx hb dX11_careerFrom_114 rfl (lv_at hl 2 rfl) ?_
          refine gf_X11_98 hx hb hts hown hK hP 0 rfl rfl dX11_careerFrom_115 ?_
          refine lv_bipush (v := 11) hx hb dX11_careerFrom_118 (by decide) ?_
          refine lv_iload_n hx hb dX11_careerFrom_120 rfl (lv_at hl 4 rfl) ?_
          refine lv_iadd hx hb dX11_careerFrom_121 ?_
          refine as_i 12 (by decide) ?_
          have k_12 : (12 : Int32).toInt = 12 := by decide
          have hin_20 : vp_in (12 : Int32) 575 := vp_in_iff.mpr ⟨by omega, by omega⟩
          refine va_iald hx hb hK hP 1 0 rfl rfl hin_20 dX11_careerFrom_122 ?_
          refine lv_topi (fun z_21 ez_21 => ?_)
          have bz_21 := p_vmnf.aw (x := 12) ⟨by omega, by omega⟩ ez_21
          have tz_21 : z_21.toInt = (vmnf 12).toInt := by rw [ez_21]; rfl
          refine lv_imul hx hb dX11_careerFrom_123 ?_
          refine lv_topi (fun z_22 ez_22 => ?_)
          have bz_22 : 0 ≤ z_22.toInt ∧ z_22.toInt ≤ 400 ∧ z_22.toInt = x_13.toInt * z_21.toInt := i_mulb (A := 10) (B := 40) ez_22 ⟨by omega, by omega⟩ ⟨by omega, by omega⟩ (by decide)
          refine lv_iadd hx hb dX11_careerFrom_124 ?_
          refine lv_topi (fun z_23 ez_23 => ?_)
          refine lv_aload_n hx hb dX11_careerFrom_125 rfl (lv_at hl 2 rfl) ?_
          refine gf_X11_98 hx hb hts hown hK hP 0 rfl rfl dX11_careerFrom_126 ?_
          refine lv_iconst (v := 2) hx hb dX11_careerFrom_129 (by decide) ?_
          have k_2 : (2 : Int32).toInt = 2 := by decide
          have hin_24 : vp_in (2 : Int32) 575 := vp_in_iff.mpr ⟨by omega, by omega⟩
          refine va_iald hx hb hK hP 1 0 rfl rfl hin_24 dX11_careerFrom_130 ?_
          refine lv_topi (fun z_25 ez_25 => ?_)
          have tz_25 : z_25.toInt = (vmnf 2).toInt := by rw [ez_25]; rfl
          refine lv_icmp_gt (tgt := 180) hx hb dX11_careerFrom_131 (by decide) (fun c_26 => ?_) (fun c_26 => ?_)
          · skip
            have c_26 : z_25.toInt < z_23.toInt := i_lt.mp c_26
            rw [hQ9]
            exact re_v (x_14, x_15, g_17, x_16, g_18) hx hb hr hlocks (show 0 ≤ (x_16 : Int32).toInt ∧ (x_16 : Int32).toInt ≤ 10 from ⟨by omega, by omega⟩) (hP.sub [0, 1, 2, 3] rfl) (hD.sub [0, 1, 2, 3] rfl rfl) hS dX11_careerFrom_180
          · skip
            have c_26 : ¬ (z_25.toInt < z_23.toInt) := fun h9 => c_26 (i_lt.mpr h9)
            refine lv_aload_n hx hb dX11_careerFrom_134 rfl (lv_at hl 2 rfl) ?_
            refine gf_X11_142 hx hb hts hown hK hP 0 rfl rfl dX11_careerFrom_135 ?_
            refine lv_iload_n hx hb dX11_careerFrom_138 rfl (lv_at hl 4 rfl) ?_
            refine lv_iload hx hb dX11_careerFrom_139 (lv_at hl 0 rfl) ?_
            have hin_27 : vp_in (1 : Int32) 10 := vp_in_iff.mpr ⟨by omega, by omega⟩
            refine va_iast hx hb hK hP hD hS 2 0 rfl rfl hin_27 dX11_careerFrom_141 (fun H locs hP hD hS => ?_)
            obtain ⟨f_28, ef_28⟩ : ∃ z : Nat → Int32, z = upd g_18 (Int32.toNatClampNeg 1) x_13 := ⟨_, rfl⟩
            have hP : va_P (dC, dI) vwCl [(vo, .inr (12, [.int voth, .ref vmt, .int votp, .int vosz, .int volm, .int voto, .int vofr, .int vokd, .int vonu, .int vosg, .int vofa, .int vopl, .long vowd, .int votd, .ref vmn, .ref vmr, .ref vmk, .ref vms, .ref vma, .ref vmm, .ref vmrn, .ref vmkn, .ref vmik, .ref vmon, .int vosm, .int vohp, .ref vmw, .ref vmf, .ref vmb, .int vomb, .ref vmd, .ref vmc, .int x_14, .int x_15, .int x_16, .ref vmx, .int votx, .int vose, .ref vml, .ref vmwr, .int voln, .int vohw, .ref vmno, .int vond, .int voon, .int vowi, .int votop])), (vmn, .inl (cy 0, 575, .inl vmnf)), (vmd, .inl (cy 0, 10, .inl f_28)), (vmc, .inl (cy 0, 10, .inl g_17))] H := by rw [ef_28]; exact hP
            have hD : va_D A [(vo, .inr (12, [.int voth, .ref vmt, .int votp, .int vosz, .int volm, .int voto, .int vofr, .int vokd, .int vonu, .int vosg, .int vofa, .int vopl, .long vowd, .int votd, .ref vmn, .ref vmr, .ref vmk, .ref vms, .ref vma, .ref vmm, .ref vmrn, .ref vmkn, .ref vmik, .ref vmon, .int vosm, .int vohp, .ref vmw, .ref vmf, .ref vmb, .int vomb, .ref vmd, .ref vmc, .int x_14, .int x_15, .int x_16, .ref vmx, .int votx, .int vose, .ref vml, .ref vmwr, .int voln, .int vohw, .ref vmno, .int vond, .int voon, .int vowi, .int votop])), (vmn, .inl (cy 0, 575, .inl vmnf)), (vmd, .inl (cy 0, 10, .inl f_28)), (vmc, .inl (cy 0, 10, .inl g_17))] := by rw [ef_28]; exact hD
            refine lv_aload_n hx hb dX11_careerFrom_142 rfl (lv_at hl 2 rfl) ?_
            refine lv_iload_n hx hb dX11_careerFrom_143 rfl (lv_at hl 3 rfl) ?_
            refine lv_iload_n hx hb dX11_careerFrom_144 rfl (lv_at hl 4 rfl) ?_
            refine lv_iconst (v := 1) hx hb dX11_careerFrom_145 (by decide) ?_
            refine lv_iadd hx hb dX11_careerFrom_146 ?_
            refine as_i 2 (by decide) ?_
            refine lv_iload_n hx hb dX11_careerFrom_147 rfl (lv_at hl 5 rfl) ?_
            refine lv_iload hx hb dX11_careerFrom_148 (lv_at hl 0 rfl) ?_
            refine lv_isub hx hb dX11_careerFrom_150 ?_
            refine lv_topi (fun z_29 ez_29 => ?_)
            have bz_29 : z_29.toInt = vlf.toInt - x_13.toInt := i_sub ez_29 (by omega) (by omega)
            refine lv_iload hx hb dX11_careerFrom_151 (lv_at hl 6 rfl) ?_
            refine lv_iload hx hb dX11_careerFrom_153 (lv_at hl 0 rfl) ?_
            refine lv_iadd hx hb dX11_careerFrom_155 ?_
            refine lv_topi (fun z_30 ez_30 => ?_)
            refine lv_iload hx hb dX11_careerFrom_156 (lv_at hl 7 rfl) ?_
            refine lv_iload hx hb dX11_careerFrom_158 (lv_at hl 0 rfl) ?_
            refine lv_aload_n hx hb dX11_careerFrom_160 rfl (lv_at hl 2 rfl) ?_
            refine gf_X11_98 hx hb hts hown hK hP 0 rfl rfl dX11_careerFrom_161 ?_
            refine lv_bipush (v := 11) hx hb dX11_careerFrom_164 (by decide) ?_
            refine lv_iload_n hx hb dX11_careerFrom_166 rfl (lv_at hl 4 rfl) ?_
            refine lv_iadd hx hb dX11_careerFrom_167 ?_
            refine as_i 12 (by decide) ?_
            have hin_31 : vp_in (12 : Int32) 575 := vp_in_iff.mpr ⟨by omega, by omega⟩
            refine va_iald hx hb hK hP 1 0 rfl rfl hin_31 dX11_careerFrom_168 ?_
            refine lv_topi (fun z_32 ez_32 => ?_)
            have bz_32 := p_vmnf.aw (x := 12) ⟨by omega, by omega⟩ ez_32
            have tz_32 : z_32.toInt = (vmnf 12).toInt := by rw [ez_32]; rfl
            refine lv_imul hx hb dX11_careerFrom_169 ?_
            refine lv_topi (fun z_33 ez_33 => ?_)
            have bz_33 : 0 ≤ z_33.toInt ∧ z_33.toInt ≤ 400 ∧ z_33.toInt = x_13.toInt * z_32.toInt := i_mulb (A := 10) (B := 40) ez_33 ⟨by omega, by omega⟩ ⟨by omega, by omega⟩ (by decide)
            refine lv_iadd hx hb dX11_careerFrom_170 ?_
            refine lv_topi (fun z_34 ez_34 => ?_)
            refine jn_v (wr := []) (rV (As := [.int vm, .int 2, .int z_29, .int z_30, .int z_34]) (rest := []) (ci := 12) ⟨hx, hb, hml, hown, hts⟩ (m_careerFrom_2 l dC dI cy _ vo voth vmt votp vosz volm voto vofr vokd vonu vosg vofa vopl vowd votd vmn vmr vmk vms vma vmm vmrn vmkn vmik vmon vosm vohp vmw vmf vmb vomb vmd vmc x_14 x_15 x_16 vmx votx vose vml vmwr voln vohw vmno vond voon vowi votop vmnf f_28 g_17 vm z_29 z_30 z_34 ⟨by omega, by omega⟩ r_vm ⟨by omega, by omega⟩ p_vmnf (by omega)) (cw_X11_331 hts rfl rfl ⟨Nat.le_of_ble_eq_true rfl, Nat.le_of_ble_eq_true rfl⟩) hP hD hK [0, 1, 2, 3] rfl rfl rfl rfl bl0 e0 rfl hl.1 rfl (Nat.le_of_ble_eq_true rfl) dX11_careerFrom_171 ⟨Nat.le_of_ble_eq_true rfl, Nat.le_of_ble_eq_true rfl⟩) hP hD hS hA [0, 1, 2, 3] [] rfl rfl rfl (by decide) (fun u_37 H locs hp_36 hP hD hS => ?_)
            obtain ⟨vocm_38, voct_39, vmcf_40, vocy_41, vmdf_42⟩ := u_37
            have hp_36 : (0 ≤ (vocy_41 : Int32).toInt ∧ (vocy_41 : Int32).toInt ≤ 10) := hp_36
            have q_43 := hp_36
            have hP : va_P (dC, dI) vwCl [(vo, .inr (12, [.int voth, .ref vmt, .int votp, .int vosz, .int volm, .int voto, .int vofr, .int vokd, .int vonu, .int vosg, .int vofa, .int vopl, .long vowd, .int votd, .ref vmn, .ref vmr, .ref vmk, .ref vms, .ref vma, .ref vmm, .ref vmrn, .ref vmkn, .ref vmik, .ref vmon, .int vosm, .int vohp, .ref vmw, .ref vmf, .ref vmb, .int vomb, .ref vmd, .ref vmc, .int vocm_38, .int voct_39, .int vocy_41, .ref vmx, .int votx, .int vose, .ref vml, .ref vmwr, .int voln, .int vohw, .ref vmno, .int vond, .int voon, .int vowi, .int votop])), (vmn, .inl (cy 0, 575, .inl vmnf)), (vmd, .inl (cy 0, 10, .inl vmdf_42)), (vmc, .inl (cy 0, 10, .inl vmcf_40))] H := hP
            have hD : va_D A [(vo, .inr (12, [.int voth, .ref vmt, .int votp, .int vosz, .int volm, .int voto, .int vofr, .int vokd, .int vonu, .int vosg, .int vofa, .int vopl, .long vowd, .int votd, .ref vmn, .ref vmr, .ref vmk, .ref vms, .ref vma, .ref vmm, .ref vmrn, .ref vmkn, .ref vmik, .ref vmon, .int vosm, .int vohp, .ref vmw, .ref vmf, .ref vmb, .int vomb, .ref vmd, .ref vmc, .int vocm_38, .int voct_39, .int vocy_41, .ref vmx, .int votx, .int vose, .ref vml, .ref vmwr, .int voln, .int vohw, .ref vmno, .int vond, .int voon, .int vowi, .int votop])), (vmn, .inl (cy 0, 575, .inl vmnf)), (vmd, .inl (cy 0, 10, .inl vmdf_42)), (vmc, .inl (cy 0, 10, .inl vmcf_40))] := hD
            obtain ⟨z_44, ez_44⟩ : ∃ z : Int32, z = x_13 + 1 := ⟨_, rfl⟩
            have bz_44 : z_44.toInt = x_13.toInt + (1 : Int32).toInt := i_add ez_44 (by omega) (by omega)
            refine lv_iinc (v := z_44) (lv' := [(7, .int z_44), (6, .int r_7), (0, .ref vo), (1, .int vm), (2, .int 1), (3, .int vlf), (4, .int vti), (5, .int vwe)]) hx hb dX11_careerFrom_174 hl (k := 0) rfl ez_44.symm (by decide) rfl (fun ls hl => ?_)
            refine lv_goto (tgt := 103) hx hb dX11_careerFrom_177 (by decide) ?_
            exact ih12 z_44 vocm_38 voct_39 vocy_41 vmcf_40 vmdf_42 ⟨by omega, by omega⟩ ⟨by omega, by omega⟩ (by omega) _ _ (hP.sub [0, 1, 2, 3] rfl) (hD.sub [0, 1, 2, 3] rfl rfl) hS ls (lv_sub hl [0, 1, 2, 3, 4, 5, 6, 7] rfl)
    have k_0 : (0 : Int32).toInt = 0 := by decide
    exact loop12 ((11 - (0 : Int32).toInt).toNat + 1) 0 vocm voct vocy vmcf vmdf ⟨by omega, by omega⟩ ⟨by omega, by omega⟩ (by omega) _ _ hP hD hS ls (lv_sub hl [0, 1, 2, 3, 4, 5, 6, 7] rfl)
  · skip
    have c_3 : (1 : Int32).toInt = z_2.toInt := i_eq.mp c_3
    have join45 : ∀ (H : Heap) (locs : List Loc), va_P (dC, dI) vwCl [(vo, .inr (12, [.int voth, .ref vmt, .int votp, .int vosz, .int volm, .int voto, .int vofr, .int vokd, .int vonu, .int vosg, .int vofa, .int vopl, .long vowd, .int votd, .ref vmn, .ref vmr, .ref vmk, .ref vms, .ref vma, .ref vmm, .ref vmrn, .ref vmkn, .ref vmik, .ref vmon, .int vosm, .int vohp, .ref vmw, .ref vmf, .ref vmb, .int vomb, .ref vmd, .ref vmc, .int vocm, .int voct, .int vocy, .ref vmx, .int votx, .int vose, .ref vml, .ref vmwr, .int voln, .int vohw, .ref vmno, .int vond, .int voon, .int vowi, .int votop])), (vmn, .inl (cy 0, 575, .inl vmnf)), (vmd, .inl (cy 0, 10, .inl vmdf)), (vmc, .inl (cy 0, 10, .inl vmcf))] H → va_D A [(vo, .inr (12, [.int voth, .ref vmt, .int votp, .int vosz, .int volm, .int voto, .int vofr, .int vokd, .int vonu, .int vosg, .int vofa, .int vopl, .long vowd, .int votd, .ref vmn, .ref vmr, .ref vmk, .ref vms, .ref vma, .ref vmm, .ref vmrn, .ref vmkn, .ref vmik, .ref vmon, .int vosm, .int vohp, .ref vmw, .ref vmf, .ref vmb, .int vomb, .ref vmd, .ref vmc, .int vocm, .int voct, .int vocy, .ref vmx, .int votx, .int vose, .ref vml, .ref vmwr, .int voln, .int vohw, .ref vmno, .int vond, .int voon, .int vowi, .int votop])), (vmn, .inl (cy 0, 575, .inl vmnf)), (vmd, .inl (cy 0, 10, .inl vmdf)), (vmc, .inl (cy 0, 10, .inl vmcf))] → va_S A s.heap H locs → ∀ ls : Array Slot, lv_has ls 8 [(0, .ref vo), (1, .int vm), (2, .int 1), (3, .int vlf), (4, .int vti), (5, .int vwe)] → W p l e ({ frames := 10, cells := 0, slots := 0, locals := 640 }) s m av9 below meth c H locs 0 0 Q9 (F0 m 38 ls []) := by
      intro  H locs hP hD hS ls hl
      refine lv_aload_n hx hb dX11_careerFrom_38 rfl (lv_at hl 0 rfl) ?_
      refine lv_iload hx hb dX11_careerFrom_39 (lv_at hl 5 rfl) ?_
      refine pf_X11_322 hx hb hts hown hK hP hD hS 0 rfl rfl rfl (Nat.le_of_ble_eq_true rfl) dX11_careerFrom_41 (fun H locs hP hD hS => ?_)
      have hP : va_P (dC, dI) vwCl [(vo, .inr (12, [.int voth, .ref vmt, .int votp, .int vosz, .int volm, .int voto, .int vofr, .int vokd, .int vonu, .int vosg, .int vofa, .int vopl, .long vowd, .int votd, .ref vmn, .ref vmr, .ref vmk, .ref vms, .ref vma, .ref vmm, .ref vmrn, .ref vmkn, .ref vmik, .ref vmon, .int vosm, .int vohp, .ref vmw, .ref vmf, .ref vmb, .int vomb, .ref vmd, .ref vmc, .int vwe, .int voct, .int vocy, .ref vmx, .int votx, .int vose, .ref vml, .ref vmwr, .int voln, .int vohw, .ref vmno, .int vond, .int voon, .int vowi, .int votop])), (vmn, .inl (cy 0, 575, .inl vmnf)), (vmd, .inl (cy 0, 10, .inl vmdf)), (vmc, .inl (cy 0, 10, .inl vmcf))] H := hP
      have hD : va_D A [(vo, .inr (12, [.int voth, .ref vmt, .int votp, .int vosz, .int volm, .int voto, .int vofr, .int vokd, .int vonu, .int vosg, .int vofa, .int vopl, .long vowd, .int votd, .ref vmn, .ref vmr, .ref vmk, .ref vms, .ref vma, .ref vmm, .ref vmrn, .ref vmkn, .ref vmik, .ref vmon, .int vosm, .int vohp, .ref vmw, .ref vmf, .ref vmb, .int vomb, .ref vmd, .ref vmc, .int vwe, .int voct, .int vocy, .ref vmx, .int votx, .int vose, .ref vml, .ref vmwr, .int voln, .int vohw, .ref vmno, .int vond, .int voon, .int vowi, .int votop])), (vmn, .inl (cy 0, 575, .inl vmnf)), (vmd, .inl (cy 0, 10, .inl vmdf)), (vmc, .inl (cy 0, 10, .inl vmcf))] := hD
      refine lv_aload_n hx hb dX11_careerFrom_44 rfl (lv_at hl 0 rfl) ?_
      refine lv_iload hx hb dX11_careerFrom_45 (lv_at hl 4 rfl) ?_
      refine pf_X11_325 hx hb hts hown hK hP hD hS 0 rfl rfl rfl (Nat.le_of_ble_eq_true rfl) dX11_careerFrom_47 (fun H locs hP hD hS => ?_)
      have hP : va_P (dC, dI) vwCl [(vo, .inr (12, [.int voth, .ref vmt, .int votp, .int vosz, .int volm, .int voto, .int vofr, .int vokd, .int vonu, .int vosg, .int vofa, .int vopl, .long vowd, .int votd, .ref vmn, .ref vmr, .ref vmk, .ref vms, .ref vma, .ref vmm, .ref vmrn, .ref vmkn, .ref vmik, .ref vmon, .int vosm, .int vohp, .ref vmw, .ref vmf, .ref vmb, .int vomb, .ref vmd, .ref vmc, .int vwe, .int vti, .int vocy, .ref vmx, .int votx, .int vose, .ref vml, .ref vmwr, .int voln, .int vohw, .ref vmno, .int vond, .int voon, .int vowi, .int votop])), (vmn, .inl (cy 0, 575, .inl vmnf)), (vmd, .inl (cy 0, 10, .inl vmdf)), (vmc, .inl (cy 0, 10, .inl vmcf))] H := hP
      have hD : va_D A [(vo, .inr (12, [.int voth, .ref vmt, .int votp, .int vosz, .int volm, .int voto, .int vofr, .int vokd, .int vonu, .int vosg, .int vofa, .int vopl, .long vowd, .int votd, .ref vmn, .ref vmr, .ref vmk, .ref vms, .ref vma, .ref vmm, .ref vmrn, .ref vmkn, .ref vmik, .ref vmon, .int vosm, .int vohp, .ref vmw, .ref vmf, .ref vmb, .int vomb, .ref vmd, .ref vmc, .int vwe, .int vti, .int vocy, .ref vmx, .int votx, .int vose, .ref vml, .ref vmwr, .int voln, .int vohw, .ref vmno, .int vond, .int voon, .int vowi, .int votop])), (vmn, .inl (cy 0, 575, .inl vmnf)), (vmd, .inl (cy 0, 10, .inl vmdf)), (vmc, .inl (cy 0, 10, .inl vmcf))] := hD
      refine lv_iconst (v := 0) hx hb dX11_careerFrom_50 (by decide) ?_
      refine lv_istore (lv' := [(6, .int 0), (0, .ref vo), (1, .int vm), (2, .int 1), (3, .int vlf), (4, .int vti), (5, .int vwe)]) hx hb dX11_careerFrom_51 hl (by decide) rfl (fun ls hl => ?_)
      have loop46 : ∀ (n46 : Nat) (x_47 : Int32) (g_48 : Nat → Int32), (0 ≤ x_47.toInt ∧ x_47.toInt ≤ 10) → 10 - x_47.toInt < (n46 : Int) → ∀ (H : Heap) (locs : List Loc), va_P (dC, dI) vwCl [(vo, .inr (12, [.int voth, .ref vmt, .int votp, .int vosz, .int volm, .int voto, .int vofr, .int vokd, .int vonu, .int vosg, .int vofa, .int vopl, .long vowd, .int votd, .ref vmn, .ref vmr, .ref vmk, .ref vms, .ref vma, .ref vmm, .ref vmrn, .ref vmkn, .ref vmik, .ref vmon, .int vosm, .int vohp, .ref vmw, .ref vmf, .ref vmb, .int vomb, .ref vmd, .ref vmc, .int vwe, .int vti, .int vocy, .ref vmx, .int votx, .int vose, .ref vml, .ref vmwr, .int voln, .int vohw, .ref vmno, .int vond, .int voon, .int vowi, .int votop])), (vmn, .inl (cy 0, 575, .inl vmnf)), (vmd, .inl (cy 0, 10, .inl vmdf)), (vmc, .inl (cy 0, 10, .inl g_48))] H → va_D A [(vo, .inr (12, [.int voth, .ref vmt, .int votp, .int vosz, .int volm, .int voto, .int vofr, .int vokd, .int vonu, .int vosg, .int vofa, .int vopl, .long vowd, .int votd, .ref vmn, .ref vmr, .ref vmk, .ref vms, .ref vma, .ref vmm, .ref vmrn, .ref vmkn, .ref vmik, .ref vmon, .int vosm, .int vohp, .ref vmw, .ref vmf, .ref vmb, .int vomb, .ref vmd, .ref vmc, .int vwe, .int vti, .int vocy, .ref vmx, .int votx, .int vose, .ref vml, .ref vmwr, .int voln, .int vohw, .ref vmno, .int vond, .int voon, .int vowi, .int votop])), (vmn, .inl (cy 0, 575, .inl vmnf)), (vmd, .inl (cy 0, 10, .inl vmdf)), (vmc, .inl (cy 0, 10, .inl g_48))] → va_S A s.heap H locs → ∀ ls : Array Slot, lv_has ls 8 [(6, .int x_47), (0, .ref vo), (1, .int vm), (2, .int 1), (3, .int vlf), (4, .int vti), (5, .int vwe)] → W p l e ({ frames := 10, cells := 0, slots := 0, locals := 640 }) s m av9 below meth c H locs 0 0 Q9 (F0 m 53 ls []) := by
        intro n46
        induction n46 with
        | zero =>
          intro x_47 g_48 bx_47 hn46 H locs hP hD hS ls hl
          exfalso; omega
        | succ n46 ih46 =>
          intro x_47 g_48 bx_47 hn46 H locs hP hD hS ls hl
          refine lv_iload hx hb dX11_careerFrom_53 (lv_at hl 0 rfl) ?_
          refine lv_iload_n hx hb dX11_careerFrom_55 rfl (lv_at hl 3 rfl) ?_
          refine lv_icmp_ge (tgt := 79) hx hb dX11_careerFrom_56 (by decide) (fun c_49 => ?_) (fun c_49 => ?_)
          · skip
            have c_49 : (1 : Int32).toInt ≤ x_47.toInt := i_le.mp c_49
            refine lv_aload_n hx hb dX11_careerFrom_79 rfl (lv_at hl 1 rfl) ?_
            refine lv_iload_n hx hb dX11_careerFrom_80 rfl (lv_at hl 3 rfl) ?_
            refine pf_X11_328 hx hb hts hown hK hP hD hS 0 rfl rfl rfl (Nat.le_of_ble_eq_true rfl) dX11_careerFrom_81 (fun H locs hP hD hS => ?_)
            have hP : va_P (dC, dI) vwCl [(vo, .inr (12, [.int voth, .ref vmt, .int votp, .int vosz, .int volm, .int voto, .int vofr, .int vokd, .int vonu, .int vosg, .int vofa, .int vopl, .long vowd, .int votd, .ref vmn, .ref vmr, .ref vmk, .ref vms, .ref vma, .ref vmm, .ref vmrn, .ref vmkn, .ref vmik, .ref vmon, .int vosm, .int vohp, .ref vmw, .ref vmf, .ref vmb, .int vomb, .ref vmd, .ref vmc, .int vwe, .int vti, .int 1, .ref vmx, .int votx, .int vose, .ref vml, .ref vmwr, .int voln, .int vohw, .ref vmno, .int vond, .int voon, .int vowi, .int votop])), (vmn, .inl (cy 0, 575, .inl vmnf)), (vmd, .inl (cy 0, 10, .inl vmdf)), (vmc, .inl (cy 0, 10, .inl g_48))] H := hP
            have hD : va_D A [(vo, .inr (12, [.int voth, .ref vmt, .int votp, .int vosz, .int volm, .int voto, .int vofr, .int vokd, .int vonu, .int vosg, .int vofa, .int vopl, .long vowd, .int votd, .ref vmn, .ref vmr, .ref vmk, .ref vms, .ref vma, .ref vmm, .ref vmrn, .ref vmkn, .ref vmik, .ref vmon, .int vosm, .int vohp, .ref vmw, .ref vmf, .ref vmb, .int vomb, .ref vmd, .ref vmc, .int vwe, .int vti, .int 1, .ref vmx, .int votx, .int vose, .ref vml, .ref vmwr, .int voln, .int vohw, .ref vmno, .int vond, .int voon, .int vowi, .int votop])), (vmn, .inl (cy 0, 575, .inl vmnf)), (vmd, .inl (cy 0, 10, .inl vmdf)), (vmc, .inl (cy 0, 10, .inl g_48))] := hD
            rw [hQ9]
            exact re_v (vwe, vti, g_48, (1 : Int32), vmdf) hx hb hr hlocks (show 0 ≤ (1 : Int32).toInt ∧ (1 : Int32).toInt ≤ 10 from ⟨by omega, by omega⟩) (hP.sub [0, 1, 2, 3] rfl) (hD.sub [0, 1, 2, 3] rfl rfl) hS dX11_careerFrom_84
          · skip
            have c_49 : ¬ ((1 : Int32).toInt ≤ x_47.toInt) := fun h9 => c_49 (i_le.mpr h9)
            refine lv_aload_n hx hb dX11_careerFrom_59 rfl (lv_at hl 1 rfl) ?_
            refine gf_X11_145 hx hb hts hown hK hP 0 rfl rfl dX11_careerFrom_60 ?_
            refine lv_iload hx hb dX11_careerFrom_63 (lv_at hl 0 rfl) ?_
            refine lv_aload_n hx hb dX11_careerFrom_65 rfl (lv_at hl 1 rfl) ?_
            refine gf_X11_142 hx hb hts hown hK hP 0 rfl rfl dX11_careerFrom_66 ?_
            refine lv_iload hx hb dX11_careerFrom_69 (lv_at hl 0 rfl) ?_
            have hin_50 : vp_in x_47 10 := vp_in_iff.mpr ⟨by omega, by omega⟩
            refine va_iald hx hb hK hP 2 0 rfl rfl hin_50 dX11_careerFrom_71 ?_
            refine lv_topi (fun z_51 ez_51 => ?_)
            have hin_52 : vp_in x_47 10 := vp_in_iff.mpr ⟨by omega, by omega⟩
            refine va_iast hx hb hK hP hD hS 3 0 rfl rfl hin_52 dX11_careerFrom_72 (fun H locs hP hD hS => ?_)
            obtain ⟨f_53, ef_53⟩ : ∃ z : Nat → Int32, z = upd g_48 (Int32.toNatClampNeg x_47) z_51 := ⟨_, rfl⟩
            have hP : va_P (dC, dI) vwCl [(vo, .inr (12, [.int voth, .ref vmt, .int votp, .int vosz, .int volm, .int voto, .int vofr, .int vokd, .int vonu, .int vosg, .int vofa, .int vopl, .long vowd, .int votd, .ref vmn, .ref vmr, .ref vmk, .ref vms, .ref vma, .ref vmm, .ref vmrn, .ref vmkn, .ref vmik, .ref vmon, .int vosm, .int vohp, .ref vmw, .ref vmf, .ref vmb, .int vomb, .ref vmd, .ref vmc, .int vwe, .int vti, .int vocy, .ref vmx, .int votx, .int vose, .ref vml, .ref vmwr, .int voln, .int vohw, .ref vmno, .int vond, .int voon, .int vowi, .int votop])), (vmn, .inl (cy 0, 575, .inl vmnf)), (vmd, .inl (cy 0, 10, .inl vmdf)), (vmc, .inl (cy 0, 10, .inl f_53))] H := by rw [ef_53]; exact hP
            have hD : va_D A [(vo, .inr (12, [.int voth, .ref vmt, .int votp, .int vosz, .int volm, .int voto, .int vofr, .int vokd, .int vonu, .int vosg, .int vofa, .int vopl, .long vowd, .int votd, .ref vmn, .ref vmr, .ref vmk, .ref vms, .ref vma, .ref vmm, .ref vmrn, .ref vmkn, .ref vmik, .ref vmon, .int vosm, .int vohp, .ref vmw, .ref vmf, .ref vmb, .int vomb, .ref vmd, .ref vmc, .int vwe, .int vti, .int vocy, .ref vmx, .int votx, .int vose, .ref vml, .ref vmwr, .int voln, .int vohw, .ref vmno, .int vond, .int voon, .int vowi, .int votop])), (vmn, .inl (cy 0, 575, .inl vmnf)), (vmd, .inl (cy 0, 10, .inl vmdf)), (vmc, .inl (cy 0, 10, .inl f_53))] := by rw [ef_53]; exact hD
            obtain ⟨z_54, ez_54⟩ : ∃ z : Int32, z = x_47 + 1 := ⟨_, rfl⟩
            have bz_54 : z_54.toInt = x_47.toInt + (1 : Int32).toInt := i_add ez_54 (by omega) (by omega)
            refine lv_iinc (v := z_54) (lv' := [(6, .int z_54), (0, .ref vo), (1, .int vm), (2, .int 1), (3, .int vlf), (4, .int vti), (5, .int vwe)]) hx hb dX11_careerFrom_73 hl (k := 0) rfl ez_54.symm (by decide) rfl (fun ls hl => ?_)
            refine lv_goto (tgt := 53) hx hb dX11_careerFrom_76 (by decide) ?_
            exact ih46 z_54 f_53 ⟨by omega, by omega⟩ (by omega) _ _ (hP.sub [0, 1, 2, 3] rfl) (hD.sub [0, 1, 2, 3] rfl rfl) hS ls (lv_sub hl [0, 1, 2, 3, 4, 5, 6] rfl)
      have k_0 : (0 : Int32).toInt = 0 := by decide
      exact loop46 ((10 - (0 : Int32).toInt).toNat + 1) 0 vmcf ⟨by omega, by omega⟩ (by omega) _ _ hP hD hS ls (lv_sub hl [0, 1, 2, 3, 4, 5, 6] rfl)
    refine lv_iload hx hb dX11_careerFrom_10 (lv_at hl 5 rfl) ?_
    refine lv_aload_n hx hb dX11_careerFrom_12 rfl (lv_at hl 0 rfl) ?_
    refine gf_X11_322 hx hb hts hown hK hP 0 rfl rfl dX11_careerFrom_13 ?_
    refine lv_icmp_lt (tgt := 37) hx hb dX11_careerFrom_16 (by decide) (fun c_55 => ?_) (fun c_55 => ?_)
    · skip
      have c_55 : vwe.toInt < vocm.toInt := i_lt.mp c_55
      rw [hQ9]
      exact re_v (vocm, voct, vmcf, vocy, vmdf) hx hb hr hlocks (show 0 ≤ (vocy : Int32).toInt ∧ (vocy : Int32).toInt ≤ 10 from ⟨by omega, by omega⟩) (hP.sub [0, 1, 2, 3] rfl) (hD.sub [0, 1, 2, 3] rfl rfl) hS dX11_careerFrom_37
    · skip
      have c_55 : ¬ (vwe.toInt < vocm.toInt) := fun h9 => c_55 (i_lt.mpr h9)
      refine lv_iload hx hb dX11_careerFrom_19 (lv_at hl 5 rfl) ?_
      refine lv_aload_n hx hb dX11_careerFrom_21 rfl (lv_at hl 0 rfl) ?_
      refine gf_X11_322 hx hb hts hown hK hP 0 rfl rfl dX11_careerFrom_22 ?_
      refine lv_icmp_ne (tgt := 38) hx hb dX11_careerFrom_25 (by decide) (fun c_56 => ?_) (fun c_56 => ?_)
      · skip
        have c_56 : ¬ (vwe.toInt = vocm.toInt) := fun h9 => c_56 (i_eq.mpr h9)
        exact join45  _ _ (hP.sub [0, 1, 2, 3] rfl) (hD.sub [0, 1, 2, 3] rfl rfl) hS ls (lv_sub hl [0, 1, 2, 3, 4, 5] rfl)
      · skip
        have c_56 : vwe.toInt = vocm.toInt := i_eq.mp c_56
        refine lv_iload hx hb dX11_careerFrom_28 (lv_at hl 4 rfl) ?_
        refine lv_aload_n hx hb dX11_careerFrom_30 rfl (lv_at hl 0 rfl) ?_
        refine gf_X11_325 hx hb hts hown hK hP 0 rfl rfl dX11_careerFrom_31 ?_
        refine lv_icmp_lt (tgt := 38) hx hb dX11_careerFrom_34 (by decide) (fun c_57 => ?_) (fun c_57 => ?_)
        · skip
          have c_57 : vti.toInt < voct.toInt := i_lt.mp c_57
          exact join45  _ _ (hP.sub [0, 1, 2, 3] rfl) (hD.sub [0, 1, 2, 3] rfl rfl) hS ls (lv_sub hl [0, 1, 2, 3, 4, 5] rfl)
        · skip
          have c_57 : ¬ (vti.toInt < voct.toInt) := fun h9 => c_57 (i_lt.mpr h9)
          rw [hQ9]
          exact re_v (vocm, voct, vmcf, vocy, vmdf) hx hb hr hlocks (show 0 ≤ (vocy : Int32).toInt ∧ (vocy : Int32).toInt ≤ 10 from ⟨by omega, by omega⟩) (hP.sub [0, 1, 2, 3] rfl) (hD.sub [0, 1, 2, 3] rfl rfl) hS dX11_careerFrom_37
abbrev O_m_careerFrom_0 (cy : Nat → ClassId) (vo : Nat) (voth : Int32) (vmt : Nat) (votp : Int32) (vosz : Int32) (volm : Int32) (voto : Int32) (vofr : Int32) (vokd : Int32) (vonu : Int32) (vosg : Int32) (vofa : Int32) (vopl : Int32) (vowd : Int64) (votd : Int32) (vmn : Nat) (vmr : Nat) (vmk : Nat) (vms : Nat) (vma : Nat) (vmm : Nat) (vmrn : Nat) (vmkn : Nat) (vmik : Nat) (vmon : Nat) (vosm : Int32) (vohp : Int32) (vmw : Nat) (vmf : Nat) (vmb : Nat) (vomb : Int32) (vmd : Nat) (vmc : Nat) (vocm : Int32) (voct : Int32) (vocy : Int32) (vmx : Nat) (votx : Int32) (vose : Int32) (vml : Nat) (vmwr : Nat) (voln : Int32) (vohw : Int32) (vmno : Nat) (vond : Int32) (voon : Int32) (vowi : Int32) (votop : Int32) (vmnf : Nat → Int32) (vmdf : Nat → Int32) (vmcf : Nat → Int32) (vm : Int32) (vlf : Int32) (vti : Int32) (vwe : Int32) (u : Int32 × Int32 × (Nat → Int32) × Int32 × (Nat → Int32)) : va_W := [(vo, .inr (12, [.int voth, .ref vmt, .int votp, .int vosz, .int volm, .int voto, .int vofr, .int vokd, .int vonu, .int vosg, .int vofa, .int vopl, .long vowd, .int votd, .ref vmn, .ref vmr, .ref vmk, .ref vms, .ref vma, .ref vmm, .ref vmrn, .ref vmkn, .ref vmik, .ref vmon, .int vosm, .int vohp, .ref vmw, .ref vmf, .ref vmb, .int vomb, .ref vmd, .ref vmc, .int u.1, .int u.2.1, .int u.2.2.2.1, .ref vmx, .int votx, .int vose, .ref vml, .ref vmwr, .int voln, .int vohw, .ref vmno, .int vond, .int voon, .int vowi, .int votop])), (vmn, .inl (cy 0, 575, .inl vmnf)), (vmd, .inl (cy 0, 10, .inl u.2.2.2.2)), (vmc, .inl (cy 0, 10, .inl u.2.2.1))]
set_option maxHeartbeats 4000000 in
set_option maxRecDepth 100000 in
theorem m_careerFrom_0 (l : Launch) (dC : Nat → ClassId) (dI : Nat → Nat → Nat) (cy : Nat → ClassId) (sz : Nat) (vo : Nat) (voth : Int32) (vmt : Nat) (votp : Int32) (vosz : Int32) (volm : Int32) (voto : Int32) (vofr : Int32) (vokd : Int32) (vonu : Int32) (vosg : Int32) (vofa : Int32) (vopl : Int32) (vowd : Int64) (votd : Int32) (vmn : Nat) (vmr : Nat) (vmk : Nat) (vms : Nat) (vma : Nat) (vmm : Nat) (vmrn : Nat) (vmkn : Nat) (vmik : Nat) (vmon : Nat) (vosm : Int32) (vohp : Int32) (vmw : Nat) (vmf : Nat) (vmb : Nat) (vomb : Int32) (vmd : Nat) (vmc : Nat) (vocm : Int32) (voct : Int32) (vocy : Int32) (vmx : Nat) (votx : Int32) (vose : Int32) (vml : Nat) (vmwr : Nat) (voln : Int32) (vohw : Int32) (vmno : Nat) (vond : Int32) (voon : Int32) (vowi : Int32) (votop : Int32) (vmnf : Nat → Int32) (vmdf : Nat → Int32) (vmcf : Nat → Int32) (vm : Int32) (vlf : Int32) (vti : Int32) (vwe : Int32) (r_vocy : 0 ≤ (vocy : Int32).toInt ∧ (vocy : Int32).toInt ≤ 10) (r_vm : 0 ≤ (vm : Int32).toInt ∧ (vm : Int32).toInt ≤ 6) (r_vlf : 0 ≤ (vlf : Int32).toInt ∧ (vlf : Int32).toInt ≤ 10) (p_vmnf : NW vmnf) (hd : 0 ≤ (vmnf 1).toInt) : Met l yX11_careerFrom (wl yX11_careerFrom cX11_careerFrom 8 none) ({ frames := 11, cells := 0, slots := 0, locals := 704 }) (Pw (dC, dI) vwCl cy [(vo, .inr (12, [.int voth, .ref vmt, .int votp, .int vosz, .int volm, .int voto, .int vofr, .int vokd, .int vonu, .int vosg, .int vofa, .int vopl, .long vowd, .int votd, .ref vmn, .ref vmr, .ref vmk, .ref vms, .ref vma, .ref vmm, .ref vmrn, .ref vmkn, .ref vmik, .ref vmon, .int vosm, .int vohp, .ref vmw, .ref vmf, .ref vmb, .int vomb, .ref vmd, .ref vmc, .int vocm, .int voct, .int vocy, .ref vmx, .int votx, .int vose, .ref vml, .ref vmwr, .int voln, .int vohw, .ref vmno, .int vond, .int voon, .int vowi, .int votop])), (vmn, .inl (cy 0, 575, .inl vmnf)), (vmd, .inl (cy 0, 10, .inl vmdf)), (vmc, .inl (cy 0, 10, .inl vmcf))] sz [.ref vo, .int vm, .int 0, .int vlf, .int vti, .int vwe] nE) (Qv (dC, dI) vwCl (fun (u : Int32 × Int32 × (Nat → Int32) × Int32 × (Nat → Int32)) => (0 ≤ (u.2.2.2.1 : Int32).toInt ∧ (u.2.2.2.1 : Int32).toInt ≤ 10)) (O_m_careerFrom_0 cy vo voth vmt votp vosz volm voto vofr vokd vonu vosg vofa vopl vowd votd vmn vmr vmk vms vma vmm vmrn vmkn vmik vmon vosm vohp vmw vmf vmb vomb vmd vmc vocm voct vocy vmx votx vose vml vmwr voln vohw vmno vond voon vowi votop vmnf vmdf vmcf vm vlf vti vwe) (va_A [(vo, .inr (12, [.int voth, .ref vmt, .int votp, .int vosz, .int volm, .int voto, .int vofr, .int vokd, .int vonu, .int vosg, .int vofa, .int vopl, .long vowd, .int votd, .ref vmn, .ref vmr, .ref vmk, .ref vms, .ref vma, .ref vmm, .ref vmrn, .ref vmkn, .ref vmik, .ref vmon, .int vosm, .int vohp, .ref vmw, .ref vmf, .ref vmb, .int vomb, .ref vmd, .ref vmc, .int vocm, .int voct, .int vocy, .ref vmx, .int votx, .int vose, .ref vml, .ref vmwr, .int voln, .int vohw, .ref vmno, .int vond, .int voon, .int vowi, .int votop])), (vmn, .inl (cy 0, 575, .inl vmnf)), (vmd, .inl (cy 0, 10, .inl vmdf)), (vmc, .inl (cy 0, 10, .inl vmcf))] sz)) 0 0 (va_A [(vo, .inr (12, [.int voth, .ref vmt, .int votp, .int vosz, .int volm, .int voto, .int vofr, .int vokd, .int vonu, .int vosg, .int vofa, .int vopl, .long vowd, .int votd, .ref vmn, .ref vmr, .ref vmk, .ref vms, .ref vma, .ref vmm, .ref vmrn, .ref vmkn, .ref vmik, .ref vmon, .int vosm, .int vohp, .ref vmw, .ref vmf, .ref vmb, .int vomb, .ref vmd, .ref vmc, .int vocm, .int voct, .int vocy, .ref vmx, .int votx, .int vose, .ref vml, .ref vmwr, .int voln, .int vohw, .ref vmno, .int vond, .int voon, .int vowi, .int votop])), (vmn, .inl (cy 0, 575, .inl vmnf)), (vmd, .inl (cy 0, 10, .inl vmdf)), (vmc, .inl (cy 0, 10, .inl vmcf))] sz) := by
  refine mw (Qc := Qv (dC, dI) vwCl (fun (u : Int32 × Int32 × (Nat → Int32) × Int32 × (Nat → Int32)) => (0 ≤ (u.2.2.2.1 : Int32).toInt ∧ (u.2.2.2.1 : Int32).toInt ≤ 10)) (O_m_careerFrom_0 cy vo voth vmt votp vosz volm voto vofr vokd vonu vosg vofa vopl vowd votd vmn vmr vmk vms vma vmm vmrn vmkn vmik vmon vosm vohp vmw vmf vmb vomb vmd vmc vocm voct vocy vmx votx vose vml vmwr voln vohw vmno vond voon vowi votop vmnf vmdf vmcf vm vlf vti vwe)) RX11 rfl (by decide +kernel) (Nat.le_of_ble_eq_true rfl) ?_
  intro p e s m below meth c A hx hb hr hlocks av9 hav hts hown hnm hml hK hP hD hA hS hE hAe Q9 hQ9 ls hl
  have hl : lv_has ls 8 [(0, .ref vo), (1, .int vm), (2, .int 0), (3, .int vlf), (4, .int vti), (5, .int vwe)] := hl
  refine lv_iload_n hx hb dX11_careerFrom_0 rfl (lv_at hl 2 rfl) ?_
  refine lv_aload_n hx hb dX11_careerFrom_1 rfl (lv_at hl 0 rfl) ?_
  refine gf_X11_98 hx hb hts hown hK hP 0 rfl rfl dX11_careerFrom_2 ?_
  refine lv_iconst (v := 1) hx hb dX11_careerFrom_5 (by decide) ?_
  have k_1 : (1 : Int32).toInt = 1 := by decide
  have hin_1 : vp_in (1 : Int32) 575 := vp_in_iff.mpr ⟨by omega, by omega⟩
  refine va_iald hx hb hK hP 1 0 rfl rfl hin_1 dX11_careerFrom_6 ?_
  refine lv_topi (fun z_2 ez_2 => ?_)
  have bz_2 := p_vmnf.a1 (x := 1) ⟨by omega, by omega⟩ ez_2
  have tz_2 : z_2.toInt = (vmnf 1).toInt := by rw [ez_2]; rfl
  have k_0 : (0 : Int32).toInt = 0 := by decide
  refine lv_icmp_ne (tgt := 85) hx hb dX11_careerFrom_7 (by decide) (fun c_3 => ?_) (fun c_3 => ?_)
  · skip
    have c_3 : ¬ ((0 : Int32).toInt = z_2.toInt) := fun h9 => c_3 (i_eq.mpr h9)
    refine lv_iload_n hx hb dX11_careerFrom_85 rfl (lv_at hl 3 rfl) ?_
    refine lv_bipush (v := 9) hx hb dX11_careerFrom_86 (by decide) ?_
    refine lv_aload_n hx hb dX11_careerFrom_88 rfl (lv_at hl 0 rfl) ?_
    refine lv_iload_n hx hb dX11_careerFrom_89 rfl (lv_at hl 1 rfl) ?_
    refine lv_iload_n hx hb dX11_careerFrom_90 rfl (lv_at hl 2 rfl) ?_
    refine jr_i (rVr (As := [.int vm, .int 0]) (rest := [.int 9, .int vlf]) (ci := 12) ⟨hx, hb, hml, hown, hts⟩ (m_didOf l dC dI cy vo voth vmt votp vosz volm voto vofr vokd vonu vosg vofa vopl vowd votd vmn vmr vmk vms vma vmm vmrn vmkn vmik vmon vosm vohp vmw vmf vmb vomb vmd vmc vocm voct vocy vmx votx vose vml vmwr voln vohw vmno vond voon vowi votop vmnf vm 0 ⟨by omega, by omega⟩ ⟨by omega, by omega⟩ p_vmnf) (cw_X11_228 hts rfl rfl ⟨Nat.le_of_ble_eq_true rfl, Nat.le_of_ble_eq_true rfl⟩) hP hK [0, 1] rfl rfl rfl rfl hl.1 rfl (Nat.le_of_ble_eq_true rfl) dX11_careerFrom_91 ⟨Nat.le_of_ble_eq_true rfl, Nat.le_of_ble_eq_true rfl⟩) hP hS (fun r_4 H locs hp_5 hP hS => ?_)
    refine lv_isub hx hb dX11_careerFrom_94 ?_
    refine lv_topi (fun z_6 ez_6 => ?_)
    refine jr_i (rSr (As := [.int vlf, .int z_6]) (rest := []) ⟨hx, hb, hml, hown, hts⟩ (m_least l dC dI cy vlf z_6 ) (cw_X11_288 hts rfl rfl ⟨Nat.le_of_ble_eq_true rfl, Nat.le_of_ble_eq_true rfl⟩) hP hK [] rfl rfl hl.1 rfl (Nat.le_of_ble_eq_true rfl) dX11_careerFrom_95 ⟨Nat.le_of_ble_eq_true rfl, Nat.le_of_ble_eq_true rfl⟩) hP hS (fun r_7 H locs hp_8 hP hS => ?_)
    have hp_8 : ((r_7 : Int32).toInt ≤ (vlf : Int32).toInt) ∧ ((r_7 : Int32).toInt ≤ (z_6 : Int32).toInt) ∧ (((r_7 : Int32).toInt = (vlf : Int32).toInt ∨ (r_7 : Int32).toInt = (z_6 : Int32).toInt)) := hp_8
    obtain ⟨q_9, q_10, q_11⟩ := hp_8
    refine lv_istore (lv' := [(6, .int r_7), (0, .ref vo), (1, .int vm), (2, .int 0), (3, .int vlf), (4, .int vti), (5, .int vwe)]) hx hb dX11_careerFrom_98 hl (by decide) rfl (fun ls hl => ?_)
    refine lv_iconst (v := 0) hx hb dX11_careerFrom_100 (by decide) ?_
    refine lv_istore (lv' := [(7, .int 0), (6, .int r_7), (0, .ref vo), (1, .int vm), (2, .int 0), (3, .int vlf), (4, .int vti), (5, .int vwe)]) hx hb dX11_careerFrom_101 hl (by decide) rfl (fun ls hl => ?_)
    have loop12 : ∀ (n12 : Nat) (x_13 : Int32) (x_14 : Int32) (x_15 : Int32) (x_16 : Int32) (g_17 : Nat → Int32) (g_18 : Nat → Int32), (0 ≤ x_13.toInt ∧ x_13.toInt ≤ 11) → (0 ≤ x_16.toInt ∧ x_16.toInt ≤ 10) → 11 - x_13.toInt < (n12 : Int) → ∀ (H : Heap) (locs : List Loc), va_P (dC, dI) vwCl [(vo, .inr (12, [.int voth, .ref vmt, .int votp, .int vosz, .int volm, .int voto, .int vofr, .int vokd, .int vonu, .int vosg, .int vofa, .int vopl, .long vowd, .int votd, .ref vmn, .ref vmr, .ref vmk, .ref vms, .ref vma, .ref vmm, .ref vmrn, .ref vmkn, .ref vmik, .ref vmon, .int vosm, .int vohp, .ref vmw, .ref vmf, .ref vmb, .int vomb, .ref vmd, .ref vmc, .int x_14, .int x_15, .int x_16, .ref vmx, .int votx, .int vose, .ref vml, .ref vmwr, .int voln, .int vohw, .ref vmno, .int vond, .int voon, .int vowi, .int votop])), (vmn, .inl (cy 0, 575, .inl vmnf)), (vmd, .inl (cy 0, 10, .inl g_18)), (vmc, .inl (cy 0, 10, .inl g_17))] H → va_D A [(vo, .inr (12, [.int voth, .ref vmt, .int votp, .int vosz, .int volm, .int voto, .int vofr, .int vokd, .int vonu, .int vosg, .int vofa, .int vopl, .long vowd, .int votd, .ref vmn, .ref vmr, .ref vmk, .ref vms, .ref vma, .ref vmm, .ref vmrn, .ref vmkn, .ref vmik, .ref vmon, .int vosm, .int vohp, .ref vmw, .ref vmf, .ref vmb, .int vomb, .ref vmd, .ref vmc, .int x_14, .int x_15, .int x_16, .ref vmx, .int votx, .int vose, .ref vml, .ref vmwr, .int voln, .int vohw, .ref vmno, .int vond, .int voon, .int vowi, .int votop])), (vmn, .inl (cy 0, 575, .inl vmnf)), (vmd, .inl (cy 0, 10, .inl g_18)), (vmc, .inl (cy 0, 10, .inl g_17))] → va_S A s.heap H locs → ∀ ls : Array Slot, lv_has ls 8 [(7, .int x_13), (6, .int r_7), (0, .ref vo), (1, .int vm), (2, .int 0), (3, .int vlf), (4, .int vti), (5, .int vwe)] → W p l e ({ frames := 11, cells := 0, slots := 0, locals := 704 }) s m av9 below meth c H locs 0 0 Q9 (F0 m 103 ls []) := by
      intro n12
      induction n12 with
      | zero =>
        intro x_13 x_14 x_15 x_16 g_17 g_18 bx_13 bx_16 hn12 H locs hP hD hS ls hl
        exfalso; omega
      | succ n12 ih12 =>
        intro x_13 x_14 x_15 x_16 g_17 g_18 bx_13 bx_16 hn12 H locs hP hD hS ls hl
        refine lv_iload hx hb dX11_careerFrom_103 (lv_at hl 0 rfl) ?_
        refine lv_iload hx hb dX11_careerFrom_105 (lv_at hl 1 rfl) ?_
        refine lv_icmp_gt (tgt := 180) hx hb dX11_careerFrom_107 (by decide) (fun c_19 => ?_) (fun c_19 => ?_)
        · skip
          have c_19 : r_7.toInt < x_13.toInt := i_lt.mp c_19
          rw [hQ9]
          exact re_v (x_14, x_15, g_17, x_16, g_18) hx hb hr hlocks (show 0 ≤ (x_16 : Int32).toInt ∧ (x_16 : Int32).toInt ≤ 10 from ⟨by omega, by omega⟩) (hP.sub [0, 1, 2, 3] rfl) (hD.sub [0, 1, 2, 3] rfl rfl) hS dX11_careerFrom_180
        · skip
          have c_19 : ¬ (r_7.toInt < x_13.toInt) := fun h9 => c_19 (i_lt.mpr h9)
          refine lv_iload hx hb dX11_careerFrom_110 (lv_at hl 7 rfl) ?_
          refine lv_iload hx hb dX11_careerFrom_112 (lv_at hl 0 rfl) ?_
          refine lv_aload_n hx hb dX11_careerFrom_114 rfl (lv_at hl 2 rfl) ?_
          refine gf_X11_98 hx hb hts hown hK hP 0 rfl rfl dX11_careerFrom_115 ?_
          refine lv_bipush (v := 11) hx hb dX11_careerFrom_118 (by decide) ?_
          refine lv_iload_n hx hb dX11_careerFrom_120 rfl (lv_at hl 4 rfl) ?_
          refine lv_iadd hx hb dX11_careerFrom_121 ?_
          refine as_i 11 (by decide) ?_
          have k_11 : (11 : Int32).toInt = 11 := by decide
          have hin_20 : vp_in (11 : Int32) 575 := vp_in_iff.mpr ⟨by omega, by omega⟩
          refine va_iald hx hb hK hP 1 0 rfl rfl hin_20 dX11_careerFrom_122 ?_
          refine lv_topi (fun z_21 ez_21 => ?_)
          have bz_21 := p_vmnf.aw (x := 11) ⟨by omega, by omega⟩ ez_21
          have tz_21 : z_21.toInt = (vmnf 11).toInt := by rw [ez_21]; rfl
          refine lv_imul hx hb dX11_careerFrom_123 ?_
          refine lv_topi (fun z_22 ez_22 => ?_)
          have bz_22 : 0 ≤ z_22.toInt ∧ z_22.toInt ≤ 400 ∧ z_22.toInt = x_13.toInt * z_21.toInt := i_mulb (A := 10) (B := 40) ez_22 ⟨by omega, by omega⟩ ⟨by omega, by omega⟩ (by decide)
          refine lv_iadd hx hb dX11_careerFrom_124 ?_
          refine lv_topi (fun z_23 ez_23 => ?_)
          refine lv_aload_n hx hb dX11_careerFrom_125 rfl (lv_at hl 2 rfl) ?_
          refine gf_X11_98 hx hb hts hown hK hP 0 rfl rfl dX11_careerFrom_126 ?_
          refine lv_iconst (v := 2) hx hb dX11_careerFrom_129 (by decide) ?_
          have k_2 : (2 : Int32).toInt = 2 := by decide
          have hin_24 : vp_in (2 : Int32) 575 := vp_in_iff.mpr ⟨by omega, by omega⟩
          refine va_iald hx hb hK hP 1 0 rfl rfl hin_24 dX11_careerFrom_130 ?_
          refine lv_topi (fun z_25 ez_25 => ?_)
          have tz_25 : z_25.toInt = (vmnf 2).toInt := by rw [ez_25]; rfl
          refine lv_icmp_gt (tgt := 180) hx hb dX11_careerFrom_131 (by decide) (fun c_26 => ?_) (fun c_26 => ?_)
          · skip
            have c_26 : z_25.toInt < z_23.toInt := i_lt.mp c_26
            rw [hQ9]
            exact re_v (x_14, x_15, g_17, x_16, g_18) hx hb hr hlocks (show 0 ≤ (x_16 : Int32).toInt ∧ (x_16 : Int32).toInt ≤ 10 from ⟨by omega, by omega⟩) (hP.sub [0, 1, 2, 3] rfl) (hD.sub [0, 1, 2, 3] rfl rfl) hS dX11_careerFrom_180
          · skip
            have c_26 : ¬ (z_25.toInt < z_23.toInt) := fun h9 => c_26 (i_lt.mpr h9)
            refine lv_aload_n hx hb dX11_careerFrom_134 rfl (lv_at hl 2 rfl) ?_
            refine gf_X11_142 hx hb hts hown hK hP 0 rfl rfl dX11_careerFrom_135 ?_
            refine lv_iload_n hx hb dX11_careerFrom_138 rfl (lv_at hl 4 rfl) ?_
            refine lv_iload hx hb dX11_careerFrom_139 (lv_at hl 0 rfl) ?_
            have hin_27 : vp_in (0 : Int32) 10 := vp_in_iff.mpr ⟨by omega, by omega⟩
            refine va_iast hx hb hK hP hD hS 2 0 rfl rfl hin_27 dX11_careerFrom_141 (fun H locs hP hD hS => ?_)
            obtain ⟨f_28, ef_28⟩ : ∃ z : Nat → Int32, z = upd g_18 (Int32.toNatClampNeg 0) x_13 := ⟨_, rfl⟩
            have hP : va_P (dC, dI) vwCl [(vo, .inr (12, [.int voth, .ref vmt, .int votp, .int vosz, .int volm, .int voto, .int vofr, .int vokd, .int vonu, .int vosg, .int vofa, .int vopl, .long vowd, .int votd, .ref vmn, .ref vmr, .ref vmk, .ref vms, .ref vma, .ref vmm, .ref vmrn, .ref vmkn, .ref vmik, .ref vmon, .int vosm, .int vohp, .ref vmw, .ref vmf, .ref vmb, .int vomb, .ref vmd, .ref vmc, .int x_14, .int x_15, .int x_16, .ref vmx, .int votx, .int vose, .ref vml, .ref vmwr, .int voln, .int vohw, .ref vmno, .int vond, .int voon, .int vowi, .int votop])), (vmn, .inl (cy 0, 575, .inl vmnf)), (vmd, .inl (cy 0, 10, .inl f_28)), (vmc, .inl (cy 0, 10, .inl g_17))] H := by rw [ef_28]; exact hP
            have hD : va_D A [(vo, .inr (12, [.int voth, .ref vmt, .int votp, .int vosz, .int volm, .int voto, .int vofr, .int vokd, .int vonu, .int vosg, .int vofa, .int vopl, .long vowd, .int votd, .ref vmn, .ref vmr, .ref vmk, .ref vms, .ref vma, .ref vmm, .ref vmrn, .ref vmkn, .ref vmik, .ref vmon, .int vosm, .int vohp, .ref vmw, .ref vmf, .ref vmb, .int vomb, .ref vmd, .ref vmc, .int x_14, .int x_15, .int x_16, .ref vmx, .int votx, .int vose, .ref vml, .ref vmwr, .int voln, .int vohw, .ref vmno, .int vond, .int voon, .int vowi, .int votop])), (vmn, .inl (cy 0, 575, .inl vmnf)), (vmd, .inl (cy 0, 10, .inl f_28)), (vmc, .inl (cy 0, 10, .inl g_17))] := by rw [ef_28]; exact hD
            refine lv_aload_n hx hb dX11_careerFrom_142 rfl (lv_at hl 2 rfl) ?_
            refine lv_iload_n hx hb dX11_careerFrom_143 rfl (lv_at hl 3 rfl) ?_
            refine lv_iload_n hx hb dX11_careerFrom_144 rfl (lv_at hl 4 rfl) ?_
            refine lv_iconst (v := 1) hx hb dX11_careerFrom_145 (by decide) ?_
            refine lv_iadd hx hb dX11_careerFrom_146 ?_
            refine as_i 1 (by decide) ?_
            refine lv_iload_n hx hb dX11_careerFrom_147 rfl (lv_at hl 5 rfl) ?_
            refine lv_iload hx hb dX11_careerFrom_148 (lv_at hl 0 rfl) ?_
            refine lv_isub hx hb dX11_careerFrom_150 ?_
            refine lv_topi (fun z_29 ez_29 => ?_)
            have bz_29 : z_29.toInt = vlf.toInt - x_13.toInt := i_sub ez_29 (by omega) (by omega)
            refine lv_iload hx hb dX11_careerFrom_151 (lv_at hl 6 rfl) ?_
            refine lv_iload hx hb dX11_careerFrom_153 (lv_at hl 0 rfl) ?_
            refine lv_iadd hx hb dX11_careerFrom_155 ?_
            refine lv_topi (fun z_30 ez_30 => ?_)
            refine lv_iload hx hb dX11_careerFrom_156 (lv_at hl 7 rfl) ?_
            refine lv_iload hx hb dX11_careerFrom_158 (lv_at hl 0 rfl) ?_
            refine lv_aload_n hx hb dX11_careerFrom_160 rfl (lv_at hl 2 rfl) ?_
            refine gf_X11_98 hx hb hts hown hK hP 0 rfl rfl dX11_careerFrom_161 ?_
            refine lv_bipush (v := 11) hx hb dX11_careerFrom_164 (by decide) ?_
            refine lv_iload_n hx hb dX11_careerFrom_166 rfl (lv_at hl 4 rfl) ?_
            refine lv_iadd hx hb dX11_careerFrom_167 ?_
            refine as_i 11 (by decide) ?_
            have hin_31 : vp_in (11 : Int32) 575 := vp_in_iff.mpr ⟨by omega, by omega⟩
            refine va_iald hx hb hK hP 1 0 rfl rfl hin_31 dX11_careerFrom_168 ?_
            refine lv_topi (fun z_32 ez_32 => ?_)
            have bz_32 := p_vmnf.aw (x := 11) ⟨by omega, by omega⟩ ez_32
            have tz_32 : z_32.toInt = (vmnf 11).toInt := by rw [ez_32]; rfl
            refine lv_imul hx hb dX11_careerFrom_169 ?_
            refine lv_topi (fun z_33 ez_33 => ?_)
            have bz_33 : 0 ≤ z_33.toInt ∧ z_33.toInt ≤ 400 ∧ z_33.toInt = x_13.toInt * z_32.toInt := i_mulb (A := 10) (B := 40) ez_33 ⟨by omega, by omega⟩ ⟨by omega, by omega⟩ (by decide)
            refine lv_iadd hx hb dX11_careerFrom_170 ?_
            refine lv_topi (fun z_34 ez_34 => ?_)
            refine jn_v (wr := []) (rV (As := [.int vm, .int 1, .int z_29, .int z_30, .int z_34]) (rest := []) (ci := 12) ⟨hx, hb, hml, hown, hts⟩ (m_careerFrom_1 l dC dI cy _ vo voth vmt votp vosz volm voto vofr vokd vonu vosg vofa vopl vowd votd vmn vmr vmk vms vma vmm vmrn vmkn vmik vmon vosm vohp vmw vmf vmb vomb vmd vmc x_14 x_15 x_16 vmx votx vose vml vmwr voln vohw vmno vond voon vowi votop vmnf f_28 g_17 vm z_29 z_30 z_34 ⟨by omega, by omega⟩ r_vm ⟨by omega, by omega⟩ p_vmnf (by omega)) (cw_X11_331 hts rfl rfl ⟨Nat.le_of_ble_eq_true rfl, Nat.le_of_ble_eq_true rfl⟩) hP hD hK [0, 1, 2, 3] rfl rfl rfl rfl bl0 e0 rfl hl.1 rfl (Nat.le_of_ble_eq_true rfl) dX11_careerFrom_171 ⟨Nat.le_of_ble_eq_true rfl, Nat.le_of_ble_eq_true rfl⟩) hP hD hS hA [0, 1, 2, 3] [] rfl rfl rfl (by decide) (fun u_37 H locs hp_36 hP hD hS => ?_)
            obtain ⟨vocm_38, voct_39, vmcf_40, vocy_41, vmdf_42⟩ := u_37
            have hp_36 : (0 ≤ (vocy_41 : Int32).toInt ∧ (vocy_41 : Int32).toInt ≤ 10) := hp_36
            have q_43 := hp_36
            have hP : va_P (dC, dI) vwCl [(vo, .inr (12, [.int voth, .ref vmt, .int votp, .int vosz, .int volm, .int voto, .int vofr, .int vokd, .int vonu, .int vosg, .int vofa, .int vopl, .long vowd, .int votd, .ref vmn, .ref vmr, .ref vmk, .ref vms, .ref vma, .ref vmm, .ref vmrn, .ref vmkn, .ref vmik, .ref vmon, .int vosm, .int vohp, .ref vmw, .ref vmf, .ref vmb, .int vomb, .ref vmd, .ref vmc, .int vocm_38, .int voct_39, .int vocy_41, .ref vmx, .int votx, .int vose, .ref vml, .ref vmwr, .int voln, .int vohw, .ref vmno, .int vond, .int voon, .int vowi, .int votop])), (vmn, .inl (cy 0, 575, .inl vmnf)), (vmd, .inl (cy 0, 10, .inl vmdf_42)), (vmc, .inl (cy 0, 10, .inl vmcf_40))] H := hP
            have hD : va_D A [(vo, .inr (12, [.int voth, .ref vmt, .int votp, .int vosz, .int volm, .int voto, .int vofr, .int vokd, .int vonu, .int vosg, .int vofa, .int vopl, .long vowd, .int votd, .ref vmn, .ref vmr, .ref vmk, .ref vms, .ref vma, .ref vmm, .ref vmrn, .ref vmkn, .ref vmik, .ref vmon, .int vosm, .int vohp, .ref vmw, .ref vmf, .ref vmb, .int vomb, .ref vmd, .ref vmc, .int vocm_38, .int voct_39, .int vocy_41, .ref vmx, .int votx, .int vose, .ref vml, .ref vmwr, .int voln, .int vohw, .ref vmno, .int vond, .int voon, .int vowi, .int votop])), (vmn, .inl (cy 0, 575, .inl vmnf)), (vmd, .inl (cy 0, 10, .inl vmdf_42)), (vmc, .inl (cy 0, 10, .inl vmcf_40))] := hD
            obtain ⟨z_44, ez_44⟩ : ∃ z : Int32, z = x_13 + 1 := ⟨_, rfl⟩
            have bz_44 : z_44.toInt = x_13.toInt + (1 : Int32).toInt := i_add ez_44 (by omega) (by omega)
            refine lv_iinc (v := z_44) (lv' := [(7, .int z_44), (6, .int r_7), (0, .ref vo), (1, .int vm), (2, .int 0), (3, .int vlf), (4, .int vti), (5, .int vwe)]) hx hb dX11_careerFrom_174 hl (k := 0) rfl ez_44.symm (by decide) rfl (fun ls hl => ?_)
            refine lv_goto (tgt := 103) hx hb dX11_careerFrom_177 (by decide) ?_
            exact ih12 z_44 vocm_38 voct_39 vocy_41 vmcf_40 vmdf_42 ⟨by omega, by omega⟩ ⟨by omega, by omega⟩ (by omega) _ _ (hP.sub [0, 1, 2, 3] rfl) (hD.sub [0, 1, 2, 3] rfl rfl) hS ls (lv_sub hl [0, 1, 2, 3, 4, 5, 6, 7] rfl)
    exact loop12 ((11 - (0 : Int32).toInt).toNat + 1) 0 vocm voct vocy vmcf vmdf ⟨by omega, by omega⟩ ⟨by omega, by omega⟩ (by omega) _ _ hP hD hS ls (lv_sub hl [0, 1, 2, 3, 4, 5, 6, 7] rfl)
  · skip
    have c_3 : (0 : Int32).toInt = z_2.toInt := i_eq.mp c_3
    have join45 : ∀ (H : Heap) (locs : List Loc), va_P (dC, dI) vwCl [(vo, .inr (12, [.int voth, .ref vmt, .int votp, .int vosz, .int volm, .int voto, .int vofr, .int vokd, .int vonu, .int vosg, .int vofa, .int vopl, .long vowd, .int votd, .ref vmn, .ref vmr, .ref vmk, .ref vms, .ref vma, .ref vmm, .ref vmrn, .ref vmkn, .ref vmik, .ref vmon, .int vosm, .int vohp, .ref vmw, .ref vmf, .ref vmb, .int vomb, .ref vmd, .ref vmc, .int vocm, .int voct, .int vocy, .ref vmx, .int votx, .int vose, .ref vml, .ref vmwr, .int voln, .int vohw, .ref vmno, .int vond, .int voon, .int vowi, .int votop])), (vmn, .inl (cy 0, 575, .inl vmnf)), (vmd, .inl (cy 0, 10, .inl vmdf)), (vmc, .inl (cy 0, 10, .inl vmcf))] H → va_D A [(vo, .inr (12, [.int voth, .ref vmt, .int votp, .int vosz, .int volm, .int voto, .int vofr, .int vokd, .int vonu, .int vosg, .int vofa, .int vopl, .long vowd, .int votd, .ref vmn, .ref vmr, .ref vmk, .ref vms, .ref vma, .ref vmm, .ref vmrn, .ref vmkn, .ref vmik, .ref vmon, .int vosm, .int vohp, .ref vmw, .ref vmf, .ref vmb, .int vomb, .ref vmd, .ref vmc, .int vocm, .int voct, .int vocy, .ref vmx, .int votx, .int vose, .ref vml, .ref vmwr, .int voln, .int vohw, .ref vmno, .int vond, .int voon, .int vowi, .int votop])), (vmn, .inl (cy 0, 575, .inl vmnf)), (vmd, .inl (cy 0, 10, .inl vmdf)), (vmc, .inl (cy 0, 10, .inl vmcf))] → va_S A s.heap H locs → ∀ ls : Array Slot, lv_has ls 8 [(0, .ref vo), (1, .int vm), (2, .int 0), (3, .int vlf), (4, .int vti), (5, .int vwe)] → W p l e ({ frames := 11, cells := 0, slots := 0, locals := 704 }) s m av9 below meth c H locs 0 0 Q9 (F0 m 38 ls []) := by
      intro  H locs hP hD hS ls hl
      refine lv_aload_n hx hb dX11_careerFrom_38 rfl (lv_at hl 0 rfl) ?_
      refine lv_iload hx hb dX11_careerFrom_39 (lv_at hl 5 rfl) ?_
      refine pf_X11_322 hx hb hts hown hK hP hD hS 0 rfl rfl rfl (Nat.le_of_ble_eq_true rfl) dX11_careerFrom_41 (fun H locs hP hD hS => ?_)
      have hP : va_P (dC, dI) vwCl [(vo, .inr (12, [.int voth, .ref vmt, .int votp, .int vosz, .int volm, .int voto, .int vofr, .int vokd, .int vonu, .int vosg, .int vofa, .int vopl, .long vowd, .int votd, .ref vmn, .ref vmr, .ref vmk, .ref vms, .ref vma, .ref vmm, .ref vmrn, .ref vmkn, .ref vmik, .ref vmon, .int vosm, .int vohp, .ref vmw, .ref vmf, .ref vmb, .int vomb, .ref vmd, .ref vmc, .int vwe, .int voct, .int vocy, .ref vmx, .int votx, .int vose, .ref vml, .ref vmwr, .int voln, .int vohw, .ref vmno, .int vond, .int voon, .int vowi, .int votop])), (vmn, .inl (cy 0, 575, .inl vmnf)), (vmd, .inl (cy 0, 10, .inl vmdf)), (vmc, .inl (cy 0, 10, .inl vmcf))] H := hP
      have hD : va_D A [(vo, .inr (12, [.int voth, .ref vmt, .int votp, .int vosz, .int volm, .int voto, .int vofr, .int vokd, .int vonu, .int vosg, .int vofa, .int vopl, .long vowd, .int votd, .ref vmn, .ref vmr, .ref vmk, .ref vms, .ref vma, .ref vmm, .ref vmrn, .ref vmkn, .ref vmik, .ref vmon, .int vosm, .int vohp, .ref vmw, .ref vmf, .ref vmb, .int vomb, .ref vmd, .ref vmc, .int vwe, .int voct, .int vocy, .ref vmx, .int votx, .int vose, .ref vml, .ref vmwr, .int voln, .int vohw, .ref vmno, .int vond, .int voon, .int vowi, .int votop])), (vmn, .inl (cy 0, 575, .inl vmnf)), (vmd, .inl (cy 0, 10, .inl vmdf)), (vmc, .inl (cy 0, 10, .inl vmcf))] := hD
      refine lv_aload_n hx hb dX11_careerFrom_44 rfl (lv_at hl 0 rfl) ?_
      refine lv_iload hx hb dX11_careerFrom_45 (lv_at hl 4 rfl) ?_
      refine pf_X11_325 hx hb hts hown hK hP hD hS 0 rfl rfl rfl (Nat.le_of_ble_eq_true rfl) dX11_careerFrom_47 (fun H locs hP hD hS => ?_)
      have hP : va_P (dC, dI) vwCl [(vo, .inr (12, [.int voth, .ref vmt, .int votp, .int vosz, .int volm, .int voto, .int vofr, .int vokd, .int vonu, .int vosg, .int vofa, .int vopl, .long vowd, .int votd, .ref vmn, .ref vmr, .ref vmk, .ref vms, .ref vma, .ref vmm, .ref vmrn, .ref vmkn, .ref vmik, .ref vmon, .int vosm, .int vohp, .ref vmw, .ref vmf, .ref vmb, .int vomb, .ref vmd, .ref vmc, .int vwe, .int vti, .int vocy, .ref vmx, .int votx, .int vose, .ref vml, .ref vmwr, .int voln, .int vohw, .ref vmno, .int vond, .int voon, .int vowi, .int votop])), (vmn, .inl (cy 0, 575, .inl vmnf)), (vmd, .inl (cy 0, 10, .inl vmdf)), (vmc, .inl (cy 0, 10, .inl vmcf))] H := hP
      have hD : va_D A [(vo, .inr (12, [.int voth, .ref vmt, .int votp, .int vosz, .int volm, .int voto, .int vofr, .int vokd, .int vonu, .int vosg, .int vofa, .int vopl, .long vowd, .int votd, .ref vmn, .ref vmr, .ref vmk, .ref vms, .ref vma, .ref vmm, .ref vmrn, .ref vmkn, .ref vmik, .ref vmon, .int vosm, .int vohp, .ref vmw, .ref vmf, .ref vmb, .int vomb, .ref vmd, .ref vmc, .int vwe, .int vti, .int vocy, .ref vmx, .int votx, .int vose, .ref vml, .ref vmwr, .int voln, .int vohw, .ref vmno, .int vond, .int voon, .int vowi, .int votop])), (vmn, .inl (cy 0, 575, .inl vmnf)), (vmd, .inl (cy 0, 10, .inl vmdf)), (vmc, .inl (cy 0, 10, .inl vmcf))] := hD
      refine lv_iconst (v := 0) hx hb dX11_careerFrom_50 (by decide) ?_
      refine lv_istore (lv' := [(6, .int 0), (0, .ref vo), (1, .int vm), (2, .int 0), (3, .int vlf), (4, .int vti), (5, .int vwe)]) hx hb dX11_careerFrom_51 hl (by decide) rfl (fun ls hl => ?_)
      have loop46 : ∀ (n46 : Nat) (x_47 : Int32) (g_48 : Nat → Int32), (0 ≤ x_47.toInt ∧ x_47.toInt ≤ 10) → 10 - x_47.toInt < (n46 : Int) → ∀ (H : Heap) (locs : List Loc), va_P (dC, dI) vwCl [(vo, .inr (12, [.int voth, .ref vmt, .int votp, .int vosz, .int volm, .int voto, .int vofr, .int vokd, .int vonu, .int vosg, .int vofa, .int vopl, .long vowd, .int votd, .ref vmn, .ref vmr, .ref vmk, .ref vms, .ref vma, .ref vmm, .ref vmrn, .ref vmkn, .ref vmik, .ref vmon, .int vosm, .int vohp, .ref vmw, .ref vmf, .ref vmb, .int vomb, .ref vmd, .ref vmc, .int vwe, .int vti, .int vocy, .ref vmx, .int votx, .int vose, .ref vml, .ref vmwr, .int voln, .int vohw, .ref vmno, .int vond, .int voon, .int vowi, .int votop])), (vmn, .inl (cy 0, 575, .inl vmnf)), (vmd, .inl (cy 0, 10, .inl vmdf)), (vmc, .inl (cy 0, 10, .inl g_48))] H → va_D A [(vo, .inr (12, [.int voth, .ref vmt, .int votp, .int vosz, .int volm, .int voto, .int vofr, .int vokd, .int vonu, .int vosg, .int vofa, .int vopl, .long vowd, .int votd, .ref vmn, .ref vmr, .ref vmk, .ref vms, .ref vma, .ref vmm, .ref vmrn, .ref vmkn, .ref vmik, .ref vmon, .int vosm, .int vohp, .ref vmw, .ref vmf, .ref vmb, .int vomb, .ref vmd, .ref vmc, .int vwe, .int vti, .int vocy, .ref vmx, .int votx, .int vose, .ref vml, .ref vmwr, .int voln, .int vohw, .ref vmno, .int vond, .int voon, .int vowi, .int votop])), (vmn, .inl (cy 0, 575, .inl vmnf)), (vmd, .inl (cy 0, 10, .inl vmdf)), (vmc, .inl (cy 0, 10, .inl g_48))] → va_S A s.heap H locs → ∀ ls : Array Slot, lv_has ls 8 [(6, .int x_47), (0, .ref vo), (1, .int vm), (2, .int 0), (3, .int vlf), (4, .int vti), (5, .int vwe)] → W p l e ({ frames := 11, cells := 0, slots := 0, locals := 704 }) s m av9 below meth c H locs 0 0 Q9 (F0 m 53 ls []) := by
        intro n46
        induction n46 with
        | zero =>
          intro x_47 g_48 bx_47 hn46 H locs hP hD hS ls hl
          exfalso; omega
        | succ n46 ih46 =>
          intro x_47 g_48 bx_47 hn46 H locs hP hD hS ls hl
          refine lv_iload hx hb dX11_careerFrom_53 (lv_at hl 0 rfl) ?_
          refine lv_iload_n hx hb dX11_careerFrom_55 rfl (lv_at hl 3 rfl) ?_
          refine lv_icmp_ge (tgt := 79) hx hb dX11_careerFrom_56 (by decide) (fun _ => ?_) (fun c9 => (c9 (i_le.mpr (by omega))).elim)
          refine lv_aload_n hx hb dX11_careerFrom_79 rfl (lv_at hl 1 rfl) ?_
          refine lv_iload_n hx hb dX11_careerFrom_80 rfl (lv_at hl 3 rfl) ?_
          refine pf_X11_328 hx hb hts hown hK hP hD hS 0 rfl rfl rfl (Nat.le_of_ble_eq_true rfl) dX11_careerFrom_81 (fun H locs hP hD hS => ?_)
          have hP : va_P (dC, dI) vwCl [(vo, .inr (12, [.int voth, .ref vmt, .int votp, .int vosz, .int volm, .int voto, .int vofr, .int vokd, .int vonu, .int vosg, .int vofa, .int vopl, .long vowd, .int votd, .ref vmn, .ref vmr, .ref vmk, .ref vms, .ref vma, .ref vmm, .ref vmrn, .ref vmkn, .ref vmik, .ref vmon, .int vosm, .int vohp, .ref vmw, .ref vmf, .ref vmb, .int vomb, .ref vmd, .ref vmc, .int vwe, .int vti, .int 0, .ref vmx, .int votx, .int vose, .ref vml, .ref vmwr, .int voln, .int vohw, .ref vmno, .int vond, .int voon, .int vowi, .int votop])), (vmn, .inl (cy 0, 575, .inl vmnf)), (vmd, .inl (cy 0, 10, .inl vmdf)), (vmc, .inl (cy 0, 10, .inl g_48))] H := hP
          have hD : va_D A [(vo, .inr (12, [.int voth, .ref vmt, .int votp, .int vosz, .int volm, .int voto, .int vofr, .int vokd, .int vonu, .int vosg, .int vofa, .int vopl, .long vowd, .int votd, .ref vmn, .ref vmr, .ref vmk, .ref vms, .ref vma, .ref vmm, .ref vmrn, .ref vmkn, .ref vmik, .ref vmon, .int vosm, .int vohp, .ref vmw, .ref vmf, .ref vmb, .int vomb, .ref vmd, .ref vmc, .int vwe, .int vti, .int 0, .ref vmx, .int votx, .int vose, .ref vml, .ref vmwr, .int voln, .int vohw, .ref vmno, .int vond, .int voon, .int vowi, .int votop])), (vmn, .inl (cy 0, 575, .inl vmnf)), (vmd, .inl (cy 0, 10, .inl vmdf)), (vmc, .inl (cy 0, 10, .inl g_48))] := hD
          rw [hQ9]
          exact re_v (vwe, vti, g_48, (0 : Int32), vmdf) hx hb hr hlocks (show 0 ≤ (0 : Int32).toInt ∧ (0 : Int32).toInt ≤ 10 from ⟨by omega, by omega⟩) (hP.sub [0, 1, 2, 3] rfl) (hD.sub [0, 1, 2, 3] rfl rfl) hS dX11_careerFrom_84
      exact loop46 ((10 - (0 : Int32).toInt).toNat + 1) 0 vmcf ⟨by omega, by omega⟩ (by omega) _ _ hP hD hS ls (lv_sub hl [0, 1, 2, 3, 4, 5, 6] rfl)
    refine lv_iload hx hb dX11_careerFrom_10 (lv_at hl 5 rfl) ?_
    refine lv_aload_n hx hb dX11_careerFrom_12 rfl (lv_at hl 0 rfl) ?_
    refine gf_X11_322 hx hb hts hown hK hP 0 rfl rfl dX11_careerFrom_13 ?_
    refine lv_icmp_lt (tgt := 37) hx hb dX11_careerFrom_16 (by decide) (fun c_49 => ?_) (fun c_49 => ?_)
    · skip
      have c_49 : vwe.toInt < vocm.toInt := i_lt.mp c_49
      rw [hQ9]
      exact re_v (vocm, voct, vmcf, vocy, vmdf) hx hb hr hlocks (show 0 ≤ (vocy : Int32).toInt ∧ (vocy : Int32).toInt ≤ 10 from ⟨by omega, by omega⟩) (hP.sub [0, 1, 2, 3] rfl) (hD.sub [0, 1, 2, 3] rfl rfl) hS dX11_careerFrom_37
    · skip
      have c_49 : ¬ (vwe.toInt < vocm.toInt) := fun h9 => c_49 (i_lt.mpr h9)
      refine lv_iload hx hb dX11_careerFrom_19 (lv_at hl 5 rfl) ?_
      refine lv_aload_n hx hb dX11_careerFrom_21 rfl (lv_at hl 0 rfl) ?_
      refine gf_X11_322 hx hb hts hown hK hP 0 rfl rfl dX11_careerFrom_22 ?_
      refine lv_icmp_ne (tgt := 38) hx hb dX11_careerFrom_25 (by decide) (fun c_50 => ?_) (fun c_50 => ?_)
      · skip
        have c_50 : ¬ (vwe.toInt = vocm.toInt) := fun h9 => c_50 (i_eq.mpr h9)
        exact join45  _ _ (hP.sub [0, 1, 2, 3] rfl) (hD.sub [0, 1, 2, 3] rfl rfl) hS ls (lv_sub hl [0, 1, 2, 3, 4, 5] rfl)
      · skip
        have c_50 : vwe.toInt = vocm.toInt := i_eq.mp c_50
        refine lv_iload hx hb dX11_careerFrom_28 (lv_at hl 4 rfl) ?_
        refine lv_aload_n hx hb dX11_careerFrom_30 rfl (lv_at hl 0 rfl) ?_
        refine gf_X11_325 hx hb hts hown hK hP 0 rfl rfl dX11_careerFrom_31 ?_
        refine lv_icmp_lt (tgt := 38) hx hb dX11_careerFrom_34 (by decide) (fun c_51 => ?_) (fun c_51 => ?_)
        · skip
          have c_51 : vti.toInt < voct.toInt := i_lt.mp c_51
          exact join45  _ _ (hP.sub [0, 1, 2, 3] rfl) (hD.sub [0, 1, 2, 3] rfl rfl) hS ls (lv_sub hl [0, 1, 2, 3, 4, 5] rfl)
        · skip
          have c_51 : ¬ (vti.toInt < voct.toInt) := fun h9 => c_51 (i_lt.mpr h9)
          rw [hQ9]
          exact re_v (vocm, voct, vmcf, vocy, vmdf) hx hb hr hlocks (show 0 ≤ (vocy : Int32).toInt ∧ (vocy : Int32).toInt ≤ 10 from ⟨by omega, by omega⟩) (hP.sub [0, 1, 2, 3] rfl) (hD.sub [0, 1, 2, 3] rfl rfl) hS dX11_careerFrom_37
abbrev cX11_career : ByteArray := prog_13_method_91_code
def yX11_career : MethodName := ⟨RX11, "career", "(II)I"⟩
theorem t1905 : Cond.code yX11_career cX11_career 3 (some .int) ∈ GW := gw_mem 2019 (by decide +kernel) (by decide +kernel)
abbrev O_m_career (cy : Nat → ClassId) (vo : Nat) (voth : Int32) (vmt : Nat) (votp : Int32) (vosz : Int32) (volm : Int32) (voto : Int32) (vofr : Int32) (vokd : Int32) (vonu : Int32) (vosg : Int32) (vofa : Int32) (vopl : Int32) (vowd : Int64) (votd : Int32) (vmn : Nat) (vmr : Nat) (vmk : Nat) (vms : Nat) (vma : Nat) (vmm : Nat) (vmrn : Nat) (vmkn : Nat) (vmik : Nat) (vmon : Nat) (vosm : Int32) (vohp : Int32) (vmw : Nat) (vmf : Nat) (vmb : Nat) (vomb : Int32) (vmd : Nat) (vmc : Nat) (vocm : Int32) (voct : Int32) (vocy : Int32) (vmx : Nat) (votx : Int32) (vose : Int32) (vml : Nat) (vmwr : Nat) (voln : Int32) (vohw : Int32) (vmno : Nat) (vond : Int32) (voon : Int32) (vowi : Int32) (votop : Int32) (vmnf : Nat → Int32) (vmdf : Nat → Int32) (vmcf : Nat → Int32) (vm : Int32) (vk : Int32) (u : Int32 × Int32 × Int32 × (Nat → Int32) × Int32 × (Nat → Int32)) : va_W := [(vo, .inr (12, [.int u.1, .ref vmt, .int votp, .int vosz, .int volm, .int voto, .int vofr, .int vokd, .int vonu, .int vosg, .int vofa, .int vopl, .long vowd, .int votd, .ref vmn, .ref vmr, .ref vmk, .ref vms, .ref vma, .ref vmm, .ref vmrn, .ref vmkn, .ref vmik, .ref vmon, .int vosm, .int vohp, .ref vmw, .ref vmf, .ref vmb, .int vomb, .ref vmd, .ref vmc, .int u.2.1, .int u.2.2.1, .int u.2.2.2.2.1, .ref vmx, .int votx, .int vose, .ref vml, .ref vmwr, .int voln, .int vohw, .ref vmno, .int vond, .int voon, .int vowi, .int votop])), (vmn, .inl (cy 0, 575, .inl vmnf)), (vmd, .inl (cy 0, 10, .inl u.2.2.2.2.2)), (vmc, .inl (cy 0, 10, .inl u.2.2.2.1))]
theorem dX11_career_0 : decode cX11_career 0 = .ok (.aload_n 0, 1) := by decide +kernel
theorem dX11_career_1 : decode cX11_career 1 = .ok (.iconst 0, 1) := by decide +kernel
theorem dX11_career_2 : decode cX11_career 2 = .ok (.putfield 1, 3) := by decide +kernel
theorem dX11_career_5 : decode cX11_career 5 = .ok (.aload_n 0, 1) := by decide +kernel
theorem dX11_career_6 : decode cX11_career 6 = .ok (.iload_n 1, 1) := by decide +kernel
theorem dX11_career_7 : decode cX11_career 7 = .ok (.invokevirtual 250, 3) := by decide +kernel
theorem dX11_career_10 : decode cX11_career 10 = .ok (.ifCond .eq 27, 3) := by decide +kernel
theorem dX11_career_37 : decode cX11_career 37 = .ok (.iconst (-1), 1) := by decide +kernel
theorem dX11_career_38 : decode cX11_career 38 = .ok (.ireturn, 1) := by decide +kernel
theorem dX11_career_13 : decode cX11_career 13 = .ok (.iload_n 2, 1) := by decide +kernel
theorem dX11_career_14 : decode cX11_career 14 = .ok (.iconst 0, 1) := by decide +kernel
theorem dX11_career_15 : decode cX11_career 15 = .ok (.bipush 10, 2) := by decide +kernel
theorem dX11_career_17 : decode cX11_career 17 = .ok (.invokestatic 75, 3) := by decide +kernel
theorem dX11_career_20 : decode cX11_career 20 = .ok (.ifCond .eq 17, 3) := by decide +kernel
theorem dX11_career_23 : decode cX11_career 23 = .ok (.aload_n 0, 1) := by decide +kernel
theorem dX11_career_24 : decode cX11_career 24 = .ok (.iload_n 1, 1) := by decide +kernel
theorem dX11_career_25 : decode cX11_career 25 = .ok (.invokevirtual 247, 3) := by decide +kernel
theorem dX11_career_28 : decode cX11_career 28 = .ok (.aload_n 0, 1) := by decide +kernel
theorem dX11_career_29 : decode cX11_career 29 = .ok (.getfield 98, 3) := by decide +kernel
theorem dX11_career_32 : decode cX11_career 32 = .ok (.iconst 2, 1) := by decide +kernel
theorem dX11_career_33 : decode cX11_career 33 = .ok (.iaload, 1) := by decide +kernel
theorem dX11_career_34 : decode cX11_career 34 = .ok (.if_icmp .le 5, 3) := by decide +kernel
theorem dX11_career_39 : decode cX11_career 39 = .ok (.aload_n 0, 1) := by decide +kernel
theorem dX11_career_40 : decode cX11_career 40 = .ok (.iconst (-1), 1) := by decide +kernel
theorem dX11_career_41 : decode cX11_career 41 = .ok (.putfield 322, 3) := by decide +kernel
theorem dX11_career_44 : decode cX11_career 44 = .ok (.aload_n 0, 1) := by decide +kernel
theorem dX11_career_45 : decode cX11_career 45 = .ok (.iconst 0, 1) := by decide +kernel
theorem dX11_career_46 : decode cX11_career 46 = .ok (.putfield 325, 3) := by decide +kernel
theorem dX11_career_49 : decode cX11_career 49 = .ok (.aload_n 0, 1) := by decide +kernel
theorem dX11_career_50 : decode cX11_career 50 = .ok (.iload_n 1, 1) := by decide +kernel
theorem dX11_career_51 : decode cX11_career 51 = .ok (.iconst 0, 1) := by decide +kernel
theorem dX11_career_52 : decode cX11_career 52 = .ok (.iload_n 2, 1) := by decide +kernel
theorem dX11_career_53 : decode cX11_career 53 = .ok (.iconst 0, 1) := by decide +kernel
theorem dX11_career_54 : decode cX11_career 54 = .ok (.aload_n 0, 1) := by decide +kernel
theorem dX11_career_55 : decode cX11_career 55 = .ok (.iload_n 1, 1) := by decide +kernel
theorem dX11_career_56 : decode cX11_career 56 = .ok (.invokevirtual 247, 3) := by decide +kernel
theorem dX11_career_59 : decode cX11_career 59 = .ok (.invokevirtual 331, 3) := by decide +kernel
theorem dX11_career_62 : decode cX11_career 62 = .ok (.aload_n 0, 1) := by decide +kernel
theorem dX11_career_63 : decode cX11_career 63 = .ok (.getfield 322, 3) := by decide +kernel
theorem dX11_career_66 : decode cX11_career 66 = .ok (.ireturn, 1) := by decide +kernel
set_option maxHeartbeats 4000000 in
set_option maxRecDepth 100000 in
theorem m_career (l : Launch) (dC : Nat → ClassId) (dI : Nat → Nat → Nat) (cy : Nat → ClassId) (sz : Nat) (vo : Nat) (voth : Int32) (vmt : Nat) (votp : Int32) (vosz : Int32) (volm : Int32) (voto : Int32) (vofr : Int32) (vokd : Int32) (vonu : Int32) (vosg : Int32) (vofa : Int32) (vopl : Int32) (vowd : Int64) (votd : Int32) (vmn : Nat) (vmr : Nat) (vmk : Nat) (vms : Nat) (vma : Nat) (vmm : Nat) (vmrn : Nat) (vmkn : Nat) (vmik : Nat) (vmon : Nat) (vosm : Int32) (vohp : Int32) (vmw : Nat) (vmf : Nat) (vmb : Nat) (vomb : Int32) (vmd : Nat) (vmc : Nat) (vocm : Int32) (voct : Int32) (vocy : Int32) (vmx : Nat) (votx : Int32) (vose : Int32) (vml : Nat) (vmwr : Nat) (voln : Int32) (vohw : Int32) (vmno : Nat) (vond : Int32) (voon : Int32) (vowi : Int32) (votop : Int32) (vmnf : Nat → Int32) (vmdf : Nat → Int32) (vmcf : Nat → Int32) (vm : Int32) (vk : Int32) (r_vocy : 0 ≤ (vocy : Int32).toInt ∧ (vocy : Int32).toInt ≤ 10) (p_vmnf : NW vmnf) : Met l yX11_career (wl yX11_career cX11_career 3 (some .int)) ({ frames := 12, cells := 0, slots := 0, locals := 768 }) (Pw (dC, dI) vwCl cy [(vo, .inr (12, [.int voth, .ref vmt, .int votp, .int vosz, .int volm, .int voto, .int vofr, .int vokd, .int vonu, .int vosg, .int vofa, .int vopl, .long vowd, .int votd, .ref vmn, .ref vmr, .ref vmk, .ref vms, .ref vma, .ref vmm, .ref vmrn, .ref vmkn, .ref vmik, .ref vmon, .int vosm, .int vohp, .ref vmw, .ref vmf, .ref vmb, .int vomb, .ref vmd, .ref vmc, .int vocm, .int voct, .int vocy, .ref vmx, .int votx, .int vose, .ref vml, .ref vmwr, .int voln, .int vohw, .ref vmno, .int vond, .int voon, .int vowi, .int votop])), (vmn, .inl (cy 0, 575, .inl vmnf)), (vmd, .inl (cy 0, 10, .inl vmdf)), (vmc, .inl (cy 0, 10, .inl vmcf))] sz [.ref vo, .int vm, .int vk] nE) (Qi (dC, dI) vwCl (fun (r : Int32) (u : Int32 × Int32 × Int32 × (Nat → Int32) × Int32 × (Nat → Int32)) => (0 ≤ (u.2.2.2.2.1 : Int32).toInt ∧ (u.2.2.2.2.1 : Int32).toInt ≤ 10)) (O_m_career cy vo voth vmt votp vosz volm voto vofr vokd vonu vosg vofa vopl vowd votd vmn vmr vmk vms vma vmm vmrn vmkn vmik vmon vosm vohp vmw vmf vmb vomb vmd vmc vocm voct vocy vmx votx vose vml vmwr voln vohw vmno vond voon vowi votop vmnf vmdf vmcf vm vk) (va_A [(vo, .inr (12, [.int voth, .ref vmt, .int votp, .int vosz, .int volm, .int voto, .int vofr, .int vokd, .int vonu, .int vosg, .int vofa, .int vopl, .long vowd, .int votd, .ref vmn, .ref vmr, .ref vmk, .ref vms, .ref vma, .ref vmm, .ref vmrn, .ref vmkn, .ref vmik, .ref vmon, .int vosm, .int vohp, .ref vmw, .ref vmf, .ref vmb, .int vomb, .ref vmd, .ref vmc, .int vocm, .int voct, .int vocy, .ref vmx, .int votx, .int vose, .ref vml, .ref vmwr, .int voln, .int vohw, .ref vmno, .int vond, .int voon, .int vowi, .int votop])), (vmn, .inl (cy 0, 575, .inl vmnf)), (vmd, .inl (cy 0, 10, .inl vmdf)), (vmc, .inl (cy 0, 10, .inl vmcf))] sz)) 0 0 (va_A [(vo, .inr (12, [.int voth, .ref vmt, .int votp, .int vosz, .int volm, .int voto, .int vofr, .int vokd, .int vonu, .int vosg, .int vofa, .int vopl, .long vowd, .int votd, .ref vmn, .ref vmr, .ref vmk, .ref vms, .ref vma, .ref vmm, .ref vmrn, .ref vmkn, .ref vmik, .ref vmon, .int vosm, .int vohp, .ref vmw, .ref vmf, .ref vmb, .int vomb, .ref vmd, .ref vmc, .int vocm, .int voct, .int vocy, .ref vmx, .int votx, .int vose, .ref vml, .ref vmwr, .int voln, .int vohw, .ref vmno, .int vond, .int voon, .int vowi, .int votop])), (vmn, .inl (cy 0, 575, .inl vmnf)), (vmd, .inl (cy 0, 10, .inl vmdf)), (vmc, .inl (cy 0, 10, .inl vmcf))] sz) := by
  refine mw (Qc := Qi (dC, dI) vwCl (fun (r : Int32) (u : Int32 × Int32 × Int32 × (Nat → Int32) × Int32 × (Nat → Int32)) => (0 ≤ (u.2.2.2.2.1 : Int32).toInt ∧ (u.2.2.2.2.1 : Int32).toInt ≤ 10)) (O_m_career cy vo voth vmt votp vosz volm voto vofr vokd vonu vosg vofa vopl vowd votd vmn vmr vmk vms vma vmm vmrn vmkn vmik vmon vosm vohp vmw vmf vmb vomb vmd vmc vocm voct vocy vmx votx vose vml vmwr voln vohw vmno vond voon vowi votop vmnf vmdf vmcf vm vk)) RX11 rfl (by decide +kernel) (Nat.le_of_ble_eq_true rfl) ?_
  intro p e s m below meth c A hx hb hr hlocks av9 hav hts hown hnm hml hK hP hD hA hS hE hAe Q9 hQ9 ls hl
  have hl : lv_has ls 3 [(0, .ref vo), (1, .int vm), (2, .int vk)] := hl
  refine lv_aload_n hx hb dX11_career_0 rfl (lv_at hl 0 rfl) ?_
  refine lv_iconst (v := 0) hx hb dX11_career_1 (by decide) ?_
  refine pf_X11_1 hx hb hts hown hK hP hD hS 0 rfl rfl rfl (Nat.le_of_ble_eq_true rfl) dX11_career_2 (fun H locs hP hD hS => ?_)
  have hP : va_P (dC, dI) vwCl [(vo, .inr (12, [.int 0, .ref vmt, .int votp, .int vosz, .int volm, .int voto, .int vofr, .int vokd, .int vonu, .int vosg, .int vofa, .int vopl, .long vowd, .int votd, .ref vmn, .ref vmr, .ref vmk, .ref vms, .ref vma, .ref vmm, .ref vmrn, .ref vmkn, .ref vmik, .ref vmon, .int vosm, .int vohp, .ref vmw, .ref vmf, .ref vmb, .int vomb, .ref vmd, .ref vmc, .int vocm, .int voct, .int vocy, .ref vmx, .int votx, .int vose, .ref vml, .ref vmwr, .int voln, .int vohw, .ref vmno, .int vond, .int voon, .int vowi, .int votop])), (vmn, .inl (cy 0, 575, .inl vmnf)), (vmd, .inl (cy 0, 10, .inl vmdf)), (vmc, .inl (cy 0, 10, .inl vmcf))] H := hP
  have hD : va_D A [(vo, .inr (12, [.int 0, .ref vmt, .int votp, .int vosz, .int volm, .int voto, .int vofr, .int vokd, .int vonu, .int vosg, .int vofa, .int vopl, .long vowd, .int votd, .ref vmn, .ref vmr, .ref vmk, .ref vms, .ref vma, .ref vmm, .ref vmrn, .ref vmkn, .ref vmik, .ref vmon, .int vosm, .int vohp, .ref vmw, .ref vmf, .ref vmb, .int vomb, .ref vmd, .ref vmc, .int vocm, .int voct, .int vocy, .ref vmx, .int votx, .int vose, .ref vml, .ref vmwr, .int voln, .int vohw, .ref vmno, .int vond, .int voon, .int vowi, .int votop])), (vmn, .inl (cy 0, 575, .inl vmnf)), (vmd, .inl (cy 0, 10, .inl vmdf)), (vmc, .inl (cy 0, 10, .inl vmcf))] := hD
  refine lv_aload_n hx hb dX11_career_5 rfl (lv_at hl 0 rfl) ?_
  refine lv_iload_n hx hb dX11_career_6 rfl (lv_at hl 1 rfl) ?_
  have k_0 : (0 : Int32).toInt = 0 := by decide
  refine jr_i (rVr (As := [.int vm]) (rest := []) (ci := 12) ⟨hx, hb, hml, hown, hts⟩ (m_isMan l dC dI cy vo 0 vmt votp vosz volm voto vofr vokd vonu vosg vofa vopl vowd votd vmn vmr vmk vms vma vmm vmrn vmkn vmik vmon vosm vohp vmw vmf vmb vomb vmd vmc vocm voct vocy vmx votx vose vml vmwr voln vohw vmno vond voon vowi votop vmnf vm p_vmnf) (cw_X11_250 hts rfl rfl ⟨Nat.le_of_ble_eq_true rfl, Nat.le_of_ble_eq_true rfl⟩) hP hK [0, 1] rfl rfl rfl rfl hl.1 rfl (Nat.le_of_ble_eq_true rfl) dX11_career_7 ⟨Nat.le_of_ble_eq_true rfl, Nat.le_of_ble_eq_true rfl⟩) hP hS (fun r_1 H locs hp_2 hP hS => ?_)
  have hp_2 : ((r_1 = 0) ∨ (r_1 = 1 ∧ 0 ≤ (vm : Int32).toInt ∧ (vm : Int32).toInt ≤ 6)) := hp_2
  have q_3 := hp_2
  rcases q_3 with aq_3 | ⟨aq_3, f0q_3, f1q_3⟩
  · skip
    refine as_i 0 aq_3 ?_
    refine lv_if_eq (tgt := 37) hx hb dX11_career_10 (by decide) (fun _ => ?_) (fun c9 => absurd (by decide) c9)
    refine lv_iconst (v := (-1)) hx hb dX11_career_37 (by decide) ?_
    have k_m1 : ((-1) : Int32).toInt = (-1) := by decide
    rw [hQ9]
    exact re_i ((0 : Int32), vocm, voct, vmcf, vocy, vmdf) hx hb hr hlocks (show 0 ≤ (vocy : Int32).toInt ∧ (vocy : Int32).toInt ≤ 10 from ⟨by omega, by omega⟩) (hP.sub [0, 1, 2, 3] rfl) (hD.sub [0, 1, 2, 3] rfl rfl) hS dX11_career_38
  · skip
    refine as_i 1 aq_3 ?_
    refine lv_if_eq (tgt := 37) hx hb dX11_career_10 (by decide) (fun c9 => absurd c9 (by decide)) (fun _ => ?_)
    refine lv_iload_n hx hb dX11_career_13 rfl (lv_at hl 2 rfl) ?_
    refine lv_iconst (v := 0) hx hb dX11_career_14 (by decide) ?_
    refine lv_bipush (v := 10) hx hb dX11_career_15 (by decide) ?_
    have k_10 : (10 : Int32).toInt = 10 := by decide
    refine jr_i (rSr (As := [.int vk, .int 0, .int 10]) (rest := []) ⟨hx, hb, hml, hown, hts⟩ (m_isIn l dC dI cy vk 0 10 ) (cw_X11_75 hts rfl rfl ⟨Nat.le_of_ble_eq_true rfl, Nat.le_of_ble_eq_true rfl⟩) hP hK [] rfl rfl hl.1 rfl (Nat.le_of_ble_eq_true rfl) dX11_career_17 ⟨Nat.le_of_ble_eq_true rfl, Nat.le_of_ble_eq_true rfl⟩) hP hS (fun r_4 H locs hp_5 hP hS => ?_)
    have hp_5 : ((r_4 = 0 ∧ ((vk : Int32).toInt < (0 : Int32).toInt ∨ (10 : Int32).toInt < (vk : Int32).toInt)) ∨ (r_4 = 1 ∧ (0 : Int32).toInt ≤ (vk : Int32).toInt ∧ (vk : Int32).toInt ≤ (10 : Int32).toInt)) := hp_5
    have q_6 := hp_5
    rcases q_6 with ⟨aq_6, f0q_6⟩ | ⟨aq_6, f0q_6, f1q_6⟩
    · skip
      refine as_i 0 aq_6 ?_
      refine lv_if_eq (tgt := 37) hx hb dX11_career_20 (by decide) (fun _ => ?_) (fun c9 => absurd (by decide) c9)
      refine lv_iconst (v := (-1)) hx hb dX11_career_37 (by decide) ?_
      have k_m1 : ((-1) : Int32).toInt = (-1) := by decide
      rw [hQ9]
      exact re_i ((0 : Int32), vocm, voct, vmcf, vocy, vmdf) hx hb hr hlocks (show 0 ≤ (vocy : Int32).toInt ∧ (vocy : Int32).toInt ≤ 10 from ⟨by omega, by omega⟩) (hP.sub [0, 1, 2, 3] rfl) (hD.sub [0, 1, 2, 3] rfl rfl) hS dX11_career_38
    · skip
      refine as_i 1 aq_6 ?_
      refine lv_if_eq (tgt := 37) hx hb dX11_career_20 (by decide) (fun c9 => absurd c9 (by decide)) (fun _ => ?_)
      refine lv_aload_n hx hb dX11_career_23 rfl (lv_at hl 0 rfl) ?_
      refine lv_iload_n hx hb dX11_career_24 rfl (lv_at hl 1 rfl) ?_
      refine jr_i (rVr (As := [.int vm]) (rest := []) (ci := 12) ⟨hx, hb, hml, hown, hts⟩ (m_allOf l dC dI cy vo 0 vmt votp vosz volm voto vofr vokd vonu vosg vofa vopl vowd votd vmn vmr vmk vms vma vmm vmrn vmkn vmik vmon vosm vohp vmw vmf vmb vomb vmd vmc vocm voct vocy vmx votx vose vml vmwr voln vohw vmno vond voon vowi votop vmnf vm ⟨by omega, by omega⟩ p_vmnf) (cw_X11_247 hts rfl rfl ⟨Nat.le_of_ble_eq_true rfl, Nat.le_of_ble_eq_true rfl⟩) hP hK [0, 1] rfl rfl rfl rfl hl.1 rfl (Nat.le_of_ble_eq_true rfl) dX11_career_25 ⟨Nat.le_of_ble_eq_true rfl, Nat.le_of_ble_eq_true rfl⟩) hP hS (fun r_7 H locs hp_8 hP hS => ?_)
      refine lv_aload_n hx hb dX11_career_28 rfl (lv_at hl 0 rfl) ?_
      refine gf_X11_98 hx hb hts hown hK hP 0 rfl rfl dX11_career_29 ?_
      refine lv_iconst (v := 2) hx hb dX11_career_32 (by decide) ?_
      have k_2 : (2 : Int32).toInt = 2 := by decide
      have hin_9 : vp_in (2 : Int32) 575 := vp_in_iff.mpr ⟨by omega, by omega⟩
      refine va_iald hx hb hK hP 1 0 rfl rfl hin_9 dX11_career_33 ?_
      refine lv_topi (fun z_10 ez_10 => ?_)
      have tz_10 : z_10.toInt = (vmnf 2).toInt := by rw [ez_10]; rfl
      refine lv_icmp_le (tgt := 39) hx hb dX11_career_34 (by decide) (fun c_11 => ?_) (fun c_11 => ?_)
      · skip
        have c_11 : r_7.toInt ≤ z_10.toInt := i_le.mp c_11
        refine lv_aload_n hx hb dX11_career_39 rfl (lv_at hl 0 rfl) ?_
        refine lv_iconst (v := (-1)) hx hb dX11_career_40 (by decide) ?_
        refine pf_X11_322 hx hb hts hown hK hP hD hS 0 rfl rfl rfl (Nat.le_of_ble_eq_true rfl) dX11_career_41 (fun H locs hP hD hS => ?_)
        have hP : va_P (dC, dI) vwCl [(vo, .inr (12, [.int 0, .ref vmt, .int votp, .int vosz, .int volm, .int voto, .int vofr, .int vokd, .int vonu, .int vosg, .int vofa, .int vopl, .long vowd, .int votd, .ref vmn, .ref vmr, .ref vmk, .ref vms, .ref vma, .ref vmm, .ref vmrn, .ref vmkn, .ref vmik, .ref vmon, .int vosm, .int vohp, .ref vmw, .ref vmf, .ref vmb, .int vomb, .ref vmd, .ref vmc, .int (-1), .int voct, .int vocy, .ref vmx, .int votx, .int vose, .ref vml, .ref vmwr, .int voln, .int vohw, .ref vmno, .int vond, .int voon, .int vowi, .int votop])), (vmn, .inl (cy 0, 575, .inl vmnf)), (vmd, .inl (cy 0, 10, .inl vmdf)), (vmc, .inl (cy 0, 10, .inl vmcf))] H := hP
        have hD : va_D A [(vo, .inr (12, [.int 0, .ref vmt, .int votp, .int vosz, .int volm, .int voto, .int vofr, .int vokd, .int vonu, .int vosg, .int vofa, .int vopl, .long vowd, .int votd, .ref vmn, .ref vmr, .ref vmk, .ref vms, .ref vma, .ref vmm, .ref vmrn, .ref vmkn, .ref vmik, .ref vmon, .int vosm, .int vohp, .ref vmw, .ref vmf, .ref vmb, .int vomb, .ref vmd, .ref vmc, .int (-1), .int voct, .int vocy, .ref vmx, .int votx, .int vose, .ref vml, .ref vmwr, .int voln, .int vohw, .ref vmno, .int vond, .int voon, .int vowi, .int votop])), (vmn, .inl (cy 0, 575, .inl vmnf)), (vmd, .inl (cy 0, 10, .inl vmdf)), (vmc, .inl (cy 0, 10, .inl vmcf))] := hD
        refine lv_aload_n hx hb dX11_career_44 rfl (lv_at hl 0 rfl) ?_
        refine lv_iconst (v := 0) hx hb dX11_career_45 (by decide) ?_
        refine pf_X11_325 hx hb hts hown hK hP hD hS 0 rfl rfl rfl (Nat.le_of_ble_eq_true rfl) dX11_career_46 (fun H locs hP hD hS => ?_)
        have hP : va_P (dC, dI) vwCl [(vo, .inr (12, [.int 0, .ref vmt, .int votp, .int vosz, .int volm, .int voto, .int vofr, .int vokd, .int vonu, .int vosg, .int vofa, .int vopl, .long vowd, .int votd, .ref vmn, .ref vmr, .ref vmk, .ref vms, .ref vma, .ref vmm, .ref vmrn, .ref vmkn, .ref vmik, .ref vmon, .int vosm, .int vohp, .ref vmw, .ref vmf, .ref vmb, .int vomb, .ref vmd, .ref vmc, .int (-1), .int 0, .int vocy, .ref vmx, .int votx, .int vose, .ref vml, .ref vmwr, .int voln, .int vohw, .ref vmno, .int vond, .int voon, .int vowi, .int votop])), (vmn, .inl (cy 0, 575, .inl vmnf)), (vmd, .inl (cy 0, 10, .inl vmdf)), (vmc, .inl (cy 0, 10, .inl vmcf))] H := hP
        have hD : va_D A [(vo, .inr (12, [.int 0, .ref vmt, .int votp, .int vosz, .int volm, .int voto, .int vofr, .int vokd, .int vonu, .int vosg, .int vofa, .int vopl, .long vowd, .int votd, .ref vmn, .ref vmr, .ref vmk, .ref vms, .ref vma, .ref vmm, .ref vmrn, .ref vmkn, .ref vmik, .ref vmon, .int vosm, .int vohp, .ref vmw, .ref vmf, .ref vmb, .int vomb, .ref vmd, .ref vmc, .int (-1), .int 0, .int vocy, .ref vmx, .int votx, .int vose, .ref vml, .ref vmwr, .int voln, .int vohw, .ref vmno, .int vond, .int voon, .int vowi, .int votop])), (vmn, .inl (cy 0, 575, .inl vmnf)), (vmd, .inl (cy 0, 10, .inl vmdf)), (vmc, .inl (cy 0, 10, .inl vmcf))] := hD
        refine lv_aload_n hx hb dX11_career_49 rfl (lv_at hl 0 rfl) ?_
        refine lv_iload_n hx hb dX11_career_50 rfl (lv_at hl 1 rfl) ?_
        refine lv_iconst (v := 0) hx hb dX11_career_51 (by decide) ?_
        refine lv_iload_n hx hb dX11_career_52 rfl (lv_at hl 2 rfl) ?_
        refine lv_iconst (v := 0) hx hb dX11_career_53 (by decide) ?_
        refine lv_aload_n hx hb dX11_career_54 rfl (lv_at hl 0 rfl) ?_
        refine lv_iload_n hx hb dX11_career_55 rfl (lv_at hl 1 rfl) ?_
        have k_m1 : ((-1) : Int32).toInt = (-1) := by decide
        refine jr_i (rVr (As := [.int vm]) (rest := [.int 0, .int vk, .int 0, .int vm, .ref vo]) (ci := 12) ⟨hx, hb, hml, hown, hts⟩ (m_allOf l dC dI cy vo 0 vmt votp vosz volm voto vofr vokd vonu vosg vofa vopl vowd votd vmn vmr vmk vms vma vmm vmrn vmkn vmik vmon vosm vohp vmw vmf vmb vomb vmd vmc (-1) 0 vocy vmx votx vose vml vmwr voln vohw vmno vond voon vowi votop vmnf vm ⟨by omega, by omega⟩ p_vmnf) (cw_X11_247 hts rfl rfl ⟨Nat.le_of_ble_eq_true rfl, Nat.le_of_ble_eq_true rfl⟩) hP hK [0, 1] rfl rfl rfl rfl hl.1 rfl (Nat.le_of_ble_eq_true rfl) dX11_career_56 ⟨Nat.le_of_ble_eq_true rfl, Nat.le_of_ble_eq_true rfl⟩) hP hS (fun r_12 H locs hp_13 hP hS => ?_)
        refine jn_v (wr := []) (rV (As := [.int vm, .int 0, .int vk, .int 0, .int r_12]) (rest := []) (ci := 12) ⟨hx, hb, hml, hown, hts⟩ (m_careerFrom_0 l dC dI cy _ vo 0 vmt votp vosz volm voto vofr vokd vonu vosg vofa vopl vowd votd vmn vmr vmk vms vma vmm vmrn vmkn vmik vmon vosm vohp vmw vmf vmb vomb vmd vmc (-1) 0 vocy vmx votx vose vml vmwr voln vohw vmno vond voon vowi votop vmnf vmdf vmcf vm vk 0 r_12 r_vocy ⟨by omega, by omega⟩ ⟨by omega, by omega⟩ p_vmnf (by omega)) (cw_X11_331 hts rfl rfl ⟨Nat.le_of_ble_eq_true rfl, Nat.le_of_ble_eq_true rfl⟩) hP hD hK [0, 1, 2, 3] rfl rfl rfl rfl bl0 e0 rfl hl.1 rfl (Nat.le_of_ble_eq_true rfl) dX11_career_59 ⟨Nat.le_of_ble_eq_true rfl, Nat.le_of_ble_eq_true rfl⟩) hP hD hS hA [0, 1, 2, 3] [] rfl rfl rfl (by decide) (fun u_16 H locs hp_15 hP hD hS => ?_)
        obtain ⟨vocm_17, voct_18, vmcf_19, vocy_20, vmdf_21⟩ := u_16
        have hp_15 : (0 ≤ (vocy_20 : Int32).toInt ∧ (vocy_20 : Int32).toInt ≤ 10) := hp_15
        have q_22 := hp_15
        have hP : va_P (dC, dI) vwCl [(vo, .inr (12, [.int 0, .ref vmt, .int votp, .int vosz, .int volm, .int voto, .int vofr, .int vokd, .int vonu, .int vosg, .int vofa, .int vopl, .long vowd, .int votd, .ref vmn, .ref vmr, .ref vmk, .ref vms, .ref vma, .ref vmm, .ref vmrn, .ref vmkn, .ref vmik, .ref vmon, .int vosm, .int vohp, .ref vmw, .ref vmf, .ref vmb, .int vomb, .ref vmd, .ref vmc, .int vocm_17, .int voct_18, .int vocy_20, .ref vmx, .int votx, .int vose, .ref vml, .ref vmwr, .int voln, .int vohw, .ref vmno, .int vond, .int voon, .int vowi, .int votop])), (vmn, .inl (cy 0, 575, .inl vmnf)), (vmd, .inl (cy 0, 10, .inl vmdf_21)), (vmc, .inl (cy 0, 10, .inl vmcf_19))] H := hP
        have hD : va_D A [(vo, .inr (12, [.int 0, .ref vmt, .int votp, .int vosz, .int volm, .int voto, .int vofr, .int vokd, .int vonu, .int vosg, .int vofa, .int vopl, .long vowd, .int votd, .ref vmn, .ref vmr, .ref vmk, .ref vms, .ref vma, .ref vmm, .ref vmrn, .ref vmkn, .ref vmik, .ref vmon, .int vosm, .int vohp, .ref vmw, .ref vmf, .ref vmb, .int vomb, .ref vmd, .ref vmc, .int vocm_17, .int voct_18, .int vocy_20, .ref vmx, .int votx, .int vose, .ref vml, .ref vmwr, .int voln, .int vohw, .ref vmno, .int vond, .int voon, .int vowi, .int votop])), (vmn, .inl (cy 0, 575, .inl vmnf)), (vmd, .inl (cy 0, 10, .inl vmdf_21)), (vmc, .inl (cy 0, 10, .inl vmcf_19))] := hD
        refine lv_aload_n hx hb dX11_career_62 rfl (lv_at hl 0 rfl) ?_
        refine gf_X11_322 hx hb hts hown hK hP 0 rfl rfl dX11_career_63 ?_
        rw [hQ9]
        exact re_i ((0 : Int32), vocm_17, voct_18, vmcf_19, vocy_20, vmdf_21) hx hb hr hlocks (show 0 ≤ (vocy_20 : Int32).toInt ∧ (vocy_20 : Int32).toInt ≤ 10 from ⟨by omega, by omega⟩) (hP.sub [0, 1, 2, 3] rfl) (hD.sub [0, 1, 2, 3] rfl rfl) hS dX11_career_66
      · skip
        have c_11 : ¬ (r_7.toInt ≤ z_10.toInt) := fun h9 => c_11 (i_le.mpr h9)
        refine lv_iconst (v := (-1)) hx hb dX11_career_37 (by decide) ?_
        have k_m1 : ((-1) : Int32).toInt = (-1) := by decide
        rw [hQ9]
        exact re_i ((0 : Int32), vocm, voct, vmcf, vocy, vmdf) hx hb hr hlocks (show 0 ≤ (vocy : Int32).toInt ∧ (vocy : Int32).toInt ≤ 10 from ⟨by omega, by omega⟩) (hP.sub [0, 1, 2, 3] rfl) (hD.sub [0, 1, 2, 3] rfl rfl) hS dX11_career_38
abbrev cX11_write : ByteArray := prog_13_method_95_code
def yX11_write : MethodName := ⟨RX11, "write", "(I)V"⟩
theorem t1933 : Cond.code yX11_write cX11_write 2 none ∈ GW := gw_mem 2047 (by decide +kernel) (by decide +kernel)
abbrev O_m_write (cy : Nat → ClassId) (vo : Nat) (voth : Int32) (vmt : Nat) (votp : Int32) (vosz : Int32) (volm : Int32) (voto : Int32) (vofr : Int32) (vokd : Int32) (vonu : Int32) (vosg : Int32) (vofa : Int32) (vopl : Int32) (vowd : Int64) (votd : Int32) (vmn : Nat) (vmr : Nat) (vmk : Nat) (vms : Nat) (vma : Nat) (vmm : Nat) (vmrn : Nat) (vmkn : Nat) (vmik : Nat) (vmon : Nat) (vosm : Int32) (vohp : Int32) (vmw : Nat) (vmf : Nat) (vmb : Nat) (vomb : Int32) (vmd : Nat) (vmc : Nat) (vocm : Int32) (voct : Int32) (vocy : Int32) (vmx : Nat) (votx : Int32) (vose : Int32) (vml : Nat) (vmwr : Nat) (voln : Int32) (vohw : Int32) (vmno : Nat) (vond : Int32) (voon : Int32) (vowi : Int32) (votop : Int32) (vmxf : Nat → Int32) (vx : Int32) (u : Int32 × (Nat → Int32)) : va_W := [(vo, .inr (12, [.int voth, .ref vmt, .int votp, .int vosz, .int volm, .int voto, .int vofr, .int vokd, .int vonu, .int vosg, .int vofa, .int vopl, .long vowd, .int votd, .ref vmn, .ref vmr, .ref vmk, .ref vms, .ref vma, .ref vmm, .ref vmrn, .ref vmkn, .ref vmik, .ref vmon, .int vosm, .int vohp, .ref vmw, .ref vmf, .ref vmb, .int vomb, .ref vmd, .ref vmc, .int vocm, .int voct, .int vocy, .ref vmx, .int u.1, .int vose, .ref vml, .ref vmwr, .int voln, .int vohw, .ref vmno, .int vond, .int voon, .int vowi, .int votop])), (vmx, .inl (cy 0, 64, .inl u.2))]
theorem dX11_write_0 : decode cX11_write 0 = .ok (.aload_n 0, 1) := by decide +kernel
theorem dX11_write_1 : decode cX11_write 1 = .ok (.getfield 148, 3) := by decide +kernel
theorem dX11_write_4 : decode cX11_write 4 = .ok (.aload_n 0, 1) := by decide +kernel
theorem dX11_write_5 : decode cX11_write 5 = .ok (.getfield 335, 3) := by decide +kernel
theorem dX11_write_8 : decode cX11_write 8 = .ok (.iload_n 1, 1) := by decide +kernel
theorem dX11_write_9 : decode cX11_write 9 = .ok (.iastore, 1) := by decide +kernel
theorem dX11_write_10 : decode cX11_write 10 = .ok (.aload_n 0, 1) := by decide +kernel
theorem dX11_write_11 : decode cX11_write 11 = .ok (.dup, 1) := by decide +kernel
theorem dX11_write_12 : decode cX11_write 12 = .ok (.getfield 335, 3) := by decide +kernel
theorem dX11_write_15 : decode cX11_write 15 = .ok (.iconst 1, 1) := by decide +kernel
theorem dX11_write_16 : decode cX11_write 16 = .ok (.iadd, 1) := by decide +kernel
theorem dX11_write_17 : decode cX11_write 17 = .ok (.putfield 335, 3) := by decide +kernel
theorem pf_X11_335 {p : Program} {l : Launch} {e : Env} {R : Room} {s : State} {m : MethodId} {args : Array Value} {below : List Frame} {meth : Method} {c : Code} {H : Heap} {locs : List Loc} {cells slots : Nat} {Q : State → Prop} {cc : ByteArray} {pc : Nat} {ls : Array Slot} {rest : List Value} {D : va_G} {A : Nat → Prop} {a : Nat} {tys : List (ClassId × FieldType)} {ws : va_W} {H0 : Heap} (hx : p.tables.exec = Jvm.exec) (hb : c.code = cc) (hts : ∀ w ∈ GW, w.before args s = true) (hown : s.vm.findClass RX11 = some m.cls) (hK : va_K D vwCl tys s) (hP : va_P D vwCl ws H) (hD : va_D A ws) (hS0 : va_S A H0 H locs) (q0 : Nat) {fs : List Value} (he : ws[q0]? = some (a, .inr (12, fs))) {v : Value} (hn : narrow (tyX11 36) v = v) (hfit : fits (tyX11 36) v = true) (hl : 36 < fs.length) (hdg : decode cc pc = .ok (.putfield 335, 3)) (kk : ∀ (H1 : Heap) (locs1 : List Loc), va_P D vwCl (ws.set q0 (a, .inr (12, fs.set 36 v))) H1 → va_D A (ws.set q0 (a, .inr (12, fs.set 36 v))) → va_S A H0 H1 locs1 → W p l e R s m args below meth c H1 locs1 cells slots Q (F0 m (pc + 3) ls rest)) : W p l e R s m args below meth c H locs cells slots Q (F0 m pc ls (v :: .ref a :: rest)) := va_put (C := RX11) (T := TX11) (N := 47) (ci := 12) hx hb hts inX11 tyX11 tkX11 nmX11 hown hK hP hD hS0 q0 he rfl 36 (by decide) (hts _ t1478) (fun _ h => h) rfl (tkX11 36 (by decide)) hn hfit hl hdg kk
theorem dX11_write_20 : decode cX11_write 20 = .ok (.return_, 1) := by decide +kernel
set_option maxHeartbeats 4000000 in
set_option maxRecDepth 100000 in
theorem m_write (l : Launch) (dC : Nat → ClassId) (dI : Nat → Nat → Nat) (cy : Nat → ClassId) (sz : Nat) (vo : Nat) (voth : Int32) (vmt : Nat) (votp : Int32) (vosz : Int32) (volm : Int32) (voto : Int32) (vofr : Int32) (vokd : Int32) (vonu : Int32) (vosg : Int32) (vofa : Int32) (vopl : Int32) (vowd : Int64) (votd : Int32) (vmn : Nat) (vmr : Nat) (vmk : Nat) (vms : Nat) (vma : Nat) (vmm : Nat) (vmrn : Nat) (vmkn : Nat) (vmik : Nat) (vmon : Nat) (vosm : Int32) (vohp : Int32) (vmw : Nat) (vmf : Nat) (vmb : Nat) (vomb : Int32) (vmd : Nat) (vmc : Nat) (vocm : Int32) (voct : Int32) (vocy : Int32) (vmx : Nat) (votx : Int32) (vose : Int32) (vml : Nat) (vmwr : Nat) (voln : Int32) (vohw : Int32) (vmno : Nat) (vond : Int32) (voon : Int32) (vowi : Int32) (votop : Int32) (vmxf : Nat → Int32) (vx : Int32) (r_votx : 0 ≤ (votx : Int32).toInt ∧ (votx : Int32).toInt ≤ 63) : Met l yX11_write (wl yX11_write cX11_write 2 none) ({ frames := 0, cells := 0, slots := 0, locals := 0 }) (Pw (dC, dI) vwCl cy [(vo, .inr (12, [.int voth, .ref vmt, .int votp, .int vosz, .int volm, .int voto, .int vofr, .int vokd, .int vonu, .int vosg, .int vofa, .int vopl, .long vowd, .int votd, .ref vmn, .ref vmr, .ref vmk, .ref vms, .ref vma, .ref vmm, .ref vmrn, .ref vmkn, .ref vmik, .ref vmon, .int vosm, .int vohp, .ref vmw, .ref vmf, .ref vmb, .int vomb, .ref vmd, .ref vmc, .int vocm, .int voct, .int vocy, .ref vmx, .int votx, .int vose, .ref vml, .ref vmwr, .int voln, .int vohw, .ref vmno, .int vond, .int voon, .int vowi, .int votop])), (vmx, .inl (cy 0, 64, .inl vmxf))] sz [.ref vo, .int vx] nE) (Qv (dC, dI) vwCl (fun (u : Int32 × (Nat → Int32)) => (0 ≤ (u.1 : Int32).toInt ∧ (u.1 : Int32).toInt ≤ 64) ∧ ((u.1 : Int32).toInt = (votx : Int32).toInt + 1)) (O_m_write cy vo voth vmt votp vosz volm voto vofr vokd vonu vosg vofa vopl vowd votd vmn vmr vmk vms vma vmm vmrn vmkn vmik vmon vosm vohp vmw vmf vmb vomb vmd vmc vocm voct vocy vmx votx vose vml vmwr voln vohw vmno vond voon vowi votop vmxf vx) (va_A [(vo, .inr (12, [.int voth, .ref vmt, .int votp, .int vosz, .int volm, .int voto, .int vofr, .int vokd, .int vonu, .int vosg, .int vofa, .int vopl, .long vowd, .int votd, .ref vmn, .ref vmr, .ref vmk, .ref vms, .ref vma, .ref vmm, .ref vmrn, .ref vmkn, .ref vmik, .ref vmon, .int vosm, .int vohp, .ref vmw, .ref vmf, .ref vmb, .int vomb, .ref vmd, .ref vmc, .int vocm, .int voct, .int vocy, .ref vmx, .int votx, .int vose, .ref vml, .ref vmwr, .int voln, .int vohw, .ref vmno, .int vond, .int voon, .int vowi, .int votop])), (vmx, .inl (cy 0, 64, .inl vmxf))] sz)) 0 0 (va_A [(vo, .inr (12, [.int voth, .ref vmt, .int votp, .int vosz, .int volm, .int voto, .int vofr, .int vokd, .int vonu, .int vosg, .int vofa, .int vopl, .long vowd, .int votd, .ref vmn, .ref vmr, .ref vmk, .ref vms, .ref vma, .ref vmm, .ref vmrn, .ref vmkn, .ref vmik, .ref vmon, .int vosm, .int vohp, .ref vmw, .ref vmf, .ref vmb, .int vomb, .ref vmd, .ref vmc, .int vocm, .int voct, .int vocy, .ref vmx, .int votx, .int vose, .ref vml, .ref vmwr, .int voln, .int vohw, .ref vmno, .int vond, .int voon, .int vowi, .int votop])), (vmx, .inl (cy 0, 64, .inl vmxf))] sz) := by
  refine mw (Qc := Qv (dC, dI) vwCl (fun (u : Int32 × (Nat → Int32)) => (0 ≤ (u.1 : Int32).toInt ∧ (u.1 : Int32).toInt ≤ 64) ∧ ((u.1 : Int32).toInt = (votx : Int32).toInt + 1)) (O_m_write cy vo voth vmt votp vosz volm voto vofr vokd vonu vosg vofa vopl vowd votd vmn vmr vmk vms vma vmm vmrn vmkn vmik vmon vosm vohp vmw vmf vmb vomb vmd vmc vocm voct vocy vmx votx vose vml vmwr voln vohw vmno vond voon vowi votop vmxf vx)) RX11 rfl (by decide +kernel) (Nat.le_of_ble_eq_true rfl) ?_
  intro p e s m below meth c A hx hb hr hlocks av9 hav hts hown hnm hml hK hP hD hA hS hE hAe Q9 hQ9 ls hl
  have hl : lv_has ls 2 [(0, .ref vo), (1, .int vx)] := hl
  refine lv_aload_n hx hb dX11_write_0 rfl (lv_at hl 0 rfl) ?_
  refine gf_X11_148 hx hb hts hown hK hP 0 rfl rfl dX11_write_1 ?_
  refine lv_aload_n hx hb dX11_write_4 rfl (lv_at hl 0 rfl) ?_
  refine gf_X11_335 hx hb hts hown hK hP 0 rfl rfl dX11_write_5 ?_
  refine lv_iload_n hx hb dX11_write_8 rfl (lv_at hl 1 rfl) ?_
  have hin_1 : vp_in votx 64 := vp_in_iff.mpr ⟨by omega, by omega⟩
  refine va_iast hx hb hK hP hD hS 1 0 rfl rfl hin_1 dX11_write_9 (fun H locs hP hD hS => ?_)
  obtain ⟨f_2, ef_2⟩ : ∃ z : Nat → Int32, z = upd vmxf (Int32.toNatClampNeg votx) vx := ⟨_, rfl⟩
  have hP : va_P (dC, dI) vwCl [(vo, .inr (12, [.int voth, .ref vmt, .int votp, .int vosz, .int volm, .int voto, .int vofr, .int vokd, .int vonu, .int vosg, .int vofa, .int vopl, .long vowd, .int votd, .ref vmn, .ref vmr, .ref vmk, .ref vms, .ref vma, .ref vmm, .ref vmrn, .ref vmkn, .ref vmik, .ref vmon, .int vosm, .int vohp, .ref vmw, .ref vmf, .ref vmb, .int vomb, .ref vmd, .ref vmc, .int vocm, .int voct, .int vocy, .ref vmx, .int votx, .int vose, .ref vml, .ref vmwr, .int voln, .int vohw, .ref vmno, .int vond, .int voon, .int vowi, .int votop])), (vmx, .inl (cy 0, 64, .inl f_2))] H := by rw [ef_2]; exact hP
  have hD : va_D A [(vo, .inr (12, [.int voth, .ref vmt, .int votp, .int vosz, .int volm, .int voto, .int vofr, .int vokd, .int vonu, .int vosg, .int vofa, .int vopl, .long vowd, .int votd, .ref vmn, .ref vmr, .ref vmk, .ref vms, .ref vma, .ref vmm, .ref vmrn, .ref vmkn, .ref vmik, .ref vmon, .int vosm, .int vohp, .ref vmw, .ref vmf, .ref vmb, .int vomb, .ref vmd, .ref vmc, .int vocm, .int voct, .int vocy, .ref vmx, .int votx, .int vose, .ref vml, .ref vmwr, .int voln, .int vohw, .ref vmno, .int vond, .int voon, .int vowi, .int votop])), (vmx, .inl (cy 0, 64, .inl f_2))] := by rw [ef_2]; exact hD
  refine lv_aload_n hx hb dX11_write_10 rfl (lv_at hl 0 rfl) ?_
  refine lv_dup hx hb dX11_write_11 rfl ?_
  refine gf_X11_335 hx hb hts hown hK hP 0 rfl rfl dX11_write_12 ?_
  refine lv_iconst (v := 1) hx hb dX11_write_15 (by decide) ?_
  refine lv_iadd hx hb dX11_write_16 ?_
  refine lv_topi (fun z_3 ez_3 => ?_)
  have k_1 : (1 : Int32).toInt = 1 := by decide
  have bz_3 : z_3.toInt = votx.toInt + (1 : Int32).toInt := i_add ez_3 (by omega) (by omega)
  refine pf_X11_335 hx hb hts hown hK hP hD hS 0 rfl rfl rfl (Nat.le_of_ble_eq_true rfl) dX11_write_17 (fun H locs hP hD hS => ?_)
  have hP : va_P (dC, dI) vwCl [(vo, .inr (12, [.int voth, .ref vmt, .int votp, .int vosz, .int volm, .int voto, .int vofr, .int vokd, .int vonu, .int vosg, .int vofa, .int vopl, .long vowd, .int votd, .ref vmn, .ref vmr, .ref vmk, .ref vms, .ref vma, .ref vmm, .ref vmrn, .ref vmkn, .ref vmik, .ref vmon, .int vosm, .int vohp, .ref vmw, .ref vmf, .ref vmb, .int vomb, .ref vmd, .ref vmc, .int vocm, .int voct, .int vocy, .ref vmx, .int z_3, .int vose, .ref vml, .ref vmwr, .int voln, .int vohw, .ref vmno, .int vond, .int voon, .int vowi, .int votop])), (vmx, .inl (cy 0, 64, .inl f_2))] H := hP
  have hD : va_D A [(vo, .inr (12, [.int voth, .ref vmt, .int votp, .int vosz, .int volm, .int voto, .int vofr, .int vokd, .int vonu, .int vosg, .int vofa, .int vopl, .long vowd, .int votd, .ref vmn, .ref vmr, .ref vmk, .ref vms, .ref vma, .ref vmm, .ref vmrn, .ref vmkn, .ref vmik, .ref vmon, .int vosm, .int vohp, .ref vmw, .ref vmf, .ref vmb, .int vomb, .ref vmd, .ref vmc, .int vocm, .int voct, .int vocy, .ref vmx, .int z_3, .int vose, .ref vml, .ref vmwr, .int voln, .int vohw, .ref vmno, .int vond, .int voon, .int vowi, .int votop])), (vmx, .inl (cy 0, 64, .inl f_2))] := hD
  rw [hQ9]
  exact re_v (z_3, f_2) hx hb hr hlocks ⟨(show 0 ≤ (z_3 : Int32).toInt ∧ (z_3 : Int32).toInt ≤ 64 from ⟨by omega, by omega⟩), (show (z_3 : Int32).toInt = (votx : Int32).toInt + 1 from (by omega))⟩ (hP.sub [0, 1] rfl) (hD.sub [0, 1] rfl rfl) hS dX11_write_20
abbrev cX11_writeWord : ByteArray := prog_13_method_96_code
def yX11_writeWord : MethodName := ⟨RX11, "writeWord", "(J)V"⟩
theorem t1929 : Cond.code yX11_writeWord cX11_writeWord 3 none ∈ GW := gw_mem 2043 (by decide +kernel) (by decide +kernel)
abbrev O_m_writeWord_1 (cy : Nat → ClassId) (vo : Nat) (voth : Int32) (vmt : Nat) (votp : Int32) (vosz : Int32) (volm : Int32) (voto : Int32) (vofr : Int32) (vokd : Int32) (vonu : Int32) (vosg : Int32) (vofa : Int32) (vopl : Int32) (vowd : Int64) (votd : Int32) (vmn : Nat) (vmr : Nat) (vmk : Nat) (vms : Nat) (vma : Nat) (vmm : Nat) (vmrn : Nat) (vmkn : Nat) (vmik : Nat) (vmon : Nat) (vosm : Int32) (vohp : Int32) (vmw : Nat) (vmf : Nat) (vmb : Nat) (vomb : Int32) (vmd : Nat) (vmc : Nat) (vocm : Int32) (voct : Int32) (vocy : Int32) (vmx : Nat) (votx : Int32) (vose : Int32) (vml : Nat) (vmwr : Nat) (voln : Int32) (vohw : Int32) (vmno : Nat) (vond : Int32) (voon : Int32) (vowi : Int32) (votop : Int32) (vmxf : Nat → Int32) (vw : Int64) (u : Int32 × (Nat → Int32)) : va_W := [(vo, .inr (12, [.int voth, .ref vmt, .int votp, .int vosz, .int volm, .int voto, .int vofr, .int vokd, .int vonu, .int vosg, .int vofa, .int vopl, .long vowd, .int votd, .ref vmn, .ref vmr, .ref vmk, .ref vms, .ref vma, .ref vmm, .ref vmrn, .ref vmkn, .ref vmik, .ref vmon, .int vosm, .int vohp, .ref vmw, .ref vmf, .ref vmb, .int vomb, .ref vmd, .ref vmc, .int vocm, .int voct, .int vocy, .ref vmx, .int u.1, .int vose, .ref vml, .ref vmwr, .int voln, .int vohw, .ref vmno, .int vond, .int voon, .int vowi, .int votop])), (vmx, .inl (cy 0, 64, .inl u.2))]
theorem dX11_writeWord_0 : decode cX11_writeWord 0 = .ok (.lload_n 1, 1) := by decide +kernel
theorem dX11_writeWord_1 : decode cX11_writeWord 1 = .ok (.ldc2_w 54, 3) := by decide +kernel
theorem dX11_writeWord_4 : decode cX11_writeWord 4 = .ok (.lcmp, 1) := by decide +kernel
theorem dX11_writeWord_5 : decode cX11_writeWord 5 = .ok (.ifCond .lt 12, 3) := by decide +kernel
theorem dX11_writeWord_17 : decode cX11_writeWord 17 = .ok (.aload_n 0, 1) := by decide +kernel
theorem dX11_writeWord_18 : decode cX11_writeWord 18 = .ok (.bipush 96, 2) := by decide +kernel
theorem dX11_writeWord_20 : decode cX11_writeWord 20 = .ok (.lload_n 1, 1) := by decide +kernel
theorem dX11_writeWord_21 : decode cX11_writeWord 21 = .ok (.ldc2_w 54, 3) := by decide +kernel
theorem dX11_writeWord_24 : decode cX11_writeWord 24 = .ok (.lrem, 1) := by decide +kernel
theorem dX11_writeWord_25 : decode cX11_writeWord 25 = .ok (.l2i, 1) := by decide +kernel
theorem dX11_writeWord_26 : decode cX11_writeWord 26 = .ok (.iadd, 1) := by decide +kernel
theorem dX11_writeWord_27 : decode cX11_writeWord 27 = .ok (.invokevirtual 342, 3) := by decide +kernel
theorem t1930 : Cond.methodLink RX11 342 yX11_write ∈ GW := gw_mem 2044 (by decide +kernel) (by decide +kernel)
theorem t1932 : Cond.instanceMethod yX11_write ∈ GW := gw_mem 2046 (by decide +kernel) (by decide +kernel)
theorem s89 : Cond.selects RX11 yX11_write yX11_write ∈ GW := gw_mem 89 (by decide +kernel) (by decide +kernel)
theorem cw_X11_342 {R : Room} {s : State} {args : Array Value} {rm : Room} {mc ms : Nat} (hts : ∀ w ∈ GW, w.before args s = true) (hrc : rm.cells = mc) (hrs : rm.slots = ms) (hR : rm.frames + 1 ≤ R.frames ∧ 8 + (2 + 11) + rm.locals ≤ R.locals) : CallW R s args RX11 RX11 342 yX11_write cX11_write 2 none (wl yX11_write cX11_write 2 none) rm mc ms 1 := cwV 1 hts (gi_V t1930 t1932 s89 t18 t1933) rfl hrc hrs (by decide +kernel) hR
theorem dX11_writeWord_30 : decode cX11_writeWord 30 = .ok (.return_, 1) := by decide +kernel
set_option maxHeartbeats 4000000 in
set_option maxRecDepth 100000 in
theorem m_writeWord_1 (l : Launch) (dC : Nat → ClassId) (dI : Nat → Nat → Nat) (cy : Nat → ClassId) (sz : Nat) (vo : Nat) (voth : Int32) (vmt : Nat) (votp : Int32) (vosz : Int32) (volm : Int32) (voto : Int32) (vofr : Int32) (vokd : Int32) (vonu : Int32) (vosg : Int32) (vofa : Int32) (vopl : Int32) (vowd : Int64) (votd : Int32) (vmn : Nat) (vmr : Nat) (vmk : Nat) (vms : Nat) (vma : Nat) (vmm : Nat) (vmrn : Nat) (vmkn : Nat) (vmik : Nat) (vmon : Nat) (vosm : Int32) (vohp : Int32) (vmw : Nat) (vmf : Nat) (vmb : Nat) (vomb : Int32) (vmd : Nat) (vmc : Nat) (vocm : Int32) (voct : Int32) (vocy : Int32) (vmx : Nat) (votx : Int32) (vose : Int32) (vml : Nat) (vmwr : Nat) (voln : Int32) (vohw : Int32) (vmno : Nat) (vond : Int32) (voon : Int32) (vowi : Int32) (votop : Int32) (vmxf : Nat → Int32) (vw : Int64) (r_votx : 0 ≤ (votx : Int32).toInt ∧ (votx : Int32).toInt ≤ 63) (hw : (vw : Int64).toInt < 27) : Met l yX11_writeWord (wl yX11_writeWord cX11_writeWord 3 none) ({ frames := 1, cells := 0, slots := 0, locals := 64 }) (Pw (dC, dI) vwCl cy [(vo, .inr (12, [.int voth, .ref vmt, .int votp, .int vosz, .int volm, .int voto, .int vofr, .int vokd, .int vonu, .int vosg, .int vofa, .int vopl, .long vowd, .int votd, .ref vmn, .ref vmr, .ref vmk, .ref vms, .ref vma, .ref vmm, .ref vmrn, .ref vmkn, .ref vmik, .ref vmon, .int vosm, .int vohp, .ref vmw, .ref vmf, .ref vmb, .int vomb, .ref vmd, .ref vmc, .int vocm, .int voct, .int vocy, .ref vmx, .int votx, .int vose, .ref vml, .ref vmwr, .int voln, .int vohw, .ref vmno, .int vond, .int voon, .int vowi, .int votop])), (vmx, .inl (cy 0, 64, .inl vmxf))] sz [.ref vo, .long vw] nE) (Qv (dC, dI) vwCl (fun (u : Int32 × (Nat → Int32)) => (0 ≤ (u.1 : Int32).toInt ∧ (u.1 : Int32).toInt ≤ 64) ∧ ((u.1 : Int32).toInt ≤ (votx : Int32).toInt + 1) ∧ ((votx : Int32).toInt ≤ (u.1 : Int32).toInt)) (O_m_writeWord_1 cy vo voth vmt votp vosz volm voto vofr vokd vonu vosg vofa vopl vowd votd vmn vmr vmk vms vma vmm vmrn vmkn vmik vmon vosm vohp vmw vmf vmb vomb vmd vmc vocm voct vocy vmx votx vose vml vmwr voln vohw vmno vond voon vowi votop vmxf vw) (va_A [(vo, .inr (12, [.int voth, .ref vmt, .int votp, .int vosz, .int volm, .int voto, .int vofr, .int vokd, .int vonu, .int vosg, .int vofa, .int vopl, .long vowd, .int votd, .ref vmn, .ref vmr, .ref vmk, .ref vms, .ref vma, .ref vmm, .ref vmrn, .ref vmkn, .ref vmik, .ref vmon, .int vosm, .int vohp, .ref vmw, .ref vmf, .ref vmb, .int vomb, .ref vmd, .ref vmc, .int vocm, .int voct, .int vocy, .ref vmx, .int votx, .int vose, .ref vml, .ref vmwr, .int voln, .int vohw, .ref vmno, .int vond, .int voon, .int vowi, .int votop])), (vmx, .inl (cy 0, 64, .inl vmxf))] sz)) 0 0 (va_A [(vo, .inr (12, [.int voth, .ref vmt, .int votp, .int vosz, .int volm, .int voto, .int vofr, .int vokd, .int vonu, .int vosg, .int vofa, .int vopl, .long vowd, .int votd, .ref vmn, .ref vmr, .ref vmk, .ref vms, .ref vma, .ref vmm, .ref vmrn, .ref vmkn, .ref vmik, .ref vmon, .int vosm, .int vohp, .ref vmw, .ref vmf, .ref vmb, .int vomb, .ref vmd, .ref vmc, .int vocm, .int voct, .int vocy, .ref vmx, .int votx, .int vose, .ref vml, .ref vmwr, .int voln, .int vohw, .ref vmno, .int vond, .int voon, .int vowi, .int votop])), (vmx, .inl (cy 0, 64, .inl vmxf))] sz) := by
  refine mw (Qc := Qv (dC, dI) vwCl (fun (u : Int32 × (Nat → Int32)) => (0 ≤ (u.1 : Int32).toInt ∧ (u.1 : Int32).toInt ≤ 64) ∧ ((u.1 : Int32).toInt ≤ (votx : Int32).toInt + 1) ∧ ((votx : Int32).toInt ≤ (u.1 : Int32).toInt)) (O_m_writeWord_1 cy vo voth vmt votp vosz volm voto vofr vokd vonu vosg vofa vopl vowd votd vmn vmr vmk vms vma vmm vmrn vmkn vmik vmon vosm vohp vmw vmf vmb vomb vmd vmc vocm voct vocy vmx votx vose vml vmwr voln vohw vmno vond voon vowi votop vmxf vw)) RX11 rfl (by decide +kernel) (Nat.le_of_ble_eq_true rfl) ?_
  intro p e s m below meth c A hx hb hr hlocks av9 hav hts hown hnm hml hK hP hD hA hS hE hAe Q9 hQ9 ls hl
  have hl : lv_has ls 3 [(0, .ref vo), (1, .long vw)] := hl
  refine lv_lload_n hx hb dX11_writeWord_0 rfl (lv_at hl 1 rfl) ?_
  refine lv_ldc2 hx hb hown (hts _ t1610) dX11_writeWord_1 ?_
  refine W.lcmp hx hb dX11_writeWord_4 ?_
  refine lv_topi (fun z_1 ez_1 => ?_)
  have bz_1 : z_1.toInt < 0 ↔ vw.toInt < (27 : Int64).toInt := l_cmp ez_1
  have kl_27 : (27 : Int64).toInt = 27 := by decide
  have k_0 : (0 : Int32).toInt = 0 := by decide
  refine lv_if_lt (tgt := 17) hx hb dX11_writeWord_5 (by decide) (fun _ => ?_) (fun c9 => (c9 (i_lt.mpr (by omega))).elim)
  refine lv_aload_n hx hb dX11_writeWord_17 rfl (lv_at hl 0 rfl) ?_
  refine lv_bipush (v := 96) hx hb dX11_writeWord_18 (by decide) ?_
  refine lv_lload_n hx hb dX11_writeWord_20 rfl (lv_at hl 1 rfl) ?_
  refine lv_ldc2 hx hb hown (hts _ t1610) dX11_writeWord_21 ?_
  refine lv_lrem hx hb dX11_writeWord_24 (by decide) ?_
  refine lv_topl (fun y_2 ey_2 => ?_)
  refine lv_l2i hx hb dX11_writeWord_25 rfl ?_
  refine lv_topi (fun z_3 ez_3 => ?_)
  refine lv_iadd hx hb dX11_writeWord_26 ?_
  refine lv_topi (fun z_4 ez_4 => ?_)
  refine jn_v (wr := []) (rV (As := [.int z_4]) (rest := []) (ci := 12) ⟨hx, hb, hml, hown, hts⟩ (m_write l dC dI cy _ vo voth vmt votp vosz volm voto vofr vokd vonu vosg vofa vopl vowd votd vmn vmr vmk vms vma vmm vmrn vmkn vmik vmon vosm vohp vmw vmf vmb vomb vmd vmc vocm voct vocy vmx votx vose vml vmwr voln vohw vmno vond voon vowi votop vmxf z_4 r_votx) (cw_X11_342 hts rfl rfl ⟨Nat.le_of_ble_eq_true rfl, Nat.le_of_ble_eq_true rfl⟩) hP hD hK [0, 1] rfl rfl rfl rfl bl0 e0 rfl hl.1 rfl (Nat.le_of_ble_eq_true rfl) dX11_writeWord_27 ⟨Nat.le_of_ble_eq_true rfl, Nat.le_of_ble_eq_true rfl⟩) hP hD hS hA [0, 1] [] rfl rfl rfl (by decide) (fun u_7 H locs hp_6 hP hD hS => ?_)
  obtain ⟨votx_8, vmxf_9⟩ := u_7
  have hp_6 : (0 ≤ (votx_8 : Int32).toInt ∧ (votx_8 : Int32).toInt ≤ 64) ∧ ((votx_8 : Int32).toInt = (votx : Int32).toInt + 1) := hp_6
  obtain ⟨q_10, q_11⟩ := hp_6
  have hP : va_P (dC, dI) vwCl [(vo, .inr (12, [.int voth, .ref vmt, .int votp, .int vosz, .int volm, .int voto, .int vofr, .int vokd, .int vonu, .int vosg, .int vofa, .int vopl, .long vowd, .int votd, .ref vmn, .ref vmr, .ref vmk, .ref vms, .ref vma, .ref vmm, .ref vmrn, .ref vmkn, .ref vmik, .ref vmon, .int vosm, .int vohp, .ref vmw, .ref vmf, .ref vmb, .int vomb, .ref vmd, .ref vmc, .int vocm, .int voct, .int vocy, .ref vmx, .int votx_8, .int vose, .ref vml, .ref vmwr, .int voln, .int vohw, .ref vmno, .int vond, .int voon, .int vowi, .int votop])), (vmx, .inl (cy 0, 64, .inl vmxf_9))] H := hP
  have hD : va_D A [(vo, .inr (12, [.int voth, .ref vmt, .int votp, .int vosz, .int volm, .int voto, .int vofr, .int vokd, .int vonu, .int vosg, .int vofa, .int vopl, .long vowd, .int votd, .ref vmn, .ref vmr, .ref vmk, .ref vms, .ref vma, .ref vmm, .ref vmrn, .ref vmkn, .ref vmik, .ref vmon, .int vosm, .int vohp, .ref vmw, .ref vmf, .ref vmb, .int vomb, .ref vmd, .ref vmc, .int vocm, .int voct, .int vocy, .ref vmx, .int votx_8, .int vose, .ref vml, .ref vmwr, .int voln, .int vohw, .ref vmno, .int vond, .int voon, .int vowi, .int votop])), (vmx, .inl (cy 0, 64, .inl vmxf_9))] := hD
  rw [hQ9]
  exact re_v (votx_8, vmxf_9) hx hb hr hlocks ⟨(show 0 ≤ (votx_8 : Int32).toInt ∧ (votx_8 : Int32).toInt ≤ 64 from ⟨by omega, by omega⟩), (show (votx_8 : Int32).toInt ≤ (votx : Int32).toInt + 1 from (by omega)), (show (votx : Int32).toInt ≤ (votx_8 : Int32).toInt from (by omega))⟩ (hP.sub [0, 1] rfl) (hD.sub [0, 1] rfl rfl) hS dX11_writeWord_30
abbrev O_m_writeWord_2 (cy : Nat → ClassId) (vo : Nat) (voth : Int32) (vmt : Nat) (votp : Int32) (vosz : Int32) (volm : Int32) (voto : Int32) (vofr : Int32) (vokd : Int32) (vonu : Int32) (vosg : Int32) (vofa : Int32) (vopl : Int32) (vowd : Int64) (votd : Int32) (vmn : Nat) (vmr : Nat) (vmk : Nat) (vms : Nat) (vma : Nat) (vmm : Nat) (vmrn : Nat) (vmkn : Nat) (vmik : Nat) (vmon : Nat) (vosm : Int32) (vohp : Int32) (vmw : Nat) (vmf : Nat) (vmb : Nat) (vomb : Int32) (vmd : Nat) (vmc : Nat) (vocm : Int32) (voct : Int32) (vocy : Int32) (vmx : Nat) (votx : Int32) (vose : Int32) (vml : Nat) (vmwr : Nat) (voln : Int32) (vohw : Int32) (vmno : Nat) (vond : Int32) (voon : Int32) (vowi : Int32) (votop : Int32) (vmxf : Nat → Int32) (vw : Int64) (u : Int32 × (Nat → Int32)) : va_W := [(vo, .inr (12, [.int voth, .ref vmt, .int votp, .int vosz, .int volm, .int voto, .int vofr, .int vokd, .int vonu, .int vosg, .int vofa, .int vopl, .long vowd, .int votd, .ref vmn, .ref vmr, .ref vmk, .ref vms, .ref vma, .ref vmm, .ref vmrn, .ref vmkn, .ref vmik, .ref vmon, .int vosm, .int vohp, .ref vmw, .ref vmf, .ref vmb, .int vomb, .ref vmd, .ref vmc, .int vocm, .int voct, .int vocy, .ref vmx, .int u.1, .int vose, .ref vml, .ref vmwr, .int voln, .int vohw, .ref vmno, .int vond, .int voon, .int vowi, .int votop])), (vmx, .inl (cy 0, 64, .inl u.2))]
theorem dX11_writeWord_8 : decode cX11_writeWord 8 = .ok (.aload_n 0, 1) := by decide +kernel
theorem dX11_writeWord_9 : decode cX11_writeWord 9 = .ok (.lload_n 1, 1) := by decide +kernel
theorem dX11_writeWord_10 : decode cX11_writeWord 10 = .ok (.ldc2_w 54, 3) := by decide +kernel
theorem dX11_writeWord_13 : decode cX11_writeWord 13 = .ok (.ldiv, 1) := by decide +kernel
theorem dX11_writeWord_14 : decode cX11_writeWord 14 = .ok (.invokevirtual 338, 3) := by decide +kernel
theorem t1926 : Cond.methodLink RX11 338 yX11_writeWord ∈ GW := gw_mem 2040 (by decide +kernel) (by decide +kernel)
theorem t1928 : Cond.instanceMethod yX11_writeWord ∈ GW := gw_mem 2042 (by decide +kernel) (by decide +kernel)
theorem s88 : Cond.selects RX11 yX11_writeWord yX11_writeWord ∈ GW := gw_mem 88 (by decide +kernel) (by decide +kernel)
theorem cw_X11_338 {R : Room} {s : State} {args : Array Value} {rm : Room} {mc ms : Nat} (hts : ∀ w ∈ GW, w.before args s = true) (hrc : rm.cells = mc) (hrs : rm.slots = ms) (hR : rm.frames + 1 ≤ R.frames ∧ 8 + (3 + 11) + rm.locals ≤ R.locals) : CallW R s args RX11 RX11 338 yX11_writeWord cX11_writeWord 3 none (wl yX11_writeWord cX11_writeWord 3 none) rm mc ms 1 := cwV 1 hts (gi_V t1926 t1928 s88 t18 t1929) rfl hrc hrs (by decide +kernel) hR
set_option maxHeartbeats 4000000 in
set_option maxRecDepth 100000 in
theorem m_writeWord_2 (l : Launch) (dC : Nat → ClassId) (dI : Nat → Nat → Nat) (cy : Nat → ClassId) (sz : Nat) (vo : Nat) (voth : Int32) (vmt : Nat) (votp : Int32) (vosz : Int32) (volm : Int32) (voto : Int32) (vofr : Int32) (vokd : Int32) (vonu : Int32) (vosg : Int32) (vofa : Int32) (vopl : Int32) (vowd : Int64) (votd : Int32) (vmn : Nat) (vmr : Nat) (vmk : Nat) (vms : Nat) (vma : Nat) (vmm : Nat) (vmrn : Nat) (vmkn : Nat) (vmik : Nat) (vmon : Nat) (vosm : Int32) (vohp : Int32) (vmw : Nat) (vmf : Nat) (vmb : Nat) (vomb : Int32) (vmd : Nat) (vmc : Nat) (vocm : Int32) (voct : Int32) (vocy : Int32) (vmx : Nat) (votx : Int32) (vose : Int32) (vml : Nat) (vmwr : Nat) (voln : Int32) (vohw : Int32) (vmno : Nat) (vond : Int32) (voon : Int32) (vowi : Int32) (votop : Int32) (vmxf : Nat → Int32) (vw : Int64) (r_votx : 0 ≤ (votx : Int32).toInt ∧ (votx : Int32).toInt ≤ 62) (hw : (vw : Int64).toInt < 729) : Met l yX11_writeWord (wl yX11_writeWord cX11_writeWord 3 none) ({ frames := 2, cells := 0, slots := 0, locals := 128 }) (Pw (dC, dI) vwCl cy [(vo, .inr (12, [.int voth, .ref vmt, .int votp, .int vosz, .int volm, .int voto, .int vofr, .int vokd, .int vonu, .int vosg, .int vofa, .int vopl, .long vowd, .int votd, .ref vmn, .ref vmr, .ref vmk, .ref vms, .ref vma, .ref vmm, .ref vmrn, .ref vmkn, .ref vmik, .ref vmon, .int vosm, .int vohp, .ref vmw, .ref vmf, .ref vmb, .int vomb, .ref vmd, .ref vmc, .int vocm, .int voct, .int vocy, .ref vmx, .int votx, .int vose, .ref vml, .ref vmwr, .int voln, .int vohw, .ref vmno, .int vond, .int voon, .int vowi, .int votop])), (vmx, .inl (cy 0, 64, .inl vmxf))] sz [.ref vo, .long vw] nE) (Qv (dC, dI) vwCl (fun (u : Int32 × (Nat → Int32)) => (0 ≤ (u.1 : Int32).toInt ∧ (u.1 : Int32).toInt ≤ 64) ∧ ((u.1 : Int32).toInt ≤ (votx : Int32).toInt + 2) ∧ ((votx : Int32).toInt ≤ (u.1 : Int32).toInt)) (O_m_writeWord_2 cy vo voth vmt votp vosz volm voto vofr vokd vonu vosg vofa vopl vowd votd vmn vmr vmk vms vma vmm vmrn vmkn vmik vmon vosm vohp vmw vmf vmb vomb vmd vmc vocm voct vocy vmx votx vose vml vmwr voln vohw vmno vond voon vowi votop vmxf vw) (va_A [(vo, .inr (12, [.int voth, .ref vmt, .int votp, .int vosz, .int volm, .int voto, .int vofr, .int vokd, .int vonu, .int vosg, .int vofa, .int vopl, .long vowd, .int votd, .ref vmn, .ref vmr, .ref vmk, .ref vms, .ref vma, .ref vmm, .ref vmrn, .ref vmkn, .ref vmik, .ref vmon, .int vosm, .int vohp, .ref vmw, .ref vmf, .ref vmb, .int vomb, .ref vmd, .ref vmc, .int vocm, .int voct, .int vocy, .ref vmx, .int votx, .int vose, .ref vml, .ref vmwr, .int voln, .int vohw, .ref vmno, .int vond, .int voon, .int vowi, .int votop])), (vmx, .inl (cy 0, 64, .inl vmxf))] sz)) 0 0 (va_A [(vo, .inr (12, [.int voth, .ref vmt, .int votp, .int vosz, .int volm, .int voto, .int vofr, .int vokd, .int vonu, .int vosg, .int vofa, .int vopl, .long vowd, .int votd, .ref vmn, .ref vmr, .ref vmk, .ref vms, .ref vma, .ref vmm, .ref vmrn, .ref vmkn, .ref vmik, .ref vmon, .int vosm, .int vohp, .ref vmw, .ref vmf, .ref vmb, .int vomb, .ref vmd, .ref vmc, .int vocm, .int voct, .int vocy, .ref vmx, .int votx, .int vose, .ref vml, .ref vmwr, .int voln, .int vohw, .ref vmno, .int vond, .int voon, .int vowi, .int votop])), (vmx, .inl (cy 0, 64, .inl vmxf))] sz) := by
  refine mw (Qc := Qv (dC, dI) vwCl (fun (u : Int32 × (Nat → Int32)) => (0 ≤ (u.1 : Int32).toInt ∧ (u.1 : Int32).toInt ≤ 64) ∧ ((u.1 : Int32).toInt ≤ (votx : Int32).toInt + 2) ∧ ((votx : Int32).toInt ≤ (u.1 : Int32).toInt)) (O_m_writeWord_2 cy vo voth vmt votp vosz volm voto vofr vokd vonu vosg vofa vopl vowd votd vmn vmr vmk vms vma vmm vmrn vmkn vmik vmon vosm vohp vmw vmf vmb vomb vmd vmc vocm voct vocy vmx votx vose vml vmwr voln vohw vmno vond voon vowi votop vmxf vw)) RX11 rfl (by decide +kernel) (Nat.le_of_ble_eq_true rfl) ?_
  intro p e s m below meth c A hx hb hr hlocks av9 hav hts hown hnm hml hK hP hD hA hS hE hAe Q9 hQ9 ls hl
  have hl : lv_has ls 3 [(0, .ref vo), (1, .long vw)] := hl
  refine lv_lload_n hx hb dX11_writeWord_0 rfl (lv_at hl 1 rfl) ?_
  refine lv_ldc2 hx hb hown (hts _ t1610) dX11_writeWord_1 ?_
  refine W.lcmp hx hb dX11_writeWord_4 ?_
  refine lv_topi (fun z_1 ez_1 => ?_)
  have bz_1 : z_1.toInt < 0 ↔ vw.toInt < (27 : Int64).toInt := l_cmp ez_1
  have kl_27 : (27 : Int64).toInt = 27 := by decide
  have k_0 : (0 : Int32).toInt = 0 := by decide
  refine lv_if_lt (tgt := 17) hx hb dX11_writeWord_5 (by decide) (fun c_2 => ?_) (fun c_2 => ?_)
  · skip
    have c_2 : z_1.toInt < (0 : Int32).toInt := i_lt.mp c_2
    refine lv_aload_n hx hb dX11_writeWord_17 rfl (lv_at hl 0 rfl) ?_
    refine lv_bipush (v := 96) hx hb dX11_writeWord_18 (by decide) ?_
    refine lv_lload_n hx hb dX11_writeWord_20 rfl (lv_at hl 1 rfl) ?_
    refine lv_ldc2 hx hb hown (hts _ t1610) dX11_writeWord_21 ?_
    refine lv_lrem hx hb dX11_writeWord_24 (by decide) ?_
    refine lv_topl (fun y_3 ey_3 => ?_)
    refine lv_l2i hx hb dX11_writeWord_25 rfl ?_
    refine lv_topi (fun z_4 ez_4 => ?_)
    refine lv_iadd hx hb dX11_writeWord_26 ?_
    refine lv_topi (fun z_5 ez_5 => ?_)
    refine jn_v (wr := []) (rV (As := [.int z_5]) (rest := []) (ci := 12) ⟨hx, hb, hml, hown, hts⟩ (m_write l dC dI cy _ vo voth vmt votp vosz volm voto vofr vokd vonu vosg vofa vopl vowd votd vmn vmr vmk vms vma vmm vmrn vmkn vmik vmon vosm vohp vmw vmf vmb vomb vmd vmc vocm voct vocy vmx votx vose vml vmwr voln vohw vmno vond voon vowi votop vmxf z_5 ⟨by omega, by omega⟩) (cw_X11_342 hts rfl rfl ⟨Nat.le_of_ble_eq_true rfl, Nat.le_of_ble_eq_true rfl⟩) hP hD hK [0, 1] rfl rfl rfl rfl bl0 e0 rfl hl.1 rfl (Nat.le_of_ble_eq_true rfl) dX11_writeWord_27 ⟨Nat.le_of_ble_eq_true rfl, Nat.le_of_ble_eq_true rfl⟩) hP hD hS hA [0, 1] [] rfl rfl rfl (by decide) (fun u_8 H locs hp_7 hP hD hS => ?_)
    obtain ⟨votx_9, vmxf_10⟩ := u_8
    have hp_7 : (0 ≤ (votx_9 : Int32).toInt ∧ (votx_9 : Int32).toInt ≤ 64) ∧ ((votx_9 : Int32).toInt = (votx : Int32).toInt + 1) := hp_7
    obtain ⟨q_11, q_12⟩ := hp_7
    have hP : va_P (dC, dI) vwCl [(vo, .inr (12, [.int voth, .ref vmt, .int votp, .int vosz, .int volm, .int voto, .int vofr, .int vokd, .int vonu, .int vosg, .int vofa, .int vopl, .long vowd, .int votd, .ref vmn, .ref vmr, .ref vmk, .ref vms, .ref vma, .ref vmm, .ref vmrn, .ref vmkn, .ref vmik, .ref vmon, .int vosm, .int vohp, .ref vmw, .ref vmf, .ref vmb, .int vomb, .ref vmd, .ref vmc, .int vocm, .int voct, .int vocy, .ref vmx, .int votx_9, .int vose, .ref vml, .ref vmwr, .int voln, .int vohw, .ref vmno, .int vond, .int voon, .int vowi, .int votop])), (vmx, .inl (cy 0, 64, .inl vmxf_10))] H := hP
    have hD : va_D A [(vo, .inr (12, [.int voth, .ref vmt, .int votp, .int vosz, .int volm, .int voto, .int vofr, .int vokd, .int vonu, .int vosg, .int vofa, .int vopl, .long vowd, .int votd, .ref vmn, .ref vmr, .ref vmk, .ref vms, .ref vma, .ref vmm, .ref vmrn, .ref vmkn, .ref vmik, .ref vmon, .int vosm, .int vohp, .ref vmw, .ref vmf, .ref vmb, .int vomb, .ref vmd, .ref vmc, .int vocm, .int voct, .int vocy, .ref vmx, .int votx_9, .int vose, .ref vml, .ref vmwr, .int voln, .int vohw, .ref vmno, .int vond, .int voon, .int vowi, .int votop])), (vmx, .inl (cy 0, 64, .inl vmxf_10))] := hD
    rw [hQ9]
    exact re_v (votx_9, vmxf_10) hx hb hr hlocks ⟨(show 0 ≤ (votx_9 : Int32).toInt ∧ (votx_9 : Int32).toInt ≤ 64 from ⟨by omega, by omega⟩), (show (votx_9 : Int32).toInt ≤ (votx : Int32).toInt + 2 from (by omega)), (show (votx : Int32).toInt ≤ (votx_9 : Int32).toInt from (by omega))⟩ (hP.sub [0, 1] rfl) (hD.sub [0, 1] rfl rfl) hS dX11_writeWord_30
  · skip
    have c_2 : ¬ (z_1.toInt < (0 : Int32).toInt) := fun h9 => c_2 (i_lt.mpr h9)
    refine lv_aload_n hx hb dX11_writeWord_8 rfl (lv_at hl 0 rfl) ?_
    refine lv_lload_n hx hb dX11_writeWord_9 rfl (lv_at hl 1 rfl) ?_
    refine lv_ldc2 hx hb hown (hts _ t1610) dX11_writeWord_10 ?_
    refine lv_ldiv hx hb dX11_writeWord_13 (by decide) ?_
    refine lv_topl (fun y_13 ey_13 => ?_)
    have by_13 : 0 ≤ y_13.toInt ∧ y_13.toInt * 27 ≤ vw.toInt := l_div27 ey_13 (by omega)
    refine jn_v (wr := []) (rV (As := [.long y_13]) (rest := []) (ci := 12) ⟨hx, hb, hml, hown, hts⟩ (m_writeWord_1 l dC dI cy _ vo voth vmt votp vosz volm voto vofr vokd vonu vosg vofa vopl vowd votd vmn vmr vmk vms vma vmm vmrn vmkn vmik vmon vosm vohp vmw vmf vmb vomb vmd vmc vocm voct vocy vmx votx vose vml vmwr voln vohw vmno vond voon vowi votop vmxf y_13 ⟨by omega, by omega⟩ (by omega)) (cw_X11_338 hts rfl rfl ⟨Nat.le_of_ble_eq_true rfl, Nat.le_of_ble_eq_true rfl⟩) hP hD hK [0, 1] rfl rfl rfl rfl bl0 e0 rfl hl.1 rfl (Nat.le_of_ble_eq_true rfl) dX11_writeWord_14 ⟨Nat.le_of_ble_eq_true rfl, Nat.le_of_ble_eq_true rfl⟩) hP hD hS hA [0, 1] [] rfl rfl rfl (by decide) (fun u_16 H locs hp_15 hP hD hS => ?_)
    obtain ⟨votx_17, vmxf_18⟩ := u_16
    have hp_15 : (0 ≤ (votx_17 : Int32).toInt ∧ (votx_17 : Int32).toInt ≤ 64) ∧ ((votx_17 : Int32).toInt ≤ (votx : Int32).toInt + 1) ∧ ((votx : Int32).toInt ≤ (votx_17 : Int32).toInt) := hp_15
    obtain ⟨q_19, q_20, q_21⟩ := hp_15
    have hP : va_P (dC, dI) vwCl [(vo, .inr (12, [.int voth, .ref vmt, .int votp, .int vosz, .int volm, .int voto, .int vofr, .int vokd, .int vonu, .int vosg, .int vofa, .int vopl, .long vowd, .int votd, .ref vmn, .ref vmr, .ref vmk, .ref vms, .ref vma, .ref vmm, .ref vmrn, .ref vmkn, .ref vmik, .ref vmon, .int vosm, .int vohp, .ref vmw, .ref vmf, .ref vmb, .int vomb, .ref vmd, .ref vmc, .int vocm, .int voct, .int vocy, .ref vmx, .int votx_17, .int vose, .ref vml, .ref vmwr, .int voln, .int vohw, .ref vmno, .int vond, .int voon, .int vowi, .int votop])), (vmx, .inl (cy 0, 64, .inl vmxf_18))] H := hP
    have hD : va_D A [(vo, .inr (12, [.int voth, .ref vmt, .int votp, .int vosz, .int volm, .int voto, .int vofr, .int vokd, .int vonu, .int vosg, .int vofa, .int vopl, .long vowd, .int votd, .ref vmn, .ref vmr, .ref vmk, .ref vms, .ref vma, .ref vmm, .ref vmrn, .ref vmkn, .ref vmik, .ref vmon, .int vosm, .int vohp, .ref vmw, .ref vmf, .ref vmb, .int vomb, .ref vmd, .ref vmc, .int vocm, .int voct, .int vocy, .ref vmx, .int votx_17, .int vose, .ref vml, .ref vmwr, .int voln, .int vohw, .ref vmno, .int vond, .int voon, .int vowi, .int votop])), (vmx, .inl (cy 0, 64, .inl vmxf_18))] := hD
    refine lv_aload_n hx hb dX11_writeWord_17 rfl (lv_at hl 0 rfl) ?_
    refine lv_bipush (v := 96) hx hb dX11_writeWord_18 (by decide) ?_
    refine lv_lload_n hx hb dX11_writeWord_20 rfl (lv_at hl 1 rfl) ?_
    refine lv_ldc2 hx hb hown (hts _ t1610) dX11_writeWord_21 ?_
    refine lv_lrem hx hb dX11_writeWord_24 (by decide) ?_
    refine lv_topl (fun y_22 ey_22 => ?_)
    refine lv_l2i hx hb dX11_writeWord_25 rfl ?_
    refine lv_topi (fun z_23 ez_23 => ?_)
    refine lv_iadd hx hb dX11_writeWord_26 ?_
    refine lv_topi (fun z_24 ez_24 => ?_)
    refine jn_v (wr := []) (rV (As := [.int z_24]) (rest := []) (ci := 12) ⟨hx, hb, hml, hown, hts⟩ (m_write l dC dI cy _ vo voth vmt votp vosz volm voto vofr vokd vonu vosg vofa vopl vowd votd vmn vmr vmk vms vma vmm vmrn vmkn vmik vmon vosm vohp vmw vmf vmb vomb vmd vmc vocm voct vocy vmx votx_17 vose vml vmwr voln vohw vmno vond voon vowi votop vmxf_18 z_24 ⟨by omega, by omega⟩) (cw_X11_342 hts rfl rfl ⟨Nat.le_of_ble_eq_true rfl, Nat.le_of_ble_eq_true rfl⟩) hP hD hK [0, 1] rfl rfl rfl rfl bl0 e0 rfl hl.1 rfl (Nat.le_of_ble_eq_true rfl) dX11_writeWord_27 ⟨Nat.le_of_ble_eq_true rfl, Nat.le_of_ble_eq_true rfl⟩) hP hD hS hA [0, 1] [] rfl rfl rfl (by decide) (fun u_27 H locs hp_26 hP hD hS => ?_)
    obtain ⟨votx_28, vmxf_29⟩ := u_27
    have hp_26 : (0 ≤ (votx_28 : Int32).toInt ∧ (votx_28 : Int32).toInt ≤ 64) ∧ ((votx_28 : Int32).toInt = (votx_17 : Int32).toInt + 1) := hp_26
    obtain ⟨q_30, q_31⟩ := hp_26
    have hP : va_P (dC, dI) vwCl [(vo, .inr (12, [.int voth, .ref vmt, .int votp, .int vosz, .int volm, .int voto, .int vofr, .int vokd, .int vonu, .int vosg, .int vofa, .int vopl, .long vowd, .int votd, .ref vmn, .ref vmr, .ref vmk, .ref vms, .ref vma, .ref vmm, .ref vmrn, .ref vmkn, .ref vmik, .ref vmon, .int vosm, .int vohp, .ref vmw, .ref vmf, .ref vmb, .int vomb, .ref vmd, .ref vmc, .int vocm, .int voct, .int vocy, .ref vmx, .int votx_28, .int vose, .ref vml, .ref vmwr, .int voln, .int vohw, .ref vmno, .int vond, .int voon, .int vowi, .int votop])), (vmx, .inl (cy 0, 64, .inl vmxf_29))] H := hP
    have hD : va_D A [(vo, .inr (12, [.int voth, .ref vmt, .int votp, .int vosz, .int volm, .int voto, .int vofr, .int vokd, .int vonu, .int vosg, .int vofa, .int vopl, .long vowd, .int votd, .ref vmn, .ref vmr, .ref vmk, .ref vms, .ref vma, .ref vmm, .ref vmrn, .ref vmkn, .ref vmik, .ref vmon, .int vosm, .int vohp, .ref vmw, .ref vmf, .ref vmb, .int vomb, .ref vmd, .ref vmc, .int vocm, .int voct, .int vocy, .ref vmx, .int votx_28, .int vose, .ref vml, .ref vmwr, .int voln, .int vohw, .ref vmno, .int vond, .int voon, .int vowi, .int votop])), (vmx, .inl (cy 0, 64, .inl vmxf_29))] := hD
    rw [hQ9]
    exact re_v (votx_28, vmxf_29) hx hb hr hlocks ⟨(show 0 ≤ (votx_28 : Int32).toInt ∧ (votx_28 : Int32).toInt ≤ 64 from ⟨by omega, by omega⟩), (show (votx_28 : Int32).toInt ≤ (votx : Int32).toInt + 2 from (by omega)), (show (votx : Int32).toInt ≤ (votx_28 : Int32).toInt from (by omega))⟩ (hP.sub [0, 1] rfl) (hD.sub [0, 1] rfl rfl) hS dX11_writeWord_30
abbrev O_m_writeWord_3 (cy : Nat → ClassId) (vo : Nat) (voth : Int32) (vmt : Nat) (votp : Int32) (vosz : Int32) (volm : Int32) (voto : Int32) (vofr : Int32) (vokd : Int32) (vonu : Int32) (vosg : Int32) (vofa : Int32) (vopl : Int32) (vowd : Int64) (votd : Int32) (vmn : Nat) (vmr : Nat) (vmk : Nat) (vms : Nat) (vma : Nat) (vmm : Nat) (vmrn : Nat) (vmkn : Nat) (vmik : Nat) (vmon : Nat) (vosm : Int32) (vohp : Int32) (vmw : Nat) (vmf : Nat) (vmb : Nat) (vomb : Int32) (vmd : Nat) (vmc : Nat) (vocm : Int32) (voct : Int32) (vocy : Int32) (vmx : Nat) (votx : Int32) (vose : Int32) (vml : Nat) (vmwr : Nat) (voln : Int32) (vohw : Int32) (vmno : Nat) (vond : Int32) (voon : Int32) (vowi : Int32) (votop : Int32) (vmxf : Nat → Int32) (vw : Int64) (u : Int32 × (Nat → Int32)) : va_W := [(vo, .inr (12, [.int voth, .ref vmt, .int votp, .int vosz, .int volm, .int voto, .int vofr, .int vokd, .int vonu, .int vosg, .int vofa, .int vopl, .long vowd, .int votd, .ref vmn, .ref vmr, .ref vmk, .ref vms, .ref vma, .ref vmm, .ref vmrn, .ref vmkn, .ref vmik, .ref vmon, .int vosm, .int vohp, .ref vmw, .ref vmf, .ref vmb, .int vomb, .ref vmd, .ref vmc, .int vocm, .int voct, .int vocy, .ref vmx, .int u.1, .int vose, .ref vml, .ref vmwr, .int voln, .int vohw, .ref vmno, .int vond, .int voon, .int vowi, .int votop])), (vmx, .inl (cy 0, 64, .inl u.2))]
set_option maxHeartbeats 4000000 in
set_option maxRecDepth 100000 in
theorem m_writeWord_3 (l : Launch) (dC : Nat → ClassId) (dI : Nat → Nat → Nat) (cy : Nat → ClassId) (sz : Nat) (vo : Nat) (voth : Int32) (vmt : Nat) (votp : Int32) (vosz : Int32) (volm : Int32) (voto : Int32) (vofr : Int32) (vokd : Int32) (vonu : Int32) (vosg : Int32) (vofa : Int32) (vopl : Int32) (vowd : Int64) (votd : Int32) (vmn : Nat) (vmr : Nat) (vmk : Nat) (vms : Nat) (vma : Nat) (vmm : Nat) (vmrn : Nat) (vmkn : Nat) (vmik : Nat) (vmon : Nat) (vosm : Int32) (vohp : Int32) (vmw : Nat) (vmf : Nat) (vmb : Nat) (vomb : Int32) (vmd : Nat) (vmc : Nat) (vocm : Int32) (voct : Int32) (vocy : Int32) (vmx : Nat) (votx : Int32) (vose : Int32) (vml : Nat) (vmwr : Nat) (voln : Int32) (vohw : Int32) (vmno : Nat) (vond : Int32) (voon : Int32) (vowi : Int32) (votop : Int32) (vmxf : Nat → Int32) (vw : Int64) (r_votx : 0 ≤ (votx : Int32).toInt ∧ (votx : Int32).toInt ≤ 61) (hw : (vw : Int64).toInt < 19683) : Met l yX11_writeWord (wl yX11_writeWord cX11_writeWord 3 none) ({ frames := 3, cells := 0, slots := 0, locals := 192 }) (Pw (dC, dI) vwCl cy [(vo, .inr (12, [.int voth, .ref vmt, .int votp, .int vosz, .int volm, .int voto, .int vofr, .int vokd, .int vonu, .int vosg, .int vofa, .int vopl, .long vowd, .int votd, .ref vmn, .ref vmr, .ref vmk, .ref vms, .ref vma, .ref vmm, .ref vmrn, .ref vmkn, .ref vmik, .ref vmon, .int vosm, .int vohp, .ref vmw, .ref vmf, .ref vmb, .int vomb, .ref vmd, .ref vmc, .int vocm, .int voct, .int vocy, .ref vmx, .int votx, .int vose, .ref vml, .ref vmwr, .int voln, .int vohw, .ref vmno, .int vond, .int voon, .int vowi, .int votop])), (vmx, .inl (cy 0, 64, .inl vmxf))] sz [.ref vo, .long vw] nE) (Qv (dC, dI) vwCl (fun (u : Int32 × (Nat → Int32)) => (0 ≤ (u.1 : Int32).toInt ∧ (u.1 : Int32).toInt ≤ 64) ∧ ((u.1 : Int32).toInt ≤ (votx : Int32).toInt + 3) ∧ ((votx : Int32).toInt ≤ (u.1 : Int32).toInt)) (O_m_writeWord_3 cy vo voth vmt votp vosz volm voto vofr vokd vonu vosg vofa vopl vowd votd vmn vmr vmk vms vma vmm vmrn vmkn vmik vmon vosm vohp vmw vmf vmb vomb vmd vmc vocm voct vocy vmx votx vose vml vmwr voln vohw vmno vond voon vowi votop vmxf vw) (va_A [(vo, .inr (12, [.int voth, .ref vmt, .int votp, .int vosz, .int volm, .int voto, .int vofr, .int vokd, .int vonu, .int vosg, .int vofa, .int vopl, .long vowd, .int votd, .ref vmn, .ref vmr, .ref vmk, .ref vms, .ref vma, .ref vmm, .ref vmrn, .ref vmkn, .ref vmik, .ref vmon, .int vosm, .int vohp, .ref vmw, .ref vmf, .ref vmb, .int vomb, .ref vmd, .ref vmc, .int vocm, .int voct, .int vocy, .ref vmx, .int votx, .int vose, .ref vml, .ref vmwr, .int voln, .int vohw, .ref vmno, .int vond, .int voon, .int vowi, .int votop])), (vmx, .inl (cy 0, 64, .inl vmxf))] sz)) 0 0 (va_A [(vo, .inr (12, [.int voth, .ref vmt, .int votp, .int vosz, .int volm, .int voto, .int vofr, .int vokd, .int vonu, .int vosg, .int vofa, .int vopl, .long vowd, .int votd, .ref vmn, .ref vmr, .ref vmk, .ref vms, .ref vma, .ref vmm, .ref vmrn, .ref vmkn, .ref vmik, .ref vmon, .int vosm, .int vohp, .ref vmw, .ref vmf, .ref vmb, .int vomb, .ref vmd, .ref vmc, .int vocm, .int voct, .int vocy, .ref vmx, .int votx, .int vose, .ref vml, .ref vmwr, .int voln, .int vohw, .ref vmno, .int vond, .int voon, .int vowi, .int votop])), (vmx, .inl (cy 0, 64, .inl vmxf))] sz) := by
  refine mw (Qc := Qv (dC, dI) vwCl (fun (u : Int32 × (Nat → Int32)) => (0 ≤ (u.1 : Int32).toInt ∧ (u.1 : Int32).toInt ≤ 64) ∧ ((u.1 : Int32).toInt ≤ (votx : Int32).toInt + 3) ∧ ((votx : Int32).toInt ≤ (u.1 : Int32).toInt)) (O_m_writeWord_3 cy vo voth vmt votp vosz volm voto vofr vokd vonu vosg vofa vopl vowd votd vmn vmr vmk vms vma vmm vmrn vmkn vmik vmon vosm vohp vmw vmf vmb vomb vmd vmc vocm voct vocy vmx votx vose vml vmwr voln vohw vmno vond voon vowi votop vmxf vw)) RX11 rfl (by decide +kernel) (Nat.le_of_ble_eq_true rfl) ?_
  intro p e s m below meth c A hx hb hr hlocks av9 hav hts hown hnm hml hK hP hD hA hS hE hAe Q9 hQ9 ls hl
  have hl : lv_has ls 3 [(0, .ref vo), (1, .long vw)] := hl
  refine lv_lload_n hx hb dX11_writeWord_0 rfl (lv_at hl 1 rfl) ?_
  refine lv_ldc2 hx hb hown (hts _ t1610) dX11_writeWord_1 ?_
  refine W.lcmp hx hb dX11_writeWord_4 ?_
  refine lv_topi (fun z_1 ez_1 => ?_)
  have bz_1 : z_1.toInt < 0 ↔ vw.toInt < (27 : Int64).toInt := l_cmp ez_1
  have kl_27 : (27 : Int64).toInt = 27 := by decide
  have k_0 : (0 : Int32).toInt = 0 := by decide
  refine lv_if_lt (tgt := 17) hx hb dX11_writeWord_5 (by decide) (fun c_2 => ?_) (fun c_2 => ?_)
  · skip
    have c_2 : z_1.toInt < (0 : Int32).toInt := i_lt.mp c_2
    refine lv_aload_n hx hb dX11_writeWord_17 rfl (lv_at hl 0 rfl) ?_
    refine lv_bipush (v := 96) hx hb dX11_writeWord_18 (by decide) ?_
    refine lv_lload_n hx hb dX11_writeWord_20 rfl (lv_at hl 1 rfl) ?_
    refine lv_ldc2 hx hb hown (hts _ t1610) dX11_writeWord_21 ?_
    refine lv_lrem hx hb dX11_writeWord_24 (by decide) ?_
    refine lv_topl (fun y_3 ey_3 => ?_)
    refine lv_l2i hx hb dX11_writeWord_25 rfl ?_
    refine lv_topi (fun z_4 ez_4 => ?_)
    refine lv_iadd hx hb dX11_writeWord_26 ?_
    refine lv_topi (fun z_5 ez_5 => ?_)
    refine jn_v (wr := []) (rV (As := [.int z_5]) (rest := []) (ci := 12) ⟨hx, hb, hml, hown, hts⟩ (m_write l dC dI cy _ vo voth vmt votp vosz volm voto vofr vokd vonu vosg vofa vopl vowd votd vmn vmr vmk vms vma vmm vmrn vmkn vmik vmon vosm vohp vmw vmf vmb vomb vmd vmc vocm voct vocy vmx votx vose vml vmwr voln vohw vmno vond voon vowi votop vmxf z_5 ⟨by omega, by omega⟩) (cw_X11_342 hts rfl rfl ⟨Nat.le_of_ble_eq_true rfl, Nat.le_of_ble_eq_true rfl⟩) hP hD hK [0, 1] rfl rfl rfl rfl bl0 e0 rfl hl.1 rfl (Nat.le_of_ble_eq_true rfl) dX11_writeWord_27 ⟨Nat.le_of_ble_eq_true rfl, Nat.le_of_ble_eq_true rfl⟩) hP hD hS hA [0, 1] [] rfl rfl rfl (by decide) (fun u_8 H locs hp_7 hP hD hS => ?_)
    obtain ⟨votx_9, vmxf_10⟩ := u_8
    have hp_7 : (0 ≤ (votx_9 : Int32).toInt ∧ (votx_9 : Int32).toInt ≤ 64) ∧ ((votx_9 : Int32).toInt = (votx : Int32).toInt + 1) := hp_7
    obtain ⟨q_11, q_12⟩ := hp_7
    have hP : va_P (dC, dI) vwCl [(vo, .inr (12, [.int voth, .ref vmt, .int votp, .int vosz, .int volm, .int voto, .int vofr, .int vokd, .int vonu, .int vosg, .int vofa, .int vopl, .long vowd, .int votd, .ref vmn, .ref vmr, .ref vmk, .ref vms, .ref vma, .ref vmm, .ref vmrn, .ref vmkn, .ref vmik, .ref vmon, .int vosm, .int vohp, .ref vmw, .ref vmf, .ref vmb, .int vomb, .ref vmd, .ref vmc, .int vocm, .int voct, .int vocy, .ref vmx, .int votx_9, .int vose, .ref vml, .ref vmwr, .int voln, .int vohw, .ref vmno, .int vond, .int voon, .int vowi, .int votop])), (vmx, .inl (cy 0, 64, .inl vmxf_10))] H := hP
    have hD : va_D A [(vo, .inr (12, [.int voth, .ref vmt, .int votp, .int vosz, .int volm, .int voto, .int vofr, .int vokd, .int vonu, .int vosg, .int vofa, .int vopl, .long vowd, .int votd, .ref vmn, .ref vmr, .ref vmk, .ref vms, .ref vma, .ref vmm, .ref vmrn, .ref vmkn, .ref vmik, .ref vmon, .int vosm, .int vohp, .ref vmw, .ref vmf, .ref vmb, .int vomb, .ref vmd, .ref vmc, .int vocm, .int voct, .int vocy, .ref vmx, .int votx_9, .int vose, .ref vml, .ref vmwr, .int voln, .int vohw, .ref vmno, .int vond, .int voon, .int vowi, .int votop])), (vmx, .inl (cy 0, 64, .inl vmxf_10))] := hD
    rw [hQ9]
    exact re_v (votx_9, vmxf_10) hx hb hr hlocks ⟨(show 0 ≤ (votx_9 : Int32).toInt ∧ (votx_9 : Int32).toInt ≤ 64 from ⟨by omega, by omega⟩), (show (votx_9 : Int32).toInt ≤ (votx : Int32).toInt + 3 from (by omega)), (show (votx : Int32).toInt ≤ (votx_9 : Int32).toInt from (by omega))⟩ (hP.sub [0, 1] rfl) (hD.sub [0, 1] rfl rfl) hS dX11_writeWord_30
  · skip
    have c_2 : ¬ (z_1.toInt < (0 : Int32).toInt) := fun h9 => c_2 (i_lt.mpr h9)
    refine lv_aload_n hx hb dX11_writeWord_8 rfl (lv_at hl 0 rfl) ?_
    refine lv_lload_n hx hb dX11_writeWord_9 rfl (lv_at hl 1 rfl) ?_
    refine lv_ldc2 hx hb hown (hts _ t1610) dX11_writeWord_10 ?_
    refine lv_ldiv hx hb dX11_writeWord_13 (by decide) ?_
    refine lv_topl (fun y_13 ey_13 => ?_)
    have by_13 : 0 ≤ y_13.toInt ∧ y_13.toInt * 27 ≤ vw.toInt := l_div27 ey_13 (by omega)
    refine jn_v (wr := []) (rV (As := [.long y_13]) (rest := []) (ci := 12) ⟨hx, hb, hml, hown, hts⟩ (m_writeWord_2 l dC dI cy _ vo voth vmt votp vosz volm voto vofr vokd vonu vosg vofa vopl vowd votd vmn vmr vmk vms vma vmm vmrn vmkn vmik vmon vosm vohp vmw vmf vmb vomb vmd vmc vocm voct vocy vmx votx vose vml vmwr voln vohw vmno vond voon vowi votop vmxf y_13 ⟨by omega, by omega⟩ (by omega)) (cw_X11_338 hts rfl rfl ⟨Nat.le_of_ble_eq_true rfl, Nat.le_of_ble_eq_true rfl⟩) hP hD hK [0, 1] rfl rfl rfl rfl bl0 e0 rfl hl.1 rfl (Nat.le_of_ble_eq_true rfl) dX11_writeWord_14 ⟨Nat.le_of_ble_eq_true rfl, Nat.le_of_ble_eq_true rfl⟩) hP hD hS hA [0, 1] [] rfl rfl rfl (by decide) (fun u_16 H locs hp_15 hP hD hS => ?_)
    obtain ⟨votx_17, vmxf_18⟩ := u_16
    have hp_15 : (0 ≤ (votx_17 : Int32).toInt ∧ (votx_17 : Int32).toInt ≤ 64) ∧ ((votx_17 : Int32).toInt ≤ (votx : Int32).toInt + 2) ∧ ((votx : Int32).toInt ≤ (votx_17 : Int32).toInt) := hp_15
    obtain ⟨q_19, q_20, q_21⟩ := hp_15
    have hP : va_P (dC, dI) vwCl [(vo, .inr (12, [.int voth, .ref vmt, .int votp, .int vosz, .int volm, .int voto, .int vofr, .int vokd, .int vonu, .int vosg, .int vofa, .int vopl, .long vowd, .int votd, .ref vmn, .ref vmr, .ref vmk, .ref vms, .ref vma, .ref vmm, .ref vmrn, .ref vmkn, .ref vmik, .ref vmon, .int vosm, .int vohp, .ref vmw, .ref vmf, .ref vmb, .int vomb, .ref vmd, .ref vmc, .int vocm, .int voct, .int vocy, .ref vmx, .int votx_17, .int vose, .ref vml, .ref vmwr, .int voln, .int vohw, .ref vmno, .int vond, .int voon, .int vowi, .int votop])), (vmx, .inl (cy 0, 64, .inl vmxf_18))] H := hP
    have hD : va_D A [(vo, .inr (12, [.int voth, .ref vmt, .int votp, .int vosz, .int volm, .int voto, .int vofr, .int vokd, .int vonu, .int vosg, .int vofa, .int vopl, .long vowd, .int votd, .ref vmn, .ref vmr, .ref vmk, .ref vms, .ref vma, .ref vmm, .ref vmrn, .ref vmkn, .ref vmik, .ref vmon, .int vosm, .int vohp, .ref vmw, .ref vmf, .ref vmb, .int vomb, .ref vmd, .ref vmc, .int vocm, .int voct, .int vocy, .ref vmx, .int votx_17, .int vose, .ref vml, .ref vmwr, .int voln, .int vohw, .ref vmno, .int vond, .int voon, .int vowi, .int votop])), (vmx, .inl (cy 0, 64, .inl vmxf_18))] := hD
    refine lv_aload_n hx hb dX11_writeWord_17 rfl (lv_at hl 0 rfl) ?_
    refine lv_bipush (v := 96) hx hb dX11_writeWord_18 (by decide) ?_
    refine lv_lload_n hx hb dX11_writeWord_20 rfl (lv_at hl 1 rfl) ?_
    refine lv_ldc2 hx hb hown (hts _ t1610) dX11_writeWord_21 ?_
    refine lv_lrem hx hb dX11_writeWord_24 (by decide) ?_
    refine lv_topl (fun y_22 ey_22 => ?_)
    refine lv_l2i hx hb dX11_writeWord_25 rfl ?_
    refine lv_topi (fun z_23 ez_23 => ?_)
    refine lv_iadd hx hb dX11_writeWord_26 ?_
    refine lv_topi (fun z_24 ez_24 => ?_)
    refine jn_v (wr := []) (rV (As := [.int z_24]) (rest := []) (ci := 12) ⟨hx, hb, hml, hown, hts⟩ (m_write l dC dI cy _ vo voth vmt votp vosz volm voto vofr vokd vonu vosg vofa vopl vowd votd vmn vmr vmk vms vma vmm vmrn vmkn vmik vmon vosm vohp vmw vmf vmb vomb vmd vmc vocm voct vocy vmx votx_17 vose vml vmwr voln vohw vmno vond voon vowi votop vmxf_18 z_24 ⟨by omega, by omega⟩) (cw_X11_342 hts rfl rfl ⟨Nat.le_of_ble_eq_true rfl, Nat.le_of_ble_eq_true rfl⟩) hP hD hK [0, 1] rfl rfl rfl rfl bl0 e0 rfl hl.1 rfl (Nat.le_of_ble_eq_true rfl) dX11_writeWord_27 ⟨Nat.le_of_ble_eq_true rfl, Nat.le_of_ble_eq_true rfl⟩) hP hD hS hA [0, 1] [] rfl rfl rfl (by decide) (fun u_27 H locs hp_26 hP hD hS => ?_)
    obtain ⟨votx_28, vmxf_29⟩ := u_27
    have hp_26 : (0 ≤ (votx_28 : Int32).toInt ∧ (votx_28 : Int32).toInt ≤ 64) ∧ ((votx_28 : Int32).toInt = (votx_17 : Int32).toInt + 1) := hp_26
    obtain ⟨q_30, q_31⟩ := hp_26
    have hP : va_P (dC, dI) vwCl [(vo, .inr (12, [.int voth, .ref vmt, .int votp, .int vosz, .int volm, .int voto, .int vofr, .int vokd, .int vonu, .int vosg, .int vofa, .int vopl, .long vowd, .int votd, .ref vmn, .ref vmr, .ref vmk, .ref vms, .ref vma, .ref vmm, .ref vmrn, .ref vmkn, .ref vmik, .ref vmon, .int vosm, .int vohp, .ref vmw, .ref vmf, .ref vmb, .int vomb, .ref vmd, .ref vmc, .int vocm, .int voct, .int vocy, .ref vmx, .int votx_28, .int vose, .ref vml, .ref vmwr, .int voln, .int vohw, .ref vmno, .int vond, .int voon, .int vowi, .int votop])), (vmx, .inl (cy 0, 64, .inl vmxf_29))] H := hP
    have hD : va_D A [(vo, .inr (12, [.int voth, .ref vmt, .int votp, .int vosz, .int volm, .int voto, .int vofr, .int vokd, .int vonu, .int vosg, .int vofa, .int vopl, .long vowd, .int votd, .ref vmn, .ref vmr, .ref vmk, .ref vms, .ref vma, .ref vmm, .ref vmrn, .ref vmkn, .ref vmik, .ref vmon, .int vosm, .int vohp, .ref vmw, .ref vmf, .ref vmb, .int vomb, .ref vmd, .ref vmc, .int vocm, .int voct, .int vocy, .ref vmx, .int votx_28, .int vose, .ref vml, .ref vmwr, .int voln, .int vohw, .ref vmno, .int vond, .int voon, .int vowi, .int votop])), (vmx, .inl (cy 0, 64, .inl vmxf_29))] := hD
    rw [hQ9]
    exact re_v (votx_28, vmxf_29) hx hb hr hlocks ⟨(show 0 ≤ (votx_28 : Int32).toInt ∧ (votx_28 : Int32).toInt ≤ 64 from ⟨by omega, by omega⟩), (show (votx_28 : Int32).toInt ≤ (votx : Int32).toInt + 3 from (by omega)), (show (votx : Int32).toInt ≤ (votx_28 : Int32).toInt from (by omega))⟩ (hP.sub [0, 1] rfl) (hD.sub [0, 1] rfl rfl) hS dX11_writeWord_30
abbrev O_m_writeWord_4 (cy : Nat → ClassId) (vo : Nat) (voth : Int32) (vmt : Nat) (votp : Int32) (vosz : Int32) (volm : Int32) (voto : Int32) (vofr : Int32) (vokd : Int32) (vonu : Int32) (vosg : Int32) (vofa : Int32) (vopl : Int32) (vowd : Int64) (votd : Int32) (vmn : Nat) (vmr : Nat) (vmk : Nat) (vms : Nat) (vma : Nat) (vmm : Nat) (vmrn : Nat) (vmkn : Nat) (vmik : Nat) (vmon : Nat) (vosm : Int32) (vohp : Int32) (vmw : Nat) (vmf : Nat) (vmb : Nat) (vomb : Int32) (vmd : Nat) (vmc : Nat) (vocm : Int32) (voct : Int32) (vocy : Int32) (vmx : Nat) (votx : Int32) (vose : Int32) (vml : Nat) (vmwr : Nat) (voln : Int32) (vohw : Int32) (vmno : Nat) (vond : Int32) (voon : Int32) (vowi : Int32) (votop : Int32) (vmxf : Nat → Int32) (vw : Int64) (u : Int32 × (Nat → Int32)) : va_W := [(vo, .inr (12, [.int voth, .ref vmt, .int votp, .int vosz, .int volm, .int voto, .int vofr, .int vokd, .int vonu, .int vosg, .int vofa, .int vopl, .long vowd, .int votd, .ref vmn, .ref vmr, .ref vmk, .ref vms, .ref vma, .ref vmm, .ref vmrn, .ref vmkn, .ref vmik, .ref vmon, .int vosm, .int vohp, .ref vmw, .ref vmf, .ref vmb, .int vomb, .ref vmd, .ref vmc, .int vocm, .int voct, .int vocy, .ref vmx, .int u.1, .int vose, .ref vml, .ref vmwr, .int voln, .int vohw, .ref vmno, .int vond, .int voon, .int vowi, .int votop])), (vmx, .inl (cy 0, 64, .inl u.2))]
set_option maxHeartbeats 4000000 in
set_option maxRecDepth 100000 in
theorem m_writeWord_4 (l : Launch) (dC : Nat → ClassId) (dI : Nat → Nat → Nat) (cy : Nat → ClassId) (sz : Nat) (vo : Nat) (voth : Int32) (vmt : Nat) (votp : Int32) (vosz : Int32) (volm : Int32) (voto : Int32) (vofr : Int32) (vokd : Int32) (vonu : Int32) (vosg : Int32) (vofa : Int32) (vopl : Int32) (vowd : Int64) (votd : Int32) (vmn : Nat) (vmr : Nat) (vmk : Nat) (vms : Nat) (vma : Nat) (vmm : Nat) (vmrn : Nat) (vmkn : Nat) (vmik : Nat) (vmon : Nat) (vosm : Int32) (vohp : Int32) (vmw : Nat) (vmf : Nat) (vmb : Nat) (vomb : Int32) (vmd : Nat) (vmc : Nat) (vocm : Int32) (voct : Int32) (vocy : Int32) (vmx : Nat) (votx : Int32) (vose : Int32) (vml : Nat) (vmwr : Nat) (voln : Int32) (vohw : Int32) (vmno : Nat) (vond : Int32) (voon : Int32) (vowi : Int32) (votop : Int32) (vmxf : Nat → Int32) (vw : Int64) (r_votx : 0 ≤ (votx : Int32).toInt ∧ (votx : Int32).toInt ≤ 60) (hw : (vw : Int64).toInt < 531441) : Met l yX11_writeWord (wl yX11_writeWord cX11_writeWord 3 none) ({ frames := 4, cells := 0, slots := 0, locals := 256 }) (Pw (dC, dI) vwCl cy [(vo, .inr (12, [.int voth, .ref vmt, .int votp, .int vosz, .int volm, .int voto, .int vofr, .int vokd, .int vonu, .int vosg, .int vofa, .int vopl, .long vowd, .int votd, .ref vmn, .ref vmr, .ref vmk, .ref vms, .ref vma, .ref vmm, .ref vmrn, .ref vmkn, .ref vmik, .ref vmon, .int vosm, .int vohp, .ref vmw, .ref vmf, .ref vmb, .int vomb, .ref vmd, .ref vmc, .int vocm, .int voct, .int vocy, .ref vmx, .int votx, .int vose, .ref vml, .ref vmwr, .int voln, .int vohw, .ref vmno, .int vond, .int voon, .int vowi, .int votop])), (vmx, .inl (cy 0, 64, .inl vmxf))] sz [.ref vo, .long vw] nE) (Qv (dC, dI) vwCl (fun (u : Int32 × (Nat → Int32)) => (0 ≤ (u.1 : Int32).toInt ∧ (u.1 : Int32).toInt ≤ 64) ∧ ((u.1 : Int32).toInt ≤ (votx : Int32).toInt + 4) ∧ ((votx : Int32).toInt ≤ (u.1 : Int32).toInt)) (O_m_writeWord_4 cy vo voth vmt votp vosz volm voto vofr vokd vonu vosg vofa vopl vowd votd vmn vmr vmk vms vma vmm vmrn vmkn vmik vmon vosm vohp vmw vmf vmb vomb vmd vmc vocm voct vocy vmx votx vose vml vmwr voln vohw vmno vond voon vowi votop vmxf vw) (va_A [(vo, .inr (12, [.int voth, .ref vmt, .int votp, .int vosz, .int volm, .int voto, .int vofr, .int vokd, .int vonu, .int vosg, .int vofa, .int vopl, .long vowd, .int votd, .ref vmn, .ref vmr, .ref vmk, .ref vms, .ref vma, .ref vmm, .ref vmrn, .ref vmkn, .ref vmik, .ref vmon, .int vosm, .int vohp, .ref vmw, .ref vmf, .ref vmb, .int vomb, .ref vmd, .ref vmc, .int vocm, .int voct, .int vocy, .ref vmx, .int votx, .int vose, .ref vml, .ref vmwr, .int voln, .int vohw, .ref vmno, .int vond, .int voon, .int vowi, .int votop])), (vmx, .inl (cy 0, 64, .inl vmxf))] sz)) 0 0 (va_A [(vo, .inr (12, [.int voth, .ref vmt, .int votp, .int vosz, .int volm, .int voto, .int vofr, .int vokd, .int vonu, .int vosg, .int vofa, .int vopl, .long vowd, .int votd, .ref vmn, .ref vmr, .ref vmk, .ref vms, .ref vma, .ref vmm, .ref vmrn, .ref vmkn, .ref vmik, .ref vmon, .int vosm, .int vohp, .ref vmw, .ref vmf, .ref vmb, .int vomb, .ref vmd, .ref vmc, .int vocm, .int voct, .int vocy, .ref vmx, .int votx, .int vose, .ref vml, .ref vmwr, .int voln, .int vohw, .ref vmno, .int vond, .int voon, .int vowi, .int votop])), (vmx, .inl (cy 0, 64, .inl vmxf))] sz) := by
  refine mw (Qc := Qv (dC, dI) vwCl (fun (u : Int32 × (Nat → Int32)) => (0 ≤ (u.1 : Int32).toInt ∧ (u.1 : Int32).toInt ≤ 64) ∧ ((u.1 : Int32).toInt ≤ (votx : Int32).toInt + 4) ∧ ((votx : Int32).toInt ≤ (u.1 : Int32).toInt)) (O_m_writeWord_4 cy vo voth vmt votp vosz volm voto vofr vokd vonu vosg vofa vopl vowd votd vmn vmr vmk vms vma vmm vmrn vmkn vmik vmon vosm vohp vmw vmf vmb vomb vmd vmc vocm voct vocy vmx votx vose vml vmwr voln vohw vmno vond voon vowi votop vmxf vw)) RX11 rfl (by decide +kernel) (Nat.le_of_ble_eq_true rfl) ?_
  intro p e s m below meth c A hx hb hr hlocks av9 hav hts hown hnm hml hK hP hD hA hS hE hAe Q9 hQ9 ls hl
  have hl : lv_has ls 3 [(0, .ref vo), (1, .long vw)] := hl
  refine lv_lload_n hx hb dX11_writeWord_0 rfl (lv_at hl 1 rfl) ?_
  refine lv_ldc2 hx hb hown (hts _ t1610) dX11_writeWord_1 ?_
  refine W.lcmp hx hb dX11_writeWord_4 ?_
  refine lv_topi (fun z_1 ez_1 => ?_)
  have bz_1 : z_1.toInt < 0 ↔ vw.toInt < (27 : Int64).toInt := l_cmp ez_1
  have kl_27 : (27 : Int64).toInt = 27 := by decide
  have k_0 : (0 : Int32).toInt = 0 := by decide
  refine lv_if_lt (tgt := 17) hx hb dX11_writeWord_5 (by decide) (fun c_2 => ?_) (fun c_2 => ?_)
  · skip
    have c_2 : z_1.toInt < (0 : Int32).toInt := i_lt.mp c_2
    refine lv_aload_n hx hb dX11_writeWord_17 rfl (lv_at hl 0 rfl) ?_
    refine lv_bipush (v := 96) hx hb dX11_writeWord_18 (by decide) ?_
    refine lv_lload_n hx hb dX11_writeWord_20 rfl (lv_at hl 1 rfl) ?_
    refine lv_ldc2 hx hb hown (hts _ t1610) dX11_writeWord_21 ?_
    refine lv_lrem hx hb dX11_writeWord_24 (by decide) ?_
    refine lv_topl (fun y_3 ey_3 => ?_)
    refine lv_l2i hx hb dX11_writeWord_25 rfl ?_
    refine lv_topi (fun z_4 ez_4 => ?_)
    refine lv_iadd hx hb dX11_writeWord_26 ?_
    refine lv_topi (fun z_5 ez_5 => ?_)
    refine jn_v (wr := []) (rV (As := [.int z_5]) (rest := []) (ci := 12) ⟨hx, hb, hml, hown, hts⟩ (m_write l dC dI cy _ vo voth vmt votp vosz volm voto vofr vokd vonu vosg vofa vopl vowd votd vmn vmr vmk vms vma vmm vmrn vmkn vmik vmon vosm vohp vmw vmf vmb vomb vmd vmc vocm voct vocy vmx votx vose vml vmwr voln vohw vmno vond voon vowi votop vmxf z_5 ⟨by omega, by omega⟩) (cw_X11_342 hts rfl rfl ⟨Nat.le_of_ble_eq_true rfl, Nat.le_of_ble_eq_true rfl⟩) hP hD hK [0, 1] rfl rfl rfl rfl bl0 e0 rfl hl.1 rfl (Nat.le_of_ble_eq_true rfl) dX11_writeWord_27 ⟨Nat.le_of_ble_eq_true rfl, Nat.le_of_ble_eq_true rfl⟩) hP hD hS hA [0, 1] [] rfl rfl rfl (by decide) (fun u_8 H locs hp_7 hP hD hS => ?_)
    obtain ⟨votx_9, vmxf_10⟩ := u_8
    have hp_7 : (0 ≤ (votx_9 : Int32).toInt ∧ (votx_9 : Int32).toInt ≤ 64) ∧ ((votx_9 : Int32).toInt = (votx : Int32).toInt + 1) := hp_7
    obtain ⟨q_11, q_12⟩ := hp_7
    have hP : va_P (dC, dI) vwCl [(vo, .inr (12, [.int voth, .ref vmt, .int votp, .int vosz, .int volm, .int voto, .int vofr, .int vokd, .int vonu, .int vosg, .int vofa, .int vopl, .long vowd, .int votd, .ref vmn, .ref vmr, .ref vmk, .ref vms, .ref vma, .ref vmm, .ref vmrn, .ref vmkn, .ref vmik, .ref vmon, .int vosm, .int vohp, .ref vmw, .ref vmf, .ref vmb, .int vomb, .ref vmd, .ref vmc, .int vocm, .int voct, .int vocy, .ref vmx, .int votx_9, .int vose, .ref vml, .ref vmwr, .int voln, .int vohw, .ref vmno, .int vond, .int voon, .int vowi, .int votop])), (vmx, .inl (cy 0, 64, .inl vmxf_10))] H := hP
    have hD : va_D A [(vo, .inr (12, [.int voth, .ref vmt, .int votp, .int vosz, .int volm, .int voto, .int vofr, .int vokd, .int vonu, .int vosg, .int vofa, .int vopl, .long vowd, .int votd, .ref vmn, .ref vmr, .ref vmk, .ref vms, .ref vma, .ref vmm, .ref vmrn, .ref vmkn, .ref vmik, .ref vmon, .int vosm, .int vohp, .ref vmw, .ref vmf, .ref vmb, .int vomb, .ref vmd, .ref vmc, .int vocm, .int voct, .int vocy, .ref vmx, .int votx_9, .int vose, .ref vml, .ref vmwr, .int voln, .int vohw, .ref vmno, .int vond, .int voon, .int vowi, .int votop])), (vmx, .inl (cy 0, 64, .inl vmxf_10))] := hD
    rw [hQ9]
    exact re_v (votx_9, vmxf_10) hx hb hr hlocks ⟨(show 0 ≤ (votx_9 : Int32).toInt ∧ (votx_9 : Int32).toInt ≤ 64 from ⟨by omega, by omega⟩), (show (votx_9 : Int32).toInt ≤ (votx : Int32).toInt + 4 from (by omega)), (show (votx : Int32).toInt ≤ (votx_9 : Int32).toInt from (by omega))⟩ (hP.sub [0, 1] rfl) (hD.sub [0, 1] rfl rfl) hS dX11_writeWord_30
  · skip
    have c_2 : ¬ (z_1.toInt < (0 : Int32).toInt) := fun h9 => c_2 (i_lt.mpr h9)
    refine lv_aload_n hx hb dX11_writeWord_8 rfl (lv_at hl 0 rfl) ?_
    refine lv_lload_n hx hb dX11_writeWord_9 rfl (lv_at hl 1 rfl) ?_
    refine lv_ldc2 hx hb hown (hts _ t1610) dX11_writeWord_10 ?_
    refine lv_ldiv hx hb dX11_writeWord_13 (by decide) ?_
    refine lv_topl (fun y_13 ey_13 => ?_)
    have by_13 : 0 ≤ y_13.toInt ∧ y_13.toInt * 27 ≤ vw.toInt := l_div27 ey_13 (by omega)
    refine jn_v (wr := []) (rV (As := [.long y_13]) (rest := []) (ci := 12) ⟨hx, hb, hml, hown, hts⟩ (m_writeWord_3 l dC dI cy _ vo voth vmt votp vosz volm voto vofr vokd vonu vosg vofa vopl vowd votd vmn vmr vmk vms vma vmm vmrn vmkn vmik vmon vosm vohp vmw vmf vmb vomb vmd vmc vocm voct vocy vmx votx vose vml vmwr voln vohw vmno vond voon vowi votop vmxf y_13 ⟨by omega, by omega⟩ (by omega)) (cw_X11_338 hts rfl rfl ⟨Nat.le_of_ble_eq_true rfl, Nat.le_of_ble_eq_true rfl⟩) hP hD hK [0, 1] rfl rfl rfl rfl bl0 e0 rfl hl.1 rfl (Nat.le_of_ble_eq_true rfl) dX11_writeWord_14 ⟨Nat.le_of_ble_eq_true rfl, Nat.le_of_ble_eq_true rfl⟩) hP hD hS hA [0, 1] [] rfl rfl rfl (by decide) (fun u_16 H locs hp_15 hP hD hS => ?_)
    obtain ⟨votx_17, vmxf_18⟩ := u_16
    have hp_15 : (0 ≤ (votx_17 : Int32).toInt ∧ (votx_17 : Int32).toInt ≤ 64) ∧ ((votx_17 : Int32).toInt ≤ (votx : Int32).toInt + 3) ∧ ((votx : Int32).toInt ≤ (votx_17 : Int32).toInt) := hp_15
    obtain ⟨q_19, q_20, q_21⟩ := hp_15
    have hP : va_P (dC, dI) vwCl [(vo, .inr (12, [.int voth, .ref vmt, .int votp, .int vosz, .int volm, .int voto, .int vofr, .int vokd, .int vonu, .int vosg, .int vofa, .int vopl, .long vowd, .int votd, .ref vmn, .ref vmr, .ref vmk, .ref vms, .ref vma, .ref vmm, .ref vmrn, .ref vmkn, .ref vmik, .ref vmon, .int vosm, .int vohp, .ref vmw, .ref vmf, .ref vmb, .int vomb, .ref vmd, .ref vmc, .int vocm, .int voct, .int vocy, .ref vmx, .int votx_17, .int vose, .ref vml, .ref vmwr, .int voln, .int vohw, .ref vmno, .int vond, .int voon, .int vowi, .int votop])), (vmx, .inl (cy 0, 64, .inl vmxf_18))] H := hP
    have hD : va_D A [(vo, .inr (12, [.int voth, .ref vmt, .int votp, .int vosz, .int volm, .int voto, .int vofr, .int vokd, .int vonu, .int vosg, .int vofa, .int vopl, .long vowd, .int votd, .ref vmn, .ref vmr, .ref vmk, .ref vms, .ref vma, .ref vmm, .ref vmrn, .ref vmkn, .ref vmik, .ref vmon, .int vosm, .int vohp, .ref vmw, .ref vmf, .ref vmb, .int vomb, .ref vmd, .ref vmc, .int vocm, .int voct, .int vocy, .ref vmx, .int votx_17, .int vose, .ref vml, .ref vmwr, .int voln, .int vohw, .ref vmno, .int vond, .int voon, .int vowi, .int votop])), (vmx, .inl (cy 0, 64, .inl vmxf_18))] := hD
    refine lv_aload_n hx hb dX11_writeWord_17 rfl (lv_at hl 0 rfl) ?_
    refine lv_bipush (v := 96) hx hb dX11_writeWord_18 (by decide) ?_
    refine lv_lload_n hx hb dX11_writeWord_20 rfl (lv_at hl 1 rfl) ?_
    refine lv_ldc2 hx hb hown (hts _ t1610) dX11_writeWord_21 ?_
    refine lv_lrem hx hb dX11_writeWord_24 (by decide) ?_
    refine lv_topl (fun y_22 ey_22 => ?_)
    refine lv_l2i hx hb dX11_writeWord_25 rfl ?_
    refine lv_topi (fun z_23 ez_23 => ?_)
    refine lv_iadd hx hb dX11_writeWord_26 ?_
    refine lv_topi (fun z_24 ez_24 => ?_)
    refine jn_v (wr := []) (rV (As := [.int z_24]) (rest := []) (ci := 12) ⟨hx, hb, hml, hown, hts⟩ (m_write l dC dI cy _ vo voth vmt votp vosz volm voto vofr vokd vonu vosg vofa vopl vowd votd vmn vmr vmk vms vma vmm vmrn vmkn vmik vmon vosm vohp vmw vmf vmb vomb vmd vmc vocm voct vocy vmx votx_17 vose vml vmwr voln vohw vmno vond voon vowi votop vmxf_18 z_24 ⟨by omega, by omega⟩) (cw_X11_342 hts rfl rfl ⟨Nat.le_of_ble_eq_true rfl, Nat.le_of_ble_eq_true rfl⟩) hP hD hK [0, 1] rfl rfl rfl rfl bl0 e0 rfl hl.1 rfl (Nat.le_of_ble_eq_true rfl) dX11_writeWord_27 ⟨Nat.le_of_ble_eq_true rfl, Nat.le_of_ble_eq_true rfl⟩) hP hD hS hA [0, 1] [] rfl rfl rfl (by decide) (fun u_27 H locs hp_26 hP hD hS => ?_)
    obtain ⟨votx_28, vmxf_29⟩ := u_27
    have hp_26 : (0 ≤ (votx_28 : Int32).toInt ∧ (votx_28 : Int32).toInt ≤ 64) ∧ ((votx_28 : Int32).toInt = (votx_17 : Int32).toInt + 1) := hp_26
    obtain ⟨q_30, q_31⟩ := hp_26
    have hP : va_P (dC, dI) vwCl [(vo, .inr (12, [.int voth, .ref vmt, .int votp, .int vosz, .int volm, .int voto, .int vofr, .int vokd, .int vonu, .int vosg, .int vofa, .int vopl, .long vowd, .int votd, .ref vmn, .ref vmr, .ref vmk, .ref vms, .ref vma, .ref vmm, .ref vmrn, .ref vmkn, .ref vmik, .ref vmon, .int vosm, .int vohp, .ref vmw, .ref vmf, .ref vmb, .int vomb, .ref vmd, .ref vmc, .int vocm, .int voct, .int vocy, .ref vmx, .int votx_28, .int vose, .ref vml, .ref vmwr, .int voln, .int vohw, .ref vmno, .int vond, .int voon, .int vowi, .int votop])), (vmx, .inl (cy 0, 64, .inl vmxf_29))] H := hP
    have hD : va_D A [(vo, .inr (12, [.int voth, .ref vmt, .int votp, .int vosz, .int volm, .int voto, .int vofr, .int vokd, .int vonu, .int vosg, .int vofa, .int vopl, .long vowd, .int votd, .ref vmn, .ref vmr, .ref vmk, .ref vms, .ref vma, .ref vmm, .ref vmrn, .ref vmkn, .ref vmik, .ref vmon, .int vosm, .int vohp, .ref vmw, .ref vmf, .ref vmb, .int vomb, .ref vmd, .ref vmc, .int vocm, .int voct, .int vocy, .ref vmx, .int votx_28, .int vose, .ref vml, .ref vmwr, .int voln, .int vohw, .ref vmno, .int vond, .int voon, .int vowi, .int votop])), (vmx, .inl (cy 0, 64, .inl vmxf_29))] := hD
    rw [hQ9]
    exact re_v (votx_28, vmxf_29) hx hb hr hlocks ⟨(show 0 ≤ (votx_28 : Int32).toInt ∧ (votx_28 : Int32).toInt ≤ 64 from ⟨by omega, by omega⟩), (show (votx_28 : Int32).toInt ≤ (votx : Int32).toInt + 4 from (by omega)), (show (votx : Int32).toInt ≤ (votx_28 : Int32).toInt from (by omega))⟩ (hP.sub [0, 1] rfl) (hD.sub [0, 1] rfl rfl) hS dX11_writeWord_30
abbrev O_m_writeWord_5 (cy : Nat → ClassId) (vo : Nat) (voth : Int32) (vmt : Nat) (votp : Int32) (vosz : Int32) (volm : Int32) (voto : Int32) (vofr : Int32) (vokd : Int32) (vonu : Int32) (vosg : Int32) (vofa : Int32) (vopl : Int32) (vowd : Int64) (votd : Int32) (vmn : Nat) (vmr : Nat) (vmk : Nat) (vms : Nat) (vma : Nat) (vmm : Nat) (vmrn : Nat) (vmkn : Nat) (vmik : Nat) (vmon : Nat) (vosm : Int32) (vohp : Int32) (vmw : Nat) (vmf : Nat) (vmb : Nat) (vomb : Int32) (vmd : Nat) (vmc : Nat) (vocm : Int32) (voct : Int32) (vocy : Int32) (vmx : Nat) (votx : Int32) (vose : Int32) (vml : Nat) (vmwr : Nat) (voln : Int32) (vohw : Int32) (vmno : Nat) (vond : Int32) (voon : Int32) (vowi : Int32) (votop : Int32) (vmxf : Nat → Int32) (vw : Int64) (u : Int32 × (Nat → Int32)) : va_W := [(vo, .inr (12, [.int voth, .ref vmt, .int votp, .int vosz, .int volm, .int voto, .int vofr, .int vokd, .int vonu, .int vosg, .int vofa, .int vopl, .long vowd, .int votd, .ref vmn, .ref vmr, .ref vmk, .ref vms, .ref vma, .ref vmm, .ref vmrn, .ref vmkn, .ref vmik, .ref vmon, .int vosm, .int vohp, .ref vmw, .ref vmf, .ref vmb, .int vomb, .ref vmd, .ref vmc, .int vocm, .int voct, .int vocy, .ref vmx, .int u.1, .int vose, .ref vml, .ref vmwr, .int voln, .int vohw, .ref vmno, .int vond, .int voon, .int vowi, .int votop])), (vmx, .inl (cy 0, 64, .inl u.2))]
set_option maxHeartbeats 4000000 in
set_option maxRecDepth 100000 in
theorem m_writeWord_5 (l : Launch) (dC : Nat → ClassId) (dI : Nat → Nat → Nat) (cy : Nat → ClassId) (sz : Nat) (vo : Nat) (voth : Int32) (vmt : Nat) (votp : Int32) (vosz : Int32) (volm : Int32) (voto : Int32) (vofr : Int32) (vokd : Int32) (vonu : Int32) (vosg : Int32) (vofa : Int32) (vopl : Int32) (vowd : Int64) (votd : Int32) (vmn : Nat) (vmr : Nat) (vmk : Nat) (vms : Nat) (vma : Nat) (vmm : Nat) (vmrn : Nat) (vmkn : Nat) (vmik : Nat) (vmon : Nat) (vosm : Int32) (vohp : Int32) (vmw : Nat) (vmf : Nat) (vmb : Nat) (vomb : Int32) (vmd : Nat) (vmc : Nat) (vocm : Int32) (voct : Int32) (vocy : Int32) (vmx : Nat) (votx : Int32) (vose : Int32) (vml : Nat) (vmwr : Nat) (voln : Int32) (vohw : Int32) (vmno : Nat) (vond : Int32) (voon : Int32) (vowi : Int32) (votop : Int32) (vmxf : Nat → Int32) (vw : Int64) (r_votx : 0 ≤ (votx : Int32).toInt ∧ (votx : Int32).toInt ≤ 59) (hw : (vw : Int64).toInt < 14348907) : Met l yX11_writeWord (wl yX11_writeWord cX11_writeWord 3 none) ({ frames := 5, cells := 0, slots := 0, locals := 320 }) (Pw (dC, dI) vwCl cy [(vo, .inr (12, [.int voth, .ref vmt, .int votp, .int vosz, .int volm, .int voto, .int vofr, .int vokd, .int vonu, .int vosg, .int vofa, .int vopl, .long vowd, .int votd, .ref vmn, .ref vmr, .ref vmk, .ref vms, .ref vma, .ref vmm, .ref vmrn, .ref vmkn, .ref vmik, .ref vmon, .int vosm, .int vohp, .ref vmw, .ref vmf, .ref vmb, .int vomb, .ref vmd, .ref vmc, .int vocm, .int voct, .int vocy, .ref vmx, .int votx, .int vose, .ref vml, .ref vmwr, .int voln, .int vohw, .ref vmno, .int vond, .int voon, .int vowi, .int votop])), (vmx, .inl (cy 0, 64, .inl vmxf))] sz [.ref vo, .long vw] nE) (Qv (dC, dI) vwCl (fun (u : Int32 × (Nat → Int32)) => (0 ≤ (u.1 : Int32).toInt ∧ (u.1 : Int32).toInt ≤ 64) ∧ ((u.1 : Int32).toInt ≤ (votx : Int32).toInt + 5) ∧ ((votx : Int32).toInt ≤ (u.1 : Int32).toInt)) (O_m_writeWord_5 cy vo voth vmt votp vosz volm voto vofr vokd vonu vosg vofa vopl vowd votd vmn vmr vmk vms vma vmm vmrn vmkn vmik vmon vosm vohp vmw vmf vmb vomb vmd vmc vocm voct vocy vmx votx vose vml vmwr voln vohw vmno vond voon vowi votop vmxf vw) (va_A [(vo, .inr (12, [.int voth, .ref vmt, .int votp, .int vosz, .int volm, .int voto, .int vofr, .int vokd, .int vonu, .int vosg, .int vofa, .int vopl, .long vowd, .int votd, .ref vmn, .ref vmr, .ref vmk, .ref vms, .ref vma, .ref vmm, .ref vmrn, .ref vmkn, .ref vmik, .ref vmon, .int vosm, .int vohp, .ref vmw, .ref vmf, .ref vmb, .int vomb, .ref vmd, .ref vmc, .int vocm, .int voct, .int vocy, .ref vmx, .int votx, .int vose, .ref vml, .ref vmwr, .int voln, .int vohw, .ref vmno, .int vond, .int voon, .int vowi, .int votop])), (vmx, .inl (cy 0, 64, .inl vmxf))] sz)) 0 0 (va_A [(vo, .inr (12, [.int voth, .ref vmt, .int votp, .int vosz, .int volm, .int voto, .int vofr, .int vokd, .int vonu, .int vosg, .int vofa, .int vopl, .long vowd, .int votd, .ref vmn, .ref vmr, .ref vmk, .ref vms, .ref vma, .ref vmm, .ref vmrn, .ref vmkn, .ref vmik, .ref vmon, .int vosm, .int vohp, .ref vmw, .ref vmf, .ref vmb, .int vomb, .ref vmd, .ref vmc, .int vocm, .int voct, .int vocy, .ref vmx, .int votx, .int vose, .ref vml, .ref vmwr, .int voln, .int vohw, .ref vmno, .int vond, .int voon, .int vowi, .int votop])), (vmx, .inl (cy 0, 64, .inl vmxf))] sz) := by
  refine mw (Qc := Qv (dC, dI) vwCl (fun (u : Int32 × (Nat → Int32)) => (0 ≤ (u.1 : Int32).toInt ∧ (u.1 : Int32).toInt ≤ 64) ∧ ((u.1 : Int32).toInt ≤ (votx : Int32).toInt + 5) ∧ ((votx : Int32).toInt ≤ (u.1 : Int32).toInt)) (O_m_writeWord_5 cy vo voth vmt votp vosz volm voto vofr vokd vonu vosg vofa vopl vowd votd vmn vmr vmk vms vma vmm vmrn vmkn vmik vmon vosm vohp vmw vmf vmb vomb vmd vmc vocm voct vocy vmx votx vose vml vmwr voln vohw vmno vond voon vowi votop vmxf vw)) RX11 rfl (by decide +kernel) (Nat.le_of_ble_eq_true rfl) ?_
  intro p e s m below meth c A hx hb hr hlocks av9 hav hts hown hnm hml hK hP hD hA hS hE hAe Q9 hQ9 ls hl
  have hl : lv_has ls 3 [(0, .ref vo), (1, .long vw)] := hl
  refine lv_lload_n hx hb dX11_writeWord_0 rfl (lv_at hl 1 rfl) ?_
  refine lv_ldc2 hx hb hown (hts _ t1610) dX11_writeWord_1 ?_
  refine W.lcmp hx hb dX11_writeWord_4 ?_
  refine lv_topi (fun z_1 ez_1 => ?_)
  have bz_1 : z_1.toInt < 0 ↔ vw.toInt < (27 : Int64).toInt := l_cmp ez_1
  have kl_27 : (27 : Int64).toInt = 27 := by decide
  have k_0 : (0 : Int32).toInt = 0 := by decide
  refine lv_if_lt (tgt := 17) hx hb dX11_writeWord_5 (by decide) (fun c_2 => ?_) (fun c_2 => ?_)
  · skip
    have c_2 : z_1.toInt < (0 : Int32).toInt := i_lt.mp c_2
    refine lv_aload_n hx hb dX11_writeWord_17 rfl (lv_at hl 0 rfl) ?_
    refine lv_bipush (v := 96) hx hb dX11_writeWord_18 (by decide) ?_
    refine lv_lload_n hx hb dX11_writeWord_20 rfl (lv_at hl 1 rfl) ?_
    refine lv_ldc2 hx hb hown (hts _ t1610) dX11_writeWord_21 ?_
    refine lv_lrem hx hb dX11_writeWord_24 (by decide) ?_
    refine lv_topl (fun y_3 ey_3 => ?_)
    refine lv_l2i hx hb dX11_writeWord_25 rfl ?_
    refine lv_topi (fun z_4 ez_4 => ?_)
    refine lv_iadd hx hb dX11_writeWord_26 ?_
    refine lv_topi (fun z_5 ez_5 => ?_)
    refine jn_v (wr := []) (rV (As := [.int z_5]) (rest := []) (ci := 12) ⟨hx, hb, hml, hown, hts⟩ (m_write l dC dI cy _ vo voth vmt votp vosz volm voto vofr vokd vonu vosg vofa vopl vowd votd vmn vmr vmk vms vma vmm vmrn vmkn vmik vmon vosm vohp vmw vmf vmb vomb vmd vmc vocm voct vocy vmx votx vose vml vmwr voln vohw vmno vond voon vowi votop vmxf z_5 ⟨by omega, by omega⟩) (cw_X11_342 hts rfl rfl ⟨Nat.le_of_ble_eq_true rfl, Nat.le_of_ble_eq_true rfl⟩) hP hD hK [0, 1] rfl rfl rfl rfl bl0 e0 rfl hl.1 rfl (Nat.le_of_ble_eq_true rfl) dX11_writeWord_27 ⟨Nat.le_of_ble_eq_true rfl, Nat.le_of_ble_eq_true rfl⟩) hP hD hS hA [0, 1] [] rfl rfl rfl (by decide) (fun u_8 H locs hp_7 hP hD hS => ?_)
    obtain ⟨votx_9, vmxf_10⟩ := u_8
    have hp_7 : (0 ≤ (votx_9 : Int32).toInt ∧ (votx_9 : Int32).toInt ≤ 64) ∧ ((votx_9 : Int32).toInt = (votx : Int32).toInt + 1) := hp_7
    obtain ⟨q_11, q_12⟩ := hp_7
    have hP : va_P (dC, dI) vwCl [(vo, .inr (12, [.int voth, .ref vmt, .int votp, .int vosz, .int volm, .int voto, .int vofr, .int vokd, .int vonu, .int vosg, .int vofa, .int vopl, .long vowd, .int votd, .ref vmn, .ref vmr, .ref vmk, .ref vms, .ref vma, .ref vmm, .ref vmrn, .ref vmkn, .ref vmik, .ref vmon, .int vosm, .int vohp, .ref vmw, .ref vmf, .ref vmb, .int vomb, .ref vmd, .ref vmc, .int vocm, .int voct, .int vocy, .ref vmx, .int votx_9, .int vose, .ref vml, .ref vmwr, .int voln, .int vohw, .ref vmno, .int vond, .int voon, .int vowi, .int votop])), (vmx, .inl (cy 0, 64, .inl vmxf_10))] H := hP
    have hD : va_D A [(vo, .inr (12, [.int voth, .ref vmt, .int votp, .int vosz, .int volm, .int voto, .int vofr, .int vokd, .int vonu, .int vosg, .int vofa, .int vopl, .long vowd, .int votd, .ref vmn, .ref vmr, .ref vmk, .ref vms, .ref vma, .ref vmm, .ref vmrn, .ref vmkn, .ref vmik, .ref vmon, .int vosm, .int vohp, .ref vmw, .ref vmf, .ref vmb, .int vomb, .ref vmd, .ref vmc, .int vocm, .int voct, .int vocy, .ref vmx, .int votx_9, .int vose, .ref vml, .ref vmwr, .int voln, .int vohw, .ref vmno, .int vond, .int voon, .int vowi, .int votop])), (vmx, .inl (cy 0, 64, .inl vmxf_10))] := hD
    rw [hQ9]
    exact re_v (votx_9, vmxf_10) hx hb hr hlocks ⟨(show 0 ≤ (votx_9 : Int32).toInt ∧ (votx_9 : Int32).toInt ≤ 64 from ⟨by omega, by omega⟩), (show (votx_9 : Int32).toInt ≤ (votx : Int32).toInt + 5 from (by omega)), (show (votx : Int32).toInt ≤ (votx_9 : Int32).toInt from (by omega))⟩ (hP.sub [0, 1] rfl) (hD.sub [0, 1] rfl rfl) hS dX11_writeWord_30
  · skip
    have c_2 : ¬ (z_1.toInt < (0 : Int32).toInt) := fun h9 => c_2 (i_lt.mpr h9)
    refine lv_aload_n hx hb dX11_writeWord_8 rfl (lv_at hl 0 rfl) ?_
    refine lv_lload_n hx hb dX11_writeWord_9 rfl (lv_at hl 1 rfl) ?_
    refine lv_ldc2 hx hb hown (hts _ t1610) dX11_writeWord_10 ?_
    refine lv_ldiv hx hb dX11_writeWord_13 (by decide) ?_
    refine lv_topl (fun y_13 ey_13 => ?_)
    have by_13 : 0 ≤ y_13.toInt ∧ y_13.toInt * 27 ≤ vw.toInt := l_div27 ey_13 (by omega)
    refine jn_v (wr := []) (rV (As := [.long y_13]) (rest := []) (ci := 12) ⟨hx, hb, hml, hown, hts⟩ (m_writeWord_4 l dC dI cy _ vo voth vmt votp vosz volm voto vofr vokd vonu vosg vofa vopl vowd votd vmn vmr vmk vms vma vmm vmrn vmkn vmik vmon vosm vohp vmw vmf vmb vomb vmd vmc vocm voct vocy vmx votx vose vml vmwr voln vohw vmno vond voon vowi votop vmxf y_13 ⟨by omega, by omega⟩ (by omega)) (cw_X11_338 hts rfl rfl ⟨Nat.le_of_ble_eq_true rfl, Nat.le_of_ble_eq_true rfl⟩) hP hD hK [0, 1] rfl rfl rfl rfl bl0 e0 rfl hl.1 rfl (Nat.le_of_ble_eq_true rfl) dX11_writeWord_14 ⟨Nat.le_of_ble_eq_true rfl, Nat.le_of_ble_eq_true rfl⟩) hP hD hS hA [0, 1] [] rfl rfl rfl (by decide) (fun u_16 H locs hp_15 hP hD hS => ?_)
    obtain ⟨votx_17, vmxf_18⟩ := u_16
    have hp_15 : (0 ≤ (votx_17 : Int32).toInt ∧ (votx_17 : Int32).toInt ≤ 64) ∧ ((votx_17 : Int32).toInt ≤ (votx : Int32).toInt + 4) ∧ ((votx : Int32).toInt ≤ (votx_17 : Int32).toInt) := hp_15
    obtain ⟨q_19, q_20, q_21⟩ := hp_15
    have hP : va_P (dC, dI) vwCl [(vo, .inr (12, [.int voth, .ref vmt, .int votp, .int vosz, .int volm, .int voto, .int vofr, .int vokd, .int vonu, .int vosg, .int vofa, .int vopl, .long vowd, .int votd, .ref vmn, .ref vmr, .ref vmk, .ref vms, .ref vma, .ref vmm, .ref vmrn, .ref vmkn, .ref vmik, .ref vmon, .int vosm, .int vohp, .ref vmw, .ref vmf, .ref vmb, .int vomb, .ref vmd, .ref vmc, .int vocm, .int voct, .int vocy, .ref vmx, .int votx_17, .int vose, .ref vml, .ref vmwr, .int voln, .int vohw, .ref vmno, .int vond, .int voon, .int vowi, .int votop])), (vmx, .inl (cy 0, 64, .inl vmxf_18))] H := hP
    have hD : va_D A [(vo, .inr (12, [.int voth, .ref vmt, .int votp, .int vosz, .int volm, .int voto, .int vofr, .int vokd, .int vonu, .int vosg, .int vofa, .int vopl, .long vowd, .int votd, .ref vmn, .ref vmr, .ref vmk, .ref vms, .ref vma, .ref vmm, .ref vmrn, .ref vmkn, .ref vmik, .ref vmon, .int vosm, .int vohp, .ref vmw, .ref vmf, .ref vmb, .int vomb, .ref vmd, .ref vmc, .int vocm, .int voct, .int vocy, .ref vmx, .int votx_17, .int vose, .ref vml, .ref vmwr, .int voln, .int vohw, .ref vmno, .int vond, .int voon, .int vowi, .int votop])), (vmx, .inl (cy 0, 64, .inl vmxf_18))] := hD
    refine lv_aload_n hx hb dX11_writeWord_17 rfl (lv_at hl 0 rfl) ?_
    refine lv_bipush (v := 96) hx hb dX11_writeWord_18 (by decide) ?_
    refine lv_lload_n hx hb dX11_writeWord_20 rfl (lv_at hl 1 rfl) ?_
    refine lv_ldc2 hx hb hown (hts _ t1610) dX11_writeWord_21 ?_
    refine lv_lrem hx hb dX11_writeWord_24 (by decide) ?_
    refine lv_topl (fun y_22 ey_22 => ?_)
    refine lv_l2i hx hb dX11_writeWord_25 rfl ?_
    refine lv_topi (fun z_23 ez_23 => ?_)
    refine lv_iadd hx hb dX11_writeWord_26 ?_
    refine lv_topi (fun z_24 ez_24 => ?_)
    refine jn_v (wr := []) (rV (As := [.int z_24]) (rest := []) (ci := 12) ⟨hx, hb, hml, hown, hts⟩ (m_write l dC dI cy _ vo voth vmt votp vosz volm voto vofr vokd vonu vosg vofa vopl vowd votd vmn vmr vmk vms vma vmm vmrn vmkn vmik vmon vosm vohp vmw vmf vmb vomb vmd vmc vocm voct vocy vmx votx_17 vose vml vmwr voln vohw vmno vond voon vowi votop vmxf_18 z_24 ⟨by omega, by omega⟩) (cw_X11_342 hts rfl rfl ⟨Nat.le_of_ble_eq_true rfl, Nat.le_of_ble_eq_true rfl⟩) hP hD hK [0, 1] rfl rfl rfl rfl bl0 e0 rfl hl.1 rfl (Nat.le_of_ble_eq_true rfl) dX11_writeWord_27 ⟨Nat.le_of_ble_eq_true rfl, Nat.le_of_ble_eq_true rfl⟩) hP hD hS hA [0, 1] [] rfl rfl rfl (by decide) (fun u_27 H locs hp_26 hP hD hS => ?_)
    obtain ⟨votx_28, vmxf_29⟩ := u_27
    have hp_26 : (0 ≤ (votx_28 : Int32).toInt ∧ (votx_28 : Int32).toInt ≤ 64) ∧ ((votx_28 : Int32).toInt = (votx_17 : Int32).toInt + 1) := hp_26
    obtain ⟨q_30, q_31⟩ := hp_26
    have hP : va_P (dC, dI) vwCl [(vo, .inr (12, [.int voth, .ref vmt, .int votp, .int vosz, .int volm, .int voto, .int vofr, .int vokd, .int vonu, .int vosg, .int vofa, .int vopl, .long vowd, .int votd, .ref vmn, .ref vmr, .ref vmk, .ref vms, .ref vma, .ref vmm, .ref vmrn, .ref vmkn, .ref vmik, .ref vmon, .int vosm, .int vohp, .ref vmw, .ref vmf, .ref vmb, .int vomb, .ref vmd, .ref vmc, .int vocm, .int voct, .int vocy, .ref vmx, .int votx_28, .int vose, .ref vml, .ref vmwr, .int voln, .int vohw, .ref vmno, .int vond, .int voon, .int vowi, .int votop])), (vmx, .inl (cy 0, 64, .inl vmxf_29))] H := hP
    have hD : va_D A [(vo, .inr (12, [.int voth, .ref vmt, .int votp, .int vosz, .int volm, .int voto, .int vofr, .int vokd, .int vonu, .int vosg, .int vofa, .int vopl, .long vowd, .int votd, .ref vmn, .ref vmr, .ref vmk, .ref vms, .ref vma, .ref vmm, .ref vmrn, .ref vmkn, .ref vmik, .ref vmon, .int vosm, .int vohp, .ref vmw, .ref vmf, .ref vmb, .int vomb, .ref vmd, .ref vmc, .int vocm, .int voct, .int vocy, .ref vmx, .int votx_28, .int vose, .ref vml, .ref vmwr, .int voln, .int vohw, .ref vmno, .int vond, .int voon, .int vowi, .int votop])), (vmx, .inl (cy 0, 64, .inl vmxf_29))] := hD
    rw [hQ9]
    exact re_v (votx_28, vmxf_29) hx hb hr hlocks ⟨(show 0 ≤ (votx_28 : Int32).toInt ∧ (votx_28 : Int32).toInt ≤ 64 from ⟨by omega, by omega⟩), (show (votx_28 : Int32).toInt ≤ (votx : Int32).toInt + 5 from (by omega)), (show (votx : Int32).toInt ≤ (votx_28 : Int32).toInt from (by omega))⟩ (hP.sub [0, 1] rfl) (hD.sub [0, 1] rfl rfl) hS dX11_writeWord_30
abbrev O_m_writeWord_6 (cy : Nat → ClassId) (vo : Nat) (voth : Int32) (vmt : Nat) (votp : Int32) (vosz : Int32) (volm : Int32) (voto : Int32) (vofr : Int32) (vokd : Int32) (vonu : Int32) (vosg : Int32) (vofa : Int32) (vopl : Int32) (vowd : Int64) (votd : Int32) (vmn : Nat) (vmr : Nat) (vmk : Nat) (vms : Nat) (vma : Nat) (vmm : Nat) (vmrn : Nat) (vmkn : Nat) (vmik : Nat) (vmon : Nat) (vosm : Int32) (vohp : Int32) (vmw : Nat) (vmf : Nat) (vmb : Nat) (vomb : Int32) (vmd : Nat) (vmc : Nat) (vocm : Int32) (voct : Int32) (vocy : Int32) (vmx : Nat) (votx : Int32) (vose : Int32) (vml : Nat) (vmwr : Nat) (voln : Int32) (vohw : Int32) (vmno : Nat) (vond : Int32) (voon : Int32) (vowi : Int32) (votop : Int32) (vmxf : Nat → Int32) (vw : Int64) (u : Int32 × (Nat → Int32)) : va_W := [(vo, .inr (12, [.int voth, .ref vmt, .int votp, .int vosz, .int volm, .int voto, .int vofr, .int vokd, .int vonu, .int vosg, .int vofa, .int vopl, .long vowd, .int votd, .ref vmn, .ref vmr, .ref vmk, .ref vms, .ref vma, .ref vmm, .ref vmrn, .ref vmkn, .ref vmik, .ref vmon, .int vosm, .int vohp, .ref vmw, .ref vmf, .ref vmb, .int vomb, .ref vmd, .ref vmc, .int vocm, .int voct, .int vocy, .ref vmx, .int u.1, .int vose, .ref vml, .ref vmwr, .int voln, .int vohw, .ref vmno, .int vond, .int voon, .int vowi, .int votop])), (vmx, .inl (cy 0, 64, .inl u.2))]
set_option maxHeartbeats 4000000 in
set_option maxRecDepth 100000 in
theorem m_writeWord_6 (l : Launch) (dC : Nat → ClassId) (dI : Nat → Nat → Nat) (cy : Nat → ClassId) (sz : Nat) (vo : Nat) (voth : Int32) (vmt : Nat) (votp : Int32) (vosz : Int32) (volm : Int32) (voto : Int32) (vofr : Int32) (vokd : Int32) (vonu : Int32) (vosg : Int32) (vofa : Int32) (vopl : Int32) (vowd : Int64) (votd : Int32) (vmn : Nat) (vmr : Nat) (vmk : Nat) (vms : Nat) (vma : Nat) (vmm : Nat) (vmrn : Nat) (vmkn : Nat) (vmik : Nat) (vmon : Nat) (vosm : Int32) (vohp : Int32) (vmw : Nat) (vmf : Nat) (vmb : Nat) (vomb : Int32) (vmd : Nat) (vmc : Nat) (vocm : Int32) (voct : Int32) (vocy : Int32) (vmx : Nat) (votx : Int32) (vose : Int32) (vml : Nat) (vmwr : Nat) (voln : Int32) (vohw : Int32) (vmno : Nat) (vond : Int32) (voon : Int32) (vowi : Int32) (votop : Int32) (vmxf : Nat → Int32) (vw : Int64) (r_votx : 0 ≤ (votx : Int32).toInt ∧ (votx : Int32).toInt ≤ 58) (hw : (vw : Int64).toInt < 387420489) : Met l yX11_writeWord (wl yX11_writeWord cX11_writeWord 3 none) ({ frames := 6, cells := 0, slots := 0, locals := 384 }) (Pw (dC, dI) vwCl cy [(vo, .inr (12, [.int voth, .ref vmt, .int votp, .int vosz, .int volm, .int voto, .int vofr, .int vokd, .int vonu, .int vosg, .int vofa, .int vopl, .long vowd, .int votd, .ref vmn, .ref vmr, .ref vmk, .ref vms, .ref vma, .ref vmm, .ref vmrn, .ref vmkn, .ref vmik, .ref vmon, .int vosm, .int vohp, .ref vmw, .ref vmf, .ref vmb, .int vomb, .ref vmd, .ref vmc, .int vocm, .int voct, .int vocy, .ref vmx, .int votx, .int vose, .ref vml, .ref vmwr, .int voln, .int vohw, .ref vmno, .int vond, .int voon, .int vowi, .int votop])), (vmx, .inl (cy 0, 64, .inl vmxf))] sz [.ref vo, .long vw] nE) (Qv (dC, dI) vwCl (fun (u : Int32 × (Nat → Int32)) => (0 ≤ (u.1 : Int32).toInt ∧ (u.1 : Int32).toInt ≤ 64) ∧ ((u.1 : Int32).toInt ≤ (votx : Int32).toInt + 6) ∧ ((votx : Int32).toInt ≤ (u.1 : Int32).toInt)) (O_m_writeWord_6 cy vo voth vmt votp vosz volm voto vofr vokd vonu vosg vofa vopl vowd votd vmn vmr vmk vms vma vmm vmrn vmkn vmik vmon vosm vohp vmw vmf vmb vomb vmd vmc vocm voct vocy vmx votx vose vml vmwr voln vohw vmno vond voon vowi votop vmxf vw) (va_A [(vo, .inr (12, [.int voth, .ref vmt, .int votp, .int vosz, .int volm, .int voto, .int vofr, .int vokd, .int vonu, .int vosg, .int vofa, .int vopl, .long vowd, .int votd, .ref vmn, .ref vmr, .ref vmk, .ref vms, .ref vma, .ref vmm, .ref vmrn, .ref vmkn, .ref vmik, .ref vmon, .int vosm, .int vohp, .ref vmw, .ref vmf, .ref vmb, .int vomb, .ref vmd, .ref vmc, .int vocm, .int voct, .int vocy, .ref vmx, .int votx, .int vose, .ref vml, .ref vmwr, .int voln, .int vohw, .ref vmno, .int vond, .int voon, .int vowi, .int votop])), (vmx, .inl (cy 0, 64, .inl vmxf))] sz)) 0 0 (va_A [(vo, .inr (12, [.int voth, .ref vmt, .int votp, .int vosz, .int volm, .int voto, .int vofr, .int vokd, .int vonu, .int vosg, .int vofa, .int vopl, .long vowd, .int votd, .ref vmn, .ref vmr, .ref vmk, .ref vms, .ref vma, .ref vmm, .ref vmrn, .ref vmkn, .ref vmik, .ref vmon, .int vosm, .int vohp, .ref vmw, .ref vmf, .ref vmb, .int vomb, .ref vmd, .ref vmc, .int vocm, .int voct, .int vocy, .ref vmx, .int votx, .int vose, .ref vml, .ref vmwr, .int voln, .int vohw, .ref vmno, .int vond, .int voon, .int vowi, .int votop])), (vmx, .inl (cy 0, 64, .inl vmxf))] sz) := by
  refine mw (Qc := Qv (dC, dI) vwCl (fun (u : Int32 × (Nat → Int32)) => (0 ≤ (u.1 : Int32).toInt ∧ (u.1 : Int32).toInt ≤ 64) ∧ ((u.1 : Int32).toInt ≤ (votx : Int32).toInt + 6) ∧ ((votx : Int32).toInt ≤ (u.1 : Int32).toInt)) (O_m_writeWord_6 cy vo voth vmt votp vosz volm voto vofr vokd vonu vosg vofa vopl vowd votd vmn vmr vmk vms vma vmm vmrn vmkn vmik vmon vosm vohp vmw vmf vmb vomb vmd vmc vocm voct vocy vmx votx vose vml vmwr voln vohw vmno vond voon vowi votop vmxf vw)) RX11 rfl (by decide +kernel) (Nat.le_of_ble_eq_true rfl) ?_
  intro p e s m below meth c A hx hb hr hlocks av9 hav hts hown hnm hml hK hP hD hA hS hE hAe Q9 hQ9 ls hl
  have hl : lv_has ls 3 [(0, .ref vo), (1, .long vw)] := hl
  refine lv_lload_n hx hb dX11_writeWord_0 rfl (lv_at hl 1 rfl) ?_
  refine lv_ldc2 hx hb hown (hts _ t1610) dX11_writeWord_1 ?_
  refine W.lcmp hx hb dX11_writeWord_4 ?_
  refine lv_topi (fun z_1 ez_1 => ?_)
  have bz_1 : z_1.toInt < 0 ↔ vw.toInt < (27 : Int64).toInt := l_cmp ez_1
  have kl_27 : (27 : Int64).toInt = 27 := by decide
  have k_0 : (0 : Int32).toInt = 0 := by decide
  refine lv_if_lt (tgt := 17) hx hb dX11_writeWord_5 (by decide) (fun c_2 => ?_) (fun c_2 => ?_)
  · skip
    have c_2 : z_1.toInt < (0 : Int32).toInt := i_lt.mp c_2
    refine lv_aload_n hx hb dX11_writeWord_17 rfl (lv_at hl 0 rfl) ?_
    refine lv_bipush (v := 96) hx hb dX11_writeWord_18 (by decide) ?_
    refine lv_lload_n hx hb dX11_writeWord_20 rfl (lv_at hl 1 rfl) ?_
    refine lv_ldc2 hx hb hown (hts _ t1610) dX11_writeWord_21 ?_
    refine lv_lrem hx hb dX11_writeWord_24 (by decide) ?_
    refine lv_topl (fun y_3 ey_3 => ?_)
    refine lv_l2i hx hb dX11_writeWord_25 rfl ?_
    refine lv_topi (fun z_4 ez_4 => ?_)
    refine lv_iadd hx hb dX11_writeWord_26 ?_
    refine lv_topi (fun z_5 ez_5 => ?_)
    refine jn_v (wr := []) (rV (As := [.int z_5]) (rest := []) (ci := 12) ⟨hx, hb, hml, hown, hts⟩ (m_write l dC dI cy _ vo voth vmt votp vosz volm voto vofr vokd vonu vosg vofa vopl vowd votd vmn vmr vmk vms vma vmm vmrn vmkn vmik vmon vosm vohp vmw vmf vmb vomb vmd vmc vocm voct vocy vmx votx vose vml vmwr voln vohw vmno vond voon vowi votop vmxf z_5 ⟨by omega, by omega⟩) (cw_X11_342 hts rfl rfl ⟨Nat.le_of_ble_eq_true rfl, Nat.le_of_ble_eq_true rfl⟩) hP hD hK [0, 1] rfl rfl rfl rfl bl0 e0 rfl hl.1 rfl (Nat.le_of_ble_eq_true rfl) dX11_writeWord_27 ⟨Nat.le_of_ble_eq_true rfl, Nat.le_of_ble_eq_true rfl⟩) hP hD hS hA [0, 1] [] rfl rfl rfl (by decide) (fun u_8 H locs hp_7 hP hD hS => ?_)
    obtain ⟨votx_9, vmxf_10⟩ := u_8
    have hp_7 : (0 ≤ (votx_9 : Int32).toInt ∧ (votx_9 : Int32).toInt ≤ 64) ∧ ((votx_9 : Int32).toInt = (votx : Int32).toInt + 1) := hp_7
    obtain ⟨q_11, q_12⟩ := hp_7
    have hP : va_P (dC, dI) vwCl [(vo, .inr (12, [.int voth, .ref vmt, .int votp, .int vosz, .int volm, .int voto, .int vofr, .int vokd, .int vonu, .int vosg, .int vofa, .int vopl, .long vowd, .int votd, .ref vmn, .ref vmr, .ref vmk, .ref vms, .ref vma, .ref vmm, .ref vmrn, .ref vmkn, .ref vmik, .ref vmon, .int vosm, .int vohp, .ref vmw, .ref vmf, .ref vmb, .int vomb, .ref vmd, .ref vmc, .int vocm, .int voct, .int vocy, .ref vmx, .int votx_9, .int vose, .ref vml, .ref vmwr, .int voln, .int vohw, .ref vmno, .int vond, .int voon, .int vowi, .int votop])), (vmx, .inl (cy 0, 64, .inl vmxf_10))] H := hP
    have hD : va_D A [(vo, .inr (12, [.int voth, .ref vmt, .int votp, .int vosz, .int volm, .int voto, .int vofr, .int vokd, .int vonu, .int vosg, .int vofa, .int vopl, .long vowd, .int votd, .ref vmn, .ref vmr, .ref vmk, .ref vms, .ref vma, .ref vmm, .ref vmrn, .ref vmkn, .ref vmik, .ref vmon, .int vosm, .int vohp, .ref vmw, .ref vmf, .ref vmb, .int vomb, .ref vmd, .ref vmc, .int vocm, .int voct, .int vocy, .ref vmx, .int votx_9, .int vose, .ref vml, .ref vmwr, .int voln, .int vohw, .ref vmno, .int vond, .int voon, .int vowi, .int votop])), (vmx, .inl (cy 0, 64, .inl vmxf_10))] := hD
    rw [hQ9]
    exact re_v (votx_9, vmxf_10) hx hb hr hlocks ⟨(show 0 ≤ (votx_9 : Int32).toInt ∧ (votx_9 : Int32).toInt ≤ 64 from ⟨by omega, by omega⟩), (show (votx_9 : Int32).toInt ≤ (votx : Int32).toInt + 6 from (by omega)), (show (votx : Int32).toInt ≤ (votx_9 : Int32).toInt from (by omega))⟩ (hP.sub [0, 1] rfl) (hD.sub [0, 1] rfl rfl) hS dX11_writeWord_30
  · skip
    have c_2 : ¬ (z_1.toInt < (0 : Int32).toInt) := fun h9 => c_2 (i_lt.mpr h9)
    refine lv_aload_n hx hb dX11_writeWord_8 rfl (lv_at hl 0 rfl) ?_
    refine lv_lload_n hx hb dX11_writeWord_9 rfl (lv_at hl 1 rfl) ?_
    refine lv_ldc2 hx hb hown (hts _ t1610) dX11_writeWord_10 ?_
    refine lv_ldiv hx hb dX11_writeWord_13 (by decide) ?_
    refine lv_topl (fun y_13 ey_13 => ?_)
    have by_13 : 0 ≤ y_13.toInt ∧ y_13.toInt * 27 ≤ vw.toInt := l_div27 ey_13 (by omega)
    refine jn_v (wr := []) (rV (As := [.long y_13]) (rest := []) (ci := 12) ⟨hx, hb, hml, hown, hts⟩ (m_writeWord_5 l dC dI cy _ vo voth vmt votp vosz volm voto vofr vokd vonu vosg vofa vopl vowd votd vmn vmr vmk vms vma vmm vmrn vmkn vmik vmon vosm vohp vmw vmf vmb vomb vmd vmc vocm voct vocy vmx votx vose vml vmwr voln vohw vmno vond voon vowi votop vmxf y_13 ⟨by omega, by omega⟩ (by omega)) (cw_X11_338 hts rfl rfl ⟨Nat.le_of_ble_eq_true rfl, Nat.le_of_ble_eq_true rfl⟩) hP hD hK [0, 1] rfl rfl rfl rfl bl0 e0 rfl hl.1 rfl (Nat.le_of_ble_eq_true rfl) dX11_writeWord_14 ⟨Nat.le_of_ble_eq_true rfl, Nat.le_of_ble_eq_true rfl⟩) hP hD hS hA [0, 1] [] rfl rfl rfl (by decide) (fun u_16 H locs hp_15 hP hD hS => ?_)
    obtain ⟨votx_17, vmxf_18⟩ := u_16
    have hp_15 : (0 ≤ (votx_17 : Int32).toInt ∧ (votx_17 : Int32).toInt ≤ 64) ∧ ((votx_17 : Int32).toInt ≤ (votx : Int32).toInt + 5) ∧ ((votx : Int32).toInt ≤ (votx_17 : Int32).toInt) := hp_15
    obtain ⟨q_19, q_20, q_21⟩ := hp_15
    have hP : va_P (dC, dI) vwCl [(vo, .inr (12, [.int voth, .ref vmt, .int votp, .int vosz, .int volm, .int voto, .int vofr, .int vokd, .int vonu, .int vosg, .int vofa, .int vopl, .long vowd, .int votd, .ref vmn, .ref vmr, .ref vmk, .ref vms, .ref vma, .ref vmm, .ref vmrn, .ref vmkn, .ref vmik, .ref vmon, .int vosm, .int vohp, .ref vmw, .ref vmf, .ref vmb, .int vomb, .ref vmd, .ref vmc, .int vocm, .int voct, .int vocy, .ref vmx, .int votx_17, .int vose, .ref vml, .ref vmwr, .int voln, .int vohw, .ref vmno, .int vond, .int voon, .int vowi, .int votop])), (vmx, .inl (cy 0, 64, .inl vmxf_18))] H := hP
    have hD : va_D A [(vo, .inr (12, [.int voth, .ref vmt, .int votp, .int vosz, .int volm, .int voto, .int vofr, .int vokd, .int vonu, .int vosg, .int vofa, .int vopl, .long vowd, .int votd, .ref vmn, .ref vmr, .ref vmk, .ref vms, .ref vma, .ref vmm, .ref vmrn, .ref vmkn, .ref vmik, .ref vmon, .int vosm, .int vohp, .ref vmw, .ref vmf, .ref vmb, .int vomb, .ref vmd, .ref vmc, .int vocm, .int voct, .int vocy, .ref vmx, .int votx_17, .int vose, .ref vml, .ref vmwr, .int voln, .int vohw, .ref vmno, .int vond, .int voon, .int vowi, .int votop])), (vmx, .inl (cy 0, 64, .inl vmxf_18))] := hD
    refine lv_aload_n hx hb dX11_writeWord_17 rfl (lv_at hl 0 rfl) ?_
    refine lv_bipush (v := 96) hx hb dX11_writeWord_18 (by decide) ?_
    refine lv_lload_n hx hb dX11_writeWord_20 rfl (lv_at hl 1 rfl) ?_
    refine lv_ldc2 hx hb hown (hts _ t1610) dX11_writeWord_21 ?_
    refine lv_lrem hx hb dX11_writeWord_24 (by decide) ?_
    refine lv_topl (fun y_22 ey_22 => ?_)
    refine lv_l2i hx hb dX11_writeWord_25 rfl ?_
    refine lv_topi (fun z_23 ez_23 => ?_)
    refine lv_iadd hx hb dX11_writeWord_26 ?_
    refine lv_topi (fun z_24 ez_24 => ?_)
    refine jn_v (wr := []) (rV (As := [.int z_24]) (rest := []) (ci := 12) ⟨hx, hb, hml, hown, hts⟩ (m_write l dC dI cy _ vo voth vmt votp vosz volm voto vofr vokd vonu vosg vofa vopl vowd votd vmn vmr vmk vms vma vmm vmrn vmkn vmik vmon vosm vohp vmw vmf vmb vomb vmd vmc vocm voct vocy vmx votx_17 vose vml vmwr voln vohw vmno vond voon vowi votop vmxf_18 z_24 ⟨by omega, by omega⟩) (cw_X11_342 hts rfl rfl ⟨Nat.le_of_ble_eq_true rfl, Nat.le_of_ble_eq_true rfl⟩) hP hD hK [0, 1] rfl rfl rfl rfl bl0 e0 rfl hl.1 rfl (Nat.le_of_ble_eq_true rfl) dX11_writeWord_27 ⟨Nat.le_of_ble_eq_true rfl, Nat.le_of_ble_eq_true rfl⟩) hP hD hS hA [0, 1] [] rfl rfl rfl (by decide) (fun u_27 H locs hp_26 hP hD hS => ?_)
    obtain ⟨votx_28, vmxf_29⟩ := u_27
    have hp_26 : (0 ≤ (votx_28 : Int32).toInt ∧ (votx_28 : Int32).toInt ≤ 64) ∧ ((votx_28 : Int32).toInt = (votx_17 : Int32).toInt + 1) := hp_26
    obtain ⟨q_30, q_31⟩ := hp_26
    have hP : va_P (dC, dI) vwCl [(vo, .inr (12, [.int voth, .ref vmt, .int votp, .int vosz, .int volm, .int voto, .int vofr, .int vokd, .int vonu, .int vosg, .int vofa, .int vopl, .long vowd, .int votd, .ref vmn, .ref vmr, .ref vmk, .ref vms, .ref vma, .ref vmm, .ref vmrn, .ref vmkn, .ref vmik, .ref vmon, .int vosm, .int vohp, .ref vmw, .ref vmf, .ref vmb, .int vomb, .ref vmd, .ref vmc, .int vocm, .int voct, .int vocy, .ref vmx, .int votx_28, .int vose, .ref vml, .ref vmwr, .int voln, .int vohw, .ref vmno, .int vond, .int voon, .int vowi, .int votop])), (vmx, .inl (cy 0, 64, .inl vmxf_29))] H := hP
    have hD : va_D A [(vo, .inr (12, [.int voth, .ref vmt, .int votp, .int vosz, .int volm, .int voto, .int vofr, .int vokd, .int vonu, .int vosg, .int vofa, .int vopl, .long vowd, .int votd, .ref vmn, .ref vmr, .ref vmk, .ref vms, .ref vma, .ref vmm, .ref vmrn, .ref vmkn, .ref vmik, .ref vmon, .int vosm, .int vohp, .ref vmw, .ref vmf, .ref vmb, .int vomb, .ref vmd, .ref vmc, .int vocm, .int voct, .int vocy, .ref vmx, .int votx_28, .int vose, .ref vml, .ref vmwr, .int voln, .int vohw, .ref vmno, .int vond, .int voon, .int vowi, .int votop])), (vmx, .inl (cy 0, 64, .inl vmxf_29))] := hD
    rw [hQ9]
    exact re_v (votx_28, vmxf_29) hx hb hr hlocks ⟨(show 0 ≤ (votx_28 : Int32).toInt ∧ (votx_28 : Int32).toInt ≤ 64 from ⟨by omega, by omega⟩), (show (votx_28 : Int32).toInt ≤ (votx : Int32).toInt + 6 from (by omega)), (show (votx : Int32).toInt ≤ (votx_28 : Int32).toInt from (by omega))⟩ (hP.sub [0, 1] rfl) (hD.sub [0, 1] rfl rfl) hS dX11_writeWord_30
abbrev O_m_writeWord_7 (cy : Nat → ClassId) (vo : Nat) (voth : Int32) (vmt : Nat) (votp : Int32) (vosz : Int32) (volm : Int32) (voto : Int32) (vofr : Int32) (vokd : Int32) (vonu : Int32) (vosg : Int32) (vofa : Int32) (vopl : Int32) (vowd : Int64) (votd : Int32) (vmn : Nat) (vmr : Nat) (vmk : Nat) (vms : Nat) (vma : Nat) (vmm : Nat) (vmrn : Nat) (vmkn : Nat) (vmik : Nat) (vmon : Nat) (vosm : Int32) (vohp : Int32) (vmw : Nat) (vmf : Nat) (vmb : Nat) (vomb : Int32) (vmd : Nat) (vmc : Nat) (vocm : Int32) (voct : Int32) (vocy : Int32) (vmx : Nat) (votx : Int32) (vose : Int32) (vml : Nat) (vmwr : Nat) (voln : Int32) (vohw : Int32) (vmno : Nat) (vond : Int32) (voon : Int32) (vowi : Int32) (votop : Int32) (vmxf : Nat → Int32) (vw : Int64) (u : Int32 × (Nat → Int32)) : va_W := [(vo, .inr (12, [.int voth, .ref vmt, .int votp, .int vosz, .int volm, .int voto, .int vofr, .int vokd, .int vonu, .int vosg, .int vofa, .int vopl, .long vowd, .int votd, .ref vmn, .ref vmr, .ref vmk, .ref vms, .ref vma, .ref vmm, .ref vmrn, .ref vmkn, .ref vmik, .ref vmon, .int vosm, .int vohp, .ref vmw, .ref vmf, .ref vmb, .int vomb, .ref vmd, .ref vmc, .int vocm, .int voct, .int vocy, .ref vmx, .int u.1, .int vose, .ref vml, .ref vmwr, .int voln, .int vohw, .ref vmno, .int vond, .int voon, .int vowi, .int votop])), (vmx, .inl (cy 0, 64, .inl u.2))]
set_option maxHeartbeats 4000000 in
set_option maxRecDepth 100000 in
theorem m_writeWord_7 (l : Launch) (dC : Nat → ClassId) (dI : Nat → Nat → Nat) (cy : Nat → ClassId) (sz : Nat) (vo : Nat) (voth : Int32) (vmt : Nat) (votp : Int32) (vosz : Int32) (volm : Int32) (voto : Int32) (vofr : Int32) (vokd : Int32) (vonu : Int32) (vosg : Int32) (vofa : Int32) (vopl : Int32) (vowd : Int64) (votd : Int32) (vmn : Nat) (vmr : Nat) (vmk : Nat) (vms : Nat) (vma : Nat) (vmm : Nat) (vmrn : Nat) (vmkn : Nat) (vmik : Nat) (vmon : Nat) (vosm : Int32) (vohp : Int32) (vmw : Nat) (vmf : Nat) (vmb : Nat) (vomb : Int32) (vmd : Nat) (vmc : Nat) (vocm : Int32) (voct : Int32) (vocy : Int32) (vmx : Nat) (votx : Int32) (vose : Int32) (vml : Nat) (vmwr : Nat) (voln : Int32) (vohw : Int32) (vmno : Nat) (vond : Int32) (voon : Int32) (vowi : Int32) (votop : Int32) (vmxf : Nat → Int32) (vw : Int64) (r_votx : 0 ≤ (votx : Int32).toInt ∧ (votx : Int32).toInt ≤ 57) (hw : (vw : Int64).toInt < 10460353203) : Met l yX11_writeWord (wl yX11_writeWord cX11_writeWord 3 none) ({ frames := 7, cells := 0, slots := 0, locals := 448 }) (Pw (dC, dI) vwCl cy [(vo, .inr (12, [.int voth, .ref vmt, .int votp, .int vosz, .int volm, .int voto, .int vofr, .int vokd, .int vonu, .int vosg, .int vofa, .int vopl, .long vowd, .int votd, .ref vmn, .ref vmr, .ref vmk, .ref vms, .ref vma, .ref vmm, .ref vmrn, .ref vmkn, .ref vmik, .ref vmon, .int vosm, .int vohp, .ref vmw, .ref vmf, .ref vmb, .int vomb, .ref vmd, .ref vmc, .int vocm, .int voct, .int vocy, .ref vmx, .int votx, .int vose, .ref vml, .ref vmwr, .int voln, .int vohw, .ref vmno, .int vond, .int voon, .int vowi, .int votop])), (vmx, .inl (cy 0, 64, .inl vmxf))] sz [.ref vo, .long vw] nE) (Qv (dC, dI) vwCl (fun (u : Int32 × (Nat → Int32)) => (0 ≤ (u.1 : Int32).toInt ∧ (u.1 : Int32).toInt ≤ 64) ∧ ((u.1 : Int32).toInt ≤ (votx : Int32).toInt + 7) ∧ ((votx : Int32).toInt ≤ (u.1 : Int32).toInt)) (O_m_writeWord_7 cy vo voth vmt votp vosz volm voto vofr vokd vonu vosg vofa vopl vowd votd vmn vmr vmk vms vma vmm vmrn vmkn vmik vmon vosm vohp vmw vmf vmb vomb vmd vmc vocm voct vocy vmx votx vose vml vmwr voln vohw vmno vond voon vowi votop vmxf vw) (va_A [(vo, .inr (12, [.int voth, .ref vmt, .int votp, .int vosz, .int volm, .int voto, .int vofr, .int vokd, .int vonu, .int vosg, .int vofa, .int vopl, .long vowd, .int votd, .ref vmn, .ref vmr, .ref vmk, .ref vms, .ref vma, .ref vmm, .ref vmrn, .ref vmkn, .ref vmik, .ref vmon, .int vosm, .int vohp, .ref vmw, .ref vmf, .ref vmb, .int vomb, .ref vmd, .ref vmc, .int vocm, .int voct, .int vocy, .ref vmx, .int votx, .int vose, .ref vml, .ref vmwr, .int voln, .int vohw, .ref vmno, .int vond, .int voon, .int vowi, .int votop])), (vmx, .inl (cy 0, 64, .inl vmxf))] sz)) 0 0 (va_A [(vo, .inr (12, [.int voth, .ref vmt, .int votp, .int vosz, .int volm, .int voto, .int vofr, .int vokd, .int vonu, .int vosg, .int vofa, .int vopl, .long vowd, .int votd, .ref vmn, .ref vmr, .ref vmk, .ref vms, .ref vma, .ref vmm, .ref vmrn, .ref vmkn, .ref vmik, .ref vmon, .int vosm, .int vohp, .ref vmw, .ref vmf, .ref vmb, .int vomb, .ref vmd, .ref vmc, .int vocm, .int voct, .int vocy, .ref vmx, .int votx, .int vose, .ref vml, .ref vmwr, .int voln, .int vohw, .ref vmno, .int vond, .int voon, .int vowi, .int votop])), (vmx, .inl (cy 0, 64, .inl vmxf))] sz) := by
  refine mw (Qc := Qv (dC, dI) vwCl (fun (u : Int32 × (Nat → Int32)) => (0 ≤ (u.1 : Int32).toInt ∧ (u.1 : Int32).toInt ≤ 64) ∧ ((u.1 : Int32).toInt ≤ (votx : Int32).toInt + 7) ∧ ((votx : Int32).toInt ≤ (u.1 : Int32).toInt)) (O_m_writeWord_7 cy vo voth vmt votp vosz volm voto vofr vokd vonu vosg vofa vopl vowd votd vmn vmr vmk vms vma vmm vmrn vmkn vmik vmon vosm vohp vmw vmf vmb vomb vmd vmc vocm voct vocy vmx votx vose vml vmwr voln vohw vmno vond voon vowi votop vmxf vw)) RX11 rfl (by decide +kernel) (Nat.le_of_ble_eq_true rfl) ?_
  intro p e s m below meth c A hx hb hr hlocks av9 hav hts hown hnm hml hK hP hD hA hS hE hAe Q9 hQ9 ls hl
  have hl : lv_has ls 3 [(0, .ref vo), (1, .long vw)] := hl
  refine lv_lload_n hx hb dX11_writeWord_0 rfl (lv_at hl 1 rfl) ?_
  refine lv_ldc2 hx hb hown (hts _ t1610) dX11_writeWord_1 ?_
  refine W.lcmp hx hb dX11_writeWord_4 ?_
  refine lv_topi (fun z_1 ez_1 => ?_)
  have bz_1 : z_1.toInt < 0 ↔ vw.toInt < (27 : Int64).toInt := l_cmp ez_1
  have kl_27 : (27 : Int64).toInt = 27 := by decide
  have k_0 : (0 : Int32).toInt = 0 := by decide
  refine lv_if_lt (tgt := 17) hx hb dX11_writeWord_5 (by decide) (fun c_2 => ?_) (fun c_2 => ?_)
  · skip
    have c_2 : z_1.toInt < (0 : Int32).toInt := i_lt.mp c_2
    refine lv_aload_n hx hb dX11_writeWord_17 rfl (lv_at hl 0 rfl) ?_
    refine lv_bipush (v := 96) hx hb dX11_writeWord_18 (by decide) ?_
    refine lv_lload_n hx hb dX11_writeWord_20 rfl (lv_at hl 1 rfl) ?_
    refine lv_ldc2 hx hb hown (hts _ t1610) dX11_writeWord_21 ?_
    refine lv_lrem hx hb dX11_writeWord_24 (by decide) ?_
    refine lv_topl (fun y_3 ey_3 => ?_)
    refine lv_l2i hx hb dX11_writeWord_25 rfl ?_
    refine lv_topi (fun z_4 ez_4 => ?_)
    refine lv_iadd hx hb dX11_writeWord_26 ?_
    refine lv_topi (fun z_5 ez_5 => ?_)
    refine jn_v (wr := []) (rV (As := [.int z_5]) (rest := []) (ci := 12) ⟨hx, hb, hml, hown, hts⟩ (m_write l dC dI cy _ vo voth vmt votp vosz volm voto vofr vokd vonu vosg vofa vopl vowd votd vmn vmr vmk vms vma vmm vmrn vmkn vmik vmon vosm vohp vmw vmf vmb vomb vmd vmc vocm voct vocy vmx votx vose vml vmwr voln vohw vmno vond voon vowi votop vmxf z_5 ⟨by omega, by omega⟩) (cw_X11_342 hts rfl rfl ⟨Nat.le_of_ble_eq_true rfl, Nat.le_of_ble_eq_true rfl⟩) hP hD hK [0, 1] rfl rfl rfl rfl bl0 e0 rfl hl.1 rfl (Nat.le_of_ble_eq_true rfl) dX11_writeWord_27 ⟨Nat.le_of_ble_eq_true rfl, Nat.le_of_ble_eq_true rfl⟩) hP hD hS hA [0, 1] [] rfl rfl rfl (by decide) (fun u_8 H locs hp_7 hP hD hS => ?_)
    obtain ⟨votx_9, vmxf_10⟩ := u_8
    have hp_7 : (0 ≤ (votx_9 : Int32).toInt ∧ (votx_9 : Int32).toInt ≤ 64) ∧ ((votx_9 : Int32).toInt = (votx : Int32).toInt + 1) := hp_7
    obtain ⟨q_11, q_12⟩ := hp_7
    have hP : va_P (dC, dI) vwCl [(vo, .inr (12, [.int voth, .ref vmt, .int votp, .int vosz, .int volm, .int voto, .int vofr, .int vokd, .int vonu, .int vosg, .int vofa, .int vopl, .long vowd, .int votd, .ref vmn, .ref vmr, .ref vmk, .ref vms, .ref vma, .ref vmm, .ref vmrn, .ref vmkn, .ref vmik, .ref vmon, .int vosm, .int vohp, .ref vmw, .ref vmf, .ref vmb, .int vomb, .ref vmd, .ref vmc, .int vocm, .int voct, .int vocy, .ref vmx, .int votx_9, .int vose, .ref vml, .ref vmwr, .int voln, .int vohw, .ref vmno, .int vond, .int voon, .int vowi, .int votop])), (vmx, .inl (cy 0, 64, .inl vmxf_10))] H := hP
    have hD : va_D A [(vo, .inr (12, [.int voth, .ref vmt, .int votp, .int vosz, .int volm, .int voto, .int vofr, .int vokd, .int vonu, .int vosg, .int vofa, .int vopl, .long vowd, .int votd, .ref vmn, .ref vmr, .ref vmk, .ref vms, .ref vma, .ref vmm, .ref vmrn, .ref vmkn, .ref vmik, .ref vmon, .int vosm, .int vohp, .ref vmw, .ref vmf, .ref vmb, .int vomb, .ref vmd, .ref vmc, .int vocm, .int voct, .int vocy, .ref vmx, .int votx_9, .int vose, .ref vml, .ref vmwr, .int voln, .int vohw, .ref vmno, .int vond, .int voon, .int vowi, .int votop])), (vmx, .inl (cy 0, 64, .inl vmxf_10))] := hD
    rw [hQ9]
    exact re_v (votx_9, vmxf_10) hx hb hr hlocks ⟨(show 0 ≤ (votx_9 : Int32).toInt ∧ (votx_9 : Int32).toInt ≤ 64 from ⟨by omega, by omega⟩), (show (votx_9 : Int32).toInt ≤ (votx : Int32).toInt + 7 from (by omega)), (show (votx : Int32).toInt ≤ (votx_9 : Int32).toInt from (by omega))⟩ (hP.sub [0, 1] rfl) (hD.sub [0, 1] rfl rfl) hS dX11_writeWord_30
  · skip
    have c_2 : ¬ (z_1.toInt < (0 : Int32).toInt) := fun h9 => c_2 (i_lt.mpr h9)
    refine lv_aload_n hx hb dX11_writeWord_8 rfl (lv_at hl 0 rfl) ?_
    refine lv_lload_n hx hb dX11_writeWord_9 rfl (lv_at hl 1 rfl) ?_
    refine lv_ldc2 hx hb hown (hts _ t1610) dX11_writeWord_10 ?_
    refine lv_ldiv hx hb dX11_writeWord_13 (by decide) ?_
    refine lv_topl (fun y_13 ey_13 => ?_)
    have by_13 : 0 ≤ y_13.toInt ∧ y_13.toInt * 27 ≤ vw.toInt := l_div27 ey_13 (by omega)
    refine jn_v (wr := []) (rV (As := [.long y_13]) (rest := []) (ci := 12) ⟨hx, hb, hml, hown, hts⟩ (m_writeWord_6 l dC dI cy _ vo voth vmt votp vosz volm voto vofr vokd vonu vosg vofa vopl vowd votd vmn vmr vmk vms vma vmm vmrn vmkn vmik vmon vosm vohp vmw vmf vmb vomb vmd vmc vocm voct vocy vmx votx vose vml vmwr voln vohw vmno vond voon vowi votop vmxf y_13 ⟨by omega, by omega⟩ (by omega)) (cw_X11_338 hts rfl rfl ⟨Nat.le_of_ble_eq_true rfl, Nat.le_of_ble_eq_true rfl⟩) hP hD hK [0, 1] rfl rfl rfl rfl bl0 e0 rfl hl.1 rfl (Nat.le_of_ble_eq_true rfl) dX11_writeWord_14 ⟨Nat.le_of_ble_eq_true rfl, Nat.le_of_ble_eq_true rfl⟩) hP hD hS hA [0, 1] [] rfl rfl rfl (by decide) (fun u_16 H locs hp_15 hP hD hS => ?_)
    obtain ⟨votx_17, vmxf_18⟩ := u_16
    have hp_15 : (0 ≤ (votx_17 : Int32).toInt ∧ (votx_17 : Int32).toInt ≤ 64) ∧ ((votx_17 : Int32).toInt ≤ (votx : Int32).toInt + 6) ∧ ((votx : Int32).toInt ≤ (votx_17 : Int32).toInt) := hp_15
    obtain ⟨q_19, q_20, q_21⟩ := hp_15
    have hP : va_P (dC, dI) vwCl [(vo, .inr (12, [.int voth, .ref vmt, .int votp, .int vosz, .int volm, .int voto, .int vofr, .int vokd, .int vonu, .int vosg, .int vofa, .int vopl, .long vowd, .int votd, .ref vmn, .ref vmr, .ref vmk, .ref vms, .ref vma, .ref vmm, .ref vmrn, .ref vmkn, .ref vmik, .ref vmon, .int vosm, .int vohp, .ref vmw, .ref vmf, .ref vmb, .int vomb, .ref vmd, .ref vmc, .int vocm, .int voct, .int vocy, .ref vmx, .int votx_17, .int vose, .ref vml, .ref vmwr, .int voln, .int vohw, .ref vmno, .int vond, .int voon, .int vowi, .int votop])), (vmx, .inl (cy 0, 64, .inl vmxf_18))] H := hP
    have hD : va_D A [(vo, .inr (12, [.int voth, .ref vmt, .int votp, .int vosz, .int volm, .int voto, .int vofr, .int vokd, .int vonu, .int vosg, .int vofa, .int vopl, .long vowd, .int votd, .ref vmn, .ref vmr, .ref vmk, .ref vms, .ref vma, .ref vmm, .ref vmrn, .ref vmkn, .ref vmik, .ref vmon, .int vosm, .int vohp, .ref vmw, .ref vmf, .ref vmb, .int vomb, .ref vmd, .ref vmc, .int vocm, .int voct, .int vocy, .ref vmx, .int votx_17, .int vose, .ref vml, .ref vmwr, .int voln, .int vohw, .ref vmno, .int vond, .int voon, .int vowi, .int votop])), (vmx, .inl (cy 0, 64, .inl vmxf_18))] := hD
    refine lv_aload_n hx hb dX11_writeWord_17 rfl (lv_at hl 0 rfl) ?_
    refine lv_bipush (v := 96) hx hb dX11_writeWord_18 (by decide) ?_
    refine lv_lload_n hx hb dX11_writeWord_20 rfl (lv_at hl 1 rfl) ?_
    refine lv_ldc2 hx hb hown (hts _ t1610) dX11_writeWord_21 ?_
    refine lv_lrem hx hb dX11_writeWord_24 (by decide) ?_
    refine lv_topl (fun y_22 ey_22 => ?_)
    refine lv_l2i hx hb dX11_writeWord_25 rfl ?_
    refine lv_topi (fun z_23 ez_23 => ?_)
    refine lv_iadd hx hb dX11_writeWord_26 ?_
    refine lv_topi (fun z_24 ez_24 => ?_)
    refine jn_v (wr := []) (rV (As := [.int z_24]) (rest := []) (ci := 12) ⟨hx, hb, hml, hown, hts⟩ (m_write l dC dI cy _ vo voth vmt votp vosz volm voto vofr vokd vonu vosg vofa vopl vowd votd vmn vmr vmk vms vma vmm vmrn vmkn vmik vmon vosm vohp vmw vmf vmb vomb vmd vmc vocm voct vocy vmx votx_17 vose vml vmwr voln vohw vmno vond voon vowi votop vmxf_18 z_24 ⟨by omega, by omega⟩) (cw_X11_342 hts rfl rfl ⟨Nat.le_of_ble_eq_true rfl, Nat.le_of_ble_eq_true rfl⟩) hP hD hK [0, 1] rfl rfl rfl rfl bl0 e0 rfl hl.1 rfl (Nat.le_of_ble_eq_true rfl) dX11_writeWord_27 ⟨Nat.le_of_ble_eq_true rfl, Nat.le_of_ble_eq_true rfl⟩) hP hD hS hA [0, 1] [] rfl rfl rfl (by decide) (fun u_27 H locs hp_26 hP hD hS => ?_)
    obtain ⟨votx_28, vmxf_29⟩ := u_27
    have hp_26 : (0 ≤ (votx_28 : Int32).toInt ∧ (votx_28 : Int32).toInt ≤ 64) ∧ ((votx_28 : Int32).toInt = (votx_17 : Int32).toInt + 1) := hp_26
    obtain ⟨q_30, q_31⟩ := hp_26
    have hP : va_P (dC, dI) vwCl [(vo, .inr (12, [.int voth, .ref vmt, .int votp, .int vosz, .int volm, .int voto, .int vofr, .int vokd, .int vonu, .int vosg, .int vofa, .int vopl, .long vowd, .int votd, .ref vmn, .ref vmr, .ref vmk, .ref vms, .ref vma, .ref vmm, .ref vmrn, .ref vmkn, .ref vmik, .ref vmon, .int vosm, .int vohp, .ref vmw, .ref vmf, .ref vmb, .int vomb, .ref vmd, .ref vmc, .int vocm, .int voct, .int vocy, .ref vmx, .int votx_28, .int vose, .ref vml, .ref vmwr, .int voln, .int vohw, .ref vmno, .int vond, .int voon, .int vowi, .int votop])), (vmx, .inl (cy 0, 64, .inl vmxf_29))] H := hP
    have hD : va_D A [(vo, .inr (12, [.int voth, .ref vmt, .int votp, .int vosz, .int volm, .int voto, .int vofr, .int vokd, .int vonu, .int vosg, .int vofa, .int vopl, .long vowd, .int votd, .ref vmn, .ref vmr, .ref vmk, .ref vms, .ref vma, .ref vmm, .ref vmrn, .ref vmkn, .ref vmik, .ref vmon, .int vosm, .int vohp, .ref vmw, .ref vmf, .ref vmb, .int vomb, .ref vmd, .ref vmc, .int vocm, .int voct, .int vocy, .ref vmx, .int votx_28, .int vose, .ref vml, .ref vmwr, .int voln, .int vohw, .ref vmno, .int vond, .int voon, .int vowi, .int votop])), (vmx, .inl (cy 0, 64, .inl vmxf_29))] := hD
    rw [hQ9]
    exact re_v (votx_28, vmxf_29) hx hb hr hlocks ⟨(show 0 ≤ (votx_28 : Int32).toInt ∧ (votx_28 : Int32).toInt ≤ 64 from ⟨by omega, by omega⟩), (show (votx_28 : Int32).toInt ≤ (votx : Int32).toInt + 7 from (by omega)), (show (votx : Int32).toInt ≤ (votx_28 : Int32).toInt from (by omega))⟩ (hP.sub [0, 1] rfl) (hD.sub [0, 1] rfl rfl) hS dX11_writeWord_30
abbrev O_m_writeWord_8 (cy : Nat → ClassId) (vo : Nat) (voth : Int32) (vmt : Nat) (votp : Int32) (vosz : Int32) (volm : Int32) (voto : Int32) (vofr : Int32) (vokd : Int32) (vonu : Int32) (vosg : Int32) (vofa : Int32) (vopl : Int32) (vowd : Int64) (votd : Int32) (vmn : Nat) (vmr : Nat) (vmk : Nat) (vms : Nat) (vma : Nat) (vmm : Nat) (vmrn : Nat) (vmkn : Nat) (vmik : Nat) (vmon : Nat) (vosm : Int32) (vohp : Int32) (vmw : Nat) (vmf : Nat) (vmb : Nat) (vomb : Int32) (vmd : Nat) (vmc : Nat) (vocm : Int32) (voct : Int32) (vocy : Int32) (vmx : Nat) (votx : Int32) (vose : Int32) (vml : Nat) (vmwr : Nat) (voln : Int32) (vohw : Int32) (vmno : Nat) (vond : Int32) (voon : Int32) (vowi : Int32) (votop : Int32) (vmxf : Nat → Int32) (vw : Int64) (u : Int32 × (Nat → Int32)) : va_W := [(vo, .inr (12, [.int voth, .ref vmt, .int votp, .int vosz, .int volm, .int voto, .int vofr, .int vokd, .int vonu, .int vosg, .int vofa, .int vopl, .long vowd, .int votd, .ref vmn, .ref vmr, .ref vmk, .ref vms, .ref vma, .ref vmm, .ref vmrn, .ref vmkn, .ref vmik, .ref vmon, .int vosm, .int vohp, .ref vmw, .ref vmf, .ref vmb, .int vomb, .ref vmd, .ref vmc, .int vocm, .int voct, .int vocy, .ref vmx, .int u.1, .int vose, .ref vml, .ref vmwr, .int voln, .int vohw, .ref vmno, .int vond, .int voon, .int vowi, .int votop])), (vmx, .inl (cy 0, 64, .inl u.2))]
set_option maxHeartbeats 4000000 in
set_option maxRecDepth 100000 in
theorem m_writeWord_8 (l : Launch) (dC : Nat → ClassId) (dI : Nat → Nat → Nat) (cy : Nat → ClassId) (sz : Nat) (vo : Nat) (voth : Int32) (vmt : Nat) (votp : Int32) (vosz : Int32) (volm : Int32) (voto : Int32) (vofr : Int32) (vokd : Int32) (vonu : Int32) (vosg : Int32) (vofa : Int32) (vopl : Int32) (vowd : Int64) (votd : Int32) (vmn : Nat) (vmr : Nat) (vmk : Nat) (vms : Nat) (vma : Nat) (vmm : Nat) (vmrn : Nat) (vmkn : Nat) (vmik : Nat) (vmon : Nat) (vosm : Int32) (vohp : Int32) (vmw : Nat) (vmf : Nat) (vmb : Nat) (vomb : Int32) (vmd : Nat) (vmc : Nat) (vocm : Int32) (voct : Int32) (vocy : Int32) (vmx : Nat) (votx : Int32) (vose : Int32) (vml : Nat) (vmwr : Nat) (voln : Int32) (vohw : Int32) (vmno : Nat) (vond : Int32) (voon : Int32) (vowi : Int32) (votop : Int32) (vmxf : Nat → Int32) (vw : Int64) (r_votx : 0 ≤ (votx : Int32).toInt ∧ (votx : Int32).toInt ≤ 56) (hw : (vw : Int64).toInt < 282429536481) : Met l yX11_writeWord (wl yX11_writeWord cX11_writeWord 3 none) ({ frames := 8, cells := 0, slots := 0, locals := 512 }) (Pw (dC, dI) vwCl cy [(vo, .inr (12, [.int voth, .ref vmt, .int votp, .int vosz, .int volm, .int voto, .int vofr, .int vokd, .int vonu, .int vosg, .int vofa, .int vopl, .long vowd, .int votd, .ref vmn, .ref vmr, .ref vmk, .ref vms, .ref vma, .ref vmm, .ref vmrn, .ref vmkn, .ref vmik, .ref vmon, .int vosm, .int vohp, .ref vmw, .ref vmf, .ref vmb, .int vomb, .ref vmd, .ref vmc, .int vocm, .int voct, .int vocy, .ref vmx, .int votx, .int vose, .ref vml, .ref vmwr, .int voln, .int vohw, .ref vmno, .int vond, .int voon, .int vowi, .int votop])), (vmx, .inl (cy 0, 64, .inl vmxf))] sz [.ref vo, .long vw] nE) (Qv (dC, dI) vwCl (fun (u : Int32 × (Nat → Int32)) => (0 ≤ (u.1 : Int32).toInt ∧ (u.1 : Int32).toInt ≤ 64) ∧ ((u.1 : Int32).toInt ≤ (votx : Int32).toInt + 8) ∧ ((votx : Int32).toInt ≤ (u.1 : Int32).toInt)) (O_m_writeWord_8 cy vo voth vmt votp vosz volm voto vofr vokd vonu vosg vofa vopl vowd votd vmn vmr vmk vms vma vmm vmrn vmkn vmik vmon vosm vohp vmw vmf vmb vomb vmd vmc vocm voct vocy vmx votx vose vml vmwr voln vohw vmno vond voon vowi votop vmxf vw) (va_A [(vo, .inr (12, [.int voth, .ref vmt, .int votp, .int vosz, .int volm, .int voto, .int vofr, .int vokd, .int vonu, .int vosg, .int vofa, .int vopl, .long vowd, .int votd, .ref vmn, .ref vmr, .ref vmk, .ref vms, .ref vma, .ref vmm, .ref vmrn, .ref vmkn, .ref vmik, .ref vmon, .int vosm, .int vohp, .ref vmw, .ref vmf, .ref vmb, .int vomb, .ref vmd, .ref vmc, .int vocm, .int voct, .int vocy, .ref vmx, .int votx, .int vose, .ref vml, .ref vmwr, .int voln, .int vohw, .ref vmno, .int vond, .int voon, .int vowi, .int votop])), (vmx, .inl (cy 0, 64, .inl vmxf))] sz)) 0 0 (va_A [(vo, .inr (12, [.int voth, .ref vmt, .int votp, .int vosz, .int volm, .int voto, .int vofr, .int vokd, .int vonu, .int vosg, .int vofa, .int vopl, .long vowd, .int votd, .ref vmn, .ref vmr, .ref vmk, .ref vms, .ref vma, .ref vmm, .ref vmrn, .ref vmkn, .ref vmik, .ref vmon, .int vosm, .int vohp, .ref vmw, .ref vmf, .ref vmb, .int vomb, .ref vmd, .ref vmc, .int vocm, .int voct, .int vocy, .ref vmx, .int votx, .int vose, .ref vml, .ref vmwr, .int voln, .int vohw, .ref vmno, .int vond, .int voon, .int vowi, .int votop])), (vmx, .inl (cy 0, 64, .inl vmxf))] sz) := by
  refine mw (Qc := Qv (dC, dI) vwCl (fun (u : Int32 × (Nat → Int32)) => (0 ≤ (u.1 : Int32).toInt ∧ (u.1 : Int32).toInt ≤ 64) ∧ ((u.1 : Int32).toInt ≤ (votx : Int32).toInt + 8) ∧ ((votx : Int32).toInt ≤ (u.1 : Int32).toInt)) (O_m_writeWord_8 cy vo voth vmt votp vosz volm voto vofr vokd vonu vosg vofa vopl vowd votd vmn vmr vmk vms vma vmm vmrn vmkn vmik vmon vosm vohp vmw vmf vmb vomb vmd vmc vocm voct vocy vmx votx vose vml vmwr voln vohw vmno vond voon vowi votop vmxf vw)) RX11 rfl (by decide +kernel) (Nat.le_of_ble_eq_true rfl) ?_
  intro p e s m below meth c A hx hb hr hlocks av9 hav hts hown hnm hml hK hP hD hA hS hE hAe Q9 hQ9 ls hl
  have hl : lv_has ls 3 [(0, .ref vo), (1, .long vw)] := hl
  refine lv_lload_n hx hb dX11_writeWord_0 rfl (lv_at hl 1 rfl) ?_
  refine lv_ldc2 hx hb hown (hts _ t1610) dX11_writeWord_1 ?_
  refine W.lcmp hx hb dX11_writeWord_4 ?_
  refine lv_topi (fun z_1 ez_1 => ?_)
  have bz_1 : z_1.toInt < 0 ↔ vw.toInt < (27 : Int64).toInt := l_cmp ez_1
  have kl_27 : (27 : Int64).toInt = 27 := by decide
  have k_0 : (0 : Int32).toInt = 0 := by decide
  refine lv_if_lt (tgt := 17) hx hb dX11_writeWord_5 (by decide) (fun c_2 => ?_) (fun c_2 => ?_)
  · skip
    have c_2 : z_1.toInt < (0 : Int32).toInt := i_lt.mp c_2
    refine lv_aload_n hx hb dX11_writeWord_17 rfl (lv_at hl 0 rfl) ?_
    refine lv_bipush (v := 96) hx hb dX11_writeWord_18 (by decide) ?_
    refine lv_lload_n hx hb dX11_writeWord_20 rfl (lv_at hl 1 rfl) ?_
    refine lv_ldc2 hx hb hown (hts _ t1610) dX11_writeWord_21 ?_
    refine lv_lrem hx hb dX11_writeWord_24 (by decide) ?_
    refine lv_topl (fun y_3 ey_3 => ?_)
    refine lv_l2i hx hb dX11_writeWord_25 rfl ?_
    refine lv_topi (fun z_4 ez_4 => ?_)
    refine lv_iadd hx hb dX11_writeWord_26 ?_
    refine lv_topi (fun z_5 ez_5 => ?_)
    refine jn_v (wr := []) (rV (As := [.int z_5]) (rest := []) (ci := 12) ⟨hx, hb, hml, hown, hts⟩ (m_write l dC dI cy _ vo voth vmt votp vosz volm voto vofr vokd vonu vosg vofa vopl vowd votd vmn vmr vmk vms vma vmm vmrn vmkn vmik vmon vosm vohp vmw vmf vmb vomb vmd vmc vocm voct vocy vmx votx vose vml vmwr voln vohw vmno vond voon vowi votop vmxf z_5 ⟨by omega, by omega⟩) (cw_X11_342 hts rfl rfl ⟨Nat.le_of_ble_eq_true rfl, Nat.le_of_ble_eq_true rfl⟩) hP hD hK [0, 1] rfl rfl rfl rfl bl0 e0 rfl hl.1 rfl (Nat.le_of_ble_eq_true rfl) dX11_writeWord_27 ⟨Nat.le_of_ble_eq_true rfl, Nat.le_of_ble_eq_true rfl⟩) hP hD hS hA [0, 1] [] rfl rfl rfl (by decide) (fun u_8 H locs hp_7 hP hD hS => ?_)
    obtain ⟨votx_9, vmxf_10⟩ := u_8
    have hp_7 : (0 ≤ (votx_9 : Int32).toInt ∧ (votx_9 : Int32).toInt ≤ 64) ∧ ((votx_9 : Int32).toInt = (votx : Int32).toInt + 1) := hp_7
    obtain ⟨q_11, q_12⟩ := hp_7
    have hP : va_P (dC, dI) vwCl [(vo, .inr (12, [.int voth, .ref vmt, .int votp, .int vosz, .int volm, .int voto, .int vofr, .int vokd, .int vonu, .int vosg, .int vofa, .int vopl, .long vowd, .int votd, .ref vmn, .ref vmr, .ref vmk, .ref vms, .ref vma, .ref vmm, .ref vmrn, .ref vmkn, .ref vmik, .ref vmon, .int vosm, .int vohp, .ref vmw, .ref vmf, .ref vmb, .int vomb, .ref vmd, .ref vmc, .int vocm, .int voct, .int vocy, .ref vmx, .int votx_9, .int vose, .ref vml, .ref vmwr, .int voln, .int vohw, .ref vmno, .int vond, .int voon, .int vowi, .int votop])), (vmx, .inl (cy 0, 64, .inl vmxf_10))] H := hP
    have hD : va_D A [(vo, .inr (12, [.int voth, .ref vmt, .int votp, .int vosz, .int volm, .int voto, .int vofr, .int vokd, .int vonu, .int vosg, .int vofa, .int vopl, .long vowd, .int votd, .ref vmn, .ref vmr, .ref vmk, .ref vms, .ref vma, .ref vmm, .ref vmrn, .ref vmkn, .ref vmik, .ref vmon, .int vosm, .int vohp, .ref vmw, .ref vmf, .ref vmb, .int vomb, .ref vmd, .ref vmc, .int vocm, .int voct, .int vocy, .ref vmx, .int votx_9, .int vose, .ref vml, .ref vmwr, .int voln, .int vohw, .ref vmno, .int vond, .int voon, .int vowi, .int votop])), (vmx, .inl (cy 0, 64, .inl vmxf_10))] := hD
    rw [hQ9]
    exact re_v (votx_9, vmxf_10) hx hb hr hlocks ⟨(show 0 ≤ (votx_9 : Int32).toInt ∧ (votx_9 : Int32).toInt ≤ 64 from ⟨by omega, by omega⟩), (show (votx_9 : Int32).toInt ≤ (votx : Int32).toInt + 8 from (by omega)), (show (votx : Int32).toInt ≤ (votx_9 : Int32).toInt from (by omega))⟩ (hP.sub [0, 1] rfl) (hD.sub [0, 1] rfl rfl) hS dX11_writeWord_30
  · skip
    have c_2 : ¬ (z_1.toInt < (0 : Int32).toInt) := fun h9 => c_2 (i_lt.mpr h9)
    refine lv_aload_n hx hb dX11_writeWord_8 rfl (lv_at hl 0 rfl) ?_
    refine lv_lload_n hx hb dX11_writeWord_9 rfl (lv_at hl 1 rfl) ?_
    refine lv_ldc2 hx hb hown (hts _ t1610) dX11_writeWord_10 ?_
    refine lv_ldiv hx hb dX11_writeWord_13 (by decide) ?_
    refine lv_topl (fun y_13 ey_13 => ?_)
    have by_13 : 0 ≤ y_13.toInt ∧ y_13.toInt * 27 ≤ vw.toInt := l_div27 ey_13 (by omega)
    refine jn_v (wr := []) (rV (As := [.long y_13]) (rest := []) (ci := 12) ⟨hx, hb, hml, hown, hts⟩ (m_writeWord_7 l dC dI cy _ vo voth vmt votp vosz volm voto vofr vokd vonu vosg vofa vopl vowd votd vmn vmr vmk vms vma vmm vmrn vmkn vmik vmon vosm vohp vmw vmf vmb vomb vmd vmc vocm voct vocy vmx votx vose vml vmwr voln vohw vmno vond voon vowi votop vmxf y_13 ⟨by omega, by omega⟩ (by omega)) (cw_X11_338 hts rfl rfl ⟨Nat.le_of_ble_eq_true rfl, Nat.le_of_ble_eq_true rfl⟩) hP hD hK [0, 1] rfl rfl rfl rfl bl0 e0 rfl hl.1 rfl (Nat.le_of_ble_eq_true rfl) dX11_writeWord_14 ⟨Nat.le_of_ble_eq_true rfl, Nat.le_of_ble_eq_true rfl⟩) hP hD hS hA [0, 1] [] rfl rfl rfl (by decide) (fun u_16 H locs hp_15 hP hD hS => ?_)
    obtain ⟨votx_17, vmxf_18⟩ := u_16
    have hp_15 : (0 ≤ (votx_17 : Int32).toInt ∧ (votx_17 : Int32).toInt ≤ 64) ∧ ((votx_17 : Int32).toInt ≤ (votx : Int32).toInt + 7) ∧ ((votx : Int32).toInt ≤ (votx_17 : Int32).toInt) := hp_15
    obtain ⟨q_19, q_20, q_21⟩ := hp_15
    have hP : va_P (dC, dI) vwCl [(vo, .inr (12, [.int voth, .ref vmt, .int votp, .int vosz, .int volm, .int voto, .int vofr, .int vokd, .int vonu, .int vosg, .int vofa, .int vopl, .long vowd, .int votd, .ref vmn, .ref vmr, .ref vmk, .ref vms, .ref vma, .ref vmm, .ref vmrn, .ref vmkn, .ref vmik, .ref vmon, .int vosm, .int vohp, .ref vmw, .ref vmf, .ref vmb, .int vomb, .ref vmd, .ref vmc, .int vocm, .int voct, .int vocy, .ref vmx, .int votx_17, .int vose, .ref vml, .ref vmwr, .int voln, .int vohw, .ref vmno, .int vond, .int voon, .int vowi, .int votop])), (vmx, .inl (cy 0, 64, .inl vmxf_18))] H := hP
    have hD : va_D A [(vo, .inr (12, [.int voth, .ref vmt, .int votp, .int vosz, .int volm, .int voto, .int vofr, .int vokd, .int vonu, .int vosg, .int vofa, .int vopl, .long vowd, .int votd, .ref vmn, .ref vmr, .ref vmk, .ref vms, .ref vma, .ref vmm, .ref vmrn, .ref vmkn, .ref vmik, .ref vmon, .int vosm, .int vohp, .ref vmw, .ref vmf, .ref vmb, .int vomb, .ref vmd, .ref vmc, .int vocm, .int voct, .int vocy, .ref vmx, .int votx_17, .int vose, .ref vml, .ref vmwr, .int voln, .int vohw, .ref vmno, .int vond, .int voon, .int vowi, .int votop])), (vmx, .inl (cy 0, 64, .inl vmxf_18))] := hD
    refine lv_aload_n hx hb dX11_writeWord_17 rfl (lv_at hl 0 rfl) ?_
    refine lv_bipush (v := 96) hx hb dX11_writeWord_18 (by decide) ?_
    refine lv_lload_n hx hb dX11_writeWord_20 rfl (lv_at hl 1 rfl) ?_
    refine lv_ldc2 hx hb hown (hts _ t1610) dX11_writeWord_21 ?_
    refine lv_lrem hx hb dX11_writeWord_24 (by decide) ?_
    refine lv_topl (fun y_22 ey_22 => ?_)
    refine lv_l2i hx hb dX11_writeWord_25 rfl ?_
    refine lv_topi (fun z_23 ez_23 => ?_)
    refine lv_iadd hx hb dX11_writeWord_26 ?_
    refine lv_topi (fun z_24 ez_24 => ?_)
    refine jn_v (wr := []) (rV (As := [.int z_24]) (rest := []) (ci := 12) ⟨hx, hb, hml, hown, hts⟩ (m_write l dC dI cy _ vo voth vmt votp vosz volm voto vofr vokd vonu vosg vofa vopl vowd votd vmn vmr vmk vms vma vmm vmrn vmkn vmik vmon vosm vohp vmw vmf vmb vomb vmd vmc vocm voct vocy vmx votx_17 vose vml vmwr voln vohw vmno vond voon vowi votop vmxf_18 z_24 ⟨by omega, by omega⟩) (cw_X11_342 hts rfl rfl ⟨Nat.le_of_ble_eq_true rfl, Nat.le_of_ble_eq_true rfl⟩) hP hD hK [0, 1] rfl rfl rfl rfl bl0 e0 rfl hl.1 rfl (Nat.le_of_ble_eq_true rfl) dX11_writeWord_27 ⟨Nat.le_of_ble_eq_true rfl, Nat.le_of_ble_eq_true rfl⟩) hP hD hS hA [0, 1] [] rfl rfl rfl (by decide) (fun u_27 H locs hp_26 hP hD hS => ?_)
    obtain ⟨votx_28, vmxf_29⟩ := u_27
    have hp_26 : (0 ≤ (votx_28 : Int32).toInt ∧ (votx_28 : Int32).toInt ≤ 64) ∧ ((votx_28 : Int32).toInt = (votx_17 : Int32).toInt + 1) := hp_26
    obtain ⟨q_30, q_31⟩ := hp_26
    have hP : va_P (dC, dI) vwCl [(vo, .inr (12, [.int voth, .ref vmt, .int votp, .int vosz, .int volm, .int voto, .int vofr, .int vokd, .int vonu, .int vosg, .int vofa, .int vopl, .long vowd, .int votd, .ref vmn, .ref vmr, .ref vmk, .ref vms, .ref vma, .ref vmm, .ref vmrn, .ref vmkn, .ref vmik, .ref vmon, .int vosm, .int vohp, .ref vmw, .ref vmf, .ref vmb, .int vomb, .ref vmd, .ref vmc, .int vocm, .int voct, .int vocy, .ref vmx, .int votx_28, .int vose, .ref vml, .ref vmwr, .int voln, .int vohw, .ref vmno, .int vond, .int voon, .int vowi, .int votop])), (vmx, .inl (cy 0, 64, .inl vmxf_29))] H := hP
    have hD : va_D A [(vo, .inr (12, [.int voth, .ref vmt, .int votp, .int vosz, .int volm, .int voto, .int vofr, .int vokd, .int vonu, .int vosg, .int vofa, .int vopl, .long vowd, .int votd, .ref vmn, .ref vmr, .ref vmk, .ref vms, .ref vma, .ref vmm, .ref vmrn, .ref vmkn, .ref vmik, .ref vmon, .int vosm, .int vohp, .ref vmw, .ref vmf, .ref vmb, .int vomb, .ref vmd, .ref vmc, .int vocm, .int voct, .int vocy, .ref vmx, .int votx_28, .int vose, .ref vml, .ref vmwr, .int voln, .int vohw, .ref vmno, .int vond, .int voon, .int vowi, .int votop])), (vmx, .inl (cy 0, 64, .inl vmxf_29))] := hD
    rw [hQ9]
    exact re_v (votx_28, vmxf_29) hx hb hr hlocks ⟨(show 0 ≤ (votx_28 : Int32).toInt ∧ (votx_28 : Int32).toInt ≤ 64 from ⟨by omega, by omega⟩), (show (votx_28 : Int32).toInt ≤ (votx : Int32).toInt + 8 from (by omega)), (show (votx : Int32).toInt ≤ (votx_28 : Int32).toInt from (by omega))⟩ (hP.sub [0, 1] rfl) (hD.sub [0, 1] rfl rfl) hS dX11_writeWord_30
abbrev O_m_writeWord_9 (cy : Nat → ClassId) (vo : Nat) (voth : Int32) (vmt : Nat) (votp : Int32) (vosz : Int32) (volm : Int32) (voto : Int32) (vofr : Int32) (vokd : Int32) (vonu : Int32) (vosg : Int32) (vofa : Int32) (vopl : Int32) (vowd : Int64) (votd : Int32) (vmn : Nat) (vmr : Nat) (vmk : Nat) (vms : Nat) (vma : Nat) (vmm : Nat) (vmrn : Nat) (vmkn : Nat) (vmik : Nat) (vmon : Nat) (vosm : Int32) (vohp : Int32) (vmw : Nat) (vmf : Nat) (vmb : Nat) (vomb : Int32) (vmd : Nat) (vmc : Nat) (vocm : Int32) (voct : Int32) (vocy : Int32) (vmx : Nat) (votx : Int32) (vose : Int32) (vml : Nat) (vmwr : Nat) (voln : Int32) (vohw : Int32) (vmno : Nat) (vond : Int32) (voon : Int32) (vowi : Int32) (votop : Int32) (vmxf : Nat → Int32) (vw : Int64) (u : Int32 × (Nat → Int32)) : va_W := [(vo, .inr (12, [.int voth, .ref vmt, .int votp, .int vosz, .int volm, .int voto, .int vofr, .int vokd, .int vonu, .int vosg, .int vofa, .int vopl, .long vowd, .int votd, .ref vmn, .ref vmr, .ref vmk, .ref vms, .ref vma, .ref vmm, .ref vmrn, .ref vmkn, .ref vmik, .ref vmon, .int vosm, .int vohp, .ref vmw, .ref vmf, .ref vmb, .int vomb, .ref vmd, .ref vmc, .int vocm, .int voct, .int vocy, .ref vmx, .int u.1, .int vose, .ref vml, .ref vmwr, .int voln, .int vohw, .ref vmno, .int vond, .int voon, .int vowi, .int votop])), (vmx, .inl (cy 0, 64, .inl u.2))]
set_option maxHeartbeats 4000000 in
set_option maxRecDepth 100000 in
theorem m_writeWord_9 (l : Launch) (dC : Nat → ClassId) (dI : Nat → Nat → Nat) (cy : Nat → ClassId) (sz : Nat) (vo : Nat) (voth : Int32) (vmt : Nat) (votp : Int32) (vosz : Int32) (volm : Int32) (voto : Int32) (vofr : Int32) (vokd : Int32) (vonu : Int32) (vosg : Int32) (vofa : Int32) (vopl : Int32) (vowd : Int64) (votd : Int32) (vmn : Nat) (vmr : Nat) (vmk : Nat) (vms : Nat) (vma : Nat) (vmm : Nat) (vmrn : Nat) (vmkn : Nat) (vmik : Nat) (vmon : Nat) (vosm : Int32) (vohp : Int32) (vmw : Nat) (vmf : Nat) (vmb : Nat) (vomb : Int32) (vmd : Nat) (vmc : Nat) (vocm : Int32) (voct : Int32) (vocy : Int32) (vmx : Nat) (votx : Int32) (vose : Int32) (vml : Nat) (vmwr : Nat) (voln : Int32) (vohw : Int32) (vmno : Nat) (vond : Int32) (voon : Int32) (vowi : Int32) (votop : Int32) (vmxf : Nat → Int32) (vw : Int64) (r_votx : 0 ≤ (votx : Int32).toInt ∧ (votx : Int32).toInt ≤ 55) (hw : (vw : Int64).toInt < 7625597484987) : Met l yX11_writeWord (wl yX11_writeWord cX11_writeWord 3 none) ({ frames := 9, cells := 0, slots := 0, locals := 576 }) (Pw (dC, dI) vwCl cy [(vo, .inr (12, [.int voth, .ref vmt, .int votp, .int vosz, .int volm, .int voto, .int vofr, .int vokd, .int vonu, .int vosg, .int vofa, .int vopl, .long vowd, .int votd, .ref vmn, .ref vmr, .ref vmk, .ref vms, .ref vma, .ref vmm, .ref vmrn, .ref vmkn, .ref vmik, .ref vmon, .int vosm, .int vohp, .ref vmw, .ref vmf, .ref vmb, .int vomb, .ref vmd, .ref vmc, .int vocm, .int voct, .int vocy, .ref vmx, .int votx, .int vose, .ref vml, .ref vmwr, .int voln, .int vohw, .ref vmno, .int vond, .int voon, .int vowi, .int votop])), (vmx, .inl (cy 0, 64, .inl vmxf))] sz [.ref vo, .long vw] nE) (Qv (dC, dI) vwCl (fun (u : Int32 × (Nat → Int32)) => (0 ≤ (u.1 : Int32).toInt ∧ (u.1 : Int32).toInt ≤ 64) ∧ ((u.1 : Int32).toInt ≤ (votx : Int32).toInt + 9) ∧ ((votx : Int32).toInt ≤ (u.1 : Int32).toInt)) (O_m_writeWord_9 cy vo voth vmt votp vosz volm voto vofr vokd vonu vosg vofa vopl vowd votd vmn vmr vmk vms vma vmm vmrn vmkn vmik vmon vosm vohp vmw vmf vmb vomb vmd vmc vocm voct vocy vmx votx vose vml vmwr voln vohw vmno vond voon vowi votop vmxf vw) (va_A [(vo, .inr (12, [.int voth, .ref vmt, .int votp, .int vosz, .int volm, .int voto, .int vofr, .int vokd, .int vonu, .int vosg, .int vofa, .int vopl, .long vowd, .int votd, .ref vmn, .ref vmr, .ref vmk, .ref vms, .ref vma, .ref vmm, .ref vmrn, .ref vmkn, .ref vmik, .ref vmon, .int vosm, .int vohp, .ref vmw, .ref vmf, .ref vmb, .int vomb, .ref vmd, .ref vmc, .int vocm, .int voct, .int vocy, .ref vmx, .int votx, .int vose, .ref vml, .ref vmwr, .int voln, .int vohw, .ref vmno, .int vond, .int voon, .int vowi, .int votop])), (vmx, .inl (cy 0, 64, .inl vmxf))] sz)) 0 0 (va_A [(vo, .inr (12, [.int voth, .ref vmt, .int votp, .int vosz, .int volm, .int voto, .int vofr, .int vokd, .int vonu, .int vosg, .int vofa, .int vopl, .long vowd, .int votd, .ref vmn, .ref vmr, .ref vmk, .ref vms, .ref vma, .ref vmm, .ref vmrn, .ref vmkn, .ref vmik, .ref vmon, .int vosm, .int vohp, .ref vmw, .ref vmf, .ref vmb, .int vomb, .ref vmd, .ref vmc, .int vocm, .int voct, .int vocy, .ref vmx, .int votx, .int vose, .ref vml, .ref vmwr, .int voln, .int vohw, .ref vmno, .int vond, .int voon, .int vowi, .int votop])), (vmx, .inl (cy 0, 64, .inl vmxf))] sz) := by
  refine mw (Qc := Qv (dC, dI) vwCl (fun (u : Int32 × (Nat → Int32)) => (0 ≤ (u.1 : Int32).toInt ∧ (u.1 : Int32).toInt ≤ 64) ∧ ((u.1 : Int32).toInt ≤ (votx : Int32).toInt + 9) ∧ ((votx : Int32).toInt ≤ (u.1 : Int32).toInt)) (O_m_writeWord_9 cy vo voth vmt votp vosz volm voto vofr vokd vonu vosg vofa vopl vowd votd vmn vmr vmk vms vma vmm vmrn vmkn vmik vmon vosm vohp vmw vmf vmb vomb vmd vmc vocm voct vocy vmx votx vose vml vmwr voln vohw vmno vond voon vowi votop vmxf vw)) RX11 rfl (by decide +kernel) (Nat.le_of_ble_eq_true rfl) ?_
  intro p e s m below meth c A hx hb hr hlocks av9 hav hts hown hnm hml hK hP hD hA hS hE hAe Q9 hQ9 ls hl
  have hl : lv_has ls 3 [(0, .ref vo), (1, .long vw)] := hl
  refine lv_lload_n hx hb dX11_writeWord_0 rfl (lv_at hl 1 rfl) ?_
  refine lv_ldc2 hx hb hown (hts _ t1610) dX11_writeWord_1 ?_
  refine W.lcmp hx hb dX11_writeWord_4 ?_
  refine lv_topi (fun z_1 ez_1 => ?_)
  have bz_1 : z_1.toInt < 0 ↔ vw.toInt < (27 : Int64).toInt := l_cmp ez_1
  have kl_27 : (27 : Int64).toInt = 27 := by decide
  have k_0 : (0 : Int32).toInt = 0 := by decide
  refine lv_if_lt (tgt := 17) hx hb dX11_writeWord_5 (by decide) (fun c_2 => ?_) (fun c_2 => ?_)
  · skip
    have c_2 : z_1.toInt < (0 : Int32).toInt := i_lt.mp c_2
    refine lv_aload_n hx hb dX11_writeWord_17 rfl (lv_at hl 0 rfl) ?_
    refine lv_bipush (v := 96) hx hb dX11_writeWord_18 (by decide) ?_
    refine lv_lload_n hx hb dX11_writeWord_20 rfl (lv_at hl 1 rfl) ?_
    refine lv_ldc2 hx hb hown (hts _ t1610) dX11_writeWord_21 ?_
    refine lv_lrem hx hb dX11_writeWord_24 (by decide) ?_
    refine lv_topl (fun y_3 ey_3 => ?_)
    refine lv_l2i hx hb dX11_writeWord_25 rfl ?_
    refine lv_topi (fun z_4 ez_4 => ?_)
    refine lv_iadd hx hb dX11_writeWord_26 ?_
    refine lv_topi (fun z_5 ez_5 => ?_)
    refine jn_v (wr := []) (rV (As := [.int z_5]) (rest := []) (ci := 12) ⟨hx, hb, hml, hown, hts⟩ (m_write l dC dI cy _ vo voth vmt votp vosz volm voto vofr vokd vonu vosg vofa vopl vowd votd vmn vmr vmk vms vma vmm vmrn vmkn vmik vmon vosm vohp vmw vmf vmb vomb vmd vmc vocm voct vocy vmx votx vose vml vmwr voln vohw vmno vond voon vowi votop vmxf z_5 ⟨by omega, by omega⟩) (cw_X11_342 hts rfl rfl ⟨Nat.le_of_ble_eq_true rfl, Nat.le_of_ble_eq_true rfl⟩) hP hD hK [0, 1] rfl rfl rfl rfl bl0 e0 rfl hl.1 rfl (Nat.le_of_ble_eq_true rfl) dX11_writeWord_27 ⟨Nat.le_of_ble_eq_true rfl, Nat.le_of_ble_eq_true rfl⟩) hP hD hS hA [0, 1] [] rfl rfl rfl (by decide) (fun u_8 H locs hp_7 hP hD hS => ?_)
    obtain ⟨votx_9, vmxf_10⟩ := u_8
    have hp_7 : (0 ≤ (votx_9 : Int32).toInt ∧ (votx_9 : Int32).toInt ≤ 64) ∧ ((votx_9 : Int32).toInt = (votx : Int32).toInt + 1) := hp_7
    obtain ⟨q_11, q_12⟩ := hp_7
    have hP : va_P (dC, dI) vwCl [(vo, .inr (12, [.int voth, .ref vmt, .int votp, .int vosz, .int volm, .int voto, .int vofr, .int vokd, .int vonu, .int vosg, .int vofa, .int vopl, .long vowd, .int votd, .ref vmn, .ref vmr, .ref vmk, .ref vms, .ref vma, .ref vmm, .ref vmrn, .ref vmkn, .ref vmik, .ref vmon, .int vosm, .int vohp, .ref vmw, .ref vmf, .ref vmb, .int vomb, .ref vmd, .ref vmc, .int vocm, .int voct, .int vocy, .ref vmx, .int votx_9, .int vose, .ref vml, .ref vmwr, .int voln, .int vohw, .ref vmno, .int vond, .int voon, .int vowi, .int votop])), (vmx, .inl (cy 0, 64, .inl vmxf_10))] H := hP
    have hD : va_D A [(vo, .inr (12, [.int voth, .ref vmt, .int votp, .int vosz, .int volm, .int voto, .int vofr, .int vokd, .int vonu, .int vosg, .int vofa, .int vopl, .long vowd, .int votd, .ref vmn, .ref vmr, .ref vmk, .ref vms, .ref vma, .ref vmm, .ref vmrn, .ref vmkn, .ref vmik, .ref vmon, .int vosm, .int vohp, .ref vmw, .ref vmf, .ref vmb, .int vomb, .ref vmd, .ref vmc, .int vocm, .int voct, .int vocy, .ref vmx, .int votx_9, .int vose, .ref vml, .ref vmwr, .int voln, .int vohw, .ref vmno, .int vond, .int voon, .int vowi, .int votop])), (vmx, .inl (cy 0, 64, .inl vmxf_10))] := hD
    rw [hQ9]
    exact re_v (votx_9, vmxf_10) hx hb hr hlocks ⟨(show 0 ≤ (votx_9 : Int32).toInt ∧ (votx_9 : Int32).toInt ≤ 64 from ⟨by omega, by omega⟩), (show (votx_9 : Int32).toInt ≤ (votx : Int32).toInt + 9 from (by omega)), (show (votx : Int32).toInt ≤ (votx_9 : Int32).toInt from (by omega))⟩ (hP.sub [0, 1] rfl) (hD.sub [0, 1] rfl rfl) hS dX11_writeWord_30
  · skip
    have c_2 : ¬ (z_1.toInt < (0 : Int32).toInt) := fun h9 => c_2 (i_lt.mpr h9)
    refine lv_aload_n hx hb dX11_writeWord_8 rfl (lv_at hl 0 rfl) ?_
    refine lv_lload_n hx hb dX11_writeWord_9 rfl (lv_at hl 1 rfl) ?_
    refine lv_ldc2 hx hb hown (hts _ t1610) dX11_writeWord_10 ?_
    refine lv_ldiv hx hb dX11_writeWord_13 (by decide) ?_
    refine lv_topl (fun y_13 ey_13 => ?_)
    have by_13 : 0 ≤ y_13.toInt ∧ y_13.toInt * 27 ≤ vw.toInt := l_div27 ey_13 (by omega)
    refine jn_v (wr := []) (rV (As := [.long y_13]) (rest := []) (ci := 12) ⟨hx, hb, hml, hown, hts⟩ (m_writeWord_8 l dC dI cy _ vo voth vmt votp vosz volm voto vofr vokd vonu vosg vofa vopl vowd votd vmn vmr vmk vms vma vmm vmrn vmkn vmik vmon vosm vohp vmw vmf vmb vomb vmd vmc vocm voct vocy vmx votx vose vml vmwr voln vohw vmno vond voon vowi votop vmxf y_13 ⟨by omega, by omega⟩ (by omega)) (cw_X11_338 hts rfl rfl ⟨Nat.le_of_ble_eq_true rfl, Nat.le_of_ble_eq_true rfl⟩) hP hD hK [0, 1] rfl rfl rfl rfl bl0 e0 rfl hl.1 rfl (Nat.le_of_ble_eq_true rfl) dX11_writeWord_14 ⟨Nat.le_of_ble_eq_true rfl, Nat.le_of_ble_eq_true rfl⟩) hP hD hS hA [0, 1] [] rfl rfl rfl (by decide) (fun u_16 H locs hp_15 hP hD hS => ?_)
    obtain ⟨votx_17, vmxf_18⟩ := u_16
    have hp_15 : (0 ≤ (votx_17 : Int32).toInt ∧ (votx_17 : Int32).toInt ≤ 64) ∧ ((votx_17 : Int32).toInt ≤ (votx : Int32).toInt + 8) ∧ ((votx : Int32).toInt ≤ (votx_17 : Int32).toInt) := hp_15
    obtain ⟨q_19, q_20, q_21⟩ := hp_15
    have hP : va_P (dC, dI) vwCl [(vo, .inr (12, [.int voth, .ref vmt, .int votp, .int vosz, .int volm, .int voto, .int vofr, .int vokd, .int vonu, .int vosg, .int vofa, .int vopl, .long vowd, .int votd, .ref vmn, .ref vmr, .ref vmk, .ref vms, .ref vma, .ref vmm, .ref vmrn, .ref vmkn, .ref vmik, .ref vmon, .int vosm, .int vohp, .ref vmw, .ref vmf, .ref vmb, .int vomb, .ref vmd, .ref vmc, .int vocm, .int voct, .int vocy, .ref vmx, .int votx_17, .int vose, .ref vml, .ref vmwr, .int voln, .int vohw, .ref vmno, .int vond, .int voon, .int vowi, .int votop])), (vmx, .inl (cy 0, 64, .inl vmxf_18))] H := hP
    have hD : va_D A [(vo, .inr (12, [.int voth, .ref vmt, .int votp, .int vosz, .int volm, .int voto, .int vofr, .int vokd, .int vonu, .int vosg, .int vofa, .int vopl, .long vowd, .int votd, .ref vmn, .ref vmr, .ref vmk, .ref vms, .ref vma, .ref vmm, .ref vmrn, .ref vmkn, .ref vmik, .ref vmon, .int vosm, .int vohp, .ref vmw, .ref vmf, .ref vmb, .int vomb, .ref vmd, .ref vmc, .int vocm, .int voct, .int vocy, .ref vmx, .int votx_17, .int vose, .ref vml, .ref vmwr, .int voln, .int vohw, .ref vmno, .int vond, .int voon, .int vowi, .int votop])), (vmx, .inl (cy 0, 64, .inl vmxf_18))] := hD
    refine lv_aload_n hx hb dX11_writeWord_17 rfl (lv_at hl 0 rfl) ?_
    refine lv_bipush (v := 96) hx hb dX11_writeWord_18 (by decide) ?_
    refine lv_lload_n hx hb dX11_writeWord_20 rfl (lv_at hl 1 rfl) ?_
    refine lv_ldc2 hx hb hown (hts _ t1610) dX11_writeWord_21 ?_
    refine lv_lrem hx hb dX11_writeWord_24 (by decide) ?_
    refine lv_topl (fun y_22 ey_22 => ?_)
    refine lv_l2i hx hb dX11_writeWord_25 rfl ?_
    refine lv_topi (fun z_23 ez_23 => ?_)
    refine lv_iadd hx hb dX11_writeWord_26 ?_
    refine lv_topi (fun z_24 ez_24 => ?_)
    refine jn_v (wr := []) (rV (As := [.int z_24]) (rest := []) (ci := 12) ⟨hx, hb, hml, hown, hts⟩ (m_write l dC dI cy _ vo voth vmt votp vosz volm voto vofr vokd vonu vosg vofa vopl vowd votd vmn vmr vmk vms vma vmm vmrn vmkn vmik vmon vosm vohp vmw vmf vmb vomb vmd vmc vocm voct vocy vmx votx_17 vose vml vmwr voln vohw vmno vond voon vowi votop vmxf_18 z_24 ⟨by omega, by omega⟩) (cw_X11_342 hts rfl rfl ⟨Nat.le_of_ble_eq_true rfl, Nat.le_of_ble_eq_true rfl⟩) hP hD hK [0, 1] rfl rfl rfl rfl bl0 e0 rfl hl.1 rfl (Nat.le_of_ble_eq_true rfl) dX11_writeWord_27 ⟨Nat.le_of_ble_eq_true rfl, Nat.le_of_ble_eq_true rfl⟩) hP hD hS hA [0, 1] [] rfl rfl rfl (by decide) (fun u_27 H locs hp_26 hP hD hS => ?_)
    obtain ⟨votx_28, vmxf_29⟩ := u_27
    have hp_26 : (0 ≤ (votx_28 : Int32).toInt ∧ (votx_28 : Int32).toInt ≤ 64) ∧ ((votx_28 : Int32).toInt = (votx_17 : Int32).toInt + 1) := hp_26
    obtain ⟨q_30, q_31⟩ := hp_26
    have hP : va_P (dC, dI) vwCl [(vo, .inr (12, [.int voth, .ref vmt, .int votp, .int vosz, .int volm, .int voto, .int vofr, .int vokd, .int vonu, .int vosg, .int vofa, .int vopl, .long vowd, .int votd, .ref vmn, .ref vmr, .ref vmk, .ref vms, .ref vma, .ref vmm, .ref vmrn, .ref vmkn, .ref vmik, .ref vmon, .int vosm, .int vohp, .ref vmw, .ref vmf, .ref vmb, .int vomb, .ref vmd, .ref vmc, .int vocm, .int voct, .int vocy, .ref vmx, .int votx_28, .int vose, .ref vml, .ref vmwr, .int voln, .int vohw, .ref vmno, .int vond, .int voon, .int vowi, .int votop])), (vmx, .inl (cy 0, 64, .inl vmxf_29))] H := hP
    have hD : va_D A [(vo, .inr (12, [.int voth, .ref vmt, .int votp, .int vosz, .int volm, .int voto, .int vofr, .int vokd, .int vonu, .int vosg, .int vofa, .int vopl, .long vowd, .int votd, .ref vmn, .ref vmr, .ref vmk, .ref vms, .ref vma, .ref vmm, .ref vmrn, .ref vmkn, .ref vmik, .ref vmon, .int vosm, .int vohp, .ref vmw, .ref vmf, .ref vmb, .int vomb, .ref vmd, .ref vmc, .int vocm, .int voct, .int vocy, .ref vmx, .int votx_28, .int vose, .ref vml, .ref vmwr, .int voln, .int vohw, .ref vmno, .int vond, .int voon, .int vowi, .int votop])), (vmx, .inl (cy 0, 64, .inl vmxf_29))] := hD
    rw [hQ9]
    exact re_v (votx_28, vmxf_29) hx hb hr hlocks ⟨(show 0 ≤ (votx_28 : Int32).toInt ∧ (votx_28 : Int32).toInt ≤ 64 from ⟨by omega, by omega⟩), (show (votx_28 : Int32).toInt ≤ (votx : Int32).toInt + 9 from (by omega)), (show (votx : Int32).toInt ≤ (votx_28 : Int32).toInt from (by omega))⟩ (hP.sub [0, 1] rfl) (hD.sub [0, 1] rfl rfl) hS dX11_writeWord_30
abbrev O_m_writeWord_10 (cy : Nat → ClassId) (vo : Nat) (voth : Int32) (vmt : Nat) (votp : Int32) (vosz : Int32) (volm : Int32) (voto : Int32) (vofr : Int32) (vokd : Int32) (vonu : Int32) (vosg : Int32) (vofa : Int32) (vopl : Int32) (vowd : Int64) (votd : Int32) (vmn : Nat) (vmr : Nat) (vmk : Nat) (vms : Nat) (vma : Nat) (vmm : Nat) (vmrn : Nat) (vmkn : Nat) (vmik : Nat) (vmon : Nat) (vosm : Int32) (vohp : Int32) (vmw : Nat) (vmf : Nat) (vmb : Nat) (vomb : Int32) (vmd : Nat) (vmc : Nat) (vocm : Int32) (voct : Int32) (vocy : Int32) (vmx : Nat) (votx : Int32) (vose : Int32) (vml : Nat) (vmwr : Nat) (voln : Int32) (vohw : Int32) (vmno : Nat) (vond : Int32) (voon : Int32) (vowi : Int32) (votop : Int32) (vmxf : Nat → Int32) (vw : Int64) (u : Int32 × (Nat → Int32)) : va_W := [(vo, .inr (12, [.int voth, .ref vmt, .int votp, .int vosz, .int volm, .int voto, .int vofr, .int vokd, .int vonu, .int vosg, .int vofa, .int vopl, .long vowd, .int votd, .ref vmn, .ref vmr, .ref vmk, .ref vms, .ref vma, .ref vmm, .ref vmrn, .ref vmkn, .ref vmik, .ref vmon, .int vosm, .int vohp, .ref vmw, .ref vmf, .ref vmb, .int vomb, .ref vmd, .ref vmc, .int vocm, .int voct, .int vocy, .ref vmx, .int u.1, .int vose, .ref vml, .ref vmwr, .int voln, .int vohw, .ref vmno, .int vond, .int voon, .int vowi, .int votop])), (vmx, .inl (cy 0, 64, .inl u.2))]
set_option maxHeartbeats 4000000 in
set_option maxRecDepth 100000 in
theorem m_writeWord_10 (l : Launch) (dC : Nat → ClassId) (dI : Nat → Nat → Nat) (cy : Nat → ClassId) (sz : Nat) (vo : Nat) (voth : Int32) (vmt : Nat) (votp : Int32) (vosz : Int32) (volm : Int32) (voto : Int32) (vofr : Int32) (vokd : Int32) (vonu : Int32) (vosg : Int32) (vofa : Int32) (vopl : Int32) (vowd : Int64) (votd : Int32) (vmn : Nat) (vmr : Nat) (vmk : Nat) (vms : Nat) (vma : Nat) (vmm : Nat) (vmrn : Nat) (vmkn : Nat) (vmik : Nat) (vmon : Nat) (vosm : Int32) (vohp : Int32) (vmw : Nat) (vmf : Nat) (vmb : Nat) (vomb : Int32) (vmd : Nat) (vmc : Nat) (vocm : Int32) (voct : Int32) (vocy : Int32) (vmx : Nat) (votx : Int32) (vose : Int32) (vml : Nat) (vmwr : Nat) (voln : Int32) (vohw : Int32) (vmno : Nat) (vond : Int32) (voon : Int32) (vowi : Int32) (votop : Int32) (vmxf : Nat → Int32) (vw : Int64) (r_votx : 0 ≤ (votx : Int32).toInt ∧ (votx : Int32).toInt ≤ 54) (hw : (vw : Int64).toInt < 205891132094649) : Met l yX11_writeWord (wl yX11_writeWord cX11_writeWord 3 none) ({ frames := 10, cells := 0, slots := 0, locals := 640 }) (Pw (dC, dI) vwCl cy [(vo, .inr (12, [.int voth, .ref vmt, .int votp, .int vosz, .int volm, .int voto, .int vofr, .int vokd, .int vonu, .int vosg, .int vofa, .int vopl, .long vowd, .int votd, .ref vmn, .ref vmr, .ref vmk, .ref vms, .ref vma, .ref vmm, .ref vmrn, .ref vmkn, .ref vmik, .ref vmon, .int vosm, .int vohp, .ref vmw, .ref vmf, .ref vmb, .int vomb, .ref vmd, .ref vmc, .int vocm, .int voct, .int vocy, .ref vmx, .int votx, .int vose, .ref vml, .ref vmwr, .int voln, .int vohw, .ref vmno, .int vond, .int voon, .int vowi, .int votop])), (vmx, .inl (cy 0, 64, .inl vmxf))] sz [.ref vo, .long vw] nE) (Qv (dC, dI) vwCl (fun (u : Int32 × (Nat → Int32)) => (0 ≤ (u.1 : Int32).toInt ∧ (u.1 : Int32).toInt ≤ 64) ∧ ((u.1 : Int32).toInt ≤ (votx : Int32).toInt + 10) ∧ ((votx : Int32).toInt ≤ (u.1 : Int32).toInt)) (O_m_writeWord_10 cy vo voth vmt votp vosz volm voto vofr vokd vonu vosg vofa vopl vowd votd vmn vmr vmk vms vma vmm vmrn vmkn vmik vmon vosm vohp vmw vmf vmb vomb vmd vmc vocm voct vocy vmx votx vose vml vmwr voln vohw vmno vond voon vowi votop vmxf vw) (va_A [(vo, .inr (12, [.int voth, .ref vmt, .int votp, .int vosz, .int volm, .int voto, .int vofr, .int vokd, .int vonu, .int vosg, .int vofa, .int vopl, .long vowd, .int votd, .ref vmn, .ref vmr, .ref vmk, .ref vms, .ref vma, .ref vmm, .ref vmrn, .ref vmkn, .ref vmik, .ref vmon, .int vosm, .int vohp, .ref vmw, .ref vmf, .ref vmb, .int vomb, .ref vmd, .ref vmc, .int vocm, .int voct, .int vocy, .ref vmx, .int votx, .int vose, .ref vml, .ref vmwr, .int voln, .int vohw, .ref vmno, .int vond, .int voon, .int vowi, .int votop])), (vmx, .inl (cy 0, 64, .inl vmxf))] sz)) 0 0 (va_A [(vo, .inr (12, [.int voth, .ref vmt, .int votp, .int vosz, .int volm, .int voto, .int vofr, .int vokd, .int vonu, .int vosg, .int vofa, .int vopl, .long vowd, .int votd, .ref vmn, .ref vmr, .ref vmk, .ref vms, .ref vma, .ref vmm, .ref vmrn, .ref vmkn, .ref vmik, .ref vmon, .int vosm, .int vohp, .ref vmw, .ref vmf, .ref vmb, .int vomb, .ref vmd, .ref vmc, .int vocm, .int voct, .int vocy, .ref vmx, .int votx, .int vose, .ref vml, .ref vmwr, .int voln, .int vohw, .ref vmno, .int vond, .int voon, .int vowi, .int votop])), (vmx, .inl (cy 0, 64, .inl vmxf))] sz) := by
  refine mw (Qc := Qv (dC, dI) vwCl (fun (u : Int32 × (Nat → Int32)) => (0 ≤ (u.1 : Int32).toInt ∧ (u.1 : Int32).toInt ≤ 64) ∧ ((u.1 : Int32).toInt ≤ (votx : Int32).toInt + 10) ∧ ((votx : Int32).toInt ≤ (u.1 : Int32).toInt)) (O_m_writeWord_10 cy vo voth vmt votp vosz volm voto vofr vokd vonu vosg vofa vopl vowd votd vmn vmr vmk vms vma vmm vmrn vmkn vmik vmon vosm vohp vmw vmf vmb vomb vmd vmc vocm voct vocy vmx votx vose vml vmwr voln vohw vmno vond voon vowi votop vmxf vw)) RX11 rfl (by decide +kernel) (Nat.le_of_ble_eq_true rfl) ?_
  intro p e s m below meth c A hx hb hr hlocks av9 hav hts hown hnm hml hK hP hD hA hS hE hAe Q9 hQ9 ls hl
  have hl : lv_has ls 3 [(0, .ref vo), (1, .long vw)] := hl
  refine lv_lload_n hx hb dX11_writeWord_0 rfl (lv_at hl 1 rfl) ?_
  refine lv_ldc2 hx hb hown (hts _ t1610) dX11_writeWord_1 ?_
  refine W.lcmp hx hb dX11_writeWord_4 ?_
  refine lv_topi (fun z_1 ez_1 => ?_)
  have bz_1 : z_1.toInt < 0 ↔ vw.toInt < (27 : Int64).toInt := l_cmp ez_1
  have kl_27 : (27 : Int64).toInt = 27 := by decide
  have k_0 : (0 : Int32).toInt = 0 := by decide
  refine lv_if_lt (tgt := 17) hx hb dX11_writeWord_5 (by decide) (fun c_2 => ?_) (fun c_2 => ?_)
  · skip
    have c_2 : z_1.toInt < (0 : Int32).toInt := i_lt.mp c_2
    refine lv_aload_n hx hb dX11_writeWord_17 rfl (lv_at hl 0 rfl) ?_
    refine lv_bipush (v := 96) hx hb dX11_writeWord_18 (by decide) ?_
    refine lv_lload_n hx hb dX11_writeWord_20 rfl (lv_at hl 1 rfl) ?_
    refine lv_ldc2 hx hb hown (hts _ t1610) dX11_writeWord_21 ?_
    refine lv_lrem hx hb dX11_writeWord_24 (by decide) ?_
    refine lv_topl (fun y_3 ey_3 => ?_)
    refine lv_l2i hx hb dX11_writeWord_25 rfl ?_
    refine lv_topi (fun z_4 ez_4 => ?_)
    refine lv_iadd hx hb dX11_writeWord_26 ?_
    refine lv_topi (fun z_5 ez_5 => ?_)
    refine jn_v (wr := []) (rV (As := [.int z_5]) (rest := []) (ci := 12) ⟨hx, hb, hml, hown, hts⟩ (m_write l dC dI cy _ vo voth vmt votp vosz volm voto vofr vokd vonu vosg vofa vopl vowd votd vmn vmr vmk vms vma vmm vmrn vmkn vmik vmon vosm vohp vmw vmf vmb vomb vmd vmc vocm voct vocy vmx votx vose vml vmwr voln vohw vmno vond voon vowi votop vmxf z_5 ⟨by omega, by omega⟩) (cw_X11_342 hts rfl rfl ⟨Nat.le_of_ble_eq_true rfl, Nat.le_of_ble_eq_true rfl⟩) hP hD hK [0, 1] rfl rfl rfl rfl bl0 e0 rfl hl.1 rfl (Nat.le_of_ble_eq_true rfl) dX11_writeWord_27 ⟨Nat.le_of_ble_eq_true rfl, Nat.le_of_ble_eq_true rfl⟩) hP hD hS hA [0, 1] [] rfl rfl rfl (by decide) (fun u_8 H locs hp_7 hP hD hS => ?_)
    obtain ⟨votx_9, vmxf_10⟩ := u_8
    have hp_7 : (0 ≤ (votx_9 : Int32).toInt ∧ (votx_9 : Int32).toInt ≤ 64) ∧ ((votx_9 : Int32).toInt = (votx : Int32).toInt + 1) := hp_7
    obtain ⟨q_11, q_12⟩ := hp_7
    have hP : va_P (dC, dI) vwCl [(vo, .inr (12, [.int voth, .ref vmt, .int votp, .int vosz, .int volm, .int voto, .int vofr, .int vokd, .int vonu, .int vosg, .int vofa, .int vopl, .long vowd, .int votd, .ref vmn, .ref vmr, .ref vmk, .ref vms, .ref vma, .ref vmm, .ref vmrn, .ref vmkn, .ref vmik, .ref vmon, .int vosm, .int vohp, .ref vmw, .ref vmf, .ref vmb, .int vomb, .ref vmd, .ref vmc, .int vocm, .int voct, .int vocy, .ref vmx, .int votx_9, .int vose, .ref vml, .ref vmwr, .int voln, .int vohw, .ref vmno, .int vond, .int voon, .int vowi, .int votop])), (vmx, .inl (cy 0, 64, .inl vmxf_10))] H := hP
    have hD : va_D A [(vo, .inr (12, [.int voth, .ref vmt, .int votp, .int vosz, .int volm, .int voto, .int vofr, .int vokd, .int vonu, .int vosg, .int vofa, .int vopl, .long vowd, .int votd, .ref vmn, .ref vmr, .ref vmk, .ref vms, .ref vma, .ref vmm, .ref vmrn, .ref vmkn, .ref vmik, .ref vmon, .int vosm, .int vohp, .ref vmw, .ref vmf, .ref vmb, .int vomb, .ref vmd, .ref vmc, .int vocm, .int voct, .int vocy, .ref vmx, .int votx_9, .int vose, .ref vml, .ref vmwr, .int voln, .int vohw, .ref vmno, .int vond, .int voon, .int vowi, .int votop])), (vmx, .inl (cy 0, 64, .inl vmxf_10))] := hD
    rw [hQ9]
    exact re_v (votx_9, vmxf_10) hx hb hr hlocks ⟨(show 0 ≤ (votx_9 : Int32).toInt ∧ (votx_9 : Int32).toInt ≤ 64 from ⟨by omega, by omega⟩), (show (votx_9 : Int32).toInt ≤ (votx : Int32).toInt + 10 from (by omega)), (show (votx : Int32).toInt ≤ (votx_9 : Int32).toInt from (by omega))⟩ (hP.sub [0, 1] rfl) (hD.sub [0, 1] rfl rfl) hS dX11_writeWord_30
  · skip
    have c_2 : ¬ (z_1.toInt < (0 : Int32).toInt) := fun h9 => c_2 (i_lt.mpr h9)
    refine lv_aload_n hx hb dX11_writeWord_8 rfl (lv_at hl 0 rfl) ?_
    refine lv_lload_n hx hb dX11_writeWord_9 rfl (lv_at hl 1 rfl) ?_
    refine lv_ldc2 hx hb hown (hts _ t1610) dX11_writeWord_10 ?_
    refine lv_ldiv hx hb dX11_writeWord_13 (by decide) ?_
    refine lv_topl (fun y_13 ey_13 => ?_)
    have by_13 : 0 ≤ y_13.toInt ∧ y_13.toInt * 27 ≤ vw.toInt := l_div27 ey_13 (by omega)
    refine jn_v (wr := []) (rV (As := [.long y_13]) (rest := []) (ci := 12) ⟨hx, hb, hml, hown, hts⟩ (m_writeWord_9 l dC dI cy _ vo voth vmt votp vosz volm voto vofr vokd vonu vosg vofa vopl vowd votd vmn vmr vmk vms vma vmm vmrn vmkn vmik vmon vosm vohp vmw vmf vmb vomb vmd vmc vocm voct vocy vmx votx vose vml vmwr voln vohw vmno vond voon vowi votop vmxf y_13 ⟨by omega, by omega⟩ (by omega)) (cw_X11_338 hts rfl rfl ⟨Nat.le_of_ble_eq_true rfl, Nat.le_of_ble_eq_true rfl⟩) hP hD hK [0, 1] rfl rfl rfl rfl bl0 e0 rfl hl.1 rfl (Nat.le_of_ble_eq_true rfl) dX11_writeWord_14 ⟨Nat.le_of_ble_eq_true rfl, Nat.le_of_ble_eq_true rfl⟩) hP hD hS hA [0, 1] [] rfl rfl rfl (by decide) (fun u_16 H locs hp_15 hP hD hS => ?_)
    obtain ⟨votx_17, vmxf_18⟩ := u_16
    have hp_15 : (0 ≤ (votx_17 : Int32).toInt ∧ (votx_17 : Int32).toInt ≤ 64) ∧ ((votx_17 : Int32).toInt ≤ (votx : Int32).toInt + 9) ∧ ((votx : Int32).toInt ≤ (votx_17 : Int32).toInt) := hp_15
    obtain ⟨q_19, q_20, q_21⟩ := hp_15
    have hP : va_P (dC, dI) vwCl [(vo, .inr (12, [.int voth, .ref vmt, .int votp, .int vosz, .int volm, .int voto, .int vofr, .int vokd, .int vonu, .int vosg, .int vofa, .int vopl, .long vowd, .int votd, .ref vmn, .ref vmr, .ref vmk, .ref vms, .ref vma, .ref vmm, .ref vmrn, .ref vmkn, .ref vmik, .ref vmon, .int vosm, .int vohp, .ref vmw, .ref vmf, .ref vmb, .int vomb, .ref vmd, .ref vmc, .int vocm, .int voct, .int vocy, .ref vmx, .int votx_17, .int vose, .ref vml, .ref vmwr, .int voln, .int vohw, .ref vmno, .int vond, .int voon, .int vowi, .int votop])), (vmx, .inl (cy 0, 64, .inl vmxf_18))] H := hP
    have hD : va_D A [(vo, .inr (12, [.int voth, .ref vmt, .int votp, .int vosz, .int volm, .int voto, .int vofr, .int vokd, .int vonu, .int vosg, .int vofa, .int vopl, .long vowd, .int votd, .ref vmn, .ref vmr, .ref vmk, .ref vms, .ref vma, .ref vmm, .ref vmrn, .ref vmkn, .ref vmik, .ref vmon, .int vosm, .int vohp, .ref vmw, .ref vmf, .ref vmb, .int vomb, .ref vmd, .ref vmc, .int vocm, .int voct, .int vocy, .ref vmx, .int votx_17, .int vose, .ref vml, .ref vmwr, .int voln, .int vohw, .ref vmno, .int vond, .int voon, .int vowi, .int votop])), (vmx, .inl (cy 0, 64, .inl vmxf_18))] := hD
    refine lv_aload_n hx hb dX11_writeWord_17 rfl (lv_at hl 0 rfl) ?_
    refine lv_bipush (v := 96) hx hb dX11_writeWord_18 (by decide) ?_
    refine lv_lload_n hx hb dX11_writeWord_20 rfl (lv_at hl 1 rfl) ?_
    refine lv_ldc2 hx hb hown (hts _ t1610) dX11_writeWord_21 ?_
    refine lv_lrem hx hb dX11_writeWord_24 (by decide) ?_
    refine lv_topl (fun y_22 ey_22 => ?_)
    refine lv_l2i hx hb dX11_writeWord_25 rfl ?_
    refine lv_topi (fun z_23 ez_23 => ?_)
    refine lv_iadd hx hb dX11_writeWord_26 ?_
    refine lv_topi (fun z_24 ez_24 => ?_)
    refine jn_v (wr := []) (rV (As := [.int z_24]) (rest := []) (ci := 12) ⟨hx, hb, hml, hown, hts⟩ (m_write l dC dI cy _ vo voth vmt votp vosz volm voto vofr vokd vonu vosg vofa vopl vowd votd vmn vmr vmk vms vma vmm vmrn vmkn vmik vmon vosm vohp vmw vmf vmb vomb vmd vmc vocm voct vocy vmx votx_17 vose vml vmwr voln vohw vmno vond voon vowi votop vmxf_18 z_24 ⟨by omega, by omega⟩) (cw_X11_342 hts rfl rfl ⟨Nat.le_of_ble_eq_true rfl, Nat.le_of_ble_eq_true rfl⟩) hP hD hK [0, 1] rfl rfl rfl rfl bl0 e0 rfl hl.1 rfl (Nat.le_of_ble_eq_true rfl) dX11_writeWord_27 ⟨Nat.le_of_ble_eq_true rfl, Nat.le_of_ble_eq_true rfl⟩) hP hD hS hA [0, 1] [] rfl rfl rfl (by decide) (fun u_27 H locs hp_26 hP hD hS => ?_)
    obtain ⟨votx_28, vmxf_29⟩ := u_27
    have hp_26 : (0 ≤ (votx_28 : Int32).toInt ∧ (votx_28 : Int32).toInt ≤ 64) ∧ ((votx_28 : Int32).toInt = (votx_17 : Int32).toInt + 1) := hp_26
    obtain ⟨q_30, q_31⟩ := hp_26
    have hP : va_P (dC, dI) vwCl [(vo, .inr (12, [.int voth, .ref vmt, .int votp, .int vosz, .int volm, .int voto, .int vofr, .int vokd, .int vonu, .int vosg, .int vofa, .int vopl, .long vowd, .int votd, .ref vmn, .ref vmr, .ref vmk, .ref vms, .ref vma, .ref vmm, .ref vmrn, .ref vmkn, .ref vmik, .ref vmon, .int vosm, .int vohp, .ref vmw, .ref vmf, .ref vmb, .int vomb, .ref vmd, .ref vmc, .int vocm, .int voct, .int vocy, .ref vmx, .int votx_28, .int vose, .ref vml, .ref vmwr, .int voln, .int vohw, .ref vmno, .int vond, .int voon, .int vowi, .int votop])), (vmx, .inl (cy 0, 64, .inl vmxf_29))] H := hP
    have hD : va_D A [(vo, .inr (12, [.int voth, .ref vmt, .int votp, .int vosz, .int volm, .int voto, .int vofr, .int vokd, .int vonu, .int vosg, .int vofa, .int vopl, .long vowd, .int votd, .ref vmn, .ref vmr, .ref vmk, .ref vms, .ref vma, .ref vmm, .ref vmrn, .ref vmkn, .ref vmik, .ref vmon, .int vosm, .int vohp, .ref vmw, .ref vmf, .ref vmb, .int vomb, .ref vmd, .ref vmc, .int vocm, .int voct, .int vocy, .ref vmx, .int votx_28, .int vose, .ref vml, .ref vmwr, .int voln, .int vohw, .ref vmno, .int vond, .int voon, .int vowi, .int votop])), (vmx, .inl (cy 0, 64, .inl vmxf_29))] := hD
    rw [hQ9]
    exact re_v (votx_28, vmxf_29) hx hb hr hlocks ⟨(show 0 ≤ (votx_28 : Int32).toInt ∧ (votx_28 : Int32).toInt ≤ 64 from ⟨by omega, by omega⟩), (show (votx_28 : Int32).toInt ≤ (votx : Int32).toInt + 10 from (by omega)), (show (votx : Int32).toInt ≤ (votx_28 : Int32).toInt from (by omega))⟩ (hP.sub [0, 1] rfl) (hD.sub [0, 1] rfl rfl) hS dX11_writeWord_30
abbrev O_m_writeWord_11 (cy : Nat → ClassId) (vo : Nat) (voth : Int32) (vmt : Nat) (votp : Int32) (vosz : Int32) (volm : Int32) (voto : Int32) (vofr : Int32) (vokd : Int32) (vonu : Int32) (vosg : Int32) (vofa : Int32) (vopl : Int32) (vowd : Int64) (votd : Int32) (vmn : Nat) (vmr : Nat) (vmk : Nat) (vms : Nat) (vma : Nat) (vmm : Nat) (vmrn : Nat) (vmkn : Nat) (vmik : Nat) (vmon : Nat) (vosm : Int32) (vohp : Int32) (vmw : Nat) (vmf : Nat) (vmb : Nat) (vomb : Int32) (vmd : Nat) (vmc : Nat) (vocm : Int32) (voct : Int32) (vocy : Int32) (vmx : Nat) (votx : Int32) (vose : Int32) (vml : Nat) (vmwr : Nat) (voln : Int32) (vohw : Int32) (vmno : Nat) (vond : Int32) (voon : Int32) (vowi : Int32) (votop : Int32) (vmxf : Nat → Int32) (vw : Int64) (u : Int32 × (Nat → Int32)) : va_W := [(vo, .inr (12, [.int voth, .ref vmt, .int votp, .int vosz, .int volm, .int voto, .int vofr, .int vokd, .int vonu, .int vosg, .int vofa, .int vopl, .long vowd, .int votd, .ref vmn, .ref vmr, .ref vmk, .ref vms, .ref vma, .ref vmm, .ref vmrn, .ref vmkn, .ref vmik, .ref vmon, .int vosm, .int vohp, .ref vmw, .ref vmf, .ref vmb, .int vomb, .ref vmd, .ref vmc, .int vocm, .int voct, .int vocy, .ref vmx, .int u.1, .int vose, .ref vml, .ref vmwr, .int voln, .int vohw, .ref vmno, .int vond, .int voon, .int vowi, .int votop])), (vmx, .inl (cy 0, 64, .inl u.2))]
set_option maxHeartbeats 4000000 in
set_option maxRecDepth 100000 in
theorem m_writeWord_11 (l : Launch) (dC : Nat → ClassId) (dI : Nat → Nat → Nat) (cy : Nat → ClassId) (sz : Nat) (vo : Nat) (voth : Int32) (vmt : Nat) (votp : Int32) (vosz : Int32) (volm : Int32) (voto : Int32) (vofr : Int32) (vokd : Int32) (vonu : Int32) (vosg : Int32) (vofa : Int32) (vopl : Int32) (vowd : Int64) (votd : Int32) (vmn : Nat) (vmr : Nat) (vmk : Nat) (vms : Nat) (vma : Nat) (vmm : Nat) (vmrn : Nat) (vmkn : Nat) (vmik : Nat) (vmon : Nat) (vosm : Int32) (vohp : Int32) (vmw : Nat) (vmf : Nat) (vmb : Nat) (vomb : Int32) (vmd : Nat) (vmc : Nat) (vocm : Int32) (voct : Int32) (vocy : Int32) (vmx : Nat) (votx : Int32) (vose : Int32) (vml : Nat) (vmwr : Nat) (voln : Int32) (vohw : Int32) (vmno : Nat) (vond : Int32) (voon : Int32) (vowi : Int32) (votop : Int32) (vmxf : Nat → Int32) (vw : Int64) (r_votx : 0 ≤ (votx : Int32).toInt ∧ (votx : Int32).toInt ≤ 53) (hw : (vw : Int64).toInt < 5559060566555523) : Met l yX11_writeWord (wl yX11_writeWord cX11_writeWord 3 none) ({ frames := 11, cells := 0, slots := 0, locals := 704 }) (Pw (dC, dI) vwCl cy [(vo, .inr (12, [.int voth, .ref vmt, .int votp, .int vosz, .int volm, .int voto, .int vofr, .int vokd, .int vonu, .int vosg, .int vofa, .int vopl, .long vowd, .int votd, .ref vmn, .ref vmr, .ref vmk, .ref vms, .ref vma, .ref vmm, .ref vmrn, .ref vmkn, .ref vmik, .ref vmon, .int vosm, .int vohp, .ref vmw, .ref vmf, .ref vmb, .int vomb, .ref vmd, .ref vmc, .int vocm, .int voct, .int vocy, .ref vmx, .int votx, .int vose, .ref vml, .ref vmwr, .int voln, .int vohw, .ref vmno, .int vond, .int voon, .int vowi, .int votop])), (vmx, .inl (cy 0, 64, .inl vmxf))] sz [.ref vo, .long vw] nE) (Qv (dC, dI) vwCl (fun (u : Int32 × (Nat → Int32)) => (0 ≤ (u.1 : Int32).toInt ∧ (u.1 : Int32).toInt ≤ 64) ∧ ((u.1 : Int32).toInt ≤ (votx : Int32).toInt + 11) ∧ ((votx : Int32).toInt ≤ (u.1 : Int32).toInt)) (O_m_writeWord_11 cy vo voth vmt votp vosz volm voto vofr vokd vonu vosg vofa vopl vowd votd vmn vmr vmk vms vma vmm vmrn vmkn vmik vmon vosm vohp vmw vmf vmb vomb vmd vmc vocm voct vocy vmx votx vose vml vmwr voln vohw vmno vond voon vowi votop vmxf vw) (va_A [(vo, .inr (12, [.int voth, .ref vmt, .int votp, .int vosz, .int volm, .int voto, .int vofr, .int vokd, .int vonu, .int vosg, .int vofa, .int vopl, .long vowd, .int votd, .ref vmn, .ref vmr, .ref vmk, .ref vms, .ref vma, .ref vmm, .ref vmrn, .ref vmkn, .ref vmik, .ref vmon, .int vosm, .int vohp, .ref vmw, .ref vmf, .ref vmb, .int vomb, .ref vmd, .ref vmc, .int vocm, .int voct, .int vocy, .ref vmx, .int votx, .int vose, .ref vml, .ref vmwr, .int voln, .int vohw, .ref vmno, .int vond, .int voon, .int vowi, .int votop])), (vmx, .inl (cy 0, 64, .inl vmxf))] sz)) 0 0 (va_A [(vo, .inr (12, [.int voth, .ref vmt, .int votp, .int vosz, .int volm, .int voto, .int vofr, .int vokd, .int vonu, .int vosg, .int vofa, .int vopl, .long vowd, .int votd, .ref vmn, .ref vmr, .ref vmk, .ref vms, .ref vma, .ref vmm, .ref vmrn, .ref vmkn, .ref vmik, .ref vmon, .int vosm, .int vohp, .ref vmw, .ref vmf, .ref vmb, .int vomb, .ref vmd, .ref vmc, .int vocm, .int voct, .int vocy, .ref vmx, .int votx, .int vose, .ref vml, .ref vmwr, .int voln, .int vohw, .ref vmno, .int vond, .int voon, .int vowi, .int votop])), (vmx, .inl (cy 0, 64, .inl vmxf))] sz) := by
  refine mw (Qc := Qv (dC, dI) vwCl (fun (u : Int32 × (Nat → Int32)) => (0 ≤ (u.1 : Int32).toInt ∧ (u.1 : Int32).toInt ≤ 64) ∧ ((u.1 : Int32).toInt ≤ (votx : Int32).toInt + 11) ∧ ((votx : Int32).toInt ≤ (u.1 : Int32).toInt)) (O_m_writeWord_11 cy vo voth vmt votp vosz volm voto vofr vokd vonu vosg vofa vopl vowd votd vmn vmr vmk vms vma vmm vmrn vmkn vmik vmon vosm vohp vmw vmf vmb vomb vmd vmc vocm voct vocy vmx votx vose vml vmwr voln vohw vmno vond voon vowi votop vmxf vw)) RX11 rfl (by decide +kernel) (Nat.le_of_ble_eq_true rfl) ?_
  intro p e s m below meth c A hx hb hr hlocks av9 hav hts hown hnm hml hK hP hD hA hS hE hAe Q9 hQ9 ls hl
  have hl : lv_has ls 3 [(0, .ref vo), (1, .long vw)] := hl
  refine lv_lload_n hx hb dX11_writeWord_0 rfl (lv_at hl 1 rfl) ?_
  refine lv_ldc2 hx hb hown (hts _ t1610) dX11_writeWord_1 ?_
  refine W.lcmp hx hb dX11_writeWord_4 ?_
  refine lv_topi (fun z_1 ez_1 => ?_)
  have bz_1 : z_1.toInt < 0 ↔ vw.toInt < (27 : Int64).toInt := l_cmp ez_1
  have kl_27 : (27 : Int64).toInt = 27 := by decide
  have k_0 : (0 : Int32).toInt = 0 := by decide
  refine lv_if_lt (tgt := 17) hx hb dX11_writeWord_5 (by decide) (fun c_2 => ?_) (fun c_2 => ?_)
  · skip
    have c_2 : z_1.toInt < (0 : Int32).toInt := i_lt.mp c_2
    refine lv_aload_n hx hb dX11_writeWord_17 rfl (lv_at hl 0 rfl) ?_
    refine lv_bipush (v := 96) hx hb dX11_writeWord_18 (by decide) ?_
    refine lv_lload_n hx hb dX11_writeWord_20 rfl (lv_at hl 1 rfl) ?_
    refine lv_ldc2 hx hb hown (hts _ t1610) dX11_writeWord_21 ?_
    refine lv_lrem hx hb dX11_writeWord_24 (by decide) ?_
    refine lv_topl (fun y_3 ey_3 => ?_)
    refine lv_l2i hx hb dX11_writeWord_25 rfl ?_
    refine lv_topi (fun z_4 ez_4 => ?_)
    refine lv_iadd hx hb dX11_writeWord_26 ?_
    refine lv_topi (fun z_5 ez_5 => ?_)
    refine jn_v (wr := []) (rV (As := [.int z_5]) (rest := []) (ci := 12) ⟨hx, hb, hml, hown, hts⟩ (m_write l dC dI cy _ vo voth vmt votp vosz volm voto vofr vokd vonu vosg vofa vopl vowd votd vmn vmr vmk vms vma vmm vmrn vmkn vmik vmon vosm vohp vmw vmf vmb vomb vmd vmc vocm voct vocy vmx votx vose vml vmwr voln vohw vmno vond voon vowi votop vmxf z_5 ⟨by omega, by omega⟩) (cw_X11_342 hts rfl rfl ⟨Nat.le_of_ble_eq_true rfl, Nat.le_of_ble_eq_true rfl⟩) hP hD hK [0, 1] rfl rfl rfl rfl bl0 e0 rfl hl.1 rfl (Nat.le_of_ble_eq_true rfl) dX11_writeWord_27 ⟨Nat.le_of_ble_eq_true rfl, Nat.le_of_ble_eq_true rfl⟩) hP hD hS hA [0, 1] [] rfl rfl rfl (by decide) (fun u_8 H locs hp_7 hP hD hS => ?_)
    obtain ⟨votx_9, vmxf_10⟩ := u_8
    have hp_7 : (0 ≤ (votx_9 : Int32).toInt ∧ (votx_9 : Int32).toInt ≤ 64) ∧ ((votx_9 : Int32).toInt = (votx : Int32).toInt + 1) := hp_7
    obtain ⟨q_11, q_12⟩ := hp_7
    have hP : va_P (dC, dI) vwCl [(vo, .inr (12, [.int voth, .ref vmt, .int votp, .int vosz, .int volm, .int voto, .int vofr, .int vokd, .int vonu, .int vosg, .int vofa, .int vopl, .long vowd, .int votd, .ref vmn, .ref vmr, .ref vmk, .ref vms, .ref vma, .ref vmm, .ref vmrn, .ref vmkn, .ref vmik, .ref vmon, .int vosm, .int vohp, .ref vmw, .ref vmf, .ref vmb, .int vomb, .ref vmd, .ref vmc, .int vocm, .int voct, .int vocy, .ref vmx, .int votx_9, .int vose, .ref vml, .ref vmwr, .int voln, .int vohw, .ref vmno, .int vond, .int voon, .int vowi, .int votop])), (vmx, .inl (cy 0, 64, .inl vmxf_10))] H := hP
    have hD : va_D A [(vo, .inr (12, [.int voth, .ref vmt, .int votp, .int vosz, .int volm, .int voto, .int vofr, .int vokd, .int vonu, .int vosg, .int vofa, .int vopl, .long vowd, .int votd, .ref vmn, .ref vmr, .ref vmk, .ref vms, .ref vma, .ref vmm, .ref vmrn, .ref vmkn, .ref vmik, .ref vmon, .int vosm, .int vohp, .ref vmw, .ref vmf, .ref vmb, .int vomb, .ref vmd, .ref vmc, .int vocm, .int voct, .int vocy, .ref vmx, .int votx_9, .int vose, .ref vml, .ref vmwr, .int voln, .int vohw, .ref vmno, .int vond, .int voon, .int vowi, .int votop])), (vmx, .inl (cy 0, 64, .inl vmxf_10))] := hD
    rw [hQ9]
    exact re_v (votx_9, vmxf_10) hx hb hr hlocks ⟨(show 0 ≤ (votx_9 : Int32).toInt ∧ (votx_9 : Int32).toInt ≤ 64 from ⟨by omega, by omega⟩), (show (votx_9 : Int32).toInt ≤ (votx : Int32).toInt + 11 from (by omega)), (show (votx : Int32).toInt ≤ (votx_9 : Int32).toInt from (by omega))⟩ (hP.sub [0, 1] rfl) (hD.sub [0, 1] rfl rfl) hS dX11_writeWord_30
  · skip
    have c_2 : ¬ (z_1.toInt < (0 : Int32).toInt) := fun h9 => c_2 (i_lt.mpr h9)
    refine lv_aload_n hx hb dX11_writeWord_8 rfl (lv_at hl 0 rfl) ?_
    refine lv_lload_n hx hb dX11_writeWord_9 rfl (lv_at hl 1 rfl) ?_
    refine lv_ldc2 hx hb hown (hts _ t1610) dX11_writeWord_10 ?_
    refine lv_ldiv hx hb dX11_writeWord_13 (by decide) ?_
    refine lv_topl (fun y_13 ey_13 => ?_)
    have by_13 : 0 ≤ y_13.toInt ∧ y_13.toInt * 27 ≤ vw.toInt := l_div27 ey_13 (by omega)
    refine jn_v (wr := []) (rV (As := [.long y_13]) (rest := []) (ci := 12) ⟨hx, hb, hml, hown, hts⟩ (m_writeWord_10 l dC dI cy _ vo voth vmt votp vosz volm voto vofr vokd vonu vosg vofa vopl vowd votd vmn vmr vmk vms vma vmm vmrn vmkn vmik vmon vosm vohp vmw vmf vmb vomb vmd vmc vocm voct vocy vmx votx vose vml vmwr voln vohw vmno vond voon vowi votop vmxf y_13 ⟨by omega, by omega⟩ (by omega)) (cw_X11_338 hts rfl rfl ⟨Nat.le_of_ble_eq_true rfl, Nat.le_of_ble_eq_true rfl⟩) hP hD hK [0, 1] rfl rfl rfl rfl bl0 e0 rfl hl.1 rfl (Nat.le_of_ble_eq_true rfl) dX11_writeWord_14 ⟨Nat.le_of_ble_eq_true rfl, Nat.le_of_ble_eq_true rfl⟩) hP hD hS hA [0, 1] [] rfl rfl rfl (by decide) (fun u_16 H locs hp_15 hP hD hS => ?_)
    obtain ⟨votx_17, vmxf_18⟩ := u_16
    have hp_15 : (0 ≤ (votx_17 : Int32).toInt ∧ (votx_17 : Int32).toInt ≤ 64) ∧ ((votx_17 : Int32).toInt ≤ (votx : Int32).toInt + 10) ∧ ((votx : Int32).toInt ≤ (votx_17 : Int32).toInt) := hp_15
    obtain ⟨q_19, q_20, q_21⟩ := hp_15
    have hP : va_P (dC, dI) vwCl [(vo, .inr (12, [.int voth, .ref vmt, .int votp, .int vosz, .int volm, .int voto, .int vofr, .int vokd, .int vonu, .int vosg, .int vofa, .int vopl, .long vowd, .int votd, .ref vmn, .ref vmr, .ref vmk, .ref vms, .ref vma, .ref vmm, .ref vmrn, .ref vmkn, .ref vmik, .ref vmon, .int vosm, .int vohp, .ref vmw, .ref vmf, .ref vmb, .int vomb, .ref vmd, .ref vmc, .int vocm, .int voct, .int vocy, .ref vmx, .int votx_17, .int vose, .ref vml, .ref vmwr, .int voln, .int vohw, .ref vmno, .int vond, .int voon, .int vowi, .int votop])), (vmx, .inl (cy 0, 64, .inl vmxf_18))] H := hP
    have hD : va_D A [(vo, .inr (12, [.int voth, .ref vmt, .int votp, .int vosz, .int volm, .int voto, .int vofr, .int vokd, .int vonu, .int vosg, .int vofa, .int vopl, .long vowd, .int votd, .ref vmn, .ref vmr, .ref vmk, .ref vms, .ref vma, .ref vmm, .ref vmrn, .ref vmkn, .ref vmik, .ref vmon, .int vosm, .int vohp, .ref vmw, .ref vmf, .ref vmb, .int vomb, .ref vmd, .ref vmc, .int vocm, .int voct, .int vocy, .ref vmx, .int votx_17, .int vose, .ref vml, .ref vmwr, .int voln, .int vohw, .ref vmno, .int vond, .int voon, .int vowi, .int votop])), (vmx, .inl (cy 0, 64, .inl vmxf_18))] := hD
    refine lv_aload_n hx hb dX11_writeWord_17 rfl (lv_at hl 0 rfl) ?_
    refine lv_bipush (v := 96) hx hb dX11_writeWord_18 (by decide) ?_
    refine lv_lload_n hx hb dX11_writeWord_20 rfl (lv_at hl 1 rfl) ?_
    refine lv_ldc2 hx hb hown (hts _ t1610) dX11_writeWord_21 ?_
    refine lv_lrem hx hb dX11_writeWord_24 (by decide) ?_
    refine lv_topl (fun y_22 ey_22 => ?_)
    refine lv_l2i hx hb dX11_writeWord_25 rfl ?_
    refine lv_topi (fun z_23 ez_23 => ?_)
    refine lv_iadd hx hb dX11_writeWord_26 ?_
    refine lv_topi (fun z_24 ez_24 => ?_)
    refine jn_v (wr := []) (rV (As := [.int z_24]) (rest := []) (ci := 12) ⟨hx, hb, hml, hown, hts⟩ (m_write l dC dI cy _ vo voth vmt votp vosz volm voto vofr vokd vonu vosg vofa vopl vowd votd vmn vmr vmk vms vma vmm vmrn vmkn vmik vmon vosm vohp vmw vmf vmb vomb vmd vmc vocm voct vocy vmx votx_17 vose vml vmwr voln vohw vmno vond voon vowi votop vmxf_18 z_24 ⟨by omega, by omega⟩) (cw_X11_342 hts rfl rfl ⟨Nat.le_of_ble_eq_true rfl, Nat.le_of_ble_eq_true rfl⟩) hP hD hK [0, 1] rfl rfl rfl rfl bl0 e0 rfl hl.1 rfl (Nat.le_of_ble_eq_true rfl) dX11_writeWord_27 ⟨Nat.le_of_ble_eq_true rfl, Nat.le_of_ble_eq_true rfl⟩) hP hD hS hA [0, 1] [] rfl rfl rfl (by decide) (fun u_27 H locs hp_26 hP hD hS => ?_)
    obtain ⟨votx_28, vmxf_29⟩ := u_27
    have hp_26 : (0 ≤ (votx_28 : Int32).toInt ∧ (votx_28 : Int32).toInt ≤ 64) ∧ ((votx_28 : Int32).toInt = (votx_17 : Int32).toInt + 1) := hp_26
    obtain ⟨q_30, q_31⟩ := hp_26
    have hP : va_P (dC, dI) vwCl [(vo, .inr (12, [.int voth, .ref vmt, .int votp, .int vosz, .int volm, .int voto, .int vofr, .int vokd, .int vonu, .int vosg, .int vofa, .int vopl, .long vowd, .int votd, .ref vmn, .ref vmr, .ref vmk, .ref vms, .ref vma, .ref vmm, .ref vmrn, .ref vmkn, .ref vmik, .ref vmon, .int vosm, .int vohp, .ref vmw, .ref vmf, .ref vmb, .int vomb, .ref vmd, .ref vmc, .int vocm, .int voct, .int vocy, .ref vmx, .int votx_28, .int vose, .ref vml, .ref vmwr, .int voln, .int vohw, .ref vmno, .int vond, .int voon, .int vowi, .int votop])), (vmx, .inl (cy 0, 64, .inl vmxf_29))] H := hP
    have hD : va_D A [(vo, .inr (12, [.int voth, .ref vmt, .int votp, .int vosz, .int volm, .int voto, .int vofr, .int vokd, .int vonu, .int vosg, .int vofa, .int vopl, .long vowd, .int votd, .ref vmn, .ref vmr, .ref vmk, .ref vms, .ref vma, .ref vmm, .ref vmrn, .ref vmkn, .ref vmik, .ref vmon, .int vosm, .int vohp, .ref vmw, .ref vmf, .ref vmb, .int vomb, .ref vmd, .ref vmc, .int vocm, .int voct, .int vocy, .ref vmx, .int votx_28, .int vose, .ref vml, .ref vmwr, .int voln, .int vohw, .ref vmno, .int vond, .int voon, .int vowi, .int votop])), (vmx, .inl (cy 0, 64, .inl vmxf_29))] := hD
    rw [hQ9]
    exact re_v (votx_28, vmxf_29) hx hb hr hlocks ⟨(show 0 ≤ (votx_28 : Int32).toInt ∧ (votx_28 : Int32).toInt ≤ 64 from ⟨by omega, by omega⟩), (show (votx_28 : Int32).toInt ≤ (votx : Int32).toInt + 11 from (by omega)), (show (votx : Int32).toInt ≤ (votx_28 : Int32).toInt from (by omega))⟩ (hP.sub [0, 1] rfl) (hD.sub [0, 1] rfl rfl) hS dX11_writeWord_30
abbrev O_m_writeWord_12 (cy : Nat → ClassId) (vo : Nat) (voth : Int32) (vmt : Nat) (votp : Int32) (vosz : Int32) (volm : Int32) (voto : Int32) (vofr : Int32) (vokd : Int32) (vonu : Int32) (vosg : Int32) (vofa : Int32) (vopl : Int32) (vowd : Int64) (votd : Int32) (vmn : Nat) (vmr : Nat) (vmk : Nat) (vms : Nat) (vma : Nat) (vmm : Nat) (vmrn : Nat) (vmkn : Nat) (vmik : Nat) (vmon : Nat) (vosm : Int32) (vohp : Int32) (vmw : Nat) (vmf : Nat) (vmb : Nat) (vomb : Int32) (vmd : Nat) (vmc : Nat) (vocm : Int32) (voct : Int32) (vocy : Int32) (vmx : Nat) (votx : Int32) (vose : Int32) (vml : Nat) (vmwr : Nat) (voln : Int32) (vohw : Int32) (vmno : Nat) (vond : Int32) (voon : Int32) (vowi : Int32) (votop : Int32) (vmxf : Nat → Int32) (vw : Int64) (u : Int32 × (Nat → Int32)) : va_W := [(vo, .inr (12, [.int voth, .ref vmt, .int votp, .int vosz, .int volm, .int voto, .int vofr, .int vokd, .int vonu, .int vosg, .int vofa, .int vopl, .long vowd, .int votd, .ref vmn, .ref vmr, .ref vmk, .ref vms, .ref vma, .ref vmm, .ref vmrn, .ref vmkn, .ref vmik, .ref vmon, .int vosm, .int vohp, .ref vmw, .ref vmf, .ref vmb, .int vomb, .ref vmd, .ref vmc, .int vocm, .int voct, .int vocy, .ref vmx, .int u.1, .int vose, .ref vml, .ref vmwr, .int voln, .int vohw, .ref vmno, .int vond, .int voon, .int vowi, .int votop])), (vmx, .inl (cy 0, 64, .inl u.2))]
set_option maxHeartbeats 4000000 in
set_option maxRecDepth 100000 in
theorem m_writeWord_12 (l : Launch) (dC : Nat → ClassId) (dI : Nat → Nat → Nat) (cy : Nat → ClassId) (sz : Nat) (vo : Nat) (voth : Int32) (vmt : Nat) (votp : Int32) (vosz : Int32) (volm : Int32) (voto : Int32) (vofr : Int32) (vokd : Int32) (vonu : Int32) (vosg : Int32) (vofa : Int32) (vopl : Int32) (vowd : Int64) (votd : Int32) (vmn : Nat) (vmr : Nat) (vmk : Nat) (vms : Nat) (vma : Nat) (vmm : Nat) (vmrn : Nat) (vmkn : Nat) (vmik : Nat) (vmon : Nat) (vosm : Int32) (vohp : Int32) (vmw : Nat) (vmf : Nat) (vmb : Nat) (vomb : Int32) (vmd : Nat) (vmc : Nat) (vocm : Int32) (voct : Int32) (vocy : Int32) (vmx : Nat) (votx : Int32) (vose : Int32) (vml : Nat) (vmwr : Nat) (voln : Int32) (vohw : Int32) (vmno : Nat) (vond : Int32) (voon : Int32) (vowi : Int32) (votop : Int32) (vmxf : Nat → Int32) (vw : Int64) (r_votx : 0 ≤ (votx : Int32).toInt ∧ (votx : Int32).toInt ≤ 52) (hw : (vw : Int64).toInt < 150094635296999121) : Met l yX11_writeWord (wl yX11_writeWord cX11_writeWord 3 none) ({ frames := 12, cells := 0, slots := 0, locals := 768 }) (Pw (dC, dI) vwCl cy [(vo, .inr (12, [.int voth, .ref vmt, .int votp, .int vosz, .int volm, .int voto, .int vofr, .int vokd, .int vonu, .int vosg, .int vofa, .int vopl, .long vowd, .int votd, .ref vmn, .ref vmr, .ref vmk, .ref vms, .ref vma, .ref vmm, .ref vmrn, .ref vmkn, .ref vmik, .ref vmon, .int vosm, .int vohp, .ref vmw, .ref vmf, .ref vmb, .int vomb, .ref vmd, .ref vmc, .int vocm, .int voct, .int vocy, .ref vmx, .int votx, .int vose, .ref vml, .ref vmwr, .int voln, .int vohw, .ref vmno, .int vond, .int voon, .int vowi, .int votop])), (vmx, .inl (cy 0, 64, .inl vmxf))] sz [.ref vo, .long vw] nE) (Qv (dC, dI) vwCl (fun (u : Int32 × (Nat → Int32)) => (0 ≤ (u.1 : Int32).toInt ∧ (u.1 : Int32).toInt ≤ 64) ∧ ((u.1 : Int32).toInt ≤ (votx : Int32).toInt + 12) ∧ ((votx : Int32).toInt ≤ (u.1 : Int32).toInt)) (O_m_writeWord_12 cy vo voth vmt votp vosz volm voto vofr vokd vonu vosg vofa vopl vowd votd vmn vmr vmk vms vma vmm vmrn vmkn vmik vmon vosm vohp vmw vmf vmb vomb vmd vmc vocm voct vocy vmx votx vose vml vmwr voln vohw vmno vond voon vowi votop vmxf vw) (va_A [(vo, .inr (12, [.int voth, .ref vmt, .int votp, .int vosz, .int volm, .int voto, .int vofr, .int vokd, .int vonu, .int vosg, .int vofa, .int vopl, .long vowd, .int votd, .ref vmn, .ref vmr, .ref vmk, .ref vms, .ref vma, .ref vmm, .ref vmrn, .ref vmkn, .ref vmik, .ref vmon, .int vosm, .int vohp, .ref vmw, .ref vmf, .ref vmb, .int vomb, .ref vmd, .ref vmc, .int vocm, .int voct, .int vocy, .ref vmx, .int votx, .int vose, .ref vml, .ref vmwr, .int voln, .int vohw, .ref vmno, .int vond, .int voon, .int vowi, .int votop])), (vmx, .inl (cy 0, 64, .inl vmxf))] sz)) 0 0 (va_A [(vo, .inr (12, [.int voth, .ref vmt, .int votp, .int vosz, .int volm, .int voto, .int vofr, .int vokd, .int vonu, .int vosg, .int vofa, .int vopl, .long vowd, .int votd, .ref vmn, .ref vmr, .ref vmk, .ref vms, .ref vma, .ref vmm, .ref vmrn, .ref vmkn, .ref vmik, .ref vmon, .int vosm, .int vohp, .ref vmw, .ref vmf, .ref vmb, .int vomb, .ref vmd, .ref vmc, .int vocm, .int voct, .int vocy, .ref vmx, .int votx, .int vose, .ref vml, .ref vmwr, .int voln, .int vohw, .ref vmno, .int vond, .int voon, .int vowi, .int votop])), (vmx, .inl (cy 0, 64, .inl vmxf))] sz) := by
  refine mw (Qc := Qv (dC, dI) vwCl (fun (u : Int32 × (Nat → Int32)) => (0 ≤ (u.1 : Int32).toInt ∧ (u.1 : Int32).toInt ≤ 64) ∧ ((u.1 : Int32).toInt ≤ (votx : Int32).toInt + 12) ∧ ((votx : Int32).toInt ≤ (u.1 : Int32).toInt)) (O_m_writeWord_12 cy vo voth vmt votp vosz volm voto vofr vokd vonu vosg vofa vopl vowd votd vmn vmr vmk vms vma vmm vmrn vmkn vmik vmon vosm vohp vmw vmf vmb vomb vmd vmc vocm voct vocy vmx votx vose vml vmwr voln vohw vmno vond voon vowi votop vmxf vw)) RX11 rfl (by decide +kernel) (Nat.le_of_ble_eq_true rfl) ?_
  intro p e s m below meth c A hx hb hr hlocks av9 hav hts hown hnm hml hK hP hD hA hS hE hAe Q9 hQ9 ls hl
  have hl : lv_has ls 3 [(0, .ref vo), (1, .long vw)] := hl
  refine lv_lload_n hx hb dX11_writeWord_0 rfl (lv_at hl 1 rfl) ?_
  refine lv_ldc2 hx hb hown (hts _ t1610) dX11_writeWord_1 ?_
  refine W.lcmp hx hb dX11_writeWord_4 ?_
  refine lv_topi (fun z_1 ez_1 => ?_)
  have bz_1 : z_1.toInt < 0 ↔ vw.toInt < (27 : Int64).toInt := l_cmp ez_1
  have kl_27 : (27 : Int64).toInt = 27 := by decide
  have k_0 : (0 : Int32).toInt = 0 := by decide
  refine lv_if_lt (tgt := 17) hx hb dX11_writeWord_5 (by decide) (fun c_2 => ?_) (fun c_2 => ?_)
  · skip
    have c_2 : z_1.toInt < (0 : Int32).toInt := i_lt.mp c_2
    refine lv_aload_n hx hb dX11_writeWord_17 rfl (lv_at hl 0 rfl) ?_
    refine lv_bipush (v := 96) hx hb dX11_writeWord_18 (by decide) ?_
    refine lv_lload_n hx hb dX11_writeWord_20 rfl (lv_at hl 1 rfl) ?_
    refine lv_ldc2 hx hb hown (hts _ t1610) dX11_writeWord_21 ?_
    refine lv_lrem hx hb dX11_writeWord_24 (by decide) ?_
    refine lv_topl (fun y_3 ey_3 => ?_)
    refine lv_l2i hx hb dX11_writeWord_25 rfl ?_
    refine lv_topi (fun z_4 ez_4 => ?_)
    refine lv_iadd hx hb dX11_writeWord_26 ?_
    refine lv_topi (fun z_5 ez_5 => ?_)
    refine jn_v (wr := []) (rV (As := [.int z_5]) (rest := []) (ci := 12) ⟨hx, hb, hml, hown, hts⟩ (m_write l dC dI cy _ vo voth vmt votp vosz volm voto vofr vokd vonu vosg vofa vopl vowd votd vmn vmr vmk vms vma vmm vmrn vmkn vmik vmon vosm vohp vmw vmf vmb vomb vmd vmc vocm voct vocy vmx votx vose vml vmwr voln vohw vmno vond voon vowi votop vmxf z_5 ⟨by omega, by omega⟩) (cw_X11_342 hts rfl rfl ⟨Nat.le_of_ble_eq_true rfl, Nat.le_of_ble_eq_true rfl⟩) hP hD hK [0, 1] rfl rfl rfl rfl bl0 e0 rfl hl.1 rfl (Nat.le_of_ble_eq_true rfl) dX11_writeWord_27 ⟨Nat.le_of_ble_eq_true rfl, Nat.le_of_ble_eq_true rfl⟩) hP hD hS hA [0, 1] [] rfl rfl rfl (by decide) (fun u_8 H locs hp_7 hP hD hS => ?_)
    obtain ⟨votx_9, vmxf_10⟩ := u_8
    have hp_7 : (0 ≤ (votx_9 : Int32).toInt ∧ (votx_9 : Int32).toInt ≤ 64) ∧ ((votx_9 : Int32).toInt = (votx : Int32).toInt + 1) := hp_7
    obtain ⟨q_11, q_12⟩ := hp_7
    have hP : va_P (dC, dI) vwCl [(vo, .inr (12, [.int voth, .ref vmt, .int votp, .int vosz, .int volm, .int voto, .int vofr, .int vokd, .int vonu, .int vosg, .int vofa, .int vopl, .long vowd, .int votd, .ref vmn, .ref vmr, .ref vmk, .ref vms, .ref vma, .ref vmm, .ref vmrn, .ref vmkn, .ref vmik, .ref vmon, .int vosm, .int vohp, .ref vmw, .ref vmf, .ref vmb, .int vomb, .ref vmd, .ref vmc, .int vocm, .int voct, .int vocy, .ref vmx, .int votx_9, .int vose, .ref vml, .ref vmwr, .int voln, .int vohw, .ref vmno, .int vond, .int voon, .int vowi, .int votop])), (vmx, .inl (cy 0, 64, .inl vmxf_10))] H := hP
    have hD : va_D A [(vo, .inr (12, [.int voth, .ref vmt, .int votp, .int vosz, .int volm, .int voto, .int vofr, .int vokd, .int vonu, .int vosg, .int vofa, .int vopl, .long vowd, .int votd, .ref vmn, .ref vmr, .ref vmk, .ref vms, .ref vma, .ref vmm, .ref vmrn, .ref vmkn, .ref vmik, .ref vmon, .int vosm, .int vohp, .ref vmw, .ref vmf, .ref vmb, .int vomb, .ref vmd, .ref vmc, .int vocm, .int voct, .int vocy, .ref vmx, .int votx_9, .int vose, .ref vml, .ref vmwr, .int voln, .int vohw, .ref vmno, .int vond, .int voon, .int vowi, .int votop])), (vmx, .inl (cy 0, 64, .inl vmxf_10))] := hD
    rw [hQ9]
    exact re_v (votx_9, vmxf_10) hx hb hr hlocks ⟨(show 0 ≤ (votx_9 : Int32).toInt ∧ (votx_9 : Int32).toInt ≤ 64 from ⟨by omega, by omega⟩), (show (votx_9 : Int32).toInt ≤ (votx : Int32).toInt + 12 from (by omega)), (show (votx : Int32).toInt ≤ (votx_9 : Int32).toInt from (by omega))⟩ (hP.sub [0, 1] rfl) (hD.sub [0, 1] rfl rfl) hS dX11_writeWord_30
  · skip
    have c_2 : ¬ (z_1.toInt < (0 : Int32).toInt) := fun h9 => c_2 (i_lt.mpr h9)
    refine lv_aload_n hx hb dX11_writeWord_8 rfl (lv_at hl 0 rfl) ?_
    refine lv_lload_n hx hb dX11_writeWord_9 rfl (lv_at hl 1 rfl) ?_
    refine lv_ldc2 hx hb hown (hts _ t1610) dX11_writeWord_10 ?_
    refine lv_ldiv hx hb dX11_writeWord_13 (by decide) ?_
    refine lv_topl (fun y_13 ey_13 => ?_)
    have by_13 : 0 ≤ y_13.toInt ∧ y_13.toInt * 27 ≤ vw.toInt := l_div27 ey_13 (by omega)
    refine jn_v (wr := []) (rV (As := [.long y_13]) (rest := []) (ci := 12) ⟨hx, hb, hml, hown, hts⟩ (m_writeWord_11 l dC dI cy _ vo voth vmt votp vosz volm voto vofr vokd vonu vosg vofa vopl vowd votd vmn vmr vmk vms vma vmm vmrn vmkn vmik vmon vosm vohp vmw vmf vmb vomb vmd vmc vocm voct vocy vmx votx vose vml vmwr voln vohw vmno vond voon vowi votop vmxf y_13 ⟨by omega, by omega⟩ (by omega)) (cw_X11_338 hts rfl rfl ⟨Nat.le_of_ble_eq_true rfl, Nat.le_of_ble_eq_true rfl⟩) hP hD hK [0, 1] rfl rfl rfl rfl bl0 e0 rfl hl.1 rfl (Nat.le_of_ble_eq_true rfl) dX11_writeWord_14 ⟨Nat.le_of_ble_eq_true rfl, Nat.le_of_ble_eq_true rfl⟩) hP hD hS hA [0, 1] [] rfl rfl rfl (by decide) (fun u_16 H locs hp_15 hP hD hS => ?_)
    obtain ⟨votx_17, vmxf_18⟩ := u_16
    have hp_15 : (0 ≤ (votx_17 : Int32).toInt ∧ (votx_17 : Int32).toInt ≤ 64) ∧ ((votx_17 : Int32).toInt ≤ (votx : Int32).toInt + 11) ∧ ((votx : Int32).toInt ≤ (votx_17 : Int32).toInt) := hp_15
    obtain ⟨q_19, q_20, q_21⟩ := hp_15
    have hP : va_P (dC, dI) vwCl [(vo, .inr (12, [.int voth, .ref vmt, .int votp, .int vosz, .int volm, .int voto, .int vofr, .int vokd, .int vonu, .int vosg, .int vofa, .int vopl, .long vowd, .int votd, .ref vmn, .ref vmr, .ref vmk, .ref vms, .ref vma, .ref vmm, .ref vmrn, .ref vmkn, .ref vmik, .ref vmon, .int vosm, .int vohp, .ref vmw, .ref vmf, .ref vmb, .int vomb, .ref vmd, .ref vmc, .int vocm, .int voct, .int vocy, .ref vmx, .int votx_17, .int vose, .ref vml, .ref vmwr, .int voln, .int vohw, .ref vmno, .int vond, .int voon, .int vowi, .int votop])), (vmx, .inl (cy 0, 64, .inl vmxf_18))] H := hP
    have hD : va_D A [(vo, .inr (12, [.int voth, .ref vmt, .int votp, .int vosz, .int volm, .int voto, .int vofr, .int vokd, .int vonu, .int vosg, .int vofa, .int vopl, .long vowd, .int votd, .ref vmn, .ref vmr, .ref vmk, .ref vms, .ref vma, .ref vmm, .ref vmrn, .ref vmkn, .ref vmik, .ref vmon, .int vosm, .int vohp, .ref vmw, .ref vmf, .ref vmb, .int vomb, .ref vmd, .ref vmc, .int vocm, .int voct, .int vocy, .ref vmx, .int votx_17, .int vose, .ref vml, .ref vmwr, .int voln, .int vohw, .ref vmno, .int vond, .int voon, .int vowi, .int votop])), (vmx, .inl (cy 0, 64, .inl vmxf_18))] := hD
    refine lv_aload_n hx hb dX11_writeWord_17 rfl (lv_at hl 0 rfl) ?_
    refine lv_bipush (v := 96) hx hb dX11_writeWord_18 (by decide) ?_
    refine lv_lload_n hx hb dX11_writeWord_20 rfl (lv_at hl 1 rfl) ?_
    refine lv_ldc2 hx hb hown (hts _ t1610) dX11_writeWord_21 ?_
    refine lv_lrem hx hb dX11_writeWord_24 (by decide) ?_
    refine lv_topl (fun y_22 ey_22 => ?_)
    refine lv_l2i hx hb dX11_writeWord_25 rfl ?_
    refine lv_topi (fun z_23 ez_23 => ?_)
    refine lv_iadd hx hb dX11_writeWord_26 ?_
    refine lv_topi (fun z_24 ez_24 => ?_)
    refine jn_v (wr := []) (rV (As := [.int z_24]) (rest := []) (ci := 12) ⟨hx, hb, hml, hown, hts⟩ (m_write l dC dI cy _ vo voth vmt votp vosz volm voto vofr vokd vonu vosg vofa vopl vowd votd vmn vmr vmk vms vma vmm vmrn vmkn vmik vmon vosm vohp vmw vmf vmb vomb vmd vmc vocm voct vocy vmx votx_17 vose vml vmwr voln vohw vmno vond voon vowi votop vmxf_18 z_24 ⟨by omega, by omega⟩) (cw_X11_342 hts rfl rfl ⟨Nat.le_of_ble_eq_true rfl, Nat.le_of_ble_eq_true rfl⟩) hP hD hK [0, 1] rfl rfl rfl rfl bl0 e0 rfl hl.1 rfl (Nat.le_of_ble_eq_true rfl) dX11_writeWord_27 ⟨Nat.le_of_ble_eq_true rfl, Nat.le_of_ble_eq_true rfl⟩) hP hD hS hA [0, 1] [] rfl rfl rfl (by decide) (fun u_27 H locs hp_26 hP hD hS => ?_)
    obtain ⟨votx_28, vmxf_29⟩ := u_27
    have hp_26 : (0 ≤ (votx_28 : Int32).toInt ∧ (votx_28 : Int32).toInt ≤ 64) ∧ ((votx_28 : Int32).toInt = (votx_17 : Int32).toInt + 1) := hp_26
    obtain ⟨q_30, q_31⟩ := hp_26
    have hP : va_P (dC, dI) vwCl [(vo, .inr (12, [.int voth, .ref vmt, .int votp, .int vosz, .int volm, .int voto, .int vofr, .int vokd, .int vonu, .int vosg, .int vofa, .int vopl, .long vowd, .int votd, .ref vmn, .ref vmr, .ref vmk, .ref vms, .ref vma, .ref vmm, .ref vmrn, .ref vmkn, .ref vmik, .ref vmon, .int vosm, .int vohp, .ref vmw, .ref vmf, .ref vmb, .int vomb, .ref vmd, .ref vmc, .int vocm, .int voct, .int vocy, .ref vmx, .int votx_28, .int vose, .ref vml, .ref vmwr, .int voln, .int vohw, .ref vmno, .int vond, .int voon, .int vowi, .int votop])), (vmx, .inl (cy 0, 64, .inl vmxf_29))] H := hP
    have hD : va_D A [(vo, .inr (12, [.int voth, .ref vmt, .int votp, .int vosz, .int volm, .int voto, .int vofr, .int vokd, .int vonu, .int vosg, .int vofa, .int vopl, .long vowd, .int votd, .ref vmn, .ref vmr, .ref vmk, .ref vms, .ref vma, .ref vmm, .ref vmrn, .ref vmkn, .ref vmik, .ref vmon, .int vosm, .int vohp, .ref vmw, .ref vmf, .ref vmb, .int vomb, .ref vmd, .ref vmc, .int vocm, .int voct, .int vocy, .ref vmx, .int votx_28, .int vose, .ref vml, .ref vmwr, .int voln, .int vohw, .ref vmno, .int vond, .int voon, .int vowi, .int votop])), (vmx, .inl (cy 0, 64, .inl vmxf_29))] := hD
    rw [hQ9]
    exact re_v (votx_28, vmxf_29) hx hb hr hlocks ⟨(show 0 ≤ (votx_28 : Int32).toInt ∧ (votx_28 : Int32).toInt ≤ 64 from ⟨by omega, by omega⟩), (show (votx_28 : Int32).toInt ≤ (votx : Int32).toInt + 12 from (by omega)), (show (votx : Int32).toInt ≤ (votx_28 : Int32).toInt from (by omega))⟩ (hP.sub [0, 1] rfl) (hD.sub [0, 1] rfl rfl) hS dX11_writeWord_30
abbrev O_m_writeWord_13 (cy : Nat → ClassId) (vo : Nat) (voth : Int32) (vmt : Nat) (votp : Int32) (vosz : Int32) (volm : Int32) (voto : Int32) (vofr : Int32) (vokd : Int32) (vonu : Int32) (vosg : Int32) (vofa : Int32) (vopl : Int32) (vowd : Int64) (votd : Int32) (vmn : Nat) (vmr : Nat) (vmk : Nat) (vms : Nat) (vma : Nat) (vmm : Nat) (vmrn : Nat) (vmkn : Nat) (vmik : Nat) (vmon : Nat) (vosm : Int32) (vohp : Int32) (vmw : Nat) (vmf : Nat) (vmb : Nat) (vomb : Int32) (vmd : Nat) (vmc : Nat) (vocm : Int32) (voct : Int32) (vocy : Int32) (vmx : Nat) (votx : Int32) (vose : Int32) (vml : Nat) (vmwr : Nat) (voln : Int32) (vohw : Int32) (vmno : Nat) (vond : Int32) (voon : Int32) (vowi : Int32) (votop : Int32) (vmxf : Nat → Int32) (vw : Int64) (u : Int32 × (Nat → Int32)) : va_W := [(vo, .inr (12, [.int voth, .ref vmt, .int votp, .int vosz, .int volm, .int voto, .int vofr, .int vokd, .int vonu, .int vosg, .int vofa, .int vopl, .long vowd, .int votd, .ref vmn, .ref vmr, .ref vmk, .ref vms, .ref vma, .ref vmm, .ref vmrn, .ref vmkn, .ref vmik, .ref vmon, .int vosm, .int vohp, .ref vmw, .ref vmf, .ref vmb, .int vomb, .ref vmd, .ref vmc, .int vocm, .int voct, .int vocy, .ref vmx, .int u.1, .int vose, .ref vml, .ref vmwr, .int voln, .int vohw, .ref vmno, .int vond, .int voon, .int vowi, .int votop])), (vmx, .inl (cy 0, 64, .inl u.2))]
set_option maxHeartbeats 4000000 in
set_option maxRecDepth 100000 in
theorem m_writeWord_13 (l : Launch) (dC : Nat → ClassId) (dI : Nat → Nat → Nat) (cy : Nat → ClassId) (sz : Nat) (vo : Nat) (voth : Int32) (vmt : Nat) (votp : Int32) (vosz : Int32) (volm : Int32) (voto : Int32) (vofr : Int32) (vokd : Int32) (vonu : Int32) (vosg : Int32) (vofa : Int32) (vopl : Int32) (vowd : Int64) (votd : Int32) (vmn : Nat) (vmr : Nat) (vmk : Nat) (vms : Nat) (vma : Nat) (vmm : Nat) (vmrn : Nat) (vmkn : Nat) (vmik : Nat) (vmon : Nat) (vosm : Int32) (vohp : Int32) (vmw : Nat) (vmf : Nat) (vmb : Nat) (vomb : Int32) (vmd : Nat) (vmc : Nat) (vocm : Int32) (voct : Int32) (vocy : Int32) (vmx : Nat) (votx : Int32) (vose : Int32) (vml : Nat) (vmwr : Nat) (voln : Int32) (vohw : Int32) (vmno : Nat) (vond : Int32) (voon : Int32) (vowi : Int32) (votop : Int32) (vmxf : Nat → Int32) (vw : Int64) (r_votx : 0 ≤ (votx : Int32).toInt ∧ (votx : Int32).toInt ≤ 51) (hw : (vw : Int64).toInt < 4052555153018976267) : Met l yX11_writeWord (wl yX11_writeWord cX11_writeWord 3 none) ({ frames := 13, cells := 0, slots := 0, locals := 832 }) (Pw (dC, dI) vwCl cy [(vo, .inr (12, [.int voth, .ref vmt, .int votp, .int vosz, .int volm, .int voto, .int vofr, .int vokd, .int vonu, .int vosg, .int vofa, .int vopl, .long vowd, .int votd, .ref vmn, .ref vmr, .ref vmk, .ref vms, .ref vma, .ref vmm, .ref vmrn, .ref vmkn, .ref vmik, .ref vmon, .int vosm, .int vohp, .ref vmw, .ref vmf, .ref vmb, .int vomb, .ref vmd, .ref vmc, .int vocm, .int voct, .int vocy, .ref vmx, .int votx, .int vose, .ref vml, .ref vmwr, .int voln, .int vohw, .ref vmno, .int vond, .int voon, .int vowi, .int votop])), (vmx, .inl (cy 0, 64, .inl vmxf))] sz [.ref vo, .long vw] nE) (Qv (dC, dI) vwCl (fun (u : Int32 × (Nat → Int32)) => (0 ≤ (u.1 : Int32).toInt ∧ (u.1 : Int32).toInt ≤ 64) ∧ ((u.1 : Int32).toInt ≤ (votx : Int32).toInt + 13) ∧ ((votx : Int32).toInt ≤ (u.1 : Int32).toInt)) (O_m_writeWord_13 cy vo voth vmt votp vosz volm voto vofr vokd vonu vosg vofa vopl vowd votd vmn vmr vmk vms vma vmm vmrn vmkn vmik vmon vosm vohp vmw vmf vmb vomb vmd vmc vocm voct vocy vmx votx vose vml vmwr voln vohw vmno vond voon vowi votop vmxf vw) (va_A [(vo, .inr (12, [.int voth, .ref vmt, .int votp, .int vosz, .int volm, .int voto, .int vofr, .int vokd, .int vonu, .int vosg, .int vofa, .int vopl, .long vowd, .int votd, .ref vmn, .ref vmr, .ref vmk, .ref vms, .ref vma, .ref vmm, .ref vmrn, .ref vmkn, .ref vmik, .ref vmon, .int vosm, .int vohp, .ref vmw, .ref vmf, .ref vmb, .int vomb, .ref vmd, .ref vmc, .int vocm, .int voct, .int vocy, .ref vmx, .int votx, .int vose, .ref vml, .ref vmwr, .int voln, .int vohw, .ref vmno, .int vond, .int voon, .int vowi, .int votop])), (vmx, .inl (cy 0, 64, .inl vmxf))] sz)) 0 0 (va_A [(vo, .inr (12, [.int voth, .ref vmt, .int votp, .int vosz, .int volm, .int voto, .int vofr, .int vokd, .int vonu, .int vosg, .int vofa, .int vopl, .long vowd, .int votd, .ref vmn, .ref vmr, .ref vmk, .ref vms, .ref vma, .ref vmm, .ref vmrn, .ref vmkn, .ref vmik, .ref vmon, .int vosm, .int vohp, .ref vmw, .ref vmf, .ref vmb, .int vomb, .ref vmd, .ref vmc, .int vocm, .int voct, .int vocy, .ref vmx, .int votx, .int vose, .ref vml, .ref vmwr, .int voln, .int vohw, .ref vmno, .int vond, .int voon, .int vowi, .int votop])), (vmx, .inl (cy 0, 64, .inl vmxf))] sz) := by
  refine mw (Qc := Qv (dC, dI) vwCl (fun (u : Int32 × (Nat → Int32)) => (0 ≤ (u.1 : Int32).toInt ∧ (u.1 : Int32).toInt ≤ 64) ∧ ((u.1 : Int32).toInt ≤ (votx : Int32).toInt + 13) ∧ ((votx : Int32).toInt ≤ (u.1 : Int32).toInt)) (O_m_writeWord_13 cy vo voth vmt votp vosz volm voto vofr vokd vonu vosg vofa vopl vowd votd vmn vmr vmk vms vma vmm vmrn vmkn vmik vmon vosm vohp vmw vmf vmb vomb vmd vmc vocm voct vocy vmx votx vose vml vmwr voln vohw vmno vond voon vowi votop vmxf vw)) RX11 rfl (by decide +kernel) (Nat.le_of_ble_eq_true rfl) ?_
  intro p e s m below meth c A hx hb hr hlocks av9 hav hts hown hnm hml hK hP hD hA hS hE hAe Q9 hQ9 ls hl
  have hl : lv_has ls 3 [(0, .ref vo), (1, .long vw)] := hl
  refine lv_lload_n hx hb dX11_writeWord_0 rfl (lv_at hl 1 rfl) ?_
  refine lv_ldc2 hx hb hown (hts _ t1610) dX11_writeWord_1 ?_
  refine W.lcmp hx hb dX11_writeWord_4 ?_
  refine lv_topi (fun z_1 ez_1 => ?_)
  have bz_1 : z_1.toInt < 0 ↔ vw.toInt < (27 : Int64).toInt := l_cmp ez_1
  have kl_27 : (27 : Int64).toInt = 27 := by decide
  have k_0 : (0 : Int32).toInt = 0 := by decide
  refine lv_if_lt (tgt := 17) hx hb dX11_writeWord_5 (by decide) (fun c_2 => ?_) (fun c_2 => ?_)
  · skip
    have c_2 : z_1.toInt < (0 : Int32).toInt := i_lt.mp c_2
    refine lv_aload_n hx hb dX11_writeWord_17 rfl (lv_at hl 0 rfl) ?_
    refine lv_bipush (v := 96) hx hb dX11_writeWord_18 (by decide) ?_
    refine lv_lload_n hx hb dX11_writeWord_20 rfl (lv_at hl 1 rfl) ?_
    refine lv_ldc2 hx hb hown (hts _ t1610) dX11_writeWord_21 ?_
    refine lv_lrem hx hb dX11_writeWord_24 (by decide) ?_
    refine lv_topl (fun y_3 ey_3 => ?_)
    refine lv_l2i hx hb dX11_writeWord_25 rfl ?_
    refine lv_topi (fun z_4 ez_4 => ?_)
    refine lv_iadd hx hb dX11_writeWord_26 ?_
    refine lv_topi (fun z_5 ez_5 => ?_)
    refine jn_v (wr := []) (rV (As := [.int z_5]) (rest := []) (ci := 12) ⟨hx, hb, hml, hown, hts⟩ (m_write l dC dI cy _ vo voth vmt votp vosz volm voto vofr vokd vonu vosg vofa vopl vowd votd vmn vmr vmk vms vma vmm vmrn vmkn vmik vmon vosm vohp vmw vmf vmb vomb vmd vmc vocm voct vocy vmx votx vose vml vmwr voln vohw vmno vond voon vowi votop vmxf z_5 ⟨by omega, by omega⟩) (cw_X11_342 hts rfl rfl ⟨Nat.le_of_ble_eq_true rfl, Nat.le_of_ble_eq_true rfl⟩) hP hD hK [0, 1] rfl rfl rfl rfl bl0 e0 rfl hl.1 rfl (Nat.le_of_ble_eq_true rfl) dX11_writeWord_27 ⟨Nat.le_of_ble_eq_true rfl, Nat.le_of_ble_eq_true rfl⟩) hP hD hS hA [0, 1] [] rfl rfl rfl (by decide) (fun u_8 H locs hp_7 hP hD hS => ?_)
    obtain ⟨votx_9, vmxf_10⟩ := u_8
    have hp_7 : (0 ≤ (votx_9 : Int32).toInt ∧ (votx_9 : Int32).toInt ≤ 64) ∧ ((votx_9 : Int32).toInt = (votx : Int32).toInt + 1) := hp_7
    obtain ⟨q_11, q_12⟩ := hp_7
    have hP : va_P (dC, dI) vwCl [(vo, .inr (12, [.int voth, .ref vmt, .int votp, .int vosz, .int volm, .int voto, .int vofr, .int vokd, .int vonu, .int vosg, .int vofa, .int vopl, .long vowd, .int votd, .ref vmn, .ref vmr, .ref vmk, .ref vms, .ref vma, .ref vmm, .ref vmrn, .ref vmkn, .ref vmik, .ref vmon, .int vosm, .int vohp, .ref vmw, .ref vmf, .ref vmb, .int vomb, .ref vmd, .ref vmc, .int vocm, .int voct, .int vocy, .ref vmx, .int votx_9, .int vose, .ref vml, .ref vmwr, .int voln, .int vohw, .ref vmno, .int vond, .int voon, .int vowi, .int votop])), (vmx, .inl (cy 0, 64, .inl vmxf_10))] H := hP
    have hD : va_D A [(vo, .inr (12, [.int voth, .ref vmt, .int votp, .int vosz, .int volm, .int voto, .int vofr, .int vokd, .int vonu, .int vosg, .int vofa, .int vopl, .long vowd, .int votd, .ref vmn, .ref vmr, .ref vmk, .ref vms, .ref vma, .ref vmm, .ref vmrn, .ref vmkn, .ref vmik, .ref vmon, .int vosm, .int vohp, .ref vmw, .ref vmf, .ref vmb, .int vomb, .ref vmd, .ref vmc, .int vocm, .int voct, .int vocy, .ref vmx, .int votx_9, .int vose, .ref vml, .ref vmwr, .int voln, .int vohw, .ref vmno, .int vond, .int voon, .int vowi, .int votop])), (vmx, .inl (cy 0, 64, .inl vmxf_10))] := hD
    rw [hQ9]
    exact re_v (votx_9, vmxf_10) hx hb hr hlocks ⟨(show 0 ≤ (votx_9 : Int32).toInt ∧ (votx_9 : Int32).toInt ≤ 64 from ⟨by omega, by omega⟩), (show (votx_9 : Int32).toInt ≤ (votx : Int32).toInt + 13 from (by omega)), (show (votx : Int32).toInt ≤ (votx_9 : Int32).toInt from (by omega))⟩ (hP.sub [0, 1] rfl) (hD.sub [0, 1] rfl rfl) hS dX11_writeWord_30
  · skip
    have c_2 : ¬ (z_1.toInt < (0 : Int32).toInt) := fun h9 => c_2 (i_lt.mpr h9)
    refine lv_aload_n hx hb dX11_writeWord_8 rfl (lv_at hl 0 rfl) ?_
    refine lv_lload_n hx hb dX11_writeWord_9 rfl (lv_at hl 1 rfl) ?_
    refine lv_ldc2 hx hb hown (hts _ t1610) dX11_writeWord_10 ?_
    refine lv_ldiv hx hb dX11_writeWord_13 (by decide) ?_
    refine lv_topl (fun y_13 ey_13 => ?_)
    have by_13 : 0 ≤ y_13.toInt ∧ y_13.toInt * 27 ≤ vw.toInt := l_div27 ey_13 (by omega)
    refine jn_v (wr := []) (rV (As := [.long y_13]) (rest := []) (ci := 12) ⟨hx, hb, hml, hown, hts⟩ (m_writeWord_12 l dC dI cy _ vo voth vmt votp vosz volm voto vofr vokd vonu vosg vofa vopl vowd votd vmn vmr vmk vms vma vmm vmrn vmkn vmik vmon vosm vohp vmw vmf vmb vomb vmd vmc vocm voct vocy vmx votx vose vml vmwr voln vohw vmno vond voon vowi votop vmxf y_13 ⟨by omega, by omega⟩ (by omega)) (cw_X11_338 hts rfl rfl ⟨Nat.le_of_ble_eq_true rfl, Nat.le_of_ble_eq_true rfl⟩) hP hD hK [0, 1] rfl rfl rfl rfl bl0 e0 rfl hl.1 rfl (Nat.le_of_ble_eq_true rfl) dX11_writeWord_14 ⟨Nat.le_of_ble_eq_true rfl, Nat.le_of_ble_eq_true rfl⟩) hP hD hS hA [0, 1] [] rfl rfl rfl (by decide) (fun u_16 H locs hp_15 hP hD hS => ?_)
    obtain ⟨votx_17, vmxf_18⟩ := u_16
    have hp_15 : (0 ≤ (votx_17 : Int32).toInt ∧ (votx_17 : Int32).toInt ≤ 64) ∧ ((votx_17 : Int32).toInt ≤ (votx : Int32).toInt + 12) ∧ ((votx : Int32).toInt ≤ (votx_17 : Int32).toInt) := hp_15
    obtain ⟨q_19, q_20, q_21⟩ := hp_15
    have hP : va_P (dC, dI) vwCl [(vo, .inr (12, [.int voth, .ref vmt, .int votp, .int vosz, .int volm, .int voto, .int vofr, .int vokd, .int vonu, .int vosg, .int vofa, .int vopl, .long vowd, .int votd, .ref vmn, .ref vmr, .ref vmk, .ref vms, .ref vma, .ref vmm, .ref vmrn, .ref vmkn, .ref vmik, .ref vmon, .int vosm, .int vohp, .ref vmw, .ref vmf, .ref vmb, .int vomb, .ref vmd, .ref vmc, .int vocm, .int voct, .int vocy, .ref vmx, .int votx_17, .int vose, .ref vml, .ref vmwr, .int voln, .int vohw, .ref vmno, .int vond, .int voon, .int vowi, .int votop])), (vmx, .inl (cy 0, 64, .inl vmxf_18))] H := hP
    have hD : va_D A [(vo, .inr (12, [.int voth, .ref vmt, .int votp, .int vosz, .int volm, .int voto, .int vofr, .int vokd, .int vonu, .int vosg, .int vofa, .int vopl, .long vowd, .int votd, .ref vmn, .ref vmr, .ref vmk, .ref vms, .ref vma, .ref vmm, .ref vmrn, .ref vmkn, .ref vmik, .ref vmon, .int vosm, .int vohp, .ref vmw, .ref vmf, .ref vmb, .int vomb, .ref vmd, .ref vmc, .int vocm, .int voct, .int vocy, .ref vmx, .int votx_17, .int vose, .ref vml, .ref vmwr, .int voln, .int vohw, .ref vmno, .int vond, .int voon, .int vowi, .int votop])), (vmx, .inl (cy 0, 64, .inl vmxf_18))] := hD
    refine lv_aload_n hx hb dX11_writeWord_17 rfl (lv_at hl 0 rfl) ?_
    refine lv_bipush (v := 96) hx hb dX11_writeWord_18 (by decide) ?_
    refine lv_lload_n hx hb dX11_writeWord_20 rfl (lv_at hl 1 rfl) ?_
    refine lv_ldc2 hx hb hown (hts _ t1610) dX11_writeWord_21 ?_
    refine lv_lrem hx hb dX11_writeWord_24 (by decide) ?_
    refine lv_topl (fun y_22 ey_22 => ?_)
    refine lv_l2i hx hb dX11_writeWord_25 rfl ?_
    refine lv_topi (fun z_23 ez_23 => ?_)
    refine lv_iadd hx hb dX11_writeWord_26 ?_
    refine lv_topi (fun z_24 ez_24 => ?_)
    refine jn_v (wr := []) (rV (As := [.int z_24]) (rest := []) (ci := 12) ⟨hx, hb, hml, hown, hts⟩ (m_write l dC dI cy _ vo voth vmt votp vosz volm voto vofr vokd vonu vosg vofa vopl vowd votd vmn vmr vmk vms vma vmm vmrn vmkn vmik vmon vosm vohp vmw vmf vmb vomb vmd vmc vocm voct vocy vmx votx_17 vose vml vmwr voln vohw vmno vond voon vowi votop vmxf_18 z_24 ⟨by omega, by omega⟩) (cw_X11_342 hts rfl rfl ⟨Nat.le_of_ble_eq_true rfl, Nat.le_of_ble_eq_true rfl⟩) hP hD hK [0, 1] rfl rfl rfl rfl bl0 e0 rfl hl.1 rfl (Nat.le_of_ble_eq_true rfl) dX11_writeWord_27 ⟨Nat.le_of_ble_eq_true rfl, Nat.le_of_ble_eq_true rfl⟩) hP hD hS hA [0, 1] [] rfl rfl rfl (by decide) (fun u_27 H locs hp_26 hP hD hS => ?_)
    obtain ⟨votx_28, vmxf_29⟩ := u_27
    have hp_26 : (0 ≤ (votx_28 : Int32).toInt ∧ (votx_28 : Int32).toInt ≤ 64) ∧ ((votx_28 : Int32).toInt = (votx_17 : Int32).toInt + 1) := hp_26
    obtain ⟨q_30, q_31⟩ := hp_26
    have hP : va_P (dC, dI) vwCl [(vo, .inr (12, [.int voth, .ref vmt, .int votp, .int vosz, .int volm, .int voto, .int vofr, .int vokd, .int vonu, .int vosg, .int vofa, .int vopl, .long vowd, .int votd, .ref vmn, .ref vmr, .ref vmk, .ref vms, .ref vma, .ref vmm, .ref vmrn, .ref vmkn, .ref vmik, .ref vmon, .int vosm, .int vohp, .ref vmw, .ref vmf, .ref vmb, .int vomb, .ref vmd, .ref vmc, .int vocm, .int voct, .int vocy, .ref vmx, .int votx_28, .int vose, .ref vml, .ref vmwr, .int voln, .int vohw, .ref vmno, .int vond, .int voon, .int vowi, .int votop])), (vmx, .inl (cy 0, 64, .inl vmxf_29))] H := hP
    have hD : va_D A [(vo, .inr (12, [.int voth, .ref vmt, .int votp, .int vosz, .int volm, .int voto, .int vofr, .int vokd, .int vonu, .int vosg, .int vofa, .int vopl, .long vowd, .int votd, .ref vmn, .ref vmr, .ref vmk, .ref vms, .ref vma, .ref vmm, .ref vmrn, .ref vmkn, .ref vmik, .ref vmon, .int vosm, .int vohp, .ref vmw, .ref vmf, .ref vmb, .int vomb, .ref vmd, .ref vmc, .int vocm, .int voct, .int vocy, .ref vmx, .int votx_28, .int vose, .ref vml, .ref vmwr, .int voln, .int vohw, .ref vmno, .int vond, .int voon, .int vowi, .int votop])), (vmx, .inl (cy 0, 64, .inl vmxf_29))] := hD
    rw [hQ9]
    exact re_v (votx_28, vmxf_29) hx hb hr hlocks ⟨(show 0 ≤ (votx_28 : Int32).toInt ∧ (votx_28 : Int32).toInt ≤ 64 from ⟨by omega, by omega⟩), (show (votx_28 : Int32).toInt ≤ (votx : Int32).toInt + 13 from (by omega)), (show (votx : Int32).toInt ≤ (votx_28 : Int32).toInt from (by omega))⟩ (hP.sub [0, 1] rfl) (hD.sub [0, 1] rfl rfl) hS dX11_writeWord_30
abbrev O_m_writeWord_14 (cy : Nat → ClassId) (vo : Nat) (voth : Int32) (vmt : Nat) (votp : Int32) (vosz : Int32) (volm : Int32) (voto : Int32) (vofr : Int32) (vokd : Int32) (vonu : Int32) (vosg : Int32) (vofa : Int32) (vopl : Int32) (vowd : Int64) (votd : Int32) (vmn : Nat) (vmr : Nat) (vmk : Nat) (vms : Nat) (vma : Nat) (vmm : Nat) (vmrn : Nat) (vmkn : Nat) (vmik : Nat) (vmon : Nat) (vosm : Int32) (vohp : Int32) (vmw : Nat) (vmf : Nat) (vmb : Nat) (vomb : Int32) (vmd : Nat) (vmc : Nat) (vocm : Int32) (voct : Int32) (vocy : Int32) (vmx : Nat) (votx : Int32) (vose : Int32) (vml : Nat) (vmwr : Nat) (voln : Int32) (vohw : Int32) (vmno : Nat) (vond : Int32) (voon : Int32) (vowi : Int32) (votop : Int32) (vmxf : Nat → Int32) (vw : Int64) (u : Int32 × (Nat → Int32)) : va_W := [(vo, .inr (12, [.int voth, .ref vmt, .int votp, .int vosz, .int volm, .int voto, .int vofr, .int vokd, .int vonu, .int vosg, .int vofa, .int vopl, .long vowd, .int votd, .ref vmn, .ref vmr, .ref vmk, .ref vms, .ref vma, .ref vmm, .ref vmrn, .ref vmkn, .ref vmik, .ref vmon, .int vosm, .int vohp, .ref vmw, .ref vmf, .ref vmb, .int vomb, .ref vmd, .ref vmc, .int vocm, .int voct, .int vocy, .ref vmx, .int u.1, .int vose, .ref vml, .ref vmwr, .int voln, .int vohw, .ref vmno, .int vond, .int voon, .int vowi, .int votop])), (vmx, .inl (cy 0, 64, .inl u.2))]
set_option maxHeartbeats 4000000 in
set_option maxRecDepth 100000 in
theorem m_writeWord_14 (l : Launch) (dC : Nat → ClassId) (dI : Nat → Nat → Nat) (cy : Nat → ClassId) (sz : Nat) (vo : Nat) (voth : Int32) (vmt : Nat) (votp : Int32) (vosz : Int32) (volm : Int32) (voto : Int32) (vofr : Int32) (vokd : Int32) (vonu : Int32) (vosg : Int32) (vofa : Int32) (vopl : Int32) (vowd : Int64) (votd : Int32) (vmn : Nat) (vmr : Nat) (vmk : Nat) (vms : Nat) (vma : Nat) (vmm : Nat) (vmrn : Nat) (vmkn : Nat) (vmik : Nat) (vmon : Nat) (vosm : Int32) (vohp : Int32) (vmw : Nat) (vmf : Nat) (vmb : Nat) (vomb : Int32) (vmd : Nat) (vmc : Nat) (vocm : Int32) (voct : Int32) (vocy : Int32) (vmx : Nat) (votx : Int32) (vose : Int32) (vml : Nat) (vmwr : Nat) (voln : Int32) (vohw : Int32) (vmno : Nat) (vond : Int32) (voon : Int32) (vowi : Int32) (votop : Int32) (vmxf : Nat → Int32) (vw : Int64) (r_votx : 0 ≤ (votx : Int32).toInt ∧ (votx : Int32).toInt ≤ 50) (hw : (vw : Int64).toInt < 109418989131512359209) : Met l yX11_writeWord (wl yX11_writeWord cX11_writeWord 3 none) ({ frames := 14, cells := 0, slots := 0, locals := 896 }) (Pw (dC, dI) vwCl cy [(vo, .inr (12, [.int voth, .ref vmt, .int votp, .int vosz, .int volm, .int voto, .int vofr, .int vokd, .int vonu, .int vosg, .int vofa, .int vopl, .long vowd, .int votd, .ref vmn, .ref vmr, .ref vmk, .ref vms, .ref vma, .ref vmm, .ref vmrn, .ref vmkn, .ref vmik, .ref vmon, .int vosm, .int vohp, .ref vmw, .ref vmf, .ref vmb, .int vomb, .ref vmd, .ref vmc, .int vocm, .int voct, .int vocy, .ref vmx, .int votx, .int vose, .ref vml, .ref vmwr, .int voln, .int vohw, .ref vmno, .int vond, .int voon, .int vowi, .int votop])), (vmx, .inl (cy 0, 64, .inl vmxf))] sz [.ref vo, .long vw] nE) (Qv (dC, dI) vwCl (fun (u : Int32 × (Nat → Int32)) => (0 ≤ (u.1 : Int32).toInt ∧ (u.1 : Int32).toInt ≤ 64) ∧ ((u.1 : Int32).toInt ≤ (votx : Int32).toInt + 14) ∧ ((votx : Int32).toInt ≤ (u.1 : Int32).toInt)) (O_m_writeWord_14 cy vo voth vmt votp vosz volm voto vofr vokd vonu vosg vofa vopl vowd votd vmn vmr vmk vms vma vmm vmrn vmkn vmik vmon vosm vohp vmw vmf vmb vomb vmd vmc vocm voct vocy vmx votx vose vml vmwr voln vohw vmno vond voon vowi votop vmxf vw) (va_A [(vo, .inr (12, [.int voth, .ref vmt, .int votp, .int vosz, .int volm, .int voto, .int vofr, .int vokd, .int vonu, .int vosg, .int vofa, .int vopl, .long vowd, .int votd, .ref vmn, .ref vmr, .ref vmk, .ref vms, .ref vma, .ref vmm, .ref vmrn, .ref vmkn, .ref vmik, .ref vmon, .int vosm, .int vohp, .ref vmw, .ref vmf, .ref vmb, .int vomb, .ref vmd, .ref vmc, .int vocm, .int voct, .int vocy, .ref vmx, .int votx, .int vose, .ref vml, .ref vmwr, .int voln, .int vohw, .ref vmno, .int vond, .int voon, .int vowi, .int votop])), (vmx, .inl (cy 0, 64, .inl vmxf))] sz)) 0 0 (va_A [(vo, .inr (12, [.int voth, .ref vmt, .int votp, .int vosz, .int volm, .int voto, .int vofr, .int vokd, .int vonu, .int vosg, .int vofa, .int vopl, .long vowd, .int votd, .ref vmn, .ref vmr, .ref vmk, .ref vms, .ref vma, .ref vmm, .ref vmrn, .ref vmkn, .ref vmik, .ref vmon, .int vosm, .int vohp, .ref vmw, .ref vmf, .ref vmb, .int vomb, .ref vmd, .ref vmc, .int vocm, .int voct, .int vocy, .ref vmx, .int votx, .int vose, .ref vml, .ref vmwr, .int voln, .int vohw, .ref vmno, .int vond, .int voon, .int vowi, .int votop])), (vmx, .inl (cy 0, 64, .inl vmxf))] sz) := by
  refine mw (Qc := Qv (dC, dI) vwCl (fun (u : Int32 × (Nat → Int32)) => (0 ≤ (u.1 : Int32).toInt ∧ (u.1 : Int32).toInt ≤ 64) ∧ ((u.1 : Int32).toInt ≤ (votx : Int32).toInt + 14) ∧ ((votx : Int32).toInt ≤ (u.1 : Int32).toInt)) (O_m_writeWord_14 cy vo voth vmt votp vosz volm voto vofr vokd vonu vosg vofa vopl vowd votd vmn vmr vmk vms vma vmm vmrn vmkn vmik vmon vosm vohp vmw vmf vmb vomb vmd vmc vocm voct vocy vmx votx vose vml vmwr voln vohw vmno vond voon vowi votop vmxf vw)) RX11 rfl (by decide +kernel) (Nat.le_of_ble_eq_true rfl) ?_
  intro p e s m below meth c A hx hb hr hlocks av9 hav hts hown hnm hml hK hP hD hA hS hE hAe Q9 hQ9 ls hl
  have hl : lv_has ls 3 [(0, .ref vo), (1, .long vw)] := hl
  refine lv_lload_n hx hb dX11_writeWord_0 rfl (lv_at hl 1 rfl) ?_
  refine lv_ldc2 hx hb hown (hts _ t1610) dX11_writeWord_1 ?_
  refine W.lcmp hx hb dX11_writeWord_4 ?_
  refine lv_topi (fun z_1 ez_1 => ?_)
  have bz_1 : z_1.toInt < 0 ↔ vw.toInt < (27 : Int64).toInt := l_cmp ez_1
  have kl_27 : (27 : Int64).toInt = 27 := by decide
  have k_0 : (0 : Int32).toInt = 0 := by decide
  refine lv_if_lt (tgt := 17) hx hb dX11_writeWord_5 (by decide) (fun c_2 => ?_) (fun c_2 => ?_)
  · skip
    have c_2 : z_1.toInt < (0 : Int32).toInt := i_lt.mp c_2
    refine lv_aload_n hx hb dX11_writeWord_17 rfl (lv_at hl 0 rfl) ?_
    refine lv_bipush (v := 96) hx hb dX11_writeWord_18 (by decide) ?_
    refine lv_lload_n hx hb dX11_writeWord_20 rfl (lv_at hl 1 rfl) ?_
    refine lv_ldc2 hx hb hown (hts _ t1610) dX11_writeWord_21 ?_
    refine lv_lrem hx hb dX11_writeWord_24 (by decide) ?_
    refine lv_topl (fun y_3 ey_3 => ?_)
    refine lv_l2i hx hb dX11_writeWord_25 rfl ?_
    refine lv_topi (fun z_4 ez_4 => ?_)
    refine lv_iadd hx hb dX11_writeWord_26 ?_
    refine lv_topi (fun z_5 ez_5 => ?_)
    refine jn_v (wr := []) (rV (As := [.int z_5]) (rest := []) (ci := 12) ⟨hx, hb, hml, hown, hts⟩ (m_write l dC dI cy _ vo voth vmt votp vosz volm voto vofr vokd vonu vosg vofa vopl vowd votd vmn vmr vmk vms vma vmm vmrn vmkn vmik vmon vosm vohp vmw vmf vmb vomb vmd vmc vocm voct vocy vmx votx vose vml vmwr voln vohw vmno vond voon vowi votop vmxf z_5 ⟨by omega, by omega⟩) (cw_X11_342 hts rfl rfl ⟨Nat.le_of_ble_eq_true rfl, Nat.le_of_ble_eq_true rfl⟩) hP hD hK [0, 1] rfl rfl rfl rfl bl0 e0 rfl hl.1 rfl (Nat.le_of_ble_eq_true rfl) dX11_writeWord_27 ⟨Nat.le_of_ble_eq_true rfl, Nat.le_of_ble_eq_true rfl⟩) hP hD hS hA [0, 1] [] rfl rfl rfl (by decide) (fun u_8 H locs hp_7 hP hD hS => ?_)
    obtain ⟨votx_9, vmxf_10⟩ := u_8
    have hp_7 : (0 ≤ (votx_9 : Int32).toInt ∧ (votx_9 : Int32).toInt ≤ 64) ∧ ((votx_9 : Int32).toInt = (votx : Int32).toInt + 1) := hp_7
    obtain ⟨q_11, q_12⟩ := hp_7
    have hP : va_P (dC, dI) vwCl [(vo, .inr (12, [.int voth, .ref vmt, .int votp, .int vosz, .int volm, .int voto, .int vofr, .int vokd, .int vonu, .int vosg, .int vofa, .int vopl, .long vowd, .int votd, .ref vmn, .ref vmr, .ref vmk, .ref vms, .ref vma, .ref vmm, .ref vmrn, .ref vmkn, .ref vmik, .ref vmon, .int vosm, .int vohp, .ref vmw, .ref vmf, .ref vmb, .int vomb, .ref vmd, .ref vmc, .int vocm, .int voct, .int vocy, .ref vmx, .int votx_9, .int vose, .ref vml, .ref vmwr, .int voln, .int vohw, .ref vmno, .int vond, .int voon, .int vowi, .int votop])), (vmx, .inl (cy 0, 64, .inl vmxf_10))] H := hP
    have hD : va_D A [(vo, .inr (12, [.int voth, .ref vmt, .int votp, .int vosz, .int volm, .int voto, .int vofr, .int vokd, .int vonu, .int vosg, .int vofa, .int vopl, .long vowd, .int votd, .ref vmn, .ref vmr, .ref vmk, .ref vms, .ref vma, .ref vmm, .ref vmrn, .ref vmkn, .ref vmik, .ref vmon, .int vosm, .int vohp, .ref vmw, .ref vmf, .ref vmb, .int vomb, .ref vmd, .ref vmc, .int vocm, .int voct, .int vocy, .ref vmx, .int votx_9, .int vose, .ref vml, .ref vmwr, .int voln, .int vohw, .ref vmno, .int vond, .int voon, .int vowi, .int votop])), (vmx, .inl (cy 0, 64, .inl vmxf_10))] := hD
    rw [hQ9]
    exact re_v (votx_9, vmxf_10) hx hb hr hlocks ⟨(show 0 ≤ (votx_9 : Int32).toInt ∧ (votx_9 : Int32).toInt ≤ 64 from ⟨by omega, by omega⟩), (show (votx_9 : Int32).toInt ≤ (votx : Int32).toInt + 14 from (by omega)), (show (votx : Int32).toInt ≤ (votx_9 : Int32).toInt from (by omega))⟩ (hP.sub [0, 1] rfl) (hD.sub [0, 1] rfl rfl) hS dX11_writeWord_30
  · skip
    have c_2 : ¬ (z_1.toInt < (0 : Int32).toInt) := fun h9 => c_2 (i_lt.mpr h9)
    refine lv_aload_n hx hb dX11_writeWord_8 rfl (lv_at hl 0 rfl) ?_
    refine lv_lload_n hx hb dX11_writeWord_9 rfl (lv_at hl 1 rfl) ?_
    refine lv_ldc2 hx hb hown (hts _ t1610) dX11_writeWord_10 ?_
    refine lv_ldiv hx hb dX11_writeWord_13 (by decide) ?_
    refine lv_topl (fun y_13 ey_13 => ?_)
    have by_13 : 0 ≤ y_13.toInt ∧ y_13.toInt * 27 ≤ vw.toInt := l_div27 ey_13 (by omega)
    refine jn_v (wr := []) (rV (As := [.long y_13]) (rest := []) (ci := 12) ⟨hx, hb, hml, hown, hts⟩ (m_writeWord_13 l dC dI cy _ vo voth vmt votp vosz volm voto vofr vokd vonu vosg vofa vopl vowd votd vmn vmr vmk vms vma vmm vmrn vmkn vmik vmon vosm vohp vmw vmf vmb vomb vmd vmc vocm voct vocy vmx votx vose vml vmwr voln vohw vmno vond voon vowi votop vmxf y_13 ⟨by omega, by omega⟩ (by omega)) (cw_X11_338 hts rfl rfl ⟨Nat.le_of_ble_eq_true rfl, Nat.le_of_ble_eq_true rfl⟩) hP hD hK [0, 1] rfl rfl rfl rfl bl0 e0 rfl hl.1 rfl (Nat.le_of_ble_eq_true rfl) dX11_writeWord_14 ⟨Nat.le_of_ble_eq_true rfl, Nat.le_of_ble_eq_true rfl⟩) hP hD hS hA [0, 1] [] rfl rfl rfl (by decide) (fun u_16 H locs hp_15 hP hD hS => ?_)
    obtain ⟨votx_17, vmxf_18⟩ := u_16
    have hp_15 : (0 ≤ (votx_17 : Int32).toInt ∧ (votx_17 : Int32).toInt ≤ 64) ∧ ((votx_17 : Int32).toInt ≤ (votx : Int32).toInt + 13) ∧ ((votx : Int32).toInt ≤ (votx_17 : Int32).toInt) := hp_15
    obtain ⟨q_19, q_20, q_21⟩ := hp_15
    have hP : va_P (dC, dI) vwCl [(vo, .inr (12, [.int voth, .ref vmt, .int votp, .int vosz, .int volm, .int voto, .int vofr, .int vokd, .int vonu, .int vosg, .int vofa, .int vopl, .long vowd, .int votd, .ref vmn, .ref vmr, .ref vmk, .ref vms, .ref vma, .ref vmm, .ref vmrn, .ref vmkn, .ref vmik, .ref vmon, .int vosm, .int vohp, .ref vmw, .ref vmf, .ref vmb, .int vomb, .ref vmd, .ref vmc, .int vocm, .int voct, .int vocy, .ref vmx, .int votx_17, .int vose, .ref vml, .ref vmwr, .int voln, .int vohw, .ref vmno, .int vond, .int voon, .int vowi, .int votop])), (vmx, .inl (cy 0, 64, .inl vmxf_18))] H := hP
    have hD : va_D A [(vo, .inr (12, [.int voth, .ref vmt, .int votp, .int vosz, .int volm, .int voto, .int vofr, .int vokd, .int vonu, .int vosg, .int vofa, .int vopl, .long vowd, .int votd, .ref vmn, .ref vmr, .ref vmk, .ref vms, .ref vma, .ref vmm, .ref vmrn, .ref vmkn, .ref vmik, .ref vmon, .int vosm, .int vohp, .ref vmw, .ref vmf, .ref vmb, .int vomb, .ref vmd, .ref vmc, .int vocm, .int voct, .int vocy, .ref vmx, .int votx_17, .int vose, .ref vml, .ref vmwr, .int voln, .int vohw, .ref vmno, .int vond, .int voon, .int vowi, .int votop])), (vmx, .inl (cy 0, 64, .inl vmxf_18))] := hD
    refine lv_aload_n hx hb dX11_writeWord_17 rfl (lv_at hl 0 rfl) ?_
    refine lv_bipush (v := 96) hx hb dX11_writeWord_18 (by decide) ?_
    refine lv_lload_n hx hb dX11_writeWord_20 rfl (lv_at hl 1 rfl) ?_
    refine lv_ldc2 hx hb hown (hts _ t1610) dX11_writeWord_21 ?_
    refine lv_lrem hx hb dX11_writeWord_24 (by decide) ?_
    refine lv_topl (fun y_22 ey_22 => ?_)
    refine lv_l2i hx hb dX11_writeWord_25 rfl ?_
    refine lv_topi (fun z_23 ez_23 => ?_)
    refine lv_iadd hx hb dX11_writeWord_26 ?_
    refine lv_topi (fun z_24 ez_24 => ?_)
    refine jn_v (wr := []) (rV (As := [.int z_24]) (rest := []) (ci := 12) ⟨hx, hb, hml, hown, hts⟩ (m_write l dC dI cy _ vo voth vmt votp vosz volm voto vofr vokd vonu vosg vofa vopl vowd votd vmn vmr vmk vms vma vmm vmrn vmkn vmik vmon vosm vohp vmw vmf vmb vomb vmd vmc vocm voct vocy vmx votx_17 vose vml vmwr voln vohw vmno vond voon vowi votop vmxf_18 z_24 ⟨by omega, by omega⟩) (cw_X11_342 hts rfl rfl ⟨Nat.le_of_ble_eq_true rfl, Nat.le_of_ble_eq_true rfl⟩) hP hD hK [0, 1] rfl rfl rfl rfl bl0 e0 rfl hl.1 rfl (Nat.le_of_ble_eq_true rfl) dX11_writeWord_27 ⟨Nat.le_of_ble_eq_true rfl, Nat.le_of_ble_eq_true rfl⟩) hP hD hS hA [0, 1] [] rfl rfl rfl (by decide) (fun u_27 H locs hp_26 hP hD hS => ?_)
    obtain ⟨votx_28, vmxf_29⟩ := u_27
    have hp_26 : (0 ≤ (votx_28 : Int32).toInt ∧ (votx_28 : Int32).toInt ≤ 64) ∧ ((votx_28 : Int32).toInt = (votx_17 : Int32).toInt + 1) := hp_26
    obtain ⟨q_30, q_31⟩ := hp_26
    have hP : va_P (dC, dI) vwCl [(vo, .inr (12, [.int voth, .ref vmt, .int votp, .int vosz, .int volm, .int voto, .int vofr, .int vokd, .int vonu, .int vosg, .int vofa, .int vopl, .long vowd, .int votd, .ref vmn, .ref vmr, .ref vmk, .ref vms, .ref vma, .ref vmm, .ref vmrn, .ref vmkn, .ref vmik, .ref vmon, .int vosm, .int vohp, .ref vmw, .ref vmf, .ref vmb, .int vomb, .ref vmd, .ref vmc, .int vocm, .int voct, .int vocy, .ref vmx, .int votx_28, .int vose, .ref vml, .ref vmwr, .int voln, .int vohw, .ref vmno, .int vond, .int voon, .int vowi, .int votop])), (vmx, .inl (cy 0, 64, .inl vmxf_29))] H := hP
    have hD : va_D A [(vo, .inr (12, [.int voth, .ref vmt, .int votp, .int vosz, .int volm, .int voto, .int vofr, .int vokd, .int vonu, .int vosg, .int vofa, .int vopl, .long vowd, .int votd, .ref vmn, .ref vmr, .ref vmk, .ref vms, .ref vma, .ref vmm, .ref vmrn, .ref vmkn, .ref vmik, .ref vmon, .int vosm, .int vohp, .ref vmw, .ref vmf, .ref vmb, .int vomb, .ref vmd, .ref vmc, .int vocm, .int voct, .int vocy, .ref vmx, .int votx_28, .int vose, .ref vml, .ref vmwr, .int voln, .int vohw, .ref vmno, .int vond, .int voon, .int vowi, .int votop])), (vmx, .inl (cy 0, 64, .inl vmxf_29))] := hD
    rw [hQ9]
    exact re_v (votx_28, vmxf_29) hx hb hr hlocks ⟨(show 0 ≤ (votx_28 : Int32).toInt ∧ (votx_28 : Int32).toInt ≤ 64 from ⟨by omega, by omega⟩), (show (votx_28 : Int32).toInt ≤ (votx : Int32).toInt + 14 from (by omega)), (show (votx : Int32).toInt ≤ (votx_28 : Int32).toInt from (by omega))⟩ (hP.sub [0, 1] rfl) (hD.sub [0, 1] rfl rfl) hS dX11_writeWord_30
abbrev cX11_writeNumber : ByteArray := prog_13_method_97_code
def yX11_writeNumber : MethodName := ⟨RX11, "writeNumber", "(I)V"⟩
theorem t1941 : Cond.code yX11_writeNumber cX11_writeNumber 2 none ∈ GW := gw_mem 2055 (by decide +kernel) (by decide +kernel)
abbrev O_m_writeNumber_1 (cy : Nat → ClassId) (vo : Nat) (voth : Int32) (vmt : Nat) (votp : Int32) (vosz : Int32) (volm : Int32) (voto : Int32) (vofr : Int32) (vokd : Int32) (vonu : Int32) (vosg : Int32) (vofa : Int32) (vopl : Int32) (vowd : Int64) (votd : Int32) (vmn : Nat) (vmr : Nat) (vmk : Nat) (vms : Nat) (vma : Nat) (vmm : Nat) (vmrn : Nat) (vmkn : Nat) (vmik : Nat) (vmon : Nat) (vosm : Int32) (vohp : Int32) (vmw : Nat) (vmf : Nat) (vmb : Nat) (vomb : Int32) (vmd : Nat) (vmc : Nat) (vocm : Int32) (voct : Int32) (vocy : Int32) (vmx : Nat) (votx : Int32) (vose : Int32) (vml : Nat) (vmwr : Nat) (voln : Int32) (vohw : Int32) (vmno : Nat) (vond : Int32) (voon : Int32) (vowi : Int32) (votop : Int32) (vmxf : Nat → Int32) (vn : Int32) (u : Int32 × (Nat → Int32)) : va_W := [(vo, .inr (12, [.int voth, .ref vmt, .int votp, .int vosz, .int volm, .int voto, .int vofr, .int vokd, .int vonu, .int vosg, .int vofa, .int vopl, .long vowd, .int votd, .ref vmn, .ref vmr, .ref vmk, .ref vms, .ref vma, .ref vmm, .ref vmrn, .ref vmkn, .ref vmik, .ref vmon, .int vosm, .int vohp, .ref vmw, .ref vmf, .ref vmb, .int vomb, .ref vmd, .ref vmc, .int vocm, .int voct, .int vocy, .ref vmx, .int u.1, .int vose, .ref vml, .ref vmwr, .int voln, .int vohw, .ref vmno, .int vond, .int voon, .int vowi, .int votop])), (vmx, .inl (cy 0, 64, .inl u.2))]
theorem dX11_writeNumber_0 : decode cX11_writeNumber 0 = .ok (.iload_n 1, 1) := by decide +kernel
theorem dX11_writeNumber_1 : decode cX11_writeNumber 1 = .ok (.bipush 9, 2) := by decide +kernel
theorem dX11_writeNumber_3 : decode cX11_writeNumber 3 = .ok (.if_icmp .le 11, 3) := by decide +kernel
theorem dX11_writeNumber_14 : decode cX11_writeNumber 14 = .ok (.aload_n 0, 1) := by decide +kernel
theorem dX11_writeNumber_15 : decode cX11_writeNumber 15 = .ok (.bipush 48, 2) := by decide +kernel
theorem dX11_writeNumber_17 : decode cX11_writeNumber 17 = .ok (.iload_n 1, 1) := by decide +kernel
theorem dX11_writeNumber_18 : decode cX11_writeNumber 18 = .ok (.bipush 10, 2) := by decide +kernel
theorem dX11_writeNumber_20 : decode cX11_writeNumber 20 = .ok (.irem, 1) := by decide +kernel
theorem dX11_writeNumber_21 : decode cX11_writeNumber 21 = .ok (.iadd, 1) := by decide +kernel
theorem dX11_writeNumber_22 : decode cX11_writeNumber 22 = .ok (.invokevirtual 342, 3) := by decide +kernel
theorem dX11_writeNumber_25 : decode cX11_writeNumber 25 = .ok (.return_, 1) := by decide +kernel
set_option maxHeartbeats 4000000 in
set_option maxRecDepth 100000 in
theorem m_writeNumber_1 (l : Launch) (dC : Nat → ClassId) (dI : Nat → Nat → Nat) (cy : Nat → ClassId) (sz : Nat) (vo : Nat) (voth : Int32) (vmt : Nat) (votp : Int32) (vosz : Int32) (volm : Int32) (voto : Int32) (vofr : Int32) (vokd : Int32) (vonu : Int32) (vosg : Int32) (vofa : Int32) (vopl : Int32) (vowd : Int64) (votd : Int32) (vmn : Nat) (vmr : Nat) (vmk : Nat) (vms : Nat) (vma : Nat) (vmm : Nat) (vmrn : Nat) (vmkn : Nat) (vmik : Nat) (vmon : Nat) (vosm : Int32) (vohp : Int32) (vmw : Nat) (vmf : Nat) (vmb : Nat) (vomb : Int32) (vmd : Nat) (vmc : Nat) (vocm : Int32) (voct : Int32) (vocy : Int32) (vmx : Nat) (votx : Int32) (vose : Int32) (vml : Nat) (vmwr : Nat) (voln : Int32) (vohw : Int32) (vmno : Nat) (vond : Int32) (voon : Int32) (vowi : Int32) (votop : Int32) (vmxf : Nat → Int32) (vn : Int32) (r_votx : 0 ≤ (votx : Int32).toInt ∧ (votx : Int32).toInt ≤ 63) (hw : (vn : Int32).toInt < 10) : Met l yX11_writeNumber (wl yX11_writeNumber cX11_writeNumber 2 none) ({ frames := 1, cells := 0, slots := 0, locals := 64 }) (Pw (dC, dI) vwCl cy [(vo, .inr (12, [.int voth, .ref vmt, .int votp, .int vosz, .int volm, .int voto, .int vofr, .int vokd, .int vonu, .int vosg, .int vofa, .int vopl, .long vowd, .int votd, .ref vmn, .ref vmr, .ref vmk, .ref vms, .ref vma, .ref vmm, .ref vmrn, .ref vmkn, .ref vmik, .ref vmon, .int vosm, .int vohp, .ref vmw, .ref vmf, .ref vmb, .int vomb, .ref vmd, .ref vmc, .int vocm, .int voct, .int vocy, .ref vmx, .int votx, .int vose, .ref vml, .ref vmwr, .int voln, .int vohw, .ref vmno, .int vond, .int voon, .int vowi, .int votop])), (vmx, .inl (cy 0, 64, .inl vmxf))] sz [.ref vo, .int vn] nE) (Qv (dC, dI) vwCl (fun (u : Int32 × (Nat → Int32)) => (0 ≤ (u.1 : Int32).toInt ∧ (u.1 : Int32).toInt ≤ 64) ∧ ((u.1 : Int32).toInt ≤ (votx : Int32).toInt + 1) ∧ ((votx : Int32).toInt ≤ (u.1 : Int32).toInt)) (O_m_writeNumber_1 cy vo voth vmt votp vosz volm voto vofr vokd vonu vosg vofa vopl vowd votd vmn vmr vmk vms vma vmm vmrn vmkn vmik vmon vosm vohp vmw vmf vmb vomb vmd vmc vocm voct vocy vmx votx vose vml vmwr voln vohw vmno vond voon vowi votop vmxf vn) (va_A [(vo, .inr (12, [.int voth, .ref vmt, .int votp, .int vosz, .int volm, .int voto, .int vofr, .int vokd, .int vonu, .int vosg, .int vofa, .int vopl, .long vowd, .int votd, .ref vmn, .ref vmr, .ref vmk, .ref vms, .ref vma, .ref vmm, .ref vmrn, .ref vmkn, .ref vmik, .ref vmon, .int vosm, .int vohp, .ref vmw, .ref vmf, .ref vmb, .int vomb, .ref vmd, .ref vmc, .int vocm, .int voct, .int vocy, .ref vmx, .int votx, .int vose, .ref vml, .ref vmwr, .int voln, .int vohw, .ref vmno, .int vond, .int voon, .int vowi, .int votop])), (vmx, .inl (cy 0, 64, .inl vmxf))] sz)) 0 0 (va_A [(vo, .inr (12, [.int voth, .ref vmt, .int votp, .int vosz, .int volm, .int voto, .int vofr, .int vokd, .int vonu, .int vosg, .int vofa, .int vopl, .long vowd, .int votd, .ref vmn, .ref vmr, .ref vmk, .ref vms, .ref vma, .ref vmm, .ref vmrn, .ref vmkn, .ref vmik, .ref vmon, .int vosm, .int vohp, .ref vmw, .ref vmf, .ref vmb, .int vomb, .ref vmd, .ref vmc, .int vocm, .int voct, .int vocy, .ref vmx, .int votx, .int vose, .ref vml, .ref vmwr, .int voln, .int vohw, .ref vmno, .int vond, .int voon, .int vowi, .int votop])), (vmx, .inl (cy 0, 64, .inl vmxf))] sz) := by
  refine mw (Qc := Qv (dC, dI) vwCl (fun (u : Int32 × (Nat → Int32)) => (0 ≤ (u.1 : Int32).toInt ∧ (u.1 : Int32).toInt ≤ 64) ∧ ((u.1 : Int32).toInt ≤ (votx : Int32).toInt + 1) ∧ ((votx : Int32).toInt ≤ (u.1 : Int32).toInt)) (O_m_writeNumber_1 cy vo voth vmt votp vosz volm voto vofr vokd vonu vosg vofa vopl vowd votd vmn vmr vmk vms vma vmm vmrn vmkn vmik vmon vosm vohp vmw vmf vmb vomb vmd vmc vocm voct vocy vmx votx vose vml vmwr voln vohw vmno vond voon vowi votop vmxf vn)) RX11 rfl (by decide +kernel) (Nat.le_of_ble_eq_true rfl) ?_
  intro p e s m below meth c A hx hb hr hlocks av9 hav hts hown hnm hml hK hP hD hA hS hE hAe Q9 hQ9 ls hl
  have hl : lv_has ls 2 [(0, .ref vo), (1, .int vn)] := hl
  refine lv_iload_n hx hb dX11_writeNumber_0 rfl (lv_at hl 1 rfl) ?_
  refine lv_bipush (v := 9) hx hb dX11_writeNumber_1 (by decide) ?_
  have k_9 : (9 : Int32).toInt = 9 := by decide
  refine lv_icmp_le (tgt := 14) hx hb dX11_writeNumber_3 (by decide) (fun _ => ?_) (fun c9 => (c9 (i_le.mpr (by omega))).elim)
  refine lv_aload_n hx hb dX11_writeNumber_14 rfl (lv_at hl 0 rfl) ?_
  refine lv_bipush (v := 48) hx hb dX11_writeNumber_15 (by decide) ?_
  refine lv_iload_n hx hb dX11_writeNumber_17 rfl (lv_at hl 1 rfl) ?_
  refine lv_bipush (v := 10) hx hb dX11_writeNumber_18 (by decide) ?_
  have k_10 : (10 : Int32).toInt = 10 := by decide
  have k_0 : (0 : Int32).toInt = 0 := by decide
  refine lv_irem hx hb dX11_writeNumber_20 (fun h9 => absurd (i_eq.mp h9) (by omega)) ?_
  refine lv_topi (fun z_1 ez_1 => ?_)
  refine lv_iadd hx hb dX11_writeNumber_21 ?_
  refine lv_topi (fun z_2 ez_2 => ?_)
  refine jn_v (wr := []) (rV (As := [.int z_2]) (rest := []) (ci := 12) ⟨hx, hb, hml, hown, hts⟩ (m_write l dC dI cy _ vo voth vmt votp vosz volm voto vofr vokd vonu vosg vofa vopl vowd votd vmn vmr vmk vms vma vmm vmrn vmkn vmik vmon vosm vohp vmw vmf vmb vomb vmd vmc vocm voct vocy vmx votx vose vml vmwr voln vohw vmno vond voon vowi votop vmxf z_2 r_votx) (cw_X11_342 hts rfl rfl ⟨Nat.le_of_ble_eq_true rfl, Nat.le_of_ble_eq_true rfl⟩) hP hD hK [0, 1] rfl rfl rfl rfl bl0 e0 rfl hl.1 rfl (Nat.le_of_ble_eq_true rfl) dX11_writeNumber_22 ⟨Nat.le_of_ble_eq_true rfl, Nat.le_of_ble_eq_true rfl⟩) hP hD hS hA [0, 1] [] rfl rfl rfl (by decide) (fun u_5 H locs hp_4 hP hD hS => ?_)
  obtain ⟨votx_6, vmxf_7⟩ := u_5
  have hp_4 : (0 ≤ (votx_6 : Int32).toInt ∧ (votx_6 : Int32).toInt ≤ 64) ∧ ((votx_6 : Int32).toInt = (votx : Int32).toInt + 1) := hp_4
  obtain ⟨q_8, q_9⟩ := hp_4
  have hP : va_P (dC, dI) vwCl [(vo, .inr (12, [.int voth, .ref vmt, .int votp, .int vosz, .int volm, .int voto, .int vofr, .int vokd, .int vonu, .int vosg, .int vofa, .int vopl, .long vowd, .int votd, .ref vmn, .ref vmr, .ref vmk, .ref vms, .ref vma, .ref vmm, .ref vmrn, .ref vmkn, .ref vmik, .ref vmon, .int vosm, .int vohp, .ref vmw, .ref vmf, .ref vmb, .int vomb, .ref vmd, .ref vmc, .int vocm, .int voct, .int vocy, .ref vmx, .int votx_6, .int vose, .ref vml, .ref vmwr, .int voln, .int vohw, .ref vmno, .int vond, .int voon, .int vowi, .int votop])), (vmx, .inl (cy 0, 64, .inl vmxf_7))] H := hP
  have hD : va_D A [(vo, .inr (12, [.int voth, .ref vmt, .int votp, .int vosz, .int volm, .int voto, .int vofr, .int vokd, .int vonu, .int vosg, .int vofa, .int vopl, .long vowd, .int votd, .ref vmn, .ref vmr, .ref vmk, .ref vms, .ref vma, .ref vmm, .ref vmrn, .ref vmkn, .ref vmik, .ref vmon, .int vosm, .int vohp, .ref vmw, .ref vmf, .ref vmb, .int vomb, .ref vmd, .ref vmc, .int vocm, .int voct, .int vocy, .ref vmx, .int votx_6, .int vose, .ref vml, .ref vmwr, .int voln, .int vohw, .ref vmno, .int vond, .int voon, .int vowi, .int votop])), (vmx, .inl (cy 0, 64, .inl vmxf_7))] := hD
  rw [hQ9]
  exact re_v (votx_6, vmxf_7) hx hb hr hlocks ⟨(show 0 ≤ (votx_6 : Int32).toInt ∧ (votx_6 : Int32).toInt ≤ 64 from ⟨by omega, by omega⟩), (show (votx_6 : Int32).toInt ≤ (votx : Int32).toInt + 1 from (by omega)), (show (votx : Int32).toInt ≤ (votx_6 : Int32).toInt from (by omega))⟩ (hP.sub [0, 1] rfl) (hD.sub [0, 1] rfl rfl) hS dX11_writeNumber_25
abbrev O_m_writeNumber_2 (cy : Nat → ClassId) (vo : Nat) (voth : Int32) (vmt : Nat) (votp : Int32) (vosz : Int32) (volm : Int32) (voto : Int32) (vofr : Int32) (vokd : Int32) (vonu : Int32) (vosg : Int32) (vofa : Int32) (vopl : Int32) (vowd : Int64) (votd : Int32) (vmn : Nat) (vmr : Nat) (vmk : Nat) (vms : Nat) (vma : Nat) (vmm : Nat) (vmrn : Nat) (vmkn : Nat) (vmik : Nat) (vmon : Nat) (vosm : Int32) (vohp : Int32) (vmw : Nat) (vmf : Nat) (vmb : Nat) (vomb : Int32) (vmd : Nat) (vmc : Nat) (vocm : Int32) (voct : Int32) (vocy : Int32) (vmx : Nat) (votx : Int32) (vose : Int32) (vml : Nat) (vmwr : Nat) (voln : Int32) (vohw : Int32) (vmno : Nat) (vond : Int32) (voon : Int32) (vowi : Int32) (votop : Int32) (vmxf : Nat → Int32) (vn : Int32) (u : Int32 × (Nat → Int32)) : va_W := [(vo, .inr (12, [.int voth, .ref vmt, .int votp, .int vosz, .int volm, .int voto, .int vofr, .int vokd, .int vonu, .int vosg, .int vofa, .int vopl, .long vowd, .int votd, .ref vmn, .ref vmr, .ref vmk, .ref vms, .ref vma, .ref vmm, .ref vmrn, .ref vmkn, .ref vmik, .ref vmon, .int vosm, .int vohp, .ref vmw, .ref vmf, .ref vmb, .int vomb, .ref vmd, .ref vmc, .int vocm, .int voct, .int vocy, .ref vmx, .int u.1, .int vose, .ref vml, .ref vmwr, .int voln, .int vohw, .ref vmno, .int vond, .int voon, .int vowi, .int votop])), (vmx, .inl (cy 0, 64, .inl u.2))]
theorem dX11_writeNumber_6 : decode cX11_writeNumber 6 = .ok (.aload_n 0, 1) := by decide +kernel
theorem dX11_writeNumber_7 : decode cX11_writeNumber 7 = .ok (.iload_n 1, 1) := by decide +kernel
theorem dX11_writeNumber_8 : decode cX11_writeNumber 8 = .ok (.bipush 10, 2) := by decide +kernel
theorem dX11_writeNumber_10 : decode cX11_writeNumber 10 = .ok (.idiv, 1) := by decide +kernel
theorem dX11_writeNumber_11 : decode cX11_writeNumber 11 = .ok (.invokevirtual 345, 3) := by decide +kernel
theorem t1938 : Cond.methodLink RX11 345 yX11_writeNumber ∈ GW := gw_mem 2052 (by decide +kernel) (by decide +kernel)
theorem t1940 : Cond.instanceMethod yX11_writeNumber ∈ GW := gw_mem 2054 (by decide +kernel) (by decide +kernel)
theorem s91 : Cond.selects RX11 yX11_writeNumber yX11_writeNumber ∈ GW := gw_mem 91 (by decide +kernel) (by decide +kernel)
theorem cw_X11_345 {R : Room} {s : State} {args : Array Value} {rm : Room} {mc ms : Nat} (hts : ∀ w ∈ GW, w.before args s = true) (hrc : rm.cells = mc) (hrs : rm.slots = ms) (hR : rm.frames + 1 ≤ R.frames ∧ 8 + (2 + 11) + rm.locals ≤ R.locals) : CallW R s args RX11 RX11 345 yX11_writeNumber cX11_writeNumber 2 none (wl yX11_writeNumber cX11_writeNumber 2 none) rm mc ms 1 := cwV 1 hts (gi_V t1938 t1940 s91 t18 t1941) rfl hrc hrs (by decide +kernel) hR
set_option maxHeartbeats 4000000 in
set_option maxRecDepth 100000 in
theorem m_writeNumber_2 (l : Launch) (dC : Nat → ClassId) (dI : Nat → Nat → Nat) (cy : Nat → ClassId) (sz : Nat) (vo : Nat) (voth : Int32) (vmt : Nat) (votp : Int32) (vosz : Int32) (volm : Int32) (voto : Int32) (vofr : Int32) (vokd : Int32) (vonu : Int32) (vosg : Int32) (vofa : Int32) (vopl : Int32) (vowd : Int64) (votd : Int32) (vmn : Nat) (vmr : Nat) (vmk : Nat) (vms : Nat) (vma : Nat) (vmm : Nat) (vmrn : Nat) (vmkn : Nat) (vmik : Nat) (vmon : Nat) (vosm : Int32) (vohp : Int32) (vmw : Nat) (vmf : Nat) (vmb : Nat) (vomb : Int32) (vmd : Nat) (vmc : Nat) (vocm : Int32) (voct : Int32) (vocy : Int32) (vmx : Nat) (votx : Int32) (vose : Int32) (vml : Nat) (vmwr : Nat) (voln : Int32) (vohw : Int32) (vmno : Nat) (vond : Int32) (voon : Int32) (vowi : Int32) (votop : Int32) (vmxf : Nat → Int32) (vn : Int32) (r_votx : 0 ≤ (votx : Int32).toInt ∧ (votx : Int32).toInt ≤ 62) (hw : (vn : Int32).toInt < 100) : Met l yX11_writeNumber (wl yX11_writeNumber cX11_writeNumber 2 none) ({ frames := 2, cells := 0, slots := 0, locals := 128 }) (Pw (dC, dI) vwCl cy [(vo, .inr (12, [.int voth, .ref vmt, .int votp, .int vosz, .int volm, .int voto, .int vofr, .int vokd, .int vonu, .int vosg, .int vofa, .int vopl, .long vowd, .int votd, .ref vmn, .ref vmr, .ref vmk, .ref vms, .ref vma, .ref vmm, .ref vmrn, .ref vmkn, .ref vmik, .ref vmon, .int vosm, .int vohp, .ref vmw, .ref vmf, .ref vmb, .int vomb, .ref vmd, .ref vmc, .int vocm, .int voct, .int vocy, .ref vmx, .int votx, .int vose, .ref vml, .ref vmwr, .int voln, .int vohw, .ref vmno, .int vond, .int voon, .int vowi, .int votop])), (vmx, .inl (cy 0, 64, .inl vmxf))] sz [.ref vo, .int vn] nE) (Qv (dC, dI) vwCl (fun (u : Int32 × (Nat → Int32)) => (0 ≤ (u.1 : Int32).toInt ∧ (u.1 : Int32).toInt ≤ 64) ∧ ((u.1 : Int32).toInt ≤ (votx : Int32).toInt + 2) ∧ ((votx : Int32).toInt ≤ (u.1 : Int32).toInt)) (O_m_writeNumber_2 cy vo voth vmt votp vosz volm voto vofr vokd vonu vosg vofa vopl vowd votd vmn vmr vmk vms vma vmm vmrn vmkn vmik vmon vosm vohp vmw vmf vmb vomb vmd vmc vocm voct vocy vmx votx vose vml vmwr voln vohw vmno vond voon vowi votop vmxf vn) (va_A [(vo, .inr (12, [.int voth, .ref vmt, .int votp, .int vosz, .int volm, .int voto, .int vofr, .int vokd, .int vonu, .int vosg, .int vofa, .int vopl, .long vowd, .int votd, .ref vmn, .ref vmr, .ref vmk, .ref vms, .ref vma, .ref vmm, .ref vmrn, .ref vmkn, .ref vmik, .ref vmon, .int vosm, .int vohp, .ref vmw, .ref vmf, .ref vmb, .int vomb, .ref vmd, .ref vmc, .int vocm, .int voct, .int vocy, .ref vmx, .int votx, .int vose, .ref vml, .ref vmwr, .int voln, .int vohw, .ref vmno, .int vond, .int voon, .int vowi, .int votop])), (vmx, .inl (cy 0, 64, .inl vmxf))] sz)) 0 0 (va_A [(vo, .inr (12, [.int voth, .ref vmt, .int votp, .int vosz, .int volm, .int voto, .int vofr, .int vokd, .int vonu, .int vosg, .int vofa, .int vopl, .long vowd, .int votd, .ref vmn, .ref vmr, .ref vmk, .ref vms, .ref vma, .ref vmm, .ref vmrn, .ref vmkn, .ref vmik, .ref vmon, .int vosm, .int vohp, .ref vmw, .ref vmf, .ref vmb, .int vomb, .ref vmd, .ref vmc, .int vocm, .int voct, .int vocy, .ref vmx, .int votx, .int vose, .ref vml, .ref vmwr, .int voln, .int vohw, .ref vmno, .int vond, .int voon, .int vowi, .int votop])), (vmx, .inl (cy 0, 64, .inl vmxf))] sz) := by
  refine mw (Qc := Qv (dC, dI) vwCl (fun (u : Int32 × (Nat → Int32)) => (0 ≤ (u.1 : Int32).toInt ∧ (u.1 : Int32).toInt ≤ 64) ∧ ((u.1 : Int32).toInt ≤ (votx : Int32).toInt + 2) ∧ ((votx : Int32).toInt ≤ (u.1 : Int32).toInt)) (O_m_writeNumber_2 cy vo voth vmt votp vosz volm voto vofr vokd vonu vosg vofa vopl vowd votd vmn vmr vmk vms vma vmm vmrn vmkn vmik vmon vosm vohp vmw vmf vmb vomb vmd vmc vocm voct vocy vmx votx vose vml vmwr voln vohw vmno vond voon vowi votop vmxf vn)) RX11 rfl (by decide +kernel) (Nat.le_of_ble_eq_true rfl) ?_
  intro p e s m below meth c A hx hb hr hlocks av9 hav hts hown hnm hml hK hP hD hA hS hE hAe Q9 hQ9 ls hl
  have hl : lv_has ls 2 [(0, .ref vo), (1, .int vn)] := hl
  refine lv_iload_n hx hb dX11_writeNumber_0 rfl (lv_at hl 1 rfl) ?_
  refine lv_bipush (v := 9) hx hb dX11_writeNumber_1 (by decide) ?_
  have k_9 : (9 : Int32).toInt = 9 := by decide
  refine lv_icmp_le (tgt := 14) hx hb dX11_writeNumber_3 (by decide) (fun c_1 => ?_) (fun c_1 => ?_)
  · skip
    have c_1 : vn.toInt ≤ (9 : Int32).toInt := i_le.mp c_1
    refine lv_aload_n hx hb dX11_writeNumber_14 rfl (lv_at hl 0 rfl) ?_
    refine lv_bipush (v := 48) hx hb dX11_writeNumber_15 (by decide) ?_
    refine lv_iload_n hx hb dX11_writeNumber_17 rfl (lv_at hl 1 rfl) ?_
    refine lv_bipush (v := 10) hx hb dX11_writeNumber_18 (by decide) ?_
    have k_10 : (10 : Int32).toInt = 10 := by decide
    have k_0 : (0 : Int32).toInt = 0 := by decide
    refine lv_irem hx hb dX11_writeNumber_20 (fun h9 => absurd (i_eq.mp h9) (by omega)) ?_
    refine lv_topi (fun z_2 ez_2 => ?_)
    refine lv_iadd hx hb dX11_writeNumber_21 ?_
    refine lv_topi (fun z_3 ez_3 => ?_)
    refine jn_v (wr := []) (rV (As := [.int z_3]) (rest := []) (ci := 12) ⟨hx, hb, hml, hown, hts⟩ (m_write l dC dI cy _ vo voth vmt votp vosz volm voto vofr vokd vonu vosg vofa vopl vowd votd vmn vmr vmk vms vma vmm vmrn vmkn vmik vmon vosm vohp vmw vmf vmb vomb vmd vmc vocm voct vocy vmx votx vose vml vmwr voln vohw vmno vond voon vowi votop vmxf z_3 ⟨by omega, by omega⟩) (cw_X11_342 hts rfl rfl ⟨Nat.le_of_ble_eq_true rfl, Nat.le_of_ble_eq_true rfl⟩) hP hD hK [0, 1] rfl rfl rfl rfl bl0 e0 rfl hl.1 rfl (Nat.le_of_ble_eq_true rfl) dX11_writeNumber_22 ⟨Nat.le_of_ble_eq_true rfl, Nat.le_of_ble_eq_true rfl⟩) hP hD hS hA [0, 1] [] rfl rfl rfl (by decide) (fun u_6 H locs hp_5 hP hD hS => ?_)
    obtain ⟨votx_7, vmxf_8⟩ := u_6
    have hp_5 : (0 ≤ (votx_7 : Int32).toInt ∧ (votx_7 : Int32).toInt ≤ 64) ∧ ((votx_7 : Int32).toInt = (votx : Int32).toInt + 1) := hp_5
    obtain ⟨q_9, q_10⟩ := hp_5
    have hP : va_P (dC, dI) vwCl [(vo, .inr (12, [.int voth, .ref vmt, .int votp, .int vosz, .int volm, .int voto, .int vofr, .int vokd, .int vonu, .int vosg, .int vofa, .int vopl, .long vowd, .int votd, .ref vmn, .ref vmr, .ref vmk, .ref vms, .ref vma, .ref vmm, .ref vmrn, .ref vmkn, .ref vmik, .ref vmon, .int vosm, .int vohp, .ref vmw, .ref vmf, .ref vmb, .int vomb, .ref vmd, .ref vmc, .int vocm, .int voct, .int vocy, .ref vmx, .int votx_7, .int vose, .ref vml, .ref vmwr, .int voln, .int vohw, .ref vmno, .int vond, .int voon, .int vowi, .int votop])), (vmx, .inl (cy 0, 64, .inl vmxf_8))] H := hP
    have hD : va_D A [(vo, .inr (12, [.int voth, .ref vmt, .int votp, .int vosz, .int volm, .int voto, .int vofr, .int vokd, .int vonu, .int vosg, .int vofa, .int vopl, .long vowd, .int votd, .ref vmn, .ref vmr, .ref vmk, .ref vms, .ref vma, .ref vmm, .ref vmrn, .ref vmkn, .ref vmik, .ref vmon, .int vosm, .int vohp, .ref vmw, .ref vmf, .ref vmb, .int vomb, .ref vmd, .ref vmc, .int vocm, .int voct, .int vocy, .ref vmx, .int votx_7, .int vose, .ref vml, .ref vmwr, .int voln, .int vohw, .ref vmno, .int vond, .int voon, .int vowi, .int votop])), (vmx, .inl (cy 0, 64, .inl vmxf_8))] := hD
    rw [hQ9]
    exact re_v (votx_7, vmxf_8) hx hb hr hlocks ⟨(show 0 ≤ (votx_7 : Int32).toInt ∧ (votx_7 : Int32).toInt ≤ 64 from ⟨by omega, by omega⟩), (show (votx_7 : Int32).toInt ≤ (votx : Int32).toInt + 2 from (by omega)), (show (votx : Int32).toInt ≤ (votx_7 : Int32).toInt from (by omega))⟩ (hP.sub [0, 1] rfl) (hD.sub [0, 1] rfl rfl) hS dX11_writeNumber_25
  · skip
    have c_1 : ¬ (vn.toInt ≤ (9 : Int32).toInt) := fun h9 => c_1 (i_le.mpr h9)
    refine lv_aload_n hx hb dX11_writeNumber_6 rfl (lv_at hl 0 rfl) ?_
    refine lv_iload_n hx hb dX11_writeNumber_7 rfl (lv_at hl 1 rfl) ?_
    refine lv_bipush (v := 10) hx hb dX11_writeNumber_8 (by decide) ?_
    refine lv_idiv hx hb dX11_writeNumber_10 (by decide) ?_
    refine lv_topi (fun z_11 ez_11 => ?_)
    have bz_11 : 0 ≤ z_11.toInt ∧ z_11.toInt * 10 ≤ vn.toInt := i_div10 ez_11 (by omega)
    refine jn_v (wr := []) (rV (As := [.int z_11]) (rest := []) (ci := 12) ⟨hx, hb, hml, hown, hts⟩ (m_writeNumber_1 l dC dI cy _ vo voth vmt votp vosz volm voto vofr vokd vonu vosg vofa vopl vowd votd vmn vmr vmk vms vma vmm vmrn vmkn vmik vmon vosm vohp vmw vmf vmb vomb vmd vmc vocm voct vocy vmx votx vose vml vmwr voln vohw vmno vond voon vowi votop vmxf z_11 ⟨by omega, by omega⟩ (by omega)) (cw_X11_345 hts rfl rfl ⟨Nat.le_of_ble_eq_true rfl, Nat.le_of_ble_eq_true rfl⟩) hP hD hK [0, 1] rfl rfl rfl rfl bl0 e0 rfl hl.1 rfl (Nat.le_of_ble_eq_true rfl) dX11_writeNumber_11 ⟨Nat.le_of_ble_eq_true rfl, Nat.le_of_ble_eq_true rfl⟩) hP hD hS hA [0, 1] [] rfl rfl rfl (by decide) (fun u_14 H locs hp_13 hP hD hS => ?_)
    obtain ⟨votx_15, vmxf_16⟩ := u_14
    have hp_13 : (0 ≤ (votx_15 : Int32).toInt ∧ (votx_15 : Int32).toInt ≤ 64) ∧ ((votx_15 : Int32).toInt ≤ (votx : Int32).toInt + 1) ∧ ((votx : Int32).toInt ≤ (votx_15 : Int32).toInt) := hp_13
    obtain ⟨q_17, q_18, q_19⟩ := hp_13
    have hP : va_P (dC, dI) vwCl [(vo, .inr (12, [.int voth, .ref vmt, .int votp, .int vosz, .int volm, .int voto, .int vofr, .int vokd, .int vonu, .int vosg, .int vofa, .int vopl, .long vowd, .int votd, .ref vmn, .ref vmr, .ref vmk, .ref vms, .ref vma, .ref vmm, .ref vmrn, .ref vmkn, .ref vmik, .ref vmon, .int vosm, .int vohp, .ref vmw, .ref vmf, .ref vmb, .int vomb, .ref vmd, .ref vmc, .int vocm, .int voct, .int vocy, .ref vmx, .int votx_15, .int vose, .ref vml, .ref vmwr, .int voln, .int vohw, .ref vmno, .int vond, .int voon, .int vowi, .int votop])), (vmx, .inl (cy 0, 64, .inl vmxf_16))] H := hP
    have hD : va_D A [(vo, .inr (12, [.int voth, .ref vmt, .int votp, .int vosz, .int volm, .int voto, .int vofr, .int vokd, .int vonu, .int vosg, .int vofa, .int vopl, .long vowd, .int votd, .ref vmn, .ref vmr, .ref vmk, .ref vms, .ref vma, .ref vmm, .ref vmrn, .ref vmkn, .ref vmik, .ref vmon, .int vosm, .int vohp, .ref vmw, .ref vmf, .ref vmb, .int vomb, .ref vmd, .ref vmc, .int vocm, .int voct, .int vocy, .ref vmx, .int votx_15, .int vose, .ref vml, .ref vmwr, .int voln, .int vohw, .ref vmno, .int vond, .int voon, .int vowi, .int votop])), (vmx, .inl (cy 0, 64, .inl vmxf_16))] := hD
    refine lv_aload_n hx hb dX11_writeNumber_14 rfl (lv_at hl 0 rfl) ?_
    refine lv_bipush (v := 48) hx hb dX11_writeNumber_15 (by decide) ?_
    refine lv_iload_n hx hb dX11_writeNumber_17 rfl (lv_at hl 1 rfl) ?_
    refine lv_bipush (v := 10) hx hb dX11_writeNumber_18 (by decide) ?_
    have k_10 : (10 : Int32).toInt = 10 := by decide
    have k_0 : (0 : Int32).toInt = 0 := by decide
    refine lv_irem hx hb dX11_writeNumber_20 (fun h9 => absurd (i_eq.mp h9) (by omega)) ?_
    refine lv_topi (fun z_20 ez_20 => ?_)
    have bz_20 : 0 ≤ z_20.toInt ∧ z_20.toInt < (10 : Int32).toInt := i_rem ez_20 (by omega) (by omega)
    refine lv_iadd hx hb dX11_writeNumber_21 ?_
    refine lv_topi (fun z_21 ez_21 => ?_)
    have k_48 : (48 : Int32).toInt = 48 := by decide
    have bz_21 : z_21.toInt = (48 : Int32).toInt + z_20.toInt := i_add ez_21 (by omega) (by omega)
    refine jn_v (wr := []) (rV (As := [.int z_21]) (rest := []) (ci := 12) ⟨hx, hb, hml, hown, hts⟩ (m_write l dC dI cy _ vo voth vmt votp vosz volm voto vofr vokd vonu vosg vofa vopl vowd votd vmn vmr vmk vms vma vmm vmrn vmkn vmik vmon vosm vohp vmw vmf vmb vomb vmd vmc vocm voct vocy vmx votx_15 vose vml vmwr voln vohw vmno vond voon vowi votop vmxf_16 z_21 ⟨by omega, by omega⟩) (cw_X11_342 hts rfl rfl ⟨Nat.le_of_ble_eq_true rfl, Nat.le_of_ble_eq_true rfl⟩) hP hD hK [0, 1] rfl rfl rfl rfl bl0 e0 rfl hl.1 rfl (Nat.le_of_ble_eq_true rfl) dX11_writeNumber_22 ⟨Nat.le_of_ble_eq_true rfl, Nat.le_of_ble_eq_true rfl⟩) hP hD hS hA [0, 1] [] rfl rfl rfl (by decide) (fun u_24 H locs hp_23 hP hD hS => ?_)
    obtain ⟨votx_25, vmxf_26⟩ := u_24
    have hp_23 : (0 ≤ (votx_25 : Int32).toInt ∧ (votx_25 : Int32).toInt ≤ 64) ∧ ((votx_25 : Int32).toInt = (votx_15 : Int32).toInt + 1) := hp_23
    obtain ⟨q_27, q_28⟩ := hp_23
    have hP : va_P (dC, dI) vwCl [(vo, .inr (12, [.int voth, .ref vmt, .int votp, .int vosz, .int volm, .int voto, .int vofr, .int vokd, .int vonu, .int vosg, .int vofa, .int vopl, .long vowd, .int votd, .ref vmn, .ref vmr, .ref vmk, .ref vms, .ref vma, .ref vmm, .ref vmrn, .ref vmkn, .ref vmik, .ref vmon, .int vosm, .int vohp, .ref vmw, .ref vmf, .ref vmb, .int vomb, .ref vmd, .ref vmc, .int vocm, .int voct, .int vocy, .ref vmx, .int votx_25, .int vose, .ref vml, .ref vmwr, .int voln, .int vohw, .ref vmno, .int vond, .int voon, .int vowi, .int votop])), (vmx, .inl (cy 0, 64, .inl vmxf_26))] H := hP
    have hD : va_D A [(vo, .inr (12, [.int voth, .ref vmt, .int votp, .int vosz, .int volm, .int voto, .int vofr, .int vokd, .int vonu, .int vosg, .int vofa, .int vopl, .long vowd, .int votd, .ref vmn, .ref vmr, .ref vmk, .ref vms, .ref vma, .ref vmm, .ref vmrn, .ref vmkn, .ref vmik, .ref vmon, .int vosm, .int vohp, .ref vmw, .ref vmf, .ref vmb, .int vomb, .ref vmd, .ref vmc, .int vocm, .int voct, .int vocy, .ref vmx, .int votx_25, .int vose, .ref vml, .ref vmwr, .int voln, .int vohw, .ref vmno, .int vond, .int voon, .int vowi, .int votop])), (vmx, .inl (cy 0, 64, .inl vmxf_26))] := hD
    rw [hQ9]
    exact re_v (votx_25, vmxf_26) hx hb hr hlocks ⟨(show 0 ≤ (votx_25 : Int32).toInt ∧ (votx_25 : Int32).toInt ≤ 64 from ⟨by omega, by omega⟩), (show (votx_25 : Int32).toInt ≤ (votx : Int32).toInt + 2 from (by omega)), (show (votx : Int32).toInt ≤ (votx_25 : Int32).toInt from (by omega))⟩ (hP.sub [0, 1] rfl) (hD.sub [0, 1] rfl rfl) hS dX11_writeNumber_25
abbrev O_m_writeNumber_3 (cy : Nat → ClassId) (vo : Nat) (voth : Int32) (vmt : Nat) (votp : Int32) (vosz : Int32) (volm : Int32) (voto : Int32) (vofr : Int32) (vokd : Int32) (vonu : Int32) (vosg : Int32) (vofa : Int32) (vopl : Int32) (vowd : Int64) (votd : Int32) (vmn : Nat) (vmr : Nat) (vmk : Nat) (vms : Nat) (vma : Nat) (vmm : Nat) (vmrn : Nat) (vmkn : Nat) (vmik : Nat) (vmon : Nat) (vosm : Int32) (vohp : Int32) (vmw : Nat) (vmf : Nat) (vmb : Nat) (vomb : Int32) (vmd : Nat) (vmc : Nat) (vocm : Int32) (voct : Int32) (vocy : Int32) (vmx : Nat) (votx : Int32) (vose : Int32) (vml : Nat) (vmwr : Nat) (voln : Int32) (vohw : Int32) (vmno : Nat) (vond : Int32) (voon : Int32) (vowi : Int32) (votop : Int32) (vmxf : Nat → Int32) (vn : Int32) (u : Int32 × (Nat → Int32)) : va_W := [(vo, .inr (12, [.int voth, .ref vmt, .int votp, .int vosz, .int volm, .int voto, .int vofr, .int vokd, .int vonu, .int vosg, .int vofa, .int vopl, .long vowd, .int votd, .ref vmn, .ref vmr, .ref vmk, .ref vms, .ref vma, .ref vmm, .ref vmrn, .ref vmkn, .ref vmik, .ref vmon, .int vosm, .int vohp, .ref vmw, .ref vmf, .ref vmb, .int vomb, .ref vmd, .ref vmc, .int vocm, .int voct, .int vocy, .ref vmx, .int u.1, .int vose, .ref vml, .ref vmwr, .int voln, .int vohw, .ref vmno, .int vond, .int voon, .int vowi, .int votop])), (vmx, .inl (cy 0, 64, .inl u.2))]
set_option maxHeartbeats 4000000 in
set_option maxRecDepth 100000 in
theorem m_writeNumber_3 (l : Launch) (dC : Nat → ClassId) (dI : Nat → Nat → Nat) (cy : Nat → ClassId) (sz : Nat) (vo : Nat) (voth : Int32) (vmt : Nat) (votp : Int32) (vosz : Int32) (volm : Int32) (voto : Int32) (vofr : Int32) (vokd : Int32) (vonu : Int32) (vosg : Int32) (vofa : Int32) (vopl : Int32) (vowd : Int64) (votd : Int32) (vmn : Nat) (vmr : Nat) (vmk : Nat) (vms : Nat) (vma : Nat) (vmm : Nat) (vmrn : Nat) (vmkn : Nat) (vmik : Nat) (vmon : Nat) (vosm : Int32) (vohp : Int32) (vmw : Nat) (vmf : Nat) (vmb : Nat) (vomb : Int32) (vmd : Nat) (vmc : Nat) (vocm : Int32) (voct : Int32) (vocy : Int32) (vmx : Nat) (votx : Int32) (vose : Int32) (vml : Nat) (vmwr : Nat) (voln : Int32) (vohw : Int32) (vmno : Nat) (vond : Int32) (voon : Int32) (vowi : Int32) (votop : Int32) (vmxf : Nat → Int32) (vn : Int32) (r_votx : 0 ≤ (votx : Int32).toInt ∧ (votx : Int32).toInt ≤ 61) (hw : (vn : Int32).toInt < 1000) : Met l yX11_writeNumber (wl yX11_writeNumber cX11_writeNumber 2 none) ({ frames := 3, cells := 0, slots := 0, locals := 192 }) (Pw (dC, dI) vwCl cy [(vo, .inr (12, [.int voth, .ref vmt, .int votp, .int vosz, .int volm, .int voto, .int vofr, .int vokd, .int vonu, .int vosg, .int vofa, .int vopl, .long vowd, .int votd, .ref vmn, .ref vmr, .ref vmk, .ref vms, .ref vma, .ref vmm, .ref vmrn, .ref vmkn, .ref vmik, .ref vmon, .int vosm, .int vohp, .ref vmw, .ref vmf, .ref vmb, .int vomb, .ref vmd, .ref vmc, .int vocm, .int voct, .int vocy, .ref vmx, .int votx, .int vose, .ref vml, .ref vmwr, .int voln, .int vohw, .ref vmno, .int vond, .int voon, .int vowi, .int votop])), (vmx, .inl (cy 0, 64, .inl vmxf))] sz [.ref vo, .int vn] nE) (Qv (dC, dI) vwCl (fun (u : Int32 × (Nat → Int32)) => (0 ≤ (u.1 : Int32).toInt ∧ (u.1 : Int32).toInt ≤ 64) ∧ ((u.1 : Int32).toInt ≤ (votx : Int32).toInt + 3) ∧ ((votx : Int32).toInt ≤ (u.1 : Int32).toInt)) (O_m_writeNumber_3 cy vo voth vmt votp vosz volm voto vofr vokd vonu vosg vofa vopl vowd votd vmn vmr vmk vms vma vmm vmrn vmkn vmik vmon vosm vohp vmw vmf vmb vomb vmd vmc vocm voct vocy vmx votx vose vml vmwr voln vohw vmno vond voon vowi votop vmxf vn) (va_A [(vo, .inr (12, [.int voth, .ref vmt, .int votp, .int vosz, .int volm, .int voto, .int vofr, .int vokd, .int vonu, .int vosg, .int vofa, .int vopl, .long vowd, .int votd, .ref vmn, .ref vmr, .ref vmk, .ref vms, .ref vma, .ref vmm, .ref vmrn, .ref vmkn, .ref vmik, .ref vmon, .int vosm, .int vohp, .ref vmw, .ref vmf, .ref vmb, .int vomb, .ref vmd, .ref vmc, .int vocm, .int voct, .int vocy, .ref vmx, .int votx, .int vose, .ref vml, .ref vmwr, .int voln, .int vohw, .ref vmno, .int vond, .int voon, .int vowi, .int votop])), (vmx, .inl (cy 0, 64, .inl vmxf))] sz)) 0 0 (va_A [(vo, .inr (12, [.int voth, .ref vmt, .int votp, .int vosz, .int volm, .int voto, .int vofr, .int vokd, .int vonu, .int vosg, .int vofa, .int vopl, .long vowd, .int votd, .ref vmn, .ref vmr, .ref vmk, .ref vms, .ref vma, .ref vmm, .ref vmrn, .ref vmkn, .ref vmik, .ref vmon, .int vosm, .int vohp, .ref vmw, .ref vmf, .ref vmb, .int vomb, .ref vmd, .ref vmc, .int vocm, .int voct, .int vocy, .ref vmx, .int votx, .int vose, .ref vml, .ref vmwr, .int voln, .int vohw, .ref vmno, .int vond, .int voon, .int vowi, .int votop])), (vmx, .inl (cy 0, 64, .inl vmxf))] sz) := by
  refine mw (Qc := Qv (dC, dI) vwCl (fun (u : Int32 × (Nat → Int32)) => (0 ≤ (u.1 : Int32).toInt ∧ (u.1 : Int32).toInt ≤ 64) ∧ ((u.1 : Int32).toInt ≤ (votx : Int32).toInt + 3) ∧ ((votx : Int32).toInt ≤ (u.1 : Int32).toInt)) (O_m_writeNumber_3 cy vo voth vmt votp vosz volm voto vofr vokd vonu vosg vofa vopl vowd votd vmn vmr vmk vms vma vmm vmrn vmkn vmik vmon vosm vohp vmw vmf vmb vomb vmd vmc vocm voct vocy vmx votx vose vml vmwr voln vohw vmno vond voon vowi votop vmxf vn)) RX11 rfl (by decide +kernel) (Nat.le_of_ble_eq_true rfl) ?_
  intro p e s m below meth c A hx hb hr hlocks av9 hav hts hown hnm hml hK hP hD hA hS hE hAe Q9 hQ9 ls hl
  have hl : lv_has ls 2 [(0, .ref vo), (1, .int vn)] := hl
  refine lv_iload_n hx hb dX11_writeNumber_0 rfl (lv_at hl 1 rfl) ?_
  refine lv_bipush (v := 9) hx hb dX11_writeNumber_1 (by decide) ?_
  have k_9 : (9 : Int32).toInt = 9 := by decide
  refine lv_icmp_le (tgt := 14) hx hb dX11_writeNumber_3 (by decide) (fun c_1 => ?_) (fun c_1 => ?_)
  · skip
    have c_1 : vn.toInt ≤ (9 : Int32).toInt := i_le.mp c_1
    refine lv_aload_n hx hb dX11_writeNumber_14 rfl (lv_at hl 0 rfl) ?_
    refine lv_bipush (v := 48) hx hb dX11_writeNumber_15 (by decide) ?_
    refine lv_iload_n hx hb dX11_writeNumber_17 rfl (lv_at hl 1 rfl) ?_
    refine lv_bipush (v := 10) hx hb dX11_writeNumber_18 (by decide) ?_
    have k_10 : (10 : Int32).toInt = 10 := by decide
    have k_0 : (0 : Int32).toInt = 0 := by decide
    refine lv_irem hx hb dX11_writeNumber_20 (fun h9 => absurd (i_eq.mp h9) (by omega)) ?_
    refine lv_topi (fun z_2 ez_2 => ?_)
    refine lv_iadd hx hb dX11_writeNumber_21 ?_
    refine lv_topi (fun z_3 ez_3 => ?_)
    refine jn_v (wr := []) (rV (As := [.int z_3]) (rest := []) (ci := 12) ⟨hx, hb, hml, hown, hts⟩ (m_write l dC dI cy _ vo voth vmt votp vosz volm voto vofr vokd vonu vosg vofa vopl vowd votd vmn vmr vmk vms vma vmm vmrn vmkn vmik vmon vosm vohp vmw vmf vmb vomb vmd vmc vocm voct vocy vmx votx vose vml vmwr voln vohw vmno vond voon vowi votop vmxf z_3 ⟨by omega, by omega⟩) (cw_X11_342 hts rfl rfl ⟨Nat.le_of_ble_eq_true rfl, Nat.le_of_ble_eq_true rfl⟩) hP hD hK [0, 1] rfl rfl rfl rfl bl0 e0 rfl hl.1 rfl (Nat.le_of_ble_eq_true rfl) dX11_writeNumber_22 ⟨Nat.le_of_ble_eq_true rfl, Nat.le_of_ble_eq_true rfl⟩) hP hD hS hA [0, 1] [] rfl rfl rfl (by decide) (fun u_6 H locs hp_5 hP hD hS => ?_)
    obtain ⟨votx_7, vmxf_8⟩ := u_6
    have hp_5 : (0 ≤ (votx_7 : Int32).toInt ∧ (votx_7 : Int32).toInt ≤ 64) ∧ ((votx_7 : Int32).toInt = (votx : Int32).toInt + 1) := hp_5
    obtain ⟨q_9, q_10⟩ := hp_5
    have hP : va_P (dC, dI) vwCl [(vo, .inr (12, [.int voth, .ref vmt, .int votp, .int vosz, .int volm, .int voto, .int vofr, .int vokd, .int vonu, .int vosg, .int vofa, .int vopl, .long vowd, .int votd, .ref vmn, .ref vmr, .ref vmk, .ref vms, .ref vma, .ref vmm, .ref vmrn, .ref vmkn, .ref vmik, .ref vmon, .int vosm, .int vohp, .ref vmw, .ref vmf, .ref vmb, .int vomb, .ref vmd, .ref vmc, .int vocm, .int voct, .int vocy, .ref vmx, .int votx_7, .int vose, .ref vml, .ref vmwr, .int voln, .int vohw, .ref vmno, .int vond, .int voon, .int vowi, .int votop])), (vmx, .inl (cy 0, 64, .inl vmxf_8))] H := hP
    have hD : va_D A [(vo, .inr (12, [.int voth, .ref vmt, .int votp, .int vosz, .int volm, .int voto, .int vofr, .int vokd, .int vonu, .int vosg, .int vofa, .int vopl, .long vowd, .int votd, .ref vmn, .ref vmr, .ref vmk, .ref vms, .ref vma, .ref vmm, .ref vmrn, .ref vmkn, .ref vmik, .ref vmon, .int vosm, .int vohp, .ref vmw, .ref vmf, .ref vmb, .int vomb, .ref vmd, .ref vmc, .int vocm, .int voct, .int vocy, .ref vmx, .int votx_7, .int vose, .ref vml, .ref vmwr, .int voln, .int vohw, .ref vmno, .int vond, .int voon, .int vowi, .int votop])), (vmx, .inl (cy 0, 64, .inl vmxf_8))] := hD
    rw [hQ9]
    exact re_v (votx_7, vmxf_8) hx hb hr hlocks ⟨(show 0 ≤ (votx_7 : Int32).toInt ∧ (votx_7 : Int32).toInt ≤ 64 from ⟨by omega, by omega⟩), (show (votx_7 : Int32).toInt ≤ (votx : Int32).toInt + 3 from (by omega)), (show (votx : Int32).toInt ≤ (votx_7 : Int32).toInt from (by omega))⟩ (hP.sub [0, 1] rfl) (hD.sub [0, 1] rfl rfl) hS dX11_writeNumber_25
  · skip
    have c_1 : ¬ (vn.toInt ≤ (9 : Int32).toInt) := fun h9 => c_1 (i_le.mpr h9)
    refine lv_aload_n hx hb dX11_writeNumber_6 rfl (lv_at hl 0 rfl) ?_
    refine lv_iload_n hx hb dX11_writeNumber_7 rfl (lv_at hl 1 rfl) ?_
    refine lv_bipush (v := 10) hx hb dX11_writeNumber_8 (by decide) ?_
    refine lv_idiv hx hb dX11_writeNumber_10 (by decide) ?_
    refine lv_topi (fun z_11 ez_11 => ?_)
    have bz_11 : 0 ≤ z_11.toInt ∧ z_11.toInt * 10 ≤ vn.toInt := i_div10 ez_11 (by omega)
    refine jn_v (wr := []) (rV (As := [.int z_11]) (rest := []) (ci := 12) ⟨hx, hb, hml, hown, hts⟩ (m_writeNumber_2 l dC dI cy _ vo voth vmt votp vosz volm voto vofr vokd vonu vosg vofa vopl vowd votd vmn vmr vmk vms vma vmm vmrn vmkn vmik vmon vosm vohp vmw vmf vmb vomb vmd vmc vocm voct vocy vmx votx vose vml vmwr voln vohw vmno vond voon vowi votop vmxf z_11 ⟨by omega, by omega⟩ (by omega)) (cw_X11_345 hts rfl rfl ⟨Nat.le_of_ble_eq_true rfl, Nat.le_of_ble_eq_true rfl⟩) hP hD hK [0, 1] rfl rfl rfl rfl bl0 e0 rfl hl.1 rfl (Nat.le_of_ble_eq_true rfl) dX11_writeNumber_11 ⟨Nat.le_of_ble_eq_true rfl, Nat.le_of_ble_eq_true rfl⟩) hP hD hS hA [0, 1] [] rfl rfl rfl (by decide) (fun u_14 H locs hp_13 hP hD hS => ?_)
    obtain ⟨votx_15, vmxf_16⟩ := u_14
    have hp_13 : (0 ≤ (votx_15 : Int32).toInt ∧ (votx_15 : Int32).toInt ≤ 64) ∧ ((votx_15 : Int32).toInt ≤ (votx : Int32).toInt + 2) ∧ ((votx : Int32).toInt ≤ (votx_15 : Int32).toInt) := hp_13
    obtain ⟨q_17, q_18, q_19⟩ := hp_13
    have hP : va_P (dC, dI) vwCl [(vo, .inr (12, [.int voth, .ref vmt, .int votp, .int vosz, .int volm, .int voto, .int vofr, .int vokd, .int vonu, .int vosg, .int vofa, .int vopl, .long vowd, .int votd, .ref vmn, .ref vmr, .ref vmk, .ref vms, .ref vma, .ref vmm, .ref vmrn, .ref vmkn, .ref vmik, .ref vmon, .int vosm, .int vohp, .ref vmw, .ref vmf, .ref vmb, .int vomb, .ref vmd, .ref vmc, .int vocm, .int voct, .int vocy, .ref vmx, .int votx_15, .int vose, .ref vml, .ref vmwr, .int voln, .int vohw, .ref vmno, .int vond, .int voon, .int vowi, .int votop])), (vmx, .inl (cy 0, 64, .inl vmxf_16))] H := hP
    have hD : va_D A [(vo, .inr (12, [.int voth, .ref vmt, .int votp, .int vosz, .int volm, .int voto, .int vofr, .int vokd, .int vonu, .int vosg, .int vofa, .int vopl, .long vowd, .int votd, .ref vmn, .ref vmr, .ref vmk, .ref vms, .ref vma, .ref vmm, .ref vmrn, .ref vmkn, .ref vmik, .ref vmon, .int vosm, .int vohp, .ref vmw, .ref vmf, .ref vmb, .int vomb, .ref vmd, .ref vmc, .int vocm, .int voct, .int vocy, .ref vmx, .int votx_15, .int vose, .ref vml, .ref vmwr, .int voln, .int vohw, .ref vmno, .int vond, .int voon, .int vowi, .int votop])), (vmx, .inl (cy 0, 64, .inl vmxf_16))] := hD
    refine lv_aload_n hx hb dX11_writeNumber_14 rfl (lv_at hl 0 rfl) ?_
    refine lv_bipush (v := 48) hx hb dX11_writeNumber_15 (by decide) ?_
    refine lv_iload_n hx hb dX11_writeNumber_17 rfl (lv_at hl 1 rfl) ?_
    refine lv_bipush (v := 10) hx hb dX11_writeNumber_18 (by decide) ?_
    have k_10 : (10 : Int32).toInt = 10 := by decide
    have k_0 : (0 : Int32).toInt = 0 := by decide
    refine lv_irem hx hb dX11_writeNumber_20 (fun h9 => absurd (i_eq.mp h9) (by omega)) ?_
    refine lv_topi (fun z_20 ez_20 => ?_)
    have bz_20 : 0 ≤ z_20.toInt ∧ z_20.toInt < (10 : Int32).toInt := i_rem ez_20 (by omega) (by omega)
    refine lv_iadd hx hb dX11_writeNumber_21 ?_
    refine lv_topi (fun z_21 ez_21 => ?_)
    have k_48 : (48 : Int32).toInt = 48 := by decide
    have bz_21 : z_21.toInt = (48 : Int32).toInt + z_20.toInt := i_add ez_21 (by omega) (by omega)
    refine jn_v (wr := []) (rV (As := [.int z_21]) (rest := []) (ci := 12) ⟨hx, hb, hml, hown, hts⟩ (m_write l dC dI cy _ vo voth vmt votp vosz volm voto vofr vokd vonu vosg vofa vopl vowd votd vmn vmr vmk vms vma vmm vmrn vmkn vmik vmon vosm vohp vmw vmf vmb vomb vmd vmc vocm voct vocy vmx votx_15 vose vml vmwr voln vohw vmno vond voon vowi votop vmxf_16 z_21 ⟨by omega, by omega⟩) (cw_X11_342 hts rfl rfl ⟨Nat.le_of_ble_eq_true rfl, Nat.le_of_ble_eq_true rfl⟩) hP hD hK [0, 1] rfl rfl rfl rfl bl0 e0 rfl hl.1 rfl (Nat.le_of_ble_eq_true rfl) dX11_writeNumber_22 ⟨Nat.le_of_ble_eq_true rfl, Nat.le_of_ble_eq_true rfl⟩) hP hD hS hA [0, 1] [] rfl rfl rfl (by decide) (fun u_24 H locs hp_23 hP hD hS => ?_)
    obtain ⟨votx_25, vmxf_26⟩ := u_24
    have hp_23 : (0 ≤ (votx_25 : Int32).toInt ∧ (votx_25 : Int32).toInt ≤ 64) ∧ ((votx_25 : Int32).toInt = (votx_15 : Int32).toInt + 1) := hp_23
    obtain ⟨q_27, q_28⟩ := hp_23
    have hP : va_P (dC, dI) vwCl [(vo, .inr (12, [.int voth, .ref vmt, .int votp, .int vosz, .int volm, .int voto, .int vofr, .int vokd, .int vonu, .int vosg, .int vofa, .int vopl, .long vowd, .int votd, .ref vmn, .ref vmr, .ref vmk, .ref vms, .ref vma, .ref vmm, .ref vmrn, .ref vmkn, .ref vmik, .ref vmon, .int vosm, .int vohp, .ref vmw, .ref vmf, .ref vmb, .int vomb, .ref vmd, .ref vmc, .int vocm, .int voct, .int vocy, .ref vmx, .int votx_25, .int vose, .ref vml, .ref vmwr, .int voln, .int vohw, .ref vmno, .int vond, .int voon, .int vowi, .int votop])), (vmx, .inl (cy 0, 64, .inl vmxf_26))] H := hP
    have hD : va_D A [(vo, .inr (12, [.int voth, .ref vmt, .int votp, .int vosz, .int volm, .int voto, .int vofr, .int vokd, .int vonu, .int vosg, .int vofa, .int vopl, .long vowd, .int votd, .ref vmn, .ref vmr, .ref vmk, .ref vms, .ref vma, .ref vmm, .ref vmrn, .ref vmkn, .ref vmik, .ref vmon, .int vosm, .int vohp, .ref vmw, .ref vmf, .ref vmb, .int vomb, .ref vmd, .ref vmc, .int vocm, .int voct, .int vocy, .ref vmx, .int votx_25, .int vose, .ref vml, .ref vmwr, .int voln, .int vohw, .ref vmno, .int vond, .int voon, .int vowi, .int votop])), (vmx, .inl (cy 0, 64, .inl vmxf_26))] := hD
    rw [hQ9]
    exact re_v (votx_25, vmxf_26) hx hb hr hlocks ⟨(show 0 ≤ (votx_25 : Int32).toInt ∧ (votx_25 : Int32).toInt ≤ 64 from ⟨by omega, by omega⟩), (show (votx_25 : Int32).toInt ≤ (votx : Int32).toInt + 3 from (by omega)), (show (votx : Int32).toInt ≤ (votx_25 : Int32).toInt from (by omega))⟩ (hP.sub [0, 1] rfl) (hD.sub [0, 1] rfl rfl) hS dX11_writeNumber_25
abbrev O_m_writeNumber_4 (cy : Nat → ClassId) (vo : Nat) (voth : Int32) (vmt : Nat) (votp : Int32) (vosz : Int32) (volm : Int32) (voto : Int32) (vofr : Int32) (vokd : Int32) (vonu : Int32) (vosg : Int32) (vofa : Int32) (vopl : Int32) (vowd : Int64) (votd : Int32) (vmn : Nat) (vmr : Nat) (vmk : Nat) (vms : Nat) (vma : Nat) (vmm : Nat) (vmrn : Nat) (vmkn : Nat) (vmik : Nat) (vmon : Nat) (vosm : Int32) (vohp : Int32) (vmw : Nat) (vmf : Nat) (vmb : Nat) (vomb : Int32) (vmd : Nat) (vmc : Nat) (vocm : Int32) (voct : Int32) (vocy : Int32) (vmx : Nat) (votx : Int32) (vose : Int32) (vml : Nat) (vmwr : Nat) (voln : Int32) (vohw : Int32) (vmno : Nat) (vond : Int32) (voon : Int32) (vowi : Int32) (votop : Int32) (vmxf : Nat → Int32) (vn : Int32) (u : Int32 × (Nat → Int32)) : va_W := [(vo, .inr (12, [.int voth, .ref vmt, .int votp, .int vosz, .int volm, .int voto, .int vofr, .int vokd, .int vonu, .int vosg, .int vofa, .int vopl, .long vowd, .int votd, .ref vmn, .ref vmr, .ref vmk, .ref vms, .ref vma, .ref vmm, .ref vmrn, .ref vmkn, .ref vmik, .ref vmon, .int vosm, .int vohp, .ref vmw, .ref vmf, .ref vmb, .int vomb, .ref vmd, .ref vmc, .int vocm, .int voct, .int vocy, .ref vmx, .int u.1, .int vose, .ref vml, .ref vmwr, .int voln, .int vohw, .ref vmno, .int vond, .int voon, .int vowi, .int votop])), (vmx, .inl (cy 0, 64, .inl u.2))]
set_option maxHeartbeats 4000000 in
set_option maxRecDepth 100000 in
theorem m_writeNumber_4 (l : Launch) (dC : Nat → ClassId) (dI : Nat → Nat → Nat) (cy : Nat → ClassId) (sz : Nat) (vo : Nat) (voth : Int32) (vmt : Nat) (votp : Int32) (vosz : Int32) (volm : Int32) (voto : Int32) (vofr : Int32) (vokd : Int32) (vonu : Int32) (vosg : Int32) (vofa : Int32) (vopl : Int32) (vowd : Int64) (votd : Int32) (vmn : Nat) (vmr : Nat) (vmk : Nat) (vms : Nat) (vma : Nat) (vmm : Nat) (vmrn : Nat) (vmkn : Nat) (vmik : Nat) (vmon : Nat) (vosm : Int32) (vohp : Int32) (vmw : Nat) (vmf : Nat) (vmb : Nat) (vomb : Int32) (vmd : Nat) (vmc : Nat) (vocm : Int32) (voct : Int32) (vocy : Int32) (vmx : Nat) (votx : Int32) (vose : Int32) (vml : Nat) (vmwr : Nat) (voln : Int32) (vohw : Int32) (vmno : Nat) (vond : Int32) (voon : Int32) (vowi : Int32) (votop : Int32) (vmxf : Nat → Int32) (vn : Int32) (r_votx : 0 ≤ (votx : Int32).toInt ∧ (votx : Int32).toInt ≤ 60) (hw : (vn : Int32).toInt < 10000) : Met l yX11_writeNumber (wl yX11_writeNumber cX11_writeNumber 2 none) ({ frames := 4, cells := 0, slots := 0, locals := 256 }) (Pw (dC, dI) vwCl cy [(vo, .inr (12, [.int voth, .ref vmt, .int votp, .int vosz, .int volm, .int voto, .int vofr, .int vokd, .int vonu, .int vosg, .int vofa, .int vopl, .long vowd, .int votd, .ref vmn, .ref vmr, .ref vmk, .ref vms, .ref vma, .ref vmm, .ref vmrn, .ref vmkn, .ref vmik, .ref vmon, .int vosm, .int vohp, .ref vmw, .ref vmf, .ref vmb, .int vomb, .ref vmd, .ref vmc, .int vocm, .int voct, .int vocy, .ref vmx, .int votx, .int vose, .ref vml, .ref vmwr, .int voln, .int vohw, .ref vmno, .int vond, .int voon, .int vowi, .int votop])), (vmx, .inl (cy 0, 64, .inl vmxf))] sz [.ref vo, .int vn] nE) (Qv (dC, dI) vwCl (fun (u : Int32 × (Nat → Int32)) => (0 ≤ (u.1 : Int32).toInt ∧ (u.1 : Int32).toInt ≤ 64) ∧ ((u.1 : Int32).toInt ≤ (votx : Int32).toInt + 4) ∧ ((votx : Int32).toInt ≤ (u.1 : Int32).toInt)) (O_m_writeNumber_4 cy vo voth vmt votp vosz volm voto vofr vokd vonu vosg vofa vopl vowd votd vmn vmr vmk vms vma vmm vmrn vmkn vmik vmon vosm vohp vmw vmf vmb vomb vmd vmc vocm voct vocy vmx votx vose vml vmwr voln vohw vmno vond voon vowi votop vmxf vn) (va_A [(vo, .inr (12, [.int voth, .ref vmt, .int votp, .int vosz, .int volm, .int voto, .int vofr, .int vokd, .int vonu, .int vosg, .int vofa, .int vopl, .long vowd, .int votd, .ref vmn, .ref vmr, .ref vmk, .ref vms, .ref vma, .ref vmm, .ref vmrn, .ref vmkn, .ref vmik, .ref vmon, .int vosm, .int vohp, .ref vmw, .ref vmf, .ref vmb, .int vomb, .ref vmd, .ref vmc, .int vocm, .int voct, .int vocy, .ref vmx, .int votx, .int vose, .ref vml, .ref vmwr, .int voln, .int vohw, .ref vmno, .int vond, .int voon, .int vowi, .int votop])), (vmx, .inl (cy 0, 64, .inl vmxf))] sz)) 0 0 (va_A [(vo, .inr (12, [.int voth, .ref vmt, .int votp, .int vosz, .int volm, .int voto, .int vofr, .int vokd, .int vonu, .int vosg, .int vofa, .int vopl, .long vowd, .int votd, .ref vmn, .ref vmr, .ref vmk, .ref vms, .ref vma, .ref vmm, .ref vmrn, .ref vmkn, .ref vmik, .ref vmon, .int vosm, .int vohp, .ref vmw, .ref vmf, .ref vmb, .int vomb, .ref vmd, .ref vmc, .int vocm, .int voct, .int vocy, .ref vmx, .int votx, .int vose, .ref vml, .ref vmwr, .int voln, .int vohw, .ref vmno, .int vond, .int voon, .int vowi, .int votop])), (vmx, .inl (cy 0, 64, .inl vmxf))] sz) := by
  refine mw (Qc := Qv (dC, dI) vwCl (fun (u : Int32 × (Nat → Int32)) => (0 ≤ (u.1 : Int32).toInt ∧ (u.1 : Int32).toInt ≤ 64) ∧ ((u.1 : Int32).toInt ≤ (votx : Int32).toInt + 4) ∧ ((votx : Int32).toInt ≤ (u.1 : Int32).toInt)) (O_m_writeNumber_4 cy vo voth vmt votp vosz volm voto vofr vokd vonu vosg vofa vopl vowd votd vmn vmr vmk vms vma vmm vmrn vmkn vmik vmon vosm vohp vmw vmf vmb vomb vmd vmc vocm voct vocy vmx votx vose vml vmwr voln vohw vmno vond voon vowi votop vmxf vn)) RX11 rfl (by decide +kernel) (Nat.le_of_ble_eq_true rfl) ?_
  intro p e s m below meth c A hx hb hr hlocks av9 hav hts hown hnm hml hK hP hD hA hS hE hAe Q9 hQ9 ls hl
  have hl : lv_has ls 2 [(0, .ref vo), (1, .int vn)] := hl
  refine lv_iload_n hx hb dX11_writeNumber_0 rfl (lv_at hl 1 rfl) ?_
  refine lv_bipush (v := 9) hx hb dX11_writeNumber_1 (by decide) ?_
  have k_9 : (9 : Int32).toInt = 9 := by decide
  refine lv_icmp_le (tgt := 14) hx hb dX11_writeNumber_3 (by decide) (fun c_1 => ?_) (fun c_1 => ?_)
  · skip
    have c_1 : vn.toInt ≤ (9 : Int32).toInt := i_le.mp c_1
    refine lv_aload_n hx hb dX11_writeNumber_14 rfl (lv_at hl 0 rfl) ?_
    refine lv_bipush (v := 48) hx hb dX11_writeNumber_15 (by decide) ?_
    refine lv_iload_n hx hb dX11_writeNumber_17 rfl (lv_at hl 1 rfl) ?_
    refine lv_bipush (v := 10) hx hb dX11_writeNumber_18 (by decide) ?_
    have k_10 : (10 : Int32).toInt = 10 := by decide
    have k_0 : (0 : Int32).toInt = 0 := by decide
    refine lv_irem hx hb dX11_writeNumber_20 (fun h9 => absurd (i_eq.mp h9) (by omega)) ?_
    refine lv_topi (fun z_2 ez_2 => ?_)
    refine lv_iadd hx hb dX11_writeNumber_21 ?_
    refine lv_topi (fun z_3 ez_3 => ?_)
    refine jn_v (wr := []) (rV (As := [.int z_3]) (rest := []) (ci := 12) ⟨hx, hb, hml, hown, hts⟩ (m_write l dC dI cy _ vo voth vmt votp vosz volm voto vofr vokd vonu vosg vofa vopl vowd votd vmn vmr vmk vms vma vmm vmrn vmkn vmik vmon vosm vohp vmw vmf vmb vomb vmd vmc vocm voct vocy vmx votx vose vml vmwr voln vohw vmno vond voon vowi votop vmxf z_3 ⟨by omega, by omega⟩) (cw_X11_342 hts rfl rfl ⟨Nat.le_of_ble_eq_true rfl, Nat.le_of_ble_eq_true rfl⟩) hP hD hK [0, 1] rfl rfl rfl rfl bl0 e0 rfl hl.1 rfl (Nat.le_of_ble_eq_true rfl) dX11_writeNumber_22 ⟨Nat.le_of_ble_eq_true rfl, Nat.le_of_ble_eq_true rfl⟩) hP hD hS hA [0, 1] [] rfl rfl rfl (by decide) (fun u_6 H locs hp_5 hP hD hS => ?_)
    obtain ⟨votx_7, vmxf_8⟩ := u_6
    have hp_5 : (0 ≤ (votx_7 : Int32).toInt ∧ (votx_7 : Int32).toInt ≤ 64) ∧ ((votx_7 : Int32).toInt = (votx : Int32).toInt + 1) := hp_5
    obtain ⟨q_9, q_10⟩ := hp_5
    have hP : va_P (dC, dI) vwCl [(vo, .inr (12, [.int voth, .ref vmt, .int votp, .int vosz, .int volm, .int voto, .int vofr, .int vokd, .int vonu, .int vosg, .int vofa, .int vopl, .long vowd, .int votd, .ref vmn, .ref vmr, .ref vmk, .ref vms, .ref vma, .ref vmm, .ref vmrn, .ref vmkn, .ref vmik, .ref vmon, .int vosm, .int vohp, .ref vmw, .ref vmf, .ref vmb, .int vomb, .ref vmd, .ref vmc, .int vocm, .int voct, .int vocy, .ref vmx, .int votx_7, .int vose, .ref vml, .ref vmwr, .int voln, .int vohw, .ref vmno, .int vond, .int voon, .int vowi, .int votop])), (vmx, .inl (cy 0, 64, .inl vmxf_8))] H := hP
    have hD : va_D A [(vo, .inr (12, [.int voth, .ref vmt, .int votp, .int vosz, .int volm, .int voto, .int vofr, .int vokd, .int vonu, .int vosg, .int vofa, .int vopl, .long vowd, .int votd, .ref vmn, .ref vmr, .ref vmk, .ref vms, .ref vma, .ref vmm, .ref vmrn, .ref vmkn, .ref vmik, .ref vmon, .int vosm, .int vohp, .ref vmw, .ref vmf, .ref vmb, .int vomb, .ref vmd, .ref vmc, .int vocm, .int voct, .int vocy, .ref vmx, .int votx_7, .int vose, .ref vml, .ref vmwr, .int voln, .int vohw, .ref vmno, .int vond, .int voon, .int vowi, .int votop])), (vmx, .inl (cy 0, 64, .inl vmxf_8))] := hD
    rw [hQ9]
    exact re_v (votx_7, vmxf_8) hx hb hr hlocks ⟨(show 0 ≤ (votx_7 : Int32).toInt ∧ (votx_7 : Int32).toInt ≤ 64 from ⟨by omega, by omega⟩), (show (votx_7 : Int32).toInt ≤ (votx : Int32).toInt + 4 from (by omega)), (show (votx : Int32).toInt ≤ (votx_7 : Int32).toInt from (by omega))⟩ (hP.sub [0, 1] rfl) (hD.sub [0, 1] rfl rfl) hS dX11_writeNumber_25
  · skip
    have c_1 : ¬ (vn.toInt ≤ (9 : Int32).toInt) := fun h9 => c_1 (i_le.mpr h9)
    refine lv_aload_n hx hb dX11_writeNumber_6 rfl (lv_at hl 0 rfl) ?_
    refine lv_iload_n hx hb dX11_writeNumber_7 rfl (lv_at hl 1 rfl) ?_
    refine lv_bipush (v := 10) hx hb dX11_writeNumber_8 (by decide) ?_
    refine lv_idiv hx hb dX11_writeNumber_10 (by decide) ?_
    refine lv_topi (fun z_11 ez_11 => ?_)
    have bz_11 : 0 ≤ z_11.toInt ∧ z_11.toInt * 10 ≤ vn.toInt := i_div10 ez_11 (by omega)
    refine jn_v (wr := []) (rV (As := [.int z_11]) (rest := []) (ci := 12) ⟨hx, hb, hml, hown, hts⟩ (m_writeNumber_3 l dC dI cy _ vo voth vmt votp vosz volm voto vofr vokd vonu vosg vofa vopl vowd votd vmn vmr vmk vms vma vmm vmrn vmkn vmik vmon vosm vohp vmw vmf vmb vomb vmd vmc vocm voct vocy vmx votx vose vml vmwr voln vohw vmno vond voon vowi votop vmxf z_11 ⟨by omega, by omega⟩ (by omega)) (cw_X11_345 hts rfl rfl ⟨Nat.le_of_ble_eq_true rfl, Nat.le_of_ble_eq_true rfl⟩) hP hD hK [0, 1] rfl rfl rfl rfl bl0 e0 rfl hl.1 rfl (Nat.le_of_ble_eq_true rfl) dX11_writeNumber_11 ⟨Nat.le_of_ble_eq_true rfl, Nat.le_of_ble_eq_true rfl⟩) hP hD hS hA [0, 1] [] rfl rfl rfl (by decide) (fun u_14 H locs hp_13 hP hD hS => ?_)
    obtain ⟨votx_15, vmxf_16⟩ := u_14
    have hp_13 : (0 ≤ (votx_15 : Int32).toInt ∧ (votx_15 : Int32).toInt ≤ 64) ∧ ((votx_15 : Int32).toInt ≤ (votx : Int32).toInt + 3) ∧ ((votx : Int32).toInt ≤ (votx_15 : Int32).toInt) := hp_13
    obtain ⟨q_17, q_18, q_19⟩ := hp_13
    have hP : va_P (dC, dI) vwCl [(vo, .inr (12, [.int voth, .ref vmt, .int votp, .int vosz, .int volm, .int voto, .int vofr, .int vokd, .int vonu, .int vosg, .int vofa, .int vopl, .long vowd, .int votd, .ref vmn, .ref vmr, .ref vmk, .ref vms, .ref vma, .ref vmm, .ref vmrn, .ref vmkn, .ref vmik, .ref vmon, .int vosm, .int vohp, .ref vmw, .ref vmf, .ref vmb, .int vomb, .ref vmd, .ref vmc, .int vocm, .int voct, .int vocy, .ref vmx, .int votx_15, .int vose, .ref vml, .ref vmwr, .int voln, .int vohw, .ref vmno, .int vond, .int voon, .int vowi, .int votop])), (vmx, .inl (cy 0, 64, .inl vmxf_16))] H := hP
    have hD : va_D A [(vo, .inr (12, [.int voth, .ref vmt, .int votp, .int vosz, .int volm, .int voto, .int vofr, .int vokd, .int vonu, .int vosg, .int vofa, .int vopl, .long vowd, .int votd, .ref vmn, .ref vmr, .ref vmk, .ref vms, .ref vma, .ref vmm, .ref vmrn, .ref vmkn, .ref vmik, .ref vmon, .int vosm, .int vohp, .ref vmw, .ref vmf, .ref vmb, .int vomb, .ref vmd, .ref vmc, .int vocm, .int voct, .int vocy, .ref vmx, .int votx_15, .int vose, .ref vml, .ref vmwr, .int voln, .int vohw, .ref vmno, .int vond, .int voon, .int vowi, .int votop])), (vmx, .inl (cy 0, 64, .inl vmxf_16))] := hD
    refine lv_aload_n hx hb dX11_writeNumber_14 rfl (lv_at hl 0 rfl) ?_
    refine lv_bipush (v := 48) hx hb dX11_writeNumber_15 (by decide) ?_
    refine lv_iload_n hx hb dX11_writeNumber_17 rfl (lv_at hl 1 rfl) ?_
    refine lv_bipush (v := 10) hx hb dX11_writeNumber_18 (by decide) ?_
    have k_10 : (10 : Int32).toInt = 10 := by decide
    have k_0 : (0 : Int32).toInt = 0 := by decide
    refine lv_irem hx hb dX11_writeNumber_20 (fun h9 => absurd (i_eq.mp h9) (by omega)) ?_
    refine lv_topi (fun z_20 ez_20 => ?_)
    have bz_20 : 0 ≤ z_20.toInt ∧ z_20.toInt < (10 : Int32).toInt := i_rem ez_20 (by omega) (by omega)
    refine lv_iadd hx hb dX11_writeNumber_21 ?_
    refine lv_topi (fun z_21 ez_21 => ?_)
    have k_48 : (48 : Int32).toInt = 48 := by decide
    have bz_21 : z_21.toInt = (48 : Int32).toInt + z_20.toInt := i_add ez_21 (by omega) (by omega)
    refine jn_v (wr := []) (rV (As := [.int z_21]) (rest := []) (ci := 12) ⟨hx, hb, hml, hown, hts⟩ (m_write l dC dI cy _ vo voth vmt votp vosz volm voto vofr vokd vonu vosg vofa vopl vowd votd vmn vmr vmk vms vma vmm vmrn vmkn vmik vmon vosm vohp vmw vmf vmb vomb vmd vmc vocm voct vocy vmx votx_15 vose vml vmwr voln vohw vmno vond voon vowi votop vmxf_16 z_21 ⟨by omega, by omega⟩) (cw_X11_342 hts rfl rfl ⟨Nat.le_of_ble_eq_true rfl, Nat.le_of_ble_eq_true rfl⟩) hP hD hK [0, 1] rfl rfl rfl rfl bl0 e0 rfl hl.1 rfl (Nat.le_of_ble_eq_true rfl) dX11_writeNumber_22 ⟨Nat.le_of_ble_eq_true rfl, Nat.le_of_ble_eq_true rfl⟩) hP hD hS hA [0, 1] [] rfl rfl rfl (by decide) (fun u_24 H locs hp_23 hP hD hS => ?_)
    obtain ⟨votx_25, vmxf_26⟩ := u_24
    have hp_23 : (0 ≤ (votx_25 : Int32).toInt ∧ (votx_25 : Int32).toInt ≤ 64) ∧ ((votx_25 : Int32).toInt = (votx_15 : Int32).toInt + 1) := hp_23
    obtain ⟨q_27, q_28⟩ := hp_23
    have hP : va_P (dC, dI) vwCl [(vo, .inr (12, [.int voth, .ref vmt, .int votp, .int vosz, .int volm, .int voto, .int vofr, .int vokd, .int vonu, .int vosg, .int vofa, .int vopl, .long vowd, .int votd, .ref vmn, .ref vmr, .ref vmk, .ref vms, .ref vma, .ref vmm, .ref vmrn, .ref vmkn, .ref vmik, .ref vmon, .int vosm, .int vohp, .ref vmw, .ref vmf, .ref vmb, .int vomb, .ref vmd, .ref vmc, .int vocm, .int voct, .int vocy, .ref vmx, .int votx_25, .int vose, .ref vml, .ref vmwr, .int voln, .int vohw, .ref vmno, .int vond, .int voon, .int vowi, .int votop])), (vmx, .inl (cy 0, 64, .inl vmxf_26))] H := hP
    have hD : va_D A [(vo, .inr (12, [.int voth, .ref vmt, .int votp, .int vosz, .int volm, .int voto, .int vofr, .int vokd, .int vonu, .int vosg, .int vofa, .int vopl, .long vowd, .int votd, .ref vmn, .ref vmr, .ref vmk, .ref vms, .ref vma, .ref vmm, .ref vmrn, .ref vmkn, .ref vmik, .ref vmon, .int vosm, .int vohp, .ref vmw, .ref vmf, .ref vmb, .int vomb, .ref vmd, .ref vmc, .int vocm, .int voct, .int vocy, .ref vmx, .int votx_25, .int vose, .ref vml, .ref vmwr, .int voln, .int vohw, .ref vmno, .int vond, .int voon, .int vowi, .int votop])), (vmx, .inl (cy 0, 64, .inl vmxf_26))] := hD
    rw [hQ9]
    exact re_v (votx_25, vmxf_26) hx hb hr hlocks ⟨(show 0 ≤ (votx_25 : Int32).toInt ∧ (votx_25 : Int32).toInt ≤ 64 from ⟨by omega, by omega⟩), (show (votx_25 : Int32).toInt ≤ (votx : Int32).toInt + 4 from (by omega)), (show (votx : Int32).toInt ≤ (votx_25 : Int32).toInt from (by omega))⟩ (hP.sub [0, 1] rfl) (hD.sub [0, 1] rfl rfl) hS dX11_writeNumber_25
abbrev O_m_writeNumber_5 (cy : Nat → ClassId) (vo : Nat) (voth : Int32) (vmt : Nat) (votp : Int32) (vosz : Int32) (volm : Int32) (voto : Int32) (vofr : Int32) (vokd : Int32) (vonu : Int32) (vosg : Int32) (vofa : Int32) (vopl : Int32) (vowd : Int64) (votd : Int32) (vmn : Nat) (vmr : Nat) (vmk : Nat) (vms : Nat) (vma : Nat) (vmm : Nat) (vmrn : Nat) (vmkn : Nat) (vmik : Nat) (vmon : Nat) (vosm : Int32) (vohp : Int32) (vmw : Nat) (vmf : Nat) (vmb : Nat) (vomb : Int32) (vmd : Nat) (vmc : Nat) (vocm : Int32) (voct : Int32) (vocy : Int32) (vmx : Nat) (votx : Int32) (vose : Int32) (vml : Nat) (vmwr : Nat) (voln : Int32) (vohw : Int32) (vmno : Nat) (vond : Int32) (voon : Int32) (vowi : Int32) (votop : Int32) (vmxf : Nat → Int32) (vn : Int32) (u : Int32 × (Nat → Int32)) : va_W := [(vo, .inr (12, [.int voth, .ref vmt, .int votp, .int vosz, .int volm, .int voto, .int vofr, .int vokd, .int vonu, .int vosg, .int vofa, .int vopl, .long vowd, .int votd, .ref vmn, .ref vmr, .ref vmk, .ref vms, .ref vma, .ref vmm, .ref vmrn, .ref vmkn, .ref vmik, .ref vmon, .int vosm, .int vohp, .ref vmw, .ref vmf, .ref vmb, .int vomb, .ref vmd, .ref vmc, .int vocm, .int voct, .int vocy, .ref vmx, .int u.1, .int vose, .ref vml, .ref vmwr, .int voln, .int vohw, .ref vmno, .int vond, .int voon, .int vowi, .int votop])), (vmx, .inl (cy 0, 64, .inl u.2))]
set_option maxHeartbeats 4000000 in
set_option maxRecDepth 100000 in
theorem m_writeNumber_5 (l : Launch) (dC : Nat → ClassId) (dI : Nat → Nat → Nat) (cy : Nat → ClassId) (sz : Nat) (vo : Nat) (voth : Int32) (vmt : Nat) (votp : Int32) (vosz : Int32) (volm : Int32) (voto : Int32) (vofr : Int32) (vokd : Int32) (vonu : Int32) (vosg : Int32) (vofa : Int32) (vopl : Int32) (vowd : Int64) (votd : Int32) (vmn : Nat) (vmr : Nat) (vmk : Nat) (vms : Nat) (vma : Nat) (vmm : Nat) (vmrn : Nat) (vmkn : Nat) (vmik : Nat) (vmon : Nat) (vosm : Int32) (vohp : Int32) (vmw : Nat) (vmf : Nat) (vmb : Nat) (vomb : Int32) (vmd : Nat) (vmc : Nat) (vocm : Int32) (voct : Int32) (vocy : Int32) (vmx : Nat) (votx : Int32) (vose : Int32) (vml : Nat) (vmwr : Nat) (voln : Int32) (vohw : Int32) (vmno : Nat) (vond : Int32) (voon : Int32) (vowi : Int32) (votop : Int32) (vmxf : Nat → Int32) (vn : Int32) (r_votx : 0 ≤ (votx : Int32).toInt ∧ (votx : Int32).toInt ≤ 59) (hw : (vn : Int32).toInt < 100000) : Met l yX11_writeNumber (wl yX11_writeNumber cX11_writeNumber 2 none) ({ frames := 5, cells := 0, slots := 0, locals := 320 }) (Pw (dC, dI) vwCl cy [(vo, .inr (12, [.int voth, .ref vmt, .int votp, .int vosz, .int volm, .int voto, .int vofr, .int vokd, .int vonu, .int vosg, .int vofa, .int vopl, .long vowd, .int votd, .ref vmn, .ref vmr, .ref vmk, .ref vms, .ref vma, .ref vmm, .ref vmrn, .ref vmkn, .ref vmik, .ref vmon, .int vosm, .int vohp, .ref vmw, .ref vmf, .ref vmb, .int vomb, .ref vmd, .ref vmc, .int vocm, .int voct, .int vocy, .ref vmx, .int votx, .int vose, .ref vml, .ref vmwr, .int voln, .int vohw, .ref vmno, .int vond, .int voon, .int vowi, .int votop])), (vmx, .inl (cy 0, 64, .inl vmxf))] sz [.ref vo, .int vn] nE) (Qv (dC, dI) vwCl (fun (u : Int32 × (Nat → Int32)) => (0 ≤ (u.1 : Int32).toInt ∧ (u.1 : Int32).toInt ≤ 64) ∧ ((u.1 : Int32).toInt ≤ (votx : Int32).toInt + 5) ∧ ((votx : Int32).toInt ≤ (u.1 : Int32).toInt)) (O_m_writeNumber_5 cy vo voth vmt votp vosz volm voto vofr vokd vonu vosg vofa vopl vowd votd vmn vmr vmk vms vma vmm vmrn vmkn vmik vmon vosm vohp vmw vmf vmb vomb vmd vmc vocm voct vocy vmx votx vose vml vmwr voln vohw vmno vond voon vowi votop vmxf vn) (va_A [(vo, .inr (12, [.int voth, .ref vmt, .int votp, .int vosz, .int volm, .int voto, .int vofr, .int vokd, .int vonu, .int vosg, .int vofa, .int vopl, .long vowd, .int votd, .ref vmn, .ref vmr, .ref vmk, .ref vms, .ref vma, .ref vmm, .ref vmrn, .ref vmkn, .ref vmik, .ref vmon, .int vosm, .int vohp, .ref vmw, .ref vmf, .ref vmb, .int vomb, .ref vmd, .ref vmc, .int vocm, .int voct, .int vocy, .ref vmx, .int votx, .int vose, .ref vml, .ref vmwr, .int voln, .int vohw, .ref vmno, .int vond, .int voon, .int vowi, .int votop])), (vmx, .inl (cy 0, 64, .inl vmxf))] sz)) 0 0 (va_A [(vo, .inr (12, [.int voth, .ref vmt, .int votp, .int vosz, .int volm, .int voto, .int vofr, .int vokd, .int vonu, .int vosg, .int vofa, .int vopl, .long vowd, .int votd, .ref vmn, .ref vmr, .ref vmk, .ref vms, .ref vma, .ref vmm, .ref vmrn, .ref vmkn, .ref vmik, .ref vmon, .int vosm, .int vohp, .ref vmw, .ref vmf, .ref vmb, .int vomb, .ref vmd, .ref vmc, .int vocm, .int voct, .int vocy, .ref vmx, .int votx, .int vose, .ref vml, .ref vmwr, .int voln, .int vohw, .ref vmno, .int vond, .int voon, .int vowi, .int votop])), (vmx, .inl (cy 0, 64, .inl vmxf))] sz) := by
  refine mw (Qc := Qv (dC, dI) vwCl (fun (u : Int32 × (Nat → Int32)) => (0 ≤ (u.1 : Int32).toInt ∧ (u.1 : Int32).toInt ≤ 64) ∧ ((u.1 : Int32).toInt ≤ (votx : Int32).toInt + 5) ∧ ((votx : Int32).toInt ≤ (u.1 : Int32).toInt)) (O_m_writeNumber_5 cy vo voth vmt votp vosz volm voto vofr vokd vonu vosg vofa vopl vowd votd vmn vmr vmk vms vma vmm vmrn vmkn vmik vmon vosm vohp vmw vmf vmb vomb vmd vmc vocm voct vocy vmx votx vose vml vmwr voln vohw vmno vond voon vowi votop vmxf vn)) RX11 rfl (by decide +kernel) (Nat.le_of_ble_eq_true rfl) ?_
  intro p e s m below meth c A hx hb hr hlocks av9 hav hts hown hnm hml hK hP hD hA hS hE hAe Q9 hQ9 ls hl
  have hl : lv_has ls 2 [(0, .ref vo), (1, .int vn)] := hl
  refine lv_iload_n hx hb dX11_writeNumber_0 rfl (lv_at hl 1 rfl) ?_
  refine lv_bipush (v := 9) hx hb dX11_writeNumber_1 (by decide) ?_
  have k_9 : (9 : Int32).toInt = 9 := by decide
  refine lv_icmp_le (tgt := 14) hx hb dX11_writeNumber_3 (by decide) (fun c_1 => ?_) (fun c_1 => ?_)
  · skip
    have c_1 : vn.toInt ≤ (9 : Int32).toInt := i_le.mp c_1
    refine lv_aload_n hx hb dX11_writeNumber_14 rfl (lv_at hl 0 rfl) ?_
    refine lv_bipush (v := 48) hx hb dX11_writeNumber_15 (by decide) ?_
    refine lv_iload_n hx hb dX11_writeNumber_17 rfl (lv_at hl 1 rfl) ?_
    refine lv_bipush (v := 10) hx hb dX11_writeNumber_18 (by decide) ?_
    have k_10 : (10 : Int32).toInt = 10 := by decide
    have k_0 : (0 : Int32).toInt = 0 := by decide
    refine lv_irem hx hb dX11_writeNumber_20 (fun h9 => absurd (i_eq.mp h9) (by omega)) ?_
    refine lv_topi (fun z_2 ez_2 => ?_)
    refine lv_iadd hx hb dX11_writeNumber_21 ?_
    refine lv_topi (fun z_3 ez_3 => ?_)
    refine jn_v (wr := []) (rV (As := [.int z_3]) (rest := []) (ci := 12) ⟨hx, hb, hml, hown, hts⟩ (m_write l dC dI cy _ vo voth vmt votp vosz volm voto vofr vokd vonu vosg vofa vopl vowd votd vmn vmr vmk vms vma vmm vmrn vmkn vmik vmon vosm vohp vmw vmf vmb vomb vmd vmc vocm voct vocy vmx votx vose vml vmwr voln vohw vmno vond voon vowi votop vmxf z_3 ⟨by omega, by omega⟩) (cw_X11_342 hts rfl rfl ⟨Nat.le_of_ble_eq_true rfl, Nat.le_of_ble_eq_true rfl⟩) hP hD hK [0, 1] rfl rfl rfl rfl bl0 e0 rfl hl.1 rfl (Nat.le_of_ble_eq_true rfl) dX11_writeNumber_22 ⟨Nat.le_of_ble_eq_true rfl, Nat.le_of_ble_eq_true rfl⟩) hP hD hS hA [0, 1] [] rfl rfl rfl (by decide) (fun u_6 H locs hp_5 hP hD hS => ?_)
    obtain ⟨votx_7, vmxf_8⟩ := u_6
    have hp_5 : (0 ≤ (votx_7 : Int32).toInt ∧ (votx_7 : Int32).toInt ≤ 64) ∧ ((votx_7 : Int32).toInt = (votx : Int32).toInt + 1) := hp_5
    obtain ⟨q_9, q_10⟩ := hp_5
    have hP : va_P (dC, dI) vwCl [(vo, .inr (12, [.int voth, .ref vmt, .int votp, .int vosz, .int volm, .int voto, .int vofr, .int vokd, .int vonu, .int vosg, .int vofa, .int vopl, .long vowd, .int votd, .ref vmn, .ref vmr, .ref vmk, .ref vms, .ref vma, .ref vmm, .ref vmrn, .ref vmkn, .ref vmik, .ref vmon, .int vosm, .int vohp, .ref vmw, .ref vmf, .ref vmb, .int vomb, .ref vmd, .ref vmc, .int vocm, .int voct, .int vocy, .ref vmx, .int votx_7, .int vose, .ref vml, .ref vmwr, .int voln, .int vohw, .ref vmno, .int vond, .int voon, .int vowi, .int votop])), (vmx, .inl (cy 0, 64, .inl vmxf_8))] H := hP
    have hD : va_D A [(vo, .inr (12, [.int voth, .ref vmt, .int votp, .int vosz, .int volm, .int voto, .int vofr, .int vokd, .int vonu, .int vosg, .int vofa, .int vopl, .long vowd, .int votd, .ref vmn, .ref vmr, .ref vmk, .ref vms, .ref vma, .ref vmm, .ref vmrn, .ref vmkn, .ref vmik, .ref vmon, .int vosm, .int vohp, .ref vmw, .ref vmf, .ref vmb, .int vomb, .ref vmd, .ref vmc, .int vocm, .int voct, .int vocy, .ref vmx, .int votx_7, .int vose, .ref vml, .ref vmwr, .int voln, .int vohw, .ref vmno, .int vond, .int voon, .int vowi, .int votop])), (vmx, .inl (cy 0, 64, .inl vmxf_8))] := hD
    rw [hQ9]
    exact re_v (votx_7, vmxf_8) hx hb hr hlocks ⟨(show 0 ≤ (votx_7 : Int32).toInt ∧ (votx_7 : Int32).toInt ≤ 64 from ⟨by omega, by omega⟩), (show (votx_7 : Int32).toInt ≤ (votx : Int32).toInt + 5 from (by omega)), (show (votx : Int32).toInt ≤ (votx_7 : Int32).toInt from (by omega))⟩ (hP.sub [0, 1] rfl) (hD.sub [0, 1] rfl rfl) hS dX11_writeNumber_25
  · skip
    have c_1 : ¬ (vn.toInt ≤ (9 : Int32).toInt) := fun h9 => c_1 (i_le.mpr h9)
    refine lv_aload_n hx hb dX11_writeNumber_6 rfl (lv_at hl 0 rfl) ?_
    refine lv_iload_n hx hb dX11_writeNumber_7 rfl (lv_at hl 1 rfl) ?_
    refine lv_bipush (v := 10) hx hb dX11_writeNumber_8 (by decide) ?_
    refine lv_idiv hx hb dX11_writeNumber_10 (by decide) ?_
    refine lv_topi (fun z_11 ez_11 => ?_)
    have bz_11 : 0 ≤ z_11.toInt ∧ z_11.toInt * 10 ≤ vn.toInt := i_div10 ez_11 (by omega)
    refine jn_v (wr := []) (rV (As := [.int z_11]) (rest := []) (ci := 12) ⟨hx, hb, hml, hown, hts⟩ (m_writeNumber_4 l dC dI cy _ vo voth vmt votp vosz volm voto vofr vokd vonu vosg vofa vopl vowd votd vmn vmr vmk vms vma vmm vmrn vmkn vmik vmon vosm vohp vmw vmf vmb vomb vmd vmc vocm voct vocy vmx votx vose vml vmwr voln vohw vmno vond voon vowi votop vmxf z_11 ⟨by omega, by omega⟩ (by omega)) (cw_X11_345 hts rfl rfl ⟨Nat.le_of_ble_eq_true rfl, Nat.le_of_ble_eq_true rfl⟩) hP hD hK [0, 1] rfl rfl rfl rfl bl0 e0 rfl hl.1 rfl (Nat.le_of_ble_eq_true rfl) dX11_writeNumber_11 ⟨Nat.le_of_ble_eq_true rfl, Nat.le_of_ble_eq_true rfl⟩) hP hD hS hA [0, 1] [] rfl rfl rfl (by decide) (fun u_14 H locs hp_13 hP hD hS => ?_)
    obtain ⟨votx_15, vmxf_16⟩ := u_14
    have hp_13 : (0 ≤ (votx_15 : Int32).toInt ∧ (votx_15 : Int32).toInt ≤ 64) ∧ ((votx_15 : Int32).toInt ≤ (votx : Int32).toInt + 4) ∧ ((votx : Int32).toInt ≤ (votx_15 : Int32).toInt) := hp_13
    obtain ⟨q_17, q_18, q_19⟩ := hp_13
    have hP : va_P (dC, dI) vwCl [(vo, .inr (12, [.int voth, .ref vmt, .int votp, .int vosz, .int volm, .int voto, .int vofr, .int vokd, .int vonu, .int vosg, .int vofa, .int vopl, .long vowd, .int votd, .ref vmn, .ref vmr, .ref vmk, .ref vms, .ref vma, .ref vmm, .ref vmrn, .ref vmkn, .ref vmik, .ref vmon, .int vosm, .int vohp, .ref vmw, .ref vmf, .ref vmb, .int vomb, .ref vmd, .ref vmc, .int vocm, .int voct, .int vocy, .ref vmx, .int votx_15, .int vose, .ref vml, .ref vmwr, .int voln, .int vohw, .ref vmno, .int vond, .int voon, .int vowi, .int votop])), (vmx, .inl (cy 0, 64, .inl vmxf_16))] H := hP
    have hD : va_D A [(vo, .inr (12, [.int voth, .ref vmt, .int votp, .int vosz, .int volm, .int voto, .int vofr, .int vokd, .int vonu, .int vosg, .int vofa, .int vopl, .long vowd, .int votd, .ref vmn, .ref vmr, .ref vmk, .ref vms, .ref vma, .ref vmm, .ref vmrn, .ref vmkn, .ref vmik, .ref vmon, .int vosm, .int vohp, .ref vmw, .ref vmf, .ref vmb, .int vomb, .ref vmd, .ref vmc, .int vocm, .int voct, .int vocy, .ref vmx, .int votx_15, .int vose, .ref vml, .ref vmwr, .int voln, .int vohw, .ref vmno, .int vond, .int voon, .int vowi, .int votop])), (vmx, .inl (cy 0, 64, .inl vmxf_16))] := hD
    refine lv_aload_n hx hb dX11_writeNumber_14 rfl (lv_at hl 0 rfl) ?_
    refine lv_bipush (v := 48) hx hb dX11_writeNumber_15 (by decide) ?_
    refine lv_iload_n hx hb dX11_writeNumber_17 rfl (lv_at hl 1 rfl) ?_
    refine lv_bipush (v := 10) hx hb dX11_writeNumber_18 (by decide) ?_
    have k_10 : (10 : Int32).toInt = 10 := by decide
    have k_0 : (0 : Int32).toInt = 0 := by decide
    refine lv_irem hx hb dX11_writeNumber_20 (fun h9 => absurd (i_eq.mp h9) (by omega)) ?_
    refine lv_topi (fun z_20 ez_20 => ?_)
    have bz_20 : 0 ≤ z_20.toInt ∧ z_20.toInt < (10 : Int32).toInt := i_rem ez_20 (by omega) (by omega)
    refine lv_iadd hx hb dX11_writeNumber_21 ?_
    refine lv_topi (fun z_21 ez_21 => ?_)
    have k_48 : (48 : Int32).toInt = 48 := by decide
    have bz_21 : z_21.toInt = (48 : Int32).toInt + z_20.toInt := i_add ez_21 (by omega) (by omega)
    refine jn_v (wr := []) (rV (As := [.int z_21]) (rest := []) (ci := 12) ⟨hx, hb, hml, hown, hts⟩ (m_write l dC dI cy _ vo voth vmt votp vosz volm voto vofr vokd vonu vosg vofa vopl vowd votd vmn vmr vmk vms vma vmm vmrn vmkn vmik vmon vosm vohp vmw vmf vmb vomb vmd vmc vocm voct vocy vmx votx_15 vose vml vmwr voln vohw vmno vond voon vowi votop vmxf_16 z_21 ⟨by omega, by omega⟩) (cw_X11_342 hts rfl rfl ⟨Nat.le_of_ble_eq_true rfl, Nat.le_of_ble_eq_true rfl⟩) hP hD hK [0, 1] rfl rfl rfl rfl bl0 e0 rfl hl.1 rfl (Nat.le_of_ble_eq_true rfl) dX11_writeNumber_22 ⟨Nat.le_of_ble_eq_true rfl, Nat.le_of_ble_eq_true rfl⟩) hP hD hS hA [0, 1] [] rfl rfl rfl (by decide) (fun u_24 H locs hp_23 hP hD hS => ?_)
    obtain ⟨votx_25, vmxf_26⟩ := u_24
    have hp_23 : (0 ≤ (votx_25 : Int32).toInt ∧ (votx_25 : Int32).toInt ≤ 64) ∧ ((votx_25 : Int32).toInt = (votx_15 : Int32).toInt + 1) := hp_23
    obtain ⟨q_27, q_28⟩ := hp_23
    have hP : va_P (dC, dI) vwCl [(vo, .inr (12, [.int voth, .ref vmt, .int votp, .int vosz, .int volm, .int voto, .int vofr, .int vokd, .int vonu, .int vosg, .int vofa, .int vopl, .long vowd, .int votd, .ref vmn, .ref vmr, .ref vmk, .ref vms, .ref vma, .ref vmm, .ref vmrn, .ref vmkn, .ref vmik, .ref vmon, .int vosm, .int vohp, .ref vmw, .ref vmf, .ref vmb, .int vomb, .ref vmd, .ref vmc, .int vocm, .int voct, .int vocy, .ref vmx, .int votx_25, .int vose, .ref vml, .ref vmwr, .int voln, .int vohw, .ref vmno, .int vond, .int voon, .int vowi, .int votop])), (vmx, .inl (cy 0, 64, .inl vmxf_26))] H := hP
    have hD : va_D A [(vo, .inr (12, [.int voth, .ref vmt, .int votp, .int vosz, .int volm, .int voto, .int vofr, .int vokd, .int vonu, .int vosg, .int vofa, .int vopl, .long vowd, .int votd, .ref vmn, .ref vmr, .ref vmk, .ref vms, .ref vma, .ref vmm, .ref vmrn, .ref vmkn, .ref vmik, .ref vmon, .int vosm, .int vohp, .ref vmw, .ref vmf, .ref vmb, .int vomb, .ref vmd, .ref vmc, .int vocm, .int voct, .int vocy, .ref vmx, .int votx_25, .int vose, .ref vml, .ref vmwr, .int voln, .int vohw, .ref vmno, .int vond, .int voon, .int vowi, .int votop])), (vmx, .inl (cy 0, 64, .inl vmxf_26))] := hD
    rw [hQ9]
    exact re_v (votx_25, vmxf_26) hx hb hr hlocks ⟨(show 0 ≤ (votx_25 : Int32).toInt ∧ (votx_25 : Int32).toInt ≤ 64 from ⟨by omega, by omega⟩), (show (votx_25 : Int32).toInt ≤ (votx : Int32).toInt + 5 from (by omega)), (show (votx : Int32).toInt ≤ (votx_25 : Int32).toInt from (by omega))⟩ (hP.sub [0, 1] rfl) (hD.sub [0, 1] rfl rfl) hS dX11_writeNumber_25
abbrev O_m_writeNumber_6 (cy : Nat → ClassId) (vo : Nat) (voth : Int32) (vmt : Nat) (votp : Int32) (vosz : Int32) (volm : Int32) (voto : Int32) (vofr : Int32) (vokd : Int32) (vonu : Int32) (vosg : Int32) (vofa : Int32) (vopl : Int32) (vowd : Int64) (votd : Int32) (vmn : Nat) (vmr : Nat) (vmk : Nat) (vms : Nat) (vma : Nat) (vmm : Nat) (vmrn : Nat) (vmkn : Nat) (vmik : Nat) (vmon : Nat) (vosm : Int32) (vohp : Int32) (vmw : Nat) (vmf : Nat) (vmb : Nat) (vomb : Int32) (vmd : Nat) (vmc : Nat) (vocm : Int32) (voct : Int32) (vocy : Int32) (vmx : Nat) (votx : Int32) (vose : Int32) (vml : Nat) (vmwr : Nat) (voln : Int32) (vohw : Int32) (vmno : Nat) (vond : Int32) (voon : Int32) (vowi : Int32) (votop : Int32) (vmxf : Nat → Int32) (vn : Int32) (u : Int32 × (Nat → Int32)) : va_W := [(vo, .inr (12, [.int voth, .ref vmt, .int votp, .int vosz, .int volm, .int voto, .int vofr, .int vokd, .int vonu, .int vosg, .int vofa, .int vopl, .long vowd, .int votd, .ref vmn, .ref vmr, .ref vmk, .ref vms, .ref vma, .ref vmm, .ref vmrn, .ref vmkn, .ref vmik, .ref vmon, .int vosm, .int vohp, .ref vmw, .ref vmf, .ref vmb, .int vomb, .ref vmd, .ref vmc, .int vocm, .int voct, .int vocy, .ref vmx, .int u.1, .int vose, .ref vml, .ref vmwr, .int voln, .int vohw, .ref vmno, .int vond, .int voon, .int vowi, .int votop])), (vmx, .inl (cy 0, 64, .inl u.2))]
set_option maxHeartbeats 4000000 in
set_option maxRecDepth 100000 in
theorem m_writeNumber_6 (l : Launch) (dC : Nat → ClassId) (dI : Nat → Nat → Nat) (cy : Nat → ClassId) (sz : Nat) (vo : Nat) (voth : Int32) (vmt : Nat) (votp : Int32) (vosz : Int32) (volm : Int32) (voto : Int32) (vofr : Int32) (vokd : Int32) (vonu : Int32) (vosg : Int32) (vofa : Int32) (vopl : Int32) (vowd : Int64) (votd : Int32) (vmn : Nat) (vmr : Nat) (vmk : Nat) (vms : Nat) (vma : Nat) (vmm : Nat) (vmrn : Nat) (vmkn : Nat) (vmik : Nat) (vmon : Nat) (vosm : Int32) (vohp : Int32) (vmw : Nat) (vmf : Nat) (vmb : Nat) (vomb : Int32) (vmd : Nat) (vmc : Nat) (vocm : Int32) (voct : Int32) (vocy : Int32) (vmx : Nat) (votx : Int32) (vose : Int32) (vml : Nat) (vmwr : Nat) (voln : Int32) (vohw : Int32) (vmno : Nat) (vond : Int32) (voon : Int32) (vowi : Int32) (votop : Int32) (vmxf : Nat → Int32) (vn : Int32) (r_votx : 0 ≤ (votx : Int32).toInt ∧ (votx : Int32).toInt ≤ 58) (hw : (vn : Int32).toInt < 1000000) : Met l yX11_writeNumber (wl yX11_writeNumber cX11_writeNumber 2 none) ({ frames := 6, cells := 0, slots := 0, locals := 384 }) (Pw (dC, dI) vwCl cy [(vo, .inr (12, [.int voth, .ref vmt, .int votp, .int vosz, .int volm, .int voto, .int vofr, .int vokd, .int vonu, .int vosg, .int vofa, .int vopl, .long vowd, .int votd, .ref vmn, .ref vmr, .ref vmk, .ref vms, .ref vma, .ref vmm, .ref vmrn, .ref vmkn, .ref vmik, .ref vmon, .int vosm, .int vohp, .ref vmw, .ref vmf, .ref vmb, .int vomb, .ref vmd, .ref vmc, .int vocm, .int voct, .int vocy, .ref vmx, .int votx, .int vose, .ref vml, .ref vmwr, .int voln, .int vohw, .ref vmno, .int vond, .int voon, .int vowi, .int votop])), (vmx, .inl (cy 0, 64, .inl vmxf))] sz [.ref vo, .int vn] nE) (Qv (dC, dI) vwCl (fun (u : Int32 × (Nat → Int32)) => (0 ≤ (u.1 : Int32).toInt ∧ (u.1 : Int32).toInt ≤ 64) ∧ ((u.1 : Int32).toInt ≤ (votx : Int32).toInt + 6) ∧ ((votx : Int32).toInt ≤ (u.1 : Int32).toInt)) (O_m_writeNumber_6 cy vo voth vmt votp vosz volm voto vofr vokd vonu vosg vofa vopl vowd votd vmn vmr vmk vms vma vmm vmrn vmkn vmik vmon vosm vohp vmw vmf vmb vomb vmd vmc vocm voct vocy vmx votx vose vml vmwr voln vohw vmno vond voon vowi votop vmxf vn) (va_A [(vo, .inr (12, [.int voth, .ref vmt, .int votp, .int vosz, .int volm, .int voto, .int vofr, .int vokd, .int vonu, .int vosg, .int vofa, .int vopl, .long vowd, .int votd, .ref vmn, .ref vmr, .ref vmk, .ref vms, .ref vma, .ref vmm, .ref vmrn, .ref vmkn, .ref vmik, .ref vmon, .int vosm, .int vohp, .ref vmw, .ref vmf, .ref vmb, .int vomb, .ref vmd, .ref vmc, .int vocm, .int voct, .int vocy, .ref vmx, .int votx, .int vose, .ref vml, .ref vmwr, .int voln, .int vohw, .ref vmno, .int vond, .int voon, .int vowi, .int votop])), (vmx, .inl (cy 0, 64, .inl vmxf))] sz)) 0 0 (va_A [(vo, .inr (12, [.int voth, .ref vmt, .int votp, .int vosz, .int volm, .int voto, .int vofr, .int vokd, .int vonu, .int vosg, .int vofa, .int vopl, .long vowd, .int votd, .ref vmn, .ref vmr, .ref vmk, .ref vms, .ref vma, .ref vmm, .ref vmrn, .ref vmkn, .ref vmik, .ref vmon, .int vosm, .int vohp, .ref vmw, .ref vmf, .ref vmb, .int vomb, .ref vmd, .ref vmc, .int vocm, .int voct, .int vocy, .ref vmx, .int votx, .int vose, .ref vml, .ref vmwr, .int voln, .int vohw, .ref vmno, .int vond, .int voon, .int vowi, .int votop])), (vmx, .inl (cy 0, 64, .inl vmxf))] sz) := by
  refine mw (Qc := Qv (dC, dI) vwCl (fun (u : Int32 × (Nat → Int32)) => (0 ≤ (u.1 : Int32).toInt ∧ (u.1 : Int32).toInt ≤ 64) ∧ ((u.1 : Int32).toInt ≤ (votx : Int32).toInt + 6) ∧ ((votx : Int32).toInt ≤ (u.1 : Int32).toInt)) (O_m_writeNumber_6 cy vo voth vmt votp vosz volm voto vofr vokd vonu vosg vofa vopl vowd votd vmn vmr vmk vms vma vmm vmrn vmkn vmik vmon vosm vohp vmw vmf vmb vomb vmd vmc vocm voct vocy vmx votx vose vml vmwr voln vohw vmno vond voon vowi votop vmxf vn)) RX11 rfl (by decide +kernel) (Nat.le_of_ble_eq_true rfl) ?_
  intro p e s m below meth c A hx hb hr hlocks av9 hav hts hown hnm hml hK hP hD hA hS hE hAe Q9 hQ9 ls hl
  have hl : lv_has ls 2 [(0, .ref vo), (1, .int vn)] := hl
  refine lv_iload_n hx hb dX11_writeNumber_0 rfl (lv_at hl 1 rfl) ?_
  refine lv_bipush (v := 9) hx hb dX11_writeNumber_1 (by decide) ?_
  have k_9 : (9 : Int32).toInt = 9 := by decide
  refine lv_icmp_le (tgt := 14) hx hb dX11_writeNumber_3 (by decide) (fun c_1 => ?_) (fun c_1 => ?_)
  · skip
    have c_1 : vn.toInt ≤ (9 : Int32).toInt := i_le.mp c_1
    refine lv_aload_n hx hb dX11_writeNumber_14 rfl (lv_at hl 0 rfl) ?_
    refine lv_bipush (v := 48) hx hb dX11_writeNumber_15 (by decide) ?_
    refine lv_iload_n hx hb dX11_writeNumber_17 rfl (lv_at hl 1 rfl) ?_
    refine lv_bipush (v := 10) hx hb dX11_writeNumber_18 (by decide) ?_
    have k_10 : (10 : Int32).toInt = 10 := by decide
    have k_0 : (0 : Int32).toInt = 0 := by decide
    refine lv_irem hx hb dX11_writeNumber_20 (fun h9 => absurd (i_eq.mp h9) (by omega)) ?_
    refine lv_topi (fun z_2 ez_2 => ?_)
    refine lv_iadd hx hb dX11_writeNumber_21 ?_
    refine lv_topi (fun z_3 ez_3 => ?_)
    refine jn_v (wr := []) (rV (As := [.int z_3]) (rest := []) (ci := 12) ⟨hx, hb, hml, hown, hts⟩ (m_write l dC dI cy _ vo voth vmt votp vosz volm voto vofr vokd vonu vosg vofa vopl vowd votd vmn vmr vmk vms vma vmm vmrn vmkn vmik vmon vosm vohp vmw vmf vmb vomb vmd vmc vocm voct vocy vmx votx vose vml vmwr voln vohw vmno vond voon vowi votop vmxf z_3 ⟨by omega, by omega⟩) (cw_X11_342 hts rfl rfl ⟨Nat.le_of_ble_eq_true rfl, Nat.le_of_ble_eq_true rfl⟩) hP hD hK [0, 1] rfl rfl rfl rfl bl0 e0 rfl hl.1 rfl (Nat.le_of_ble_eq_true rfl) dX11_writeNumber_22 ⟨Nat.le_of_ble_eq_true rfl, Nat.le_of_ble_eq_true rfl⟩) hP hD hS hA [0, 1] [] rfl rfl rfl (by decide) (fun u_6 H locs hp_5 hP hD hS => ?_)
    obtain ⟨votx_7, vmxf_8⟩ := u_6
    have hp_5 : (0 ≤ (votx_7 : Int32).toInt ∧ (votx_7 : Int32).toInt ≤ 64) ∧ ((votx_7 : Int32).toInt = (votx : Int32).toInt + 1) := hp_5
    obtain ⟨q_9, q_10⟩ := hp_5
    have hP : va_P (dC, dI) vwCl [(vo, .inr (12, [.int voth, .ref vmt, .int votp, .int vosz, .int volm, .int voto, .int vofr, .int vokd, .int vonu, .int vosg, .int vofa, .int vopl, .long vowd, .int votd, .ref vmn, .ref vmr, .ref vmk, .ref vms, .ref vma, .ref vmm, .ref vmrn, .ref vmkn, .ref vmik, .ref vmon, .int vosm, .int vohp, .ref vmw, .ref vmf, .ref vmb, .int vomb, .ref vmd, .ref vmc, .int vocm, .int voct, .int vocy, .ref vmx, .int votx_7, .int vose, .ref vml, .ref vmwr, .int voln, .int vohw, .ref vmno, .int vond, .int voon, .int vowi, .int votop])), (vmx, .inl (cy 0, 64, .inl vmxf_8))] H := hP
    have hD : va_D A [(vo, .inr (12, [.int voth, .ref vmt, .int votp, .int vosz, .int volm, .int voto, .int vofr, .int vokd, .int vonu, .int vosg, .int vofa, .int vopl, .long vowd, .int votd, .ref vmn, .ref vmr, .ref vmk, .ref vms, .ref vma, .ref vmm, .ref vmrn, .ref vmkn, .ref vmik, .ref vmon, .int vosm, .int vohp, .ref vmw, .ref vmf, .ref vmb, .int vomb, .ref vmd, .ref vmc, .int vocm, .int voct, .int vocy, .ref vmx, .int votx_7, .int vose, .ref vml, .ref vmwr, .int voln, .int vohw, .ref vmno, .int vond, .int voon, .int vowi, .int votop])), (vmx, .inl (cy 0, 64, .inl vmxf_8))] := hD
    rw [hQ9]
    exact re_v (votx_7, vmxf_8) hx hb hr hlocks ⟨(show 0 ≤ (votx_7 : Int32).toInt ∧ (votx_7 : Int32).toInt ≤ 64 from ⟨by omega, by omega⟩), (show (votx_7 : Int32).toInt ≤ (votx : Int32).toInt + 6 from (by omega)), (show (votx : Int32).toInt ≤ (votx_7 : Int32).toInt from (by omega))⟩ (hP.sub [0, 1] rfl) (hD.sub [0, 1] rfl rfl) hS dX11_writeNumber_25
  · skip
    have c_1 : ¬ (vn.toInt ≤ (9 : Int32).toInt) := fun h9 => c_1 (i_le.mpr h9)
    refine lv_aload_n hx hb dX11_writeNumber_6 rfl (lv_at hl 0 rfl) ?_
    refine lv_iload_n hx hb dX11_writeNumber_7 rfl (lv_at hl 1 rfl) ?_
    refine lv_bipush (v := 10) hx hb dX11_writeNumber_8 (by decide) ?_
    refine lv_idiv hx hb dX11_writeNumber_10 (by decide) ?_
    refine lv_topi (fun z_11 ez_11 => ?_)
    have bz_11 : 0 ≤ z_11.toInt ∧ z_11.toInt * 10 ≤ vn.toInt := i_div10 ez_11 (by omega)
    refine jn_v (wr := []) (rV (As := [.int z_11]) (rest := []) (ci := 12) ⟨hx, hb, hml, hown, hts⟩ (m_writeNumber_5 l dC dI cy _ vo voth vmt votp vosz volm voto vofr vokd vonu vosg vofa vopl vowd votd vmn vmr vmk vms vma vmm vmrn vmkn vmik vmon vosm vohp vmw vmf vmb vomb vmd vmc vocm voct vocy vmx votx vose vml vmwr voln vohw vmno vond voon vowi votop vmxf z_11 ⟨by omega, by omega⟩ (by omega)) (cw_X11_345 hts rfl rfl ⟨Nat.le_of_ble_eq_true rfl, Nat.le_of_ble_eq_true rfl⟩) hP hD hK [0, 1] rfl rfl rfl rfl bl0 e0 rfl hl.1 rfl (Nat.le_of_ble_eq_true rfl) dX11_writeNumber_11 ⟨Nat.le_of_ble_eq_true rfl, Nat.le_of_ble_eq_true rfl⟩) hP hD hS hA [0, 1] [] rfl rfl rfl (by decide) (fun u_14 H locs hp_13 hP hD hS => ?_)
    obtain ⟨votx_15, vmxf_16⟩ := u_14
    have hp_13 : (0 ≤ (votx_15 : Int32).toInt ∧ (votx_15 : Int32).toInt ≤ 64) ∧ ((votx_15 : Int32).toInt ≤ (votx : Int32).toInt + 5) ∧ ((votx : Int32).toInt ≤ (votx_15 : Int32).toInt) := hp_13
    obtain ⟨q_17, q_18, q_19⟩ := hp_13
    have hP : va_P (dC, dI) vwCl [(vo, .inr (12, [.int voth, .ref vmt, .int votp, .int vosz, .int volm, .int voto, .int vofr, .int vokd, .int vonu, .int vosg, .int vofa, .int vopl, .long vowd, .int votd, .ref vmn, .ref vmr, .ref vmk, .ref vms, .ref vma, .ref vmm, .ref vmrn, .ref vmkn, .ref vmik, .ref vmon, .int vosm, .int vohp, .ref vmw, .ref vmf, .ref vmb, .int vomb, .ref vmd, .ref vmc, .int vocm, .int voct, .int vocy, .ref vmx, .int votx_15, .int vose, .ref vml, .ref vmwr, .int voln, .int vohw, .ref vmno, .int vond, .int voon, .int vowi, .int votop])), (vmx, .inl (cy 0, 64, .inl vmxf_16))] H := hP
    have hD : va_D A [(vo, .inr (12, [.int voth, .ref vmt, .int votp, .int vosz, .int volm, .int voto, .int vofr, .int vokd, .int vonu, .int vosg, .int vofa, .int vopl, .long vowd, .int votd, .ref vmn, .ref vmr, .ref vmk, .ref vms, .ref vma, .ref vmm, .ref vmrn, .ref vmkn, .ref vmik, .ref vmon, .int vosm, .int vohp, .ref vmw, .ref vmf, .ref vmb, .int vomb, .ref vmd, .ref vmc, .int vocm, .int voct, .int vocy, .ref vmx, .int votx_15, .int vose, .ref vml, .ref vmwr, .int voln, .int vohw, .ref vmno, .int vond, .int voon, .int vowi, .int votop])), (vmx, .inl (cy 0, 64, .inl vmxf_16))] := hD
    refine lv_aload_n hx hb dX11_writeNumber_14 rfl (lv_at hl 0 rfl) ?_
    refine lv_bipush (v := 48) hx hb dX11_writeNumber_15 (by decide) ?_
    refine lv_iload_n hx hb dX11_writeNumber_17 rfl (lv_at hl 1 rfl) ?_
    refine lv_bipush (v := 10) hx hb dX11_writeNumber_18 (by decide) ?_
    have k_10 : (10 : Int32).toInt = 10 := by decide
    have k_0 : (0 : Int32).toInt = 0 := by decide
    refine lv_irem hx hb dX11_writeNumber_20 (fun h9 => absurd (i_eq.mp h9) (by omega)) ?_
    refine lv_topi (fun z_20 ez_20 => ?_)
    have bz_20 : 0 ≤ z_20.toInt ∧ z_20.toInt < (10 : Int32).toInt := i_rem ez_20 (by omega) (by omega)
    refine lv_iadd hx hb dX11_writeNumber_21 ?_
    refine lv_topi (fun z_21 ez_21 => ?_)
    have k_48 : (48 : Int32).toInt = 48 := by decide
    have bz_21 : z_21.toInt = (48 : Int32).toInt + z_20.toInt := i_add ez_21 (by omega) (by omega)
    refine jn_v (wr := []) (rV (As := [.int z_21]) (rest := []) (ci := 12) ⟨hx, hb, hml, hown, hts⟩ (m_write l dC dI cy _ vo voth vmt votp vosz volm voto vofr vokd vonu vosg vofa vopl vowd votd vmn vmr vmk vms vma vmm vmrn vmkn vmik vmon vosm vohp vmw vmf vmb vomb vmd vmc vocm voct vocy vmx votx_15 vose vml vmwr voln vohw vmno vond voon vowi votop vmxf_16 z_21 ⟨by omega, by omega⟩) (cw_X11_342 hts rfl rfl ⟨Nat.le_of_ble_eq_true rfl, Nat.le_of_ble_eq_true rfl⟩) hP hD hK [0, 1] rfl rfl rfl rfl bl0 e0 rfl hl.1 rfl (Nat.le_of_ble_eq_true rfl) dX11_writeNumber_22 ⟨Nat.le_of_ble_eq_true rfl, Nat.le_of_ble_eq_true rfl⟩) hP hD hS hA [0, 1] [] rfl rfl rfl (by decide) (fun u_24 H locs hp_23 hP hD hS => ?_)
    obtain ⟨votx_25, vmxf_26⟩ := u_24
    have hp_23 : (0 ≤ (votx_25 : Int32).toInt ∧ (votx_25 : Int32).toInt ≤ 64) ∧ ((votx_25 : Int32).toInt = (votx_15 : Int32).toInt + 1) := hp_23
    obtain ⟨q_27, q_28⟩ := hp_23
    have hP : va_P (dC, dI) vwCl [(vo, .inr (12, [.int voth, .ref vmt, .int votp, .int vosz, .int volm, .int voto, .int vofr, .int vokd, .int vonu, .int vosg, .int vofa, .int vopl, .long vowd, .int votd, .ref vmn, .ref vmr, .ref vmk, .ref vms, .ref vma, .ref vmm, .ref vmrn, .ref vmkn, .ref vmik, .ref vmon, .int vosm, .int vohp, .ref vmw, .ref vmf, .ref vmb, .int vomb, .ref vmd, .ref vmc, .int vocm, .int voct, .int vocy, .ref vmx, .int votx_25, .int vose, .ref vml, .ref vmwr, .int voln, .int vohw, .ref vmno, .int vond, .int voon, .int vowi, .int votop])), (vmx, .inl (cy 0, 64, .inl vmxf_26))] H := hP
    have hD : va_D A [(vo, .inr (12, [.int voth, .ref vmt, .int votp, .int vosz, .int volm, .int voto, .int vofr, .int vokd, .int vonu, .int vosg, .int vofa, .int vopl, .long vowd, .int votd, .ref vmn, .ref vmr, .ref vmk, .ref vms, .ref vma, .ref vmm, .ref vmrn, .ref vmkn, .ref vmik, .ref vmon, .int vosm, .int vohp, .ref vmw, .ref vmf, .ref vmb, .int vomb, .ref vmd, .ref vmc, .int vocm, .int voct, .int vocy, .ref vmx, .int votx_25, .int vose, .ref vml, .ref vmwr, .int voln, .int vohw, .ref vmno, .int vond, .int voon, .int vowi, .int votop])), (vmx, .inl (cy 0, 64, .inl vmxf_26))] := hD
    rw [hQ9]
    exact re_v (votx_25, vmxf_26) hx hb hr hlocks ⟨(show 0 ≤ (votx_25 : Int32).toInt ∧ (votx_25 : Int32).toInt ≤ 64 from ⟨by omega, by omega⟩), (show (votx_25 : Int32).toInt ≤ (votx : Int32).toInt + 6 from (by omega)), (show (votx : Int32).toInt ≤ (votx_25 : Int32).toInt from (by omega))⟩ (hP.sub [0, 1] rfl) (hD.sub [0, 1] rfl rfl) hS dX11_writeNumber_25
abbrev O_m_writeNumber_7 (cy : Nat → ClassId) (vo : Nat) (voth : Int32) (vmt : Nat) (votp : Int32) (vosz : Int32) (volm : Int32) (voto : Int32) (vofr : Int32) (vokd : Int32) (vonu : Int32) (vosg : Int32) (vofa : Int32) (vopl : Int32) (vowd : Int64) (votd : Int32) (vmn : Nat) (vmr : Nat) (vmk : Nat) (vms : Nat) (vma : Nat) (vmm : Nat) (vmrn : Nat) (vmkn : Nat) (vmik : Nat) (vmon : Nat) (vosm : Int32) (vohp : Int32) (vmw : Nat) (vmf : Nat) (vmb : Nat) (vomb : Int32) (vmd : Nat) (vmc : Nat) (vocm : Int32) (voct : Int32) (vocy : Int32) (vmx : Nat) (votx : Int32) (vose : Int32) (vml : Nat) (vmwr : Nat) (voln : Int32) (vohw : Int32) (vmno : Nat) (vond : Int32) (voon : Int32) (vowi : Int32) (votop : Int32) (vmxf : Nat → Int32) (vn : Int32) (u : Int32 × (Nat → Int32)) : va_W := [(vo, .inr (12, [.int voth, .ref vmt, .int votp, .int vosz, .int volm, .int voto, .int vofr, .int vokd, .int vonu, .int vosg, .int vofa, .int vopl, .long vowd, .int votd, .ref vmn, .ref vmr, .ref vmk, .ref vms, .ref vma, .ref vmm, .ref vmrn, .ref vmkn, .ref vmik, .ref vmon, .int vosm, .int vohp, .ref vmw, .ref vmf, .ref vmb, .int vomb, .ref vmd, .ref vmc, .int vocm, .int voct, .int vocy, .ref vmx, .int u.1, .int vose, .ref vml, .ref vmwr, .int voln, .int vohw, .ref vmno, .int vond, .int voon, .int vowi, .int votop])), (vmx, .inl (cy 0, 64, .inl u.2))]
set_option maxHeartbeats 4000000 in
set_option maxRecDepth 100000 in
theorem m_writeNumber_7 (l : Launch) (dC : Nat → ClassId) (dI : Nat → Nat → Nat) (cy : Nat → ClassId) (sz : Nat) (vo : Nat) (voth : Int32) (vmt : Nat) (votp : Int32) (vosz : Int32) (volm : Int32) (voto : Int32) (vofr : Int32) (vokd : Int32) (vonu : Int32) (vosg : Int32) (vofa : Int32) (vopl : Int32) (vowd : Int64) (votd : Int32) (vmn : Nat) (vmr : Nat) (vmk : Nat) (vms : Nat) (vma : Nat) (vmm : Nat) (vmrn : Nat) (vmkn : Nat) (vmik : Nat) (vmon : Nat) (vosm : Int32) (vohp : Int32) (vmw : Nat) (vmf : Nat) (vmb : Nat) (vomb : Int32) (vmd : Nat) (vmc : Nat) (vocm : Int32) (voct : Int32) (vocy : Int32) (vmx : Nat) (votx : Int32) (vose : Int32) (vml : Nat) (vmwr : Nat) (voln : Int32) (vohw : Int32) (vmno : Nat) (vond : Int32) (voon : Int32) (vowi : Int32) (votop : Int32) (vmxf : Nat → Int32) (vn : Int32) (r_votx : 0 ≤ (votx : Int32).toInt ∧ (votx : Int32).toInt ≤ 57) (hw : (vn : Int32).toInt < 10000000) : Met l yX11_writeNumber (wl yX11_writeNumber cX11_writeNumber 2 none) ({ frames := 7, cells := 0, slots := 0, locals := 448 }) (Pw (dC, dI) vwCl cy [(vo, .inr (12, [.int voth, .ref vmt, .int votp, .int vosz, .int volm, .int voto, .int vofr, .int vokd, .int vonu, .int vosg, .int vofa, .int vopl, .long vowd, .int votd, .ref vmn, .ref vmr, .ref vmk, .ref vms, .ref vma, .ref vmm, .ref vmrn, .ref vmkn, .ref vmik, .ref vmon, .int vosm, .int vohp, .ref vmw, .ref vmf, .ref vmb, .int vomb, .ref vmd, .ref vmc, .int vocm, .int voct, .int vocy, .ref vmx, .int votx, .int vose, .ref vml, .ref vmwr, .int voln, .int vohw, .ref vmno, .int vond, .int voon, .int vowi, .int votop])), (vmx, .inl (cy 0, 64, .inl vmxf))] sz [.ref vo, .int vn] nE) (Qv (dC, dI) vwCl (fun (u : Int32 × (Nat → Int32)) => (0 ≤ (u.1 : Int32).toInt ∧ (u.1 : Int32).toInt ≤ 64) ∧ ((u.1 : Int32).toInt ≤ (votx : Int32).toInt + 7) ∧ ((votx : Int32).toInt ≤ (u.1 : Int32).toInt)) (O_m_writeNumber_7 cy vo voth vmt votp vosz volm voto vofr vokd vonu vosg vofa vopl vowd votd vmn vmr vmk vms vma vmm vmrn vmkn vmik vmon vosm vohp vmw vmf vmb vomb vmd vmc vocm voct vocy vmx votx vose vml vmwr voln vohw vmno vond voon vowi votop vmxf vn) (va_A [(vo, .inr (12, [.int voth, .ref vmt, .int votp, .int vosz, .int volm, .int voto, .int vofr, .int vokd, .int vonu, .int vosg, .int vofa, .int vopl, .long vowd, .int votd, .ref vmn, .ref vmr, .ref vmk, .ref vms, .ref vma, .ref vmm, .ref vmrn, .ref vmkn, .ref vmik, .ref vmon, .int vosm, .int vohp, .ref vmw, .ref vmf, .ref vmb, .int vomb, .ref vmd, .ref vmc, .int vocm, .int voct, .int vocy, .ref vmx, .int votx, .int vose, .ref vml, .ref vmwr, .int voln, .int vohw, .ref vmno, .int vond, .int voon, .int vowi, .int votop])), (vmx, .inl (cy 0, 64, .inl vmxf))] sz)) 0 0 (va_A [(vo, .inr (12, [.int voth, .ref vmt, .int votp, .int vosz, .int volm, .int voto, .int vofr, .int vokd, .int vonu, .int vosg, .int vofa, .int vopl, .long vowd, .int votd, .ref vmn, .ref vmr, .ref vmk, .ref vms, .ref vma, .ref vmm, .ref vmrn, .ref vmkn, .ref vmik, .ref vmon, .int vosm, .int vohp, .ref vmw, .ref vmf, .ref vmb, .int vomb, .ref vmd, .ref vmc, .int vocm, .int voct, .int vocy, .ref vmx, .int votx, .int vose, .ref vml, .ref vmwr, .int voln, .int vohw, .ref vmno, .int vond, .int voon, .int vowi, .int votop])), (vmx, .inl (cy 0, 64, .inl vmxf))] sz) := by
  refine mw (Qc := Qv (dC, dI) vwCl (fun (u : Int32 × (Nat → Int32)) => (0 ≤ (u.1 : Int32).toInt ∧ (u.1 : Int32).toInt ≤ 64) ∧ ((u.1 : Int32).toInt ≤ (votx : Int32).toInt + 7) ∧ ((votx : Int32).toInt ≤ (u.1 : Int32).toInt)) (O_m_writeNumber_7 cy vo voth vmt votp vosz volm voto vofr vokd vonu vosg vofa vopl vowd votd vmn vmr vmk vms vma vmm vmrn vmkn vmik vmon vosm vohp vmw vmf vmb vomb vmd vmc vocm voct vocy vmx votx vose vml vmwr voln vohw vmno vond voon vowi votop vmxf vn)) RX11 rfl (by decide +kernel) (Nat.le_of_ble_eq_true rfl) ?_
  intro p e s m below meth c A hx hb hr hlocks av9 hav hts hown hnm hml hK hP hD hA hS hE hAe Q9 hQ9 ls hl
  have hl : lv_has ls 2 [(0, .ref vo), (1, .int vn)] := hl
  refine lv_iload_n hx hb dX11_writeNumber_0 rfl (lv_at hl 1 rfl) ?_
  refine lv_bipush (v := 9) hx hb dX11_writeNumber_1 (by decide) ?_
  have k_9 : (9 : Int32).toInt = 9 := by decide
  refine lv_icmp_le (tgt := 14) hx hb dX11_writeNumber_3 (by decide) (fun c_1 => ?_) (fun c_1 => ?_)
  · skip
    have c_1 : vn.toInt ≤ (9 : Int32).toInt := i_le.mp c_1
    refine lv_aload_n hx hb dX11_writeNumber_14 rfl (lv_at hl 0 rfl) ?_
    refine lv_bipush (v := 48) hx hb dX11_writeNumber_15 (by decide) ?_
    refine lv_iload_n hx hb dX11_writeNumber_17 rfl (lv_at hl 1 rfl) ?_
    refine lv_bipush (v := 10) hx hb dX11_writeNumber_18 (by decide) ?_
    have k_10 : (10 : Int32).toInt = 10 := by decide
    have k_0 : (0 : Int32).toInt = 0 := by decide
    refine lv_irem hx hb dX11_writeNumber_20 (fun h9 => absurd (i_eq.mp h9) (by omega)) ?_
    refine lv_topi (fun z_2 ez_2 => ?_)
    refine lv_iadd hx hb dX11_writeNumber_21 ?_
    refine lv_topi (fun z_3 ez_3 => ?_)
    refine jn_v (wr := []) (rV (As := [.int z_3]) (rest := []) (ci := 12) ⟨hx, hb, hml, hown, hts⟩ (m_write l dC dI cy _ vo voth vmt votp vosz volm voto vofr vokd vonu vosg vofa vopl vowd votd vmn vmr vmk vms vma vmm vmrn vmkn vmik vmon vosm vohp vmw vmf vmb vomb vmd vmc vocm voct vocy vmx votx vose vml vmwr voln vohw vmno vond voon vowi votop vmxf z_3 ⟨by omega, by omega⟩) (cw_X11_342 hts rfl rfl ⟨Nat.le_of_ble_eq_true rfl, Nat.le_of_ble_eq_true rfl⟩) hP hD hK [0, 1] rfl rfl rfl rfl bl0 e0 rfl hl.1 rfl (Nat.le_of_ble_eq_true rfl) dX11_writeNumber_22 ⟨Nat.le_of_ble_eq_true rfl, Nat.le_of_ble_eq_true rfl⟩) hP hD hS hA [0, 1] [] rfl rfl rfl (by decide) (fun u_6 H locs hp_5 hP hD hS => ?_)
    obtain ⟨votx_7, vmxf_8⟩ := u_6
    have hp_5 : (0 ≤ (votx_7 : Int32).toInt ∧ (votx_7 : Int32).toInt ≤ 64) ∧ ((votx_7 : Int32).toInt = (votx : Int32).toInt + 1) := hp_5
    obtain ⟨q_9, q_10⟩ := hp_5
    have hP : va_P (dC, dI) vwCl [(vo, .inr (12, [.int voth, .ref vmt, .int votp, .int vosz, .int volm, .int voto, .int vofr, .int vokd, .int vonu, .int vosg, .int vofa, .int vopl, .long vowd, .int votd, .ref vmn, .ref vmr, .ref vmk, .ref vms, .ref vma, .ref vmm, .ref vmrn, .ref vmkn, .ref vmik, .ref vmon, .int vosm, .int vohp, .ref vmw, .ref vmf, .ref vmb, .int vomb, .ref vmd, .ref vmc, .int vocm, .int voct, .int vocy, .ref vmx, .int votx_7, .int vose, .ref vml, .ref vmwr, .int voln, .int vohw, .ref vmno, .int vond, .int voon, .int vowi, .int votop])), (vmx, .inl (cy 0, 64, .inl vmxf_8))] H := hP
    have hD : va_D A [(vo, .inr (12, [.int voth, .ref vmt, .int votp, .int vosz, .int volm, .int voto, .int vofr, .int vokd, .int vonu, .int vosg, .int vofa, .int vopl, .long vowd, .int votd, .ref vmn, .ref vmr, .ref vmk, .ref vms, .ref vma, .ref vmm, .ref vmrn, .ref vmkn, .ref vmik, .ref vmon, .int vosm, .int vohp, .ref vmw, .ref vmf, .ref vmb, .int vomb, .ref vmd, .ref vmc, .int vocm, .int voct, .int vocy, .ref vmx, .int votx_7, .int vose, .ref vml, .ref vmwr, .int voln, .int vohw, .ref vmno, .int vond, .int voon, .int vowi, .int votop])), (vmx, .inl (cy 0, 64, .inl vmxf_8))] := hD
    rw [hQ9]
    exact re_v (votx_7, vmxf_8) hx hb hr hlocks ⟨(show 0 ≤ (votx_7 : Int32).toInt ∧ (votx_7 : Int32).toInt ≤ 64 from ⟨by omega, by omega⟩), (show (votx_7 : Int32).toInt ≤ (votx : Int32).toInt + 7 from (by omega)), (show (votx : Int32).toInt ≤ (votx_7 : Int32).toInt from (by omega))⟩ (hP.sub [0, 1] rfl) (hD.sub [0, 1] rfl rfl) hS dX11_writeNumber_25
  · skip
    have c_1 : ¬ (vn.toInt ≤ (9 : Int32).toInt) := fun h9 => c_1 (i_le.mpr h9)
    refine lv_aload_n hx hb dX11_writeNumber_6 rfl (lv_at hl 0 rfl) ?_
    refine lv_iload_n hx hb dX11_writeNumber_7 rfl (lv_at hl 1 rfl) ?_
    refine lv_bipush (v := 10) hx hb dX11_writeNumber_8 (by decide) ?_
    refine lv_idiv hx hb dX11_writeNumber_10 (by decide) ?_
    refine lv_topi (fun z_11 ez_11 => ?_)
    have bz_11 : 0 ≤ z_11.toInt ∧ z_11.toInt * 10 ≤ vn.toInt := i_div10 ez_11 (by omega)
    refine jn_v (wr := []) (rV (As := [.int z_11]) (rest := []) (ci := 12) ⟨hx, hb, hml, hown, hts⟩ (m_writeNumber_6 l dC dI cy _ vo voth vmt votp vosz volm voto vofr vokd vonu vosg vofa vopl vowd votd vmn vmr vmk vms vma vmm vmrn vmkn vmik vmon vosm vohp vmw vmf vmb vomb vmd vmc vocm voct vocy vmx votx vose vml vmwr voln vohw vmno vond voon vowi votop vmxf z_11 ⟨by omega, by omega⟩ (by omega)) (cw_X11_345 hts rfl rfl ⟨Nat.le_of_ble_eq_true rfl, Nat.le_of_ble_eq_true rfl⟩) hP hD hK [0, 1] rfl rfl rfl rfl bl0 e0 rfl hl.1 rfl (Nat.le_of_ble_eq_true rfl) dX11_writeNumber_11 ⟨Nat.le_of_ble_eq_true rfl, Nat.le_of_ble_eq_true rfl⟩) hP hD hS hA [0, 1] [] rfl rfl rfl (by decide) (fun u_14 H locs hp_13 hP hD hS => ?_)
    obtain ⟨votx_15, vmxf_16⟩ := u_14
    have hp_13 : (0 ≤ (votx_15 : Int32).toInt ∧ (votx_15 : Int32).toInt ≤ 64) ∧ ((votx_15 : Int32).toInt ≤ (votx : Int32).toInt + 6) ∧ ((votx : Int32).toInt ≤ (votx_15 : Int32).toInt) := hp_13
    obtain ⟨q_17, q_18, q_19⟩ := hp_13
    have hP : va_P (dC, dI) vwCl [(vo, .inr (12, [.int voth, .ref vmt, .int votp, .int vosz, .int volm, .int voto, .int vofr, .int vokd, .int vonu, .int vosg, .int vofa, .int vopl, .long vowd, .int votd, .ref vmn, .ref vmr, .ref vmk, .ref vms, .ref vma, .ref vmm, .ref vmrn, .ref vmkn, .ref vmik, .ref vmon, .int vosm, .int vohp, .ref vmw, .ref vmf, .ref vmb, .int vomb, .ref vmd, .ref vmc, .int vocm, .int voct, .int vocy, .ref vmx, .int votx_15, .int vose, .ref vml, .ref vmwr, .int voln, .int vohw, .ref vmno, .int vond, .int voon, .int vowi, .int votop])), (vmx, .inl (cy 0, 64, .inl vmxf_16))] H := hP
    have hD : va_D A [(vo, .inr (12, [.int voth, .ref vmt, .int votp, .int vosz, .int volm, .int voto, .int vofr, .int vokd, .int vonu, .int vosg, .int vofa, .int vopl, .long vowd, .int votd, .ref vmn, .ref vmr, .ref vmk, .ref vms, .ref vma, .ref vmm, .ref vmrn, .ref vmkn, .ref vmik, .ref vmon, .int vosm, .int vohp, .ref vmw, .ref vmf, .ref vmb, .int vomb, .ref vmd, .ref vmc, .int vocm, .int voct, .int vocy, .ref vmx, .int votx_15, .int vose, .ref vml, .ref vmwr, .int voln, .int vohw, .ref vmno, .int vond, .int voon, .int vowi, .int votop])), (vmx, .inl (cy 0, 64, .inl vmxf_16))] := hD
    refine lv_aload_n hx hb dX11_writeNumber_14 rfl (lv_at hl 0 rfl) ?_
    refine lv_bipush (v := 48) hx hb dX11_writeNumber_15 (by decide) ?_
    refine lv_iload_n hx hb dX11_writeNumber_17 rfl (lv_at hl 1 rfl) ?_
    refine lv_bipush (v := 10) hx hb dX11_writeNumber_18 (by decide) ?_
    have k_10 : (10 : Int32).toInt = 10 := by decide
    have k_0 : (0 : Int32).toInt = 0 := by decide
    refine lv_irem hx hb dX11_writeNumber_20 (fun h9 => absurd (i_eq.mp h9) (by omega)) ?_
    refine lv_topi (fun z_20 ez_20 => ?_)
    have bz_20 : 0 ≤ z_20.toInt ∧ z_20.toInt < (10 : Int32).toInt := i_rem ez_20 (by omega) (by omega)
    refine lv_iadd hx hb dX11_writeNumber_21 ?_
    refine lv_topi (fun z_21 ez_21 => ?_)
    have k_48 : (48 : Int32).toInt = 48 := by decide
    have bz_21 : z_21.toInt = (48 : Int32).toInt + z_20.toInt := i_add ez_21 (by omega) (by omega)
    refine jn_v (wr := []) (rV (As := [.int z_21]) (rest := []) (ci := 12) ⟨hx, hb, hml, hown, hts⟩ (m_write l dC dI cy _ vo voth vmt votp vosz volm voto vofr vokd vonu vosg vofa vopl vowd votd vmn vmr vmk vms vma vmm vmrn vmkn vmik vmon vosm vohp vmw vmf vmb vomb vmd vmc vocm voct vocy vmx votx_15 vose vml vmwr voln vohw vmno vond voon vowi votop vmxf_16 z_21 ⟨by omega, by omega⟩) (cw_X11_342 hts rfl rfl ⟨Nat.le_of_ble_eq_true rfl, Nat.le_of_ble_eq_true rfl⟩) hP hD hK [0, 1] rfl rfl rfl rfl bl0 e0 rfl hl.1 rfl (Nat.le_of_ble_eq_true rfl) dX11_writeNumber_22 ⟨Nat.le_of_ble_eq_true rfl, Nat.le_of_ble_eq_true rfl⟩) hP hD hS hA [0, 1] [] rfl rfl rfl (by decide) (fun u_24 H locs hp_23 hP hD hS => ?_)
    obtain ⟨votx_25, vmxf_26⟩ := u_24
    have hp_23 : (0 ≤ (votx_25 : Int32).toInt ∧ (votx_25 : Int32).toInt ≤ 64) ∧ ((votx_25 : Int32).toInt = (votx_15 : Int32).toInt + 1) := hp_23
    obtain ⟨q_27, q_28⟩ := hp_23
    have hP : va_P (dC, dI) vwCl [(vo, .inr (12, [.int voth, .ref vmt, .int votp, .int vosz, .int volm, .int voto, .int vofr, .int vokd, .int vonu, .int vosg, .int vofa, .int vopl, .long vowd, .int votd, .ref vmn, .ref vmr, .ref vmk, .ref vms, .ref vma, .ref vmm, .ref vmrn, .ref vmkn, .ref vmik, .ref vmon, .int vosm, .int vohp, .ref vmw, .ref vmf, .ref vmb, .int vomb, .ref vmd, .ref vmc, .int vocm, .int voct, .int vocy, .ref vmx, .int votx_25, .int vose, .ref vml, .ref vmwr, .int voln, .int vohw, .ref vmno, .int vond, .int voon, .int vowi, .int votop])), (vmx, .inl (cy 0, 64, .inl vmxf_26))] H := hP
    have hD : va_D A [(vo, .inr (12, [.int voth, .ref vmt, .int votp, .int vosz, .int volm, .int voto, .int vofr, .int vokd, .int vonu, .int vosg, .int vofa, .int vopl, .long vowd, .int votd, .ref vmn, .ref vmr, .ref vmk, .ref vms, .ref vma, .ref vmm, .ref vmrn, .ref vmkn, .ref vmik, .ref vmon, .int vosm, .int vohp, .ref vmw, .ref vmf, .ref vmb, .int vomb, .ref vmd, .ref vmc, .int vocm, .int voct, .int vocy, .ref vmx, .int votx_25, .int vose, .ref vml, .ref vmwr, .int voln, .int vohw, .ref vmno, .int vond, .int voon, .int vowi, .int votop])), (vmx, .inl (cy 0, 64, .inl vmxf_26))] := hD
    rw [hQ9]
    exact re_v (votx_25, vmxf_26) hx hb hr hlocks ⟨(show 0 ≤ (votx_25 : Int32).toInt ∧ (votx_25 : Int32).toInt ≤ 64 from ⟨by omega, by omega⟩), (show (votx_25 : Int32).toInt ≤ (votx : Int32).toInt + 7 from (by omega)), (show (votx : Int32).toInt ≤ (votx_25 : Int32).toInt from (by omega))⟩ (hP.sub [0, 1] rfl) (hD.sub [0, 1] rfl rfl) hS dX11_writeNumber_25
abbrev O_m_writeNumber_8 (cy : Nat → ClassId) (vo : Nat) (voth : Int32) (vmt : Nat) (votp : Int32) (vosz : Int32) (volm : Int32) (voto : Int32) (vofr : Int32) (vokd : Int32) (vonu : Int32) (vosg : Int32) (vofa : Int32) (vopl : Int32) (vowd : Int64) (votd : Int32) (vmn : Nat) (vmr : Nat) (vmk : Nat) (vms : Nat) (vma : Nat) (vmm : Nat) (vmrn : Nat) (vmkn : Nat) (vmik : Nat) (vmon : Nat) (vosm : Int32) (vohp : Int32) (vmw : Nat) (vmf : Nat) (vmb : Nat) (vomb : Int32) (vmd : Nat) (vmc : Nat) (vocm : Int32) (voct : Int32) (vocy : Int32) (vmx : Nat) (votx : Int32) (vose : Int32) (vml : Nat) (vmwr : Nat) (voln : Int32) (vohw : Int32) (vmno : Nat) (vond : Int32) (voon : Int32) (vowi : Int32) (votop : Int32) (vmxf : Nat → Int32) (vn : Int32) (u : Int32 × (Nat → Int32)) : va_W := [(vo, .inr (12, [.int voth, .ref vmt, .int votp, .int vosz, .int volm, .int voto, .int vofr, .int vokd, .int vonu, .int vosg, .int vofa, .int vopl, .long vowd, .int votd, .ref vmn, .ref vmr, .ref vmk, .ref vms, .ref vma, .ref vmm, .ref vmrn, .ref vmkn, .ref vmik, .ref vmon, .int vosm, .int vohp, .ref vmw, .ref vmf, .ref vmb, .int vomb, .ref vmd, .ref vmc, .int vocm, .int voct, .int vocy, .ref vmx, .int u.1, .int vose, .ref vml, .ref vmwr, .int voln, .int vohw, .ref vmno, .int vond, .int voon, .int vowi, .int votop])), (vmx, .inl (cy 0, 64, .inl u.2))]
set_option maxHeartbeats 4000000 in
set_option maxRecDepth 100000 in
theorem m_writeNumber_8 (l : Launch) (dC : Nat → ClassId) (dI : Nat → Nat → Nat) (cy : Nat → ClassId) (sz : Nat) (vo : Nat) (voth : Int32) (vmt : Nat) (votp : Int32) (vosz : Int32) (volm : Int32) (voto : Int32) (vofr : Int32) (vokd : Int32) (vonu : Int32) (vosg : Int32) (vofa : Int32) (vopl : Int32) (vowd : Int64) (votd : Int32) (vmn : Nat) (vmr : Nat) (vmk : Nat) (vms : Nat) (vma : Nat) (vmm : Nat) (vmrn : Nat) (vmkn : Nat) (vmik : Nat) (vmon : Nat) (vosm : Int32) (vohp : Int32) (vmw : Nat) (vmf : Nat) (vmb : Nat) (vomb : Int32) (vmd : Nat) (vmc : Nat) (vocm : Int32) (voct : Int32) (vocy : Int32) (vmx : Nat) (votx : Int32) (vose : Int32) (vml : Nat) (vmwr : Nat) (voln : Int32) (vohw : Int32) (vmno : Nat) (vond : Int32) (voon : Int32) (vowi : Int32) (votop : Int32) (vmxf : Nat → Int32) (vn : Int32) (r_votx : 0 ≤ (votx : Int32).toInt ∧ (votx : Int32).toInt ≤ 56) (hw : (vn : Int32).toInt < 100000000) : Met l yX11_writeNumber (wl yX11_writeNumber cX11_writeNumber 2 none) ({ frames := 8, cells := 0, slots := 0, locals := 512 }) (Pw (dC, dI) vwCl cy [(vo, .inr (12, [.int voth, .ref vmt, .int votp, .int vosz, .int volm, .int voto, .int vofr, .int vokd, .int vonu, .int vosg, .int vofa, .int vopl, .long vowd, .int votd, .ref vmn, .ref vmr, .ref vmk, .ref vms, .ref vma, .ref vmm, .ref vmrn, .ref vmkn, .ref vmik, .ref vmon, .int vosm, .int vohp, .ref vmw, .ref vmf, .ref vmb, .int vomb, .ref vmd, .ref vmc, .int vocm, .int voct, .int vocy, .ref vmx, .int votx, .int vose, .ref vml, .ref vmwr, .int voln, .int vohw, .ref vmno, .int vond, .int voon, .int vowi, .int votop])), (vmx, .inl (cy 0, 64, .inl vmxf))] sz [.ref vo, .int vn] nE) (Qv (dC, dI) vwCl (fun (u : Int32 × (Nat → Int32)) => (0 ≤ (u.1 : Int32).toInt ∧ (u.1 : Int32).toInt ≤ 64) ∧ ((u.1 : Int32).toInt ≤ (votx : Int32).toInt + 8) ∧ ((votx : Int32).toInt ≤ (u.1 : Int32).toInt)) (O_m_writeNumber_8 cy vo voth vmt votp vosz volm voto vofr vokd vonu vosg vofa vopl vowd votd vmn vmr vmk vms vma vmm vmrn vmkn vmik vmon vosm vohp vmw vmf vmb vomb vmd vmc vocm voct vocy vmx votx vose vml vmwr voln vohw vmno vond voon vowi votop vmxf vn) (va_A [(vo, .inr (12, [.int voth, .ref vmt, .int votp, .int vosz, .int volm, .int voto, .int vofr, .int vokd, .int vonu, .int vosg, .int vofa, .int vopl, .long vowd, .int votd, .ref vmn, .ref vmr, .ref vmk, .ref vms, .ref vma, .ref vmm, .ref vmrn, .ref vmkn, .ref vmik, .ref vmon, .int vosm, .int vohp, .ref vmw, .ref vmf, .ref vmb, .int vomb, .ref vmd, .ref vmc, .int vocm, .int voct, .int vocy, .ref vmx, .int votx, .int vose, .ref vml, .ref vmwr, .int voln, .int vohw, .ref vmno, .int vond, .int voon, .int vowi, .int votop])), (vmx, .inl (cy 0, 64, .inl vmxf))] sz)) 0 0 (va_A [(vo, .inr (12, [.int voth, .ref vmt, .int votp, .int vosz, .int volm, .int voto, .int vofr, .int vokd, .int vonu, .int vosg, .int vofa, .int vopl, .long vowd, .int votd, .ref vmn, .ref vmr, .ref vmk, .ref vms, .ref vma, .ref vmm, .ref vmrn, .ref vmkn, .ref vmik, .ref vmon, .int vosm, .int vohp, .ref vmw, .ref vmf, .ref vmb, .int vomb, .ref vmd, .ref vmc, .int vocm, .int voct, .int vocy, .ref vmx, .int votx, .int vose, .ref vml, .ref vmwr, .int voln, .int vohw, .ref vmno, .int vond, .int voon, .int vowi, .int votop])), (vmx, .inl (cy 0, 64, .inl vmxf))] sz) := by
  refine mw (Qc := Qv (dC, dI) vwCl (fun (u : Int32 × (Nat → Int32)) => (0 ≤ (u.1 : Int32).toInt ∧ (u.1 : Int32).toInt ≤ 64) ∧ ((u.1 : Int32).toInt ≤ (votx : Int32).toInt + 8) ∧ ((votx : Int32).toInt ≤ (u.1 : Int32).toInt)) (O_m_writeNumber_8 cy vo voth vmt votp vosz volm voto vofr vokd vonu vosg vofa vopl vowd votd vmn vmr vmk vms vma vmm vmrn vmkn vmik vmon vosm vohp vmw vmf vmb vomb vmd vmc vocm voct vocy vmx votx vose vml vmwr voln vohw vmno vond voon vowi votop vmxf vn)) RX11 rfl (by decide +kernel) (Nat.le_of_ble_eq_true rfl) ?_
  intro p e s m below meth c A hx hb hr hlocks av9 hav hts hown hnm hml hK hP hD hA hS hE hAe Q9 hQ9 ls hl
  have hl : lv_has ls 2 [(0, .ref vo), (1, .int vn)] := hl
  refine lv_iload_n hx hb dX11_writeNumber_0 rfl (lv_at hl 1 rfl) ?_
  refine lv_bipush (v := 9) hx hb dX11_writeNumber_1 (by decide) ?_
  have k_9 : (9 : Int32).toInt = 9 := by decide
  refine lv_icmp_le (tgt := 14) hx hb dX11_writeNumber_3 (by decide) (fun c_1 => ?_) (fun c_1 => ?_)
  · skip
    have c_1 : vn.toInt ≤ (9 : Int32).toInt := i_le.mp c_1
    refine lv_aload_n hx hb dX11_writeNumber_14 rfl (lv_at hl 0 rfl) ?_
    refine lv_bipush (v := 48) hx hb dX11_writeNumber_15 (by decide) ?_
    refine lv_iload_n hx hb dX11_writeNumber_17 rfl (lv_at hl 1 rfl) ?_
    refine lv_bipush (v := 10) hx hb dX11_writeNumber_18 (by decide) ?_
    have k_10 : (10 : Int32).toInt = 10 := by decide
    have k_0 : (0 : Int32).toInt = 0 := by decide
    refine lv_irem hx hb dX11_writeNumber_20 (fun h9 => absurd (i_eq.mp h9) (by omega)) ?_
    refine lv_topi (fun z_2 ez_2 => ?_)
    refine lv_iadd hx hb dX11_writeNumber_21 ?_
    refine lv_topi (fun z_3 ez_3 => ?_)
    refine jn_v (wr := []) (rV (As := [.int z_3]) (rest := []) (ci := 12) ⟨hx, hb, hml, hown, hts⟩ (m_write l dC dI cy _ vo voth vmt votp vosz volm voto vofr vokd vonu vosg vofa vopl vowd votd vmn vmr vmk vms vma vmm vmrn vmkn vmik vmon vosm vohp vmw vmf vmb vomb vmd vmc vocm voct vocy vmx votx vose vml vmwr voln vohw vmno vond voon vowi votop vmxf z_3 ⟨by omega, by omega⟩) (cw_X11_342 hts rfl rfl ⟨Nat.le_of_ble_eq_true rfl, Nat.le_of_ble_eq_true rfl⟩) hP hD hK [0, 1] rfl rfl rfl rfl bl0 e0 rfl hl.1 rfl (Nat.le_of_ble_eq_true rfl) dX11_writeNumber_22 ⟨Nat.le_of_ble_eq_true rfl, Nat.le_of_ble_eq_true rfl⟩) hP hD hS hA [0, 1] [] rfl rfl rfl (by decide) (fun u_6 H locs hp_5 hP hD hS => ?_)
    obtain ⟨votx_7, vmxf_8⟩ := u_6
    have hp_5 : (0 ≤ (votx_7 : Int32).toInt ∧ (votx_7 : Int32).toInt ≤ 64) ∧ ((votx_7 : Int32).toInt = (votx : Int32).toInt + 1) := hp_5
    obtain ⟨q_9, q_10⟩ := hp_5
    have hP : va_P (dC, dI) vwCl [(vo, .inr (12, [.int voth, .ref vmt, .int votp, .int vosz, .int volm, .int voto, .int vofr, .int vokd, .int vonu, .int vosg, .int vofa, .int vopl, .long vowd, .int votd, .ref vmn, .ref vmr, .ref vmk, .ref vms, .ref vma, .ref vmm, .ref vmrn, .ref vmkn, .ref vmik, .ref vmon, .int vosm, .int vohp, .ref vmw, .ref vmf, .ref vmb, .int vomb, .ref vmd, .ref vmc, .int vocm, .int voct, .int vocy, .ref vmx, .int votx_7, .int vose, .ref vml, .ref vmwr, .int voln, .int vohw, .ref vmno, .int vond, .int voon, .int vowi, .int votop])), (vmx, .inl (cy 0, 64, .inl vmxf_8))] H := hP
    have hD : va_D A [(vo, .inr (12, [.int voth, .ref vmt, .int votp, .int vosz, .int volm, .int voto, .int vofr, .int vokd, .int vonu, .int vosg, .int vofa, .int vopl, .long vowd, .int votd, .ref vmn, .ref vmr, .ref vmk, .ref vms, .ref vma, .ref vmm, .ref vmrn, .ref vmkn, .ref vmik, .ref vmon, .int vosm, .int vohp, .ref vmw, .ref vmf, .ref vmb, .int vomb, .ref vmd, .ref vmc, .int vocm, .int voct, .int vocy, .ref vmx, .int votx_7, .int vose, .ref vml, .ref vmwr, .int voln, .int vohw, .ref vmno, .int vond, .int voon, .int vowi, .int votop])), (vmx, .inl (cy 0, 64, .inl vmxf_8))] := hD
    rw [hQ9]
    exact re_v (votx_7, vmxf_8) hx hb hr hlocks ⟨(show 0 ≤ (votx_7 : Int32).toInt ∧ (votx_7 : Int32).toInt ≤ 64 from ⟨by omega, by omega⟩), (show (votx_7 : Int32).toInt ≤ (votx : Int32).toInt + 8 from (by omega)), (show (votx : Int32).toInt ≤ (votx_7 : Int32).toInt from (by omega))⟩ (hP.sub [0, 1] rfl) (hD.sub [0, 1] rfl rfl) hS dX11_writeNumber_25
  · skip
    have c_1 : ¬ (vn.toInt ≤ (9 : Int32).toInt) := fun h9 => c_1 (i_le.mpr h9)
    refine lv_aload_n hx hb dX11_writeNumber_6 rfl (lv_at hl 0 rfl) ?_
    refine lv_iload_n hx hb dX11_writeNumber_7 rfl (lv_at hl 1 rfl) ?_
    refine lv_bipush (v := 10) hx hb dX11_writeNumber_8 (by decide) ?_
    refine lv_idiv hx hb dX11_writeNumber_10 (by decide) ?_
    refine lv_topi (fun z_11 ez_11 => ?_)
    have bz_11 : 0 ≤ z_11.toInt ∧ z_11.toInt * 10 ≤ vn.toInt := i_div10 ez_11 (by omega)
    refine jn_v (wr := []) (rV (As := [.int z_11]) (rest := []) (ci := 12) ⟨hx, hb, hml, hown, hts⟩ (m_writeNumber_7 l dC dI cy _ vo voth vmt votp vosz volm voto vofr vokd vonu vosg vofa vopl vowd votd vmn vmr vmk vms vma vmm vmrn vmkn vmik vmon vosm vohp vmw vmf vmb vomb vmd vmc vocm voct vocy vmx votx vose vml vmwr voln vohw vmno vond voon vowi votop vmxf z_11 ⟨by omega, by omega⟩ (by omega)) (cw_X11_345 hts rfl rfl ⟨Nat.le_of_ble_eq_true rfl, Nat.le_of_ble_eq_true rfl⟩) hP hD hK [0, 1] rfl rfl rfl rfl bl0 e0 rfl hl.1 rfl (Nat.le_of_ble_eq_true rfl) dX11_writeNumber_11 ⟨Nat.le_of_ble_eq_true rfl, Nat.le_of_ble_eq_true rfl⟩) hP hD hS hA [0, 1] [] rfl rfl rfl (by decide) (fun u_14 H locs hp_13 hP hD hS => ?_)
    obtain ⟨votx_15, vmxf_16⟩ := u_14
    have hp_13 : (0 ≤ (votx_15 : Int32).toInt ∧ (votx_15 : Int32).toInt ≤ 64) ∧ ((votx_15 : Int32).toInt ≤ (votx : Int32).toInt + 7) ∧ ((votx : Int32).toInt ≤ (votx_15 : Int32).toInt) := hp_13
    obtain ⟨q_17, q_18, q_19⟩ := hp_13
    have hP : va_P (dC, dI) vwCl [(vo, .inr (12, [.int voth, .ref vmt, .int votp, .int vosz, .int volm, .int voto, .int vofr, .int vokd, .int vonu, .int vosg, .int vofa, .int vopl, .long vowd, .int votd, .ref vmn, .ref vmr, .ref vmk, .ref vms, .ref vma, .ref vmm, .ref vmrn, .ref vmkn, .ref vmik, .ref vmon, .int vosm, .int vohp, .ref vmw, .ref vmf, .ref vmb, .int vomb, .ref vmd, .ref vmc, .int vocm, .int voct, .int vocy, .ref vmx, .int votx_15, .int vose, .ref vml, .ref vmwr, .int voln, .int vohw, .ref vmno, .int vond, .int voon, .int vowi, .int votop])), (vmx, .inl (cy 0, 64, .inl vmxf_16))] H := hP
    have hD : va_D A [(vo, .inr (12, [.int voth, .ref vmt, .int votp, .int vosz, .int volm, .int voto, .int vofr, .int vokd, .int vonu, .int vosg, .int vofa, .int vopl, .long vowd, .int votd, .ref vmn, .ref vmr, .ref vmk, .ref vms, .ref vma, .ref vmm, .ref vmrn, .ref vmkn, .ref vmik, .ref vmon, .int vosm, .int vohp, .ref vmw, .ref vmf, .ref vmb, .int vomb, .ref vmd, .ref vmc, .int vocm, .int voct, .int vocy, .ref vmx, .int votx_15, .int vose, .ref vml, .ref vmwr, .int voln, .int vohw, .ref vmno, .int vond, .int voon, .int vowi, .int votop])), (vmx, .inl (cy 0, 64, .inl vmxf_16))] := hD
    refine lv_aload_n hx hb dX11_writeNumber_14 rfl (lv_at hl 0 rfl) ?_
    refine lv_bipush (v := 48) hx hb dX11_writeNumber_15 (by decide) ?_
    refine lv_iload_n hx hb dX11_writeNumber_17 rfl (lv_at hl 1 rfl) ?_
    refine lv_bipush (v := 10) hx hb dX11_writeNumber_18 (by decide) ?_
    have k_10 : (10 : Int32).toInt = 10 := by decide
    have k_0 : (0 : Int32).toInt = 0 := by decide
    refine lv_irem hx hb dX11_writeNumber_20 (fun h9 => absurd (i_eq.mp h9) (by omega)) ?_
    refine lv_topi (fun z_20 ez_20 => ?_)
    have bz_20 : 0 ≤ z_20.toInt ∧ z_20.toInt < (10 : Int32).toInt := i_rem ez_20 (by omega) (by omega)
    refine lv_iadd hx hb dX11_writeNumber_21 ?_
    refine lv_topi (fun z_21 ez_21 => ?_)
    have k_48 : (48 : Int32).toInt = 48 := by decide
    have bz_21 : z_21.toInt = (48 : Int32).toInt + z_20.toInt := i_add ez_21 (by omega) (by omega)
    refine jn_v (wr := []) (rV (As := [.int z_21]) (rest := []) (ci := 12) ⟨hx, hb, hml, hown, hts⟩ (m_write l dC dI cy _ vo voth vmt votp vosz volm voto vofr vokd vonu vosg vofa vopl vowd votd vmn vmr vmk vms vma vmm vmrn vmkn vmik vmon vosm vohp vmw vmf vmb vomb vmd vmc vocm voct vocy vmx votx_15 vose vml vmwr voln vohw vmno vond voon vowi votop vmxf_16 z_21 ⟨by omega, by omega⟩) (cw_X11_342 hts rfl rfl ⟨Nat.le_of_ble_eq_true rfl, Nat.le_of_ble_eq_true rfl⟩) hP hD hK [0, 1] rfl rfl rfl rfl bl0 e0 rfl hl.1 rfl (Nat.le_of_ble_eq_true rfl) dX11_writeNumber_22 ⟨Nat.le_of_ble_eq_true rfl, Nat.le_of_ble_eq_true rfl⟩) hP hD hS hA [0, 1] [] rfl rfl rfl (by decide) (fun u_24 H locs hp_23 hP hD hS => ?_)
    obtain ⟨votx_25, vmxf_26⟩ := u_24
    have hp_23 : (0 ≤ (votx_25 : Int32).toInt ∧ (votx_25 : Int32).toInt ≤ 64) ∧ ((votx_25 : Int32).toInt = (votx_15 : Int32).toInt + 1) := hp_23
    obtain ⟨q_27, q_28⟩ := hp_23
    have hP : va_P (dC, dI) vwCl [(vo, .inr (12, [.int voth, .ref vmt, .int votp, .int vosz, .int volm, .int voto, .int vofr, .int vokd, .int vonu, .int vosg, .int vofa, .int vopl, .long vowd, .int votd, .ref vmn, .ref vmr, .ref vmk, .ref vms, .ref vma, .ref vmm, .ref vmrn, .ref vmkn, .ref vmik, .ref vmon, .int vosm, .int vohp, .ref vmw, .ref vmf, .ref vmb, .int vomb, .ref vmd, .ref vmc, .int vocm, .int voct, .int vocy, .ref vmx, .int votx_25, .int vose, .ref vml, .ref vmwr, .int voln, .int vohw, .ref vmno, .int vond, .int voon, .int vowi, .int votop])), (vmx, .inl (cy 0, 64, .inl vmxf_26))] H := hP
    have hD : va_D A [(vo, .inr (12, [.int voth, .ref vmt, .int votp, .int vosz, .int volm, .int voto, .int vofr, .int vokd, .int vonu, .int vosg, .int vofa, .int vopl, .long vowd, .int votd, .ref vmn, .ref vmr, .ref vmk, .ref vms, .ref vma, .ref vmm, .ref vmrn, .ref vmkn, .ref vmik, .ref vmon, .int vosm, .int vohp, .ref vmw, .ref vmf, .ref vmb, .int vomb, .ref vmd, .ref vmc, .int vocm, .int voct, .int vocy, .ref vmx, .int votx_25, .int vose, .ref vml, .ref vmwr, .int voln, .int vohw, .ref vmno, .int vond, .int voon, .int vowi, .int votop])), (vmx, .inl (cy 0, 64, .inl vmxf_26))] := hD
    rw [hQ9]
    exact re_v (votx_25, vmxf_26) hx hb hr hlocks ⟨(show 0 ≤ (votx_25 : Int32).toInt ∧ (votx_25 : Int32).toInt ≤ 64 from ⟨by omega, by omega⟩), (show (votx_25 : Int32).toInt ≤ (votx : Int32).toInt + 8 from (by omega)), (show (votx : Int32).toInt ≤ (votx_25 : Int32).toInt from (by omega))⟩ (hP.sub [0, 1] rfl) (hD.sub [0, 1] rfl rfl) hS dX11_writeNumber_25
abbrev O_m_writeNumber_9 (cy : Nat → ClassId) (vo : Nat) (voth : Int32) (vmt : Nat) (votp : Int32) (vosz : Int32) (volm : Int32) (voto : Int32) (vofr : Int32) (vokd : Int32) (vonu : Int32) (vosg : Int32) (vofa : Int32) (vopl : Int32) (vowd : Int64) (votd : Int32) (vmn : Nat) (vmr : Nat) (vmk : Nat) (vms : Nat) (vma : Nat) (vmm : Nat) (vmrn : Nat) (vmkn : Nat) (vmik : Nat) (vmon : Nat) (vosm : Int32) (vohp : Int32) (vmw : Nat) (vmf : Nat) (vmb : Nat) (vomb : Int32) (vmd : Nat) (vmc : Nat) (vocm : Int32) (voct : Int32) (vocy : Int32) (vmx : Nat) (votx : Int32) (vose : Int32) (vml : Nat) (vmwr : Nat) (voln : Int32) (vohw : Int32) (vmno : Nat) (vond : Int32) (voon : Int32) (vowi : Int32) (votop : Int32) (vmxf : Nat → Int32) (vn : Int32) (u : Int32 × (Nat → Int32)) : va_W := [(vo, .inr (12, [.int voth, .ref vmt, .int votp, .int vosz, .int volm, .int voto, .int vofr, .int vokd, .int vonu, .int vosg, .int vofa, .int vopl, .long vowd, .int votd, .ref vmn, .ref vmr, .ref vmk, .ref vms, .ref vma, .ref vmm, .ref vmrn, .ref vmkn, .ref vmik, .ref vmon, .int vosm, .int vohp, .ref vmw, .ref vmf, .ref vmb, .int vomb, .ref vmd, .ref vmc, .int vocm, .int voct, .int vocy, .ref vmx, .int u.1, .int vose, .ref vml, .ref vmwr, .int voln, .int vohw, .ref vmno, .int vond, .int voon, .int vowi, .int votop])), (vmx, .inl (cy 0, 64, .inl u.2))]
set_option maxHeartbeats 4000000 in
set_option maxRecDepth 100000 in
theorem m_writeNumber_9 (l : Launch) (dC : Nat → ClassId) (dI : Nat → Nat → Nat) (cy : Nat → ClassId) (sz : Nat) (vo : Nat) (voth : Int32) (vmt : Nat) (votp : Int32) (vosz : Int32) (volm : Int32) (voto : Int32) (vofr : Int32) (vokd : Int32) (vonu : Int32) (vosg : Int32) (vofa : Int32) (vopl : Int32) (vowd : Int64) (votd : Int32) (vmn : Nat) (vmr : Nat) (vmk : Nat) (vms : Nat) (vma : Nat) (vmm : Nat) (vmrn : Nat) (vmkn : Nat) (vmik : Nat) (vmon : Nat) (vosm : Int32) (vohp : Int32) (vmw : Nat) (vmf : Nat) (vmb : Nat) (vomb : Int32) (vmd : Nat) (vmc : Nat) (vocm : Int32) (voct : Int32) (vocy : Int32) (vmx : Nat) (votx : Int32) (vose : Int32) (vml : Nat) (vmwr : Nat) (voln : Int32) (vohw : Int32) (vmno : Nat) (vond : Int32) (voon : Int32) (vowi : Int32) (votop : Int32) (vmxf : Nat → Int32) (vn : Int32) (r_votx : 0 ≤ (votx : Int32).toInt ∧ (votx : Int32).toInt ≤ 55) (hw : (vn : Int32).toInt < 1000000000) : Met l yX11_writeNumber (wl yX11_writeNumber cX11_writeNumber 2 none) ({ frames := 9, cells := 0, slots := 0, locals := 576 }) (Pw (dC, dI) vwCl cy [(vo, .inr (12, [.int voth, .ref vmt, .int votp, .int vosz, .int volm, .int voto, .int vofr, .int vokd, .int vonu, .int vosg, .int vofa, .int vopl, .long vowd, .int votd, .ref vmn, .ref vmr, .ref vmk, .ref vms, .ref vma, .ref vmm, .ref vmrn, .ref vmkn, .ref vmik, .ref vmon, .int vosm, .int vohp, .ref vmw, .ref vmf, .ref vmb, .int vomb, .ref vmd, .ref vmc, .int vocm, .int voct, .int vocy, .ref vmx, .int votx, .int vose, .ref vml, .ref vmwr, .int voln, .int vohw, .ref vmno, .int vond, .int voon, .int vowi, .int votop])), (vmx, .inl (cy 0, 64, .inl vmxf))] sz [.ref vo, .int vn] nE) (Qv (dC, dI) vwCl (fun (u : Int32 × (Nat → Int32)) => (0 ≤ (u.1 : Int32).toInt ∧ (u.1 : Int32).toInt ≤ 64) ∧ ((u.1 : Int32).toInt ≤ (votx : Int32).toInt + 9) ∧ ((votx : Int32).toInt ≤ (u.1 : Int32).toInt)) (O_m_writeNumber_9 cy vo voth vmt votp vosz volm voto vofr vokd vonu vosg vofa vopl vowd votd vmn vmr vmk vms vma vmm vmrn vmkn vmik vmon vosm vohp vmw vmf vmb vomb vmd vmc vocm voct vocy vmx votx vose vml vmwr voln vohw vmno vond voon vowi votop vmxf vn) (va_A [(vo, .inr (12, [.int voth, .ref vmt, .int votp, .int vosz, .int volm, .int voto, .int vofr, .int vokd, .int vonu, .int vosg, .int vofa, .int vopl, .long vowd, .int votd, .ref vmn, .ref vmr, .ref vmk, .ref vms, .ref vma, .ref vmm, .ref vmrn, .ref vmkn, .ref vmik, .ref vmon, .int vosm, .int vohp, .ref vmw, .ref vmf, .ref vmb, .int vomb, .ref vmd, .ref vmc, .int vocm, .int voct, .int vocy, .ref vmx, .int votx, .int vose, .ref vml, .ref vmwr, .int voln, .int vohw, .ref vmno, .int vond, .int voon, .int vowi, .int votop])), (vmx, .inl (cy 0, 64, .inl vmxf))] sz)) 0 0 (va_A [(vo, .inr (12, [.int voth, .ref vmt, .int votp, .int vosz, .int volm, .int voto, .int vofr, .int vokd, .int vonu, .int vosg, .int vofa, .int vopl, .long vowd, .int votd, .ref vmn, .ref vmr, .ref vmk, .ref vms, .ref vma, .ref vmm, .ref vmrn, .ref vmkn, .ref vmik, .ref vmon, .int vosm, .int vohp, .ref vmw, .ref vmf, .ref vmb, .int vomb, .ref vmd, .ref vmc, .int vocm, .int voct, .int vocy, .ref vmx, .int votx, .int vose, .ref vml, .ref vmwr, .int voln, .int vohw, .ref vmno, .int vond, .int voon, .int vowi, .int votop])), (vmx, .inl (cy 0, 64, .inl vmxf))] sz) := by
  refine mw (Qc := Qv (dC, dI) vwCl (fun (u : Int32 × (Nat → Int32)) => (0 ≤ (u.1 : Int32).toInt ∧ (u.1 : Int32).toInt ≤ 64) ∧ ((u.1 : Int32).toInt ≤ (votx : Int32).toInt + 9) ∧ ((votx : Int32).toInt ≤ (u.1 : Int32).toInt)) (O_m_writeNumber_9 cy vo voth vmt votp vosz volm voto vofr vokd vonu vosg vofa vopl vowd votd vmn vmr vmk vms vma vmm vmrn vmkn vmik vmon vosm vohp vmw vmf vmb vomb vmd vmc vocm voct vocy vmx votx vose vml vmwr voln vohw vmno vond voon vowi votop vmxf vn)) RX11 rfl (by decide +kernel) (Nat.le_of_ble_eq_true rfl) ?_
  intro p e s m below meth c A hx hb hr hlocks av9 hav hts hown hnm hml hK hP hD hA hS hE hAe Q9 hQ9 ls hl
  have hl : lv_has ls 2 [(0, .ref vo), (1, .int vn)] := hl
  refine lv_iload_n hx hb dX11_writeNumber_0 rfl (lv_at hl 1 rfl) ?_
  refine lv_bipush (v := 9) hx hb dX11_writeNumber_1 (by decide) ?_
  have k_9 : (9 : Int32).toInt = 9 := by decide
  refine lv_icmp_le (tgt := 14) hx hb dX11_writeNumber_3 (by decide) (fun c_1 => ?_) (fun c_1 => ?_)
  · skip
    have c_1 : vn.toInt ≤ (9 : Int32).toInt := i_le.mp c_1
    refine lv_aload_n hx hb dX11_writeNumber_14 rfl (lv_at hl 0 rfl) ?_
    refine lv_bipush (v := 48) hx hb dX11_writeNumber_15 (by decide) ?_
    refine lv_iload_n hx hb dX11_writeNumber_17 rfl (lv_at hl 1 rfl) ?_
    refine lv_bipush (v := 10) hx hb dX11_writeNumber_18 (by decide) ?_
    have k_10 : (10 : Int32).toInt = 10 := by decide
    have k_0 : (0 : Int32).toInt = 0 := by decide
    refine lv_irem hx hb dX11_writeNumber_20 (fun h9 => absurd (i_eq.mp h9) (by omega)) ?_
    refine lv_topi (fun z_2 ez_2 => ?_)
    refine lv_iadd hx hb dX11_writeNumber_21 ?_
    refine lv_topi (fun z_3 ez_3 => ?_)
    refine jn_v (wr := []) (rV (As := [.int z_3]) (rest := []) (ci := 12) ⟨hx, hb, hml, hown, hts⟩ (m_write l dC dI cy _ vo voth vmt votp vosz volm voto vofr vokd vonu vosg vofa vopl vowd votd vmn vmr vmk vms vma vmm vmrn vmkn vmik vmon vosm vohp vmw vmf vmb vomb vmd vmc vocm voct vocy vmx votx vose vml vmwr voln vohw vmno vond voon vowi votop vmxf z_3 ⟨by omega, by omega⟩) (cw_X11_342 hts rfl rfl ⟨Nat.le_of_ble_eq_true rfl, Nat.le_of_ble_eq_true rfl⟩) hP hD hK [0, 1] rfl rfl rfl rfl bl0 e0 rfl hl.1 rfl (Nat.le_of_ble_eq_true rfl) dX11_writeNumber_22 ⟨Nat.le_of_ble_eq_true rfl, Nat.le_of_ble_eq_true rfl⟩) hP hD hS hA [0, 1] [] rfl rfl rfl (by decide) (fun u_6 H locs hp_5 hP hD hS => ?_)
    obtain ⟨votx_7, vmxf_8⟩ := u_6
    have hp_5 : (0 ≤ (votx_7 : Int32).toInt ∧ (votx_7 : Int32).toInt ≤ 64) ∧ ((votx_7 : Int32).toInt = (votx : Int32).toInt + 1) := hp_5
    obtain ⟨q_9, q_10⟩ := hp_5
    have hP : va_P (dC, dI) vwCl [(vo, .inr (12, [.int voth, .ref vmt, .int votp, .int vosz, .int volm, .int voto, .int vofr, .int vokd, .int vonu, .int vosg, .int vofa, .int vopl, .long vowd, .int votd, .ref vmn, .ref vmr, .ref vmk, .ref vms, .ref vma, .ref vmm, .ref vmrn, .ref vmkn, .ref vmik, .ref vmon, .int vosm, .int vohp, .ref vmw, .ref vmf, .ref vmb, .int vomb, .ref vmd, .ref vmc, .int vocm, .int voct, .int vocy, .ref vmx, .int votx_7, .int vose, .ref vml, .ref vmwr, .int voln, .int vohw, .ref vmno, .int vond, .int voon, .int vowi, .int votop])), (vmx, .inl (cy 0, 64, .inl vmxf_8))] H := hP
    have hD : va_D A [(vo, .inr (12, [.int voth, .ref vmt, .int votp, .int vosz, .int volm, .int voto, .int vofr, .int vokd, .int vonu, .int vosg, .int vofa, .int vopl, .long vowd, .int votd, .ref vmn, .ref vmr, .ref vmk, .ref vms, .ref vma, .ref vmm, .ref vmrn, .ref vmkn, .ref vmik, .ref vmon, .int vosm, .int vohp, .ref vmw, .ref vmf, .ref vmb, .int vomb, .ref vmd, .ref vmc, .int vocm, .int voct, .int vocy, .ref vmx, .int votx_7, .int vose, .ref vml, .ref vmwr, .int voln, .int vohw, .ref vmno, .int vond, .int voon, .int vowi, .int votop])), (vmx, .inl (cy 0, 64, .inl vmxf_8))] := hD
    rw [hQ9]
    exact re_v (votx_7, vmxf_8) hx hb hr hlocks ⟨(show 0 ≤ (votx_7 : Int32).toInt ∧ (votx_7 : Int32).toInt ≤ 64 from ⟨by omega, by omega⟩), (show (votx_7 : Int32).toInt ≤ (votx : Int32).toInt + 9 from (by omega)), (show (votx : Int32).toInt ≤ (votx_7 : Int32).toInt from (by omega))⟩ (hP.sub [0, 1] rfl) (hD.sub [0, 1] rfl rfl) hS dX11_writeNumber_25
  · skip
    have c_1 : ¬ (vn.toInt ≤ (9 : Int32).toInt) := fun h9 => c_1 (i_le.mpr h9)
    refine lv_aload_n hx hb dX11_writeNumber_6 rfl (lv_at hl 0 rfl) ?_
    refine lv_iload_n hx hb dX11_writeNumber_7 rfl (lv_at hl 1 rfl) ?_
    refine lv_bipush (v := 10) hx hb dX11_writeNumber_8 (by decide) ?_
    refine lv_idiv hx hb dX11_writeNumber_10 (by decide) ?_
    refine lv_topi (fun z_11 ez_11 => ?_)
    have bz_11 : 0 ≤ z_11.toInt ∧ z_11.toInt * 10 ≤ vn.toInt := i_div10 ez_11 (by omega)
    refine jn_v (wr := []) (rV (As := [.int z_11]) (rest := []) (ci := 12) ⟨hx, hb, hml, hown, hts⟩ (m_writeNumber_8 l dC dI cy _ vo voth vmt votp vosz volm voto vofr vokd vonu vosg vofa vopl vowd votd vmn vmr vmk vms vma vmm vmrn vmkn vmik vmon vosm vohp vmw vmf vmb vomb vmd vmc vocm voct vocy vmx votx vose vml vmwr voln vohw vmno vond voon vowi votop vmxf z_11 ⟨by omega, by omega⟩ (by omega)) (cw_X11_345 hts rfl rfl ⟨Nat.le_of_ble_eq_true rfl, Nat.le_of_ble_eq_true rfl⟩) hP hD hK [0, 1] rfl rfl rfl rfl bl0 e0 rfl hl.1 rfl (Nat.le_of_ble_eq_true rfl) dX11_writeNumber_11 ⟨Nat.le_of_ble_eq_true rfl, Nat.le_of_ble_eq_true rfl⟩) hP hD hS hA [0, 1] [] rfl rfl rfl (by decide) (fun u_14 H locs hp_13 hP hD hS => ?_)
    obtain ⟨votx_15, vmxf_16⟩ := u_14
    have hp_13 : (0 ≤ (votx_15 : Int32).toInt ∧ (votx_15 : Int32).toInt ≤ 64) ∧ ((votx_15 : Int32).toInt ≤ (votx : Int32).toInt + 8) ∧ ((votx : Int32).toInt ≤ (votx_15 : Int32).toInt) := hp_13
    obtain ⟨q_17, q_18, q_19⟩ := hp_13
    have hP : va_P (dC, dI) vwCl [(vo, .inr (12, [.int voth, .ref vmt, .int votp, .int vosz, .int volm, .int voto, .int vofr, .int vokd, .int vonu, .int vosg, .int vofa, .int vopl, .long vowd, .int votd, .ref vmn, .ref vmr, .ref vmk, .ref vms, .ref vma, .ref vmm, .ref vmrn, .ref vmkn, .ref vmik, .ref vmon, .int vosm, .int vohp, .ref vmw, .ref vmf, .ref vmb, .int vomb, .ref vmd, .ref vmc, .int vocm, .int voct, .int vocy, .ref vmx, .int votx_15, .int vose, .ref vml, .ref vmwr, .int voln, .int vohw, .ref vmno, .int vond, .int voon, .int vowi, .int votop])), (vmx, .inl (cy 0, 64, .inl vmxf_16))] H := hP
    have hD : va_D A [(vo, .inr (12, [.int voth, .ref vmt, .int votp, .int vosz, .int volm, .int voto, .int vofr, .int vokd, .int vonu, .int vosg, .int vofa, .int vopl, .long vowd, .int votd, .ref vmn, .ref vmr, .ref vmk, .ref vms, .ref vma, .ref vmm, .ref vmrn, .ref vmkn, .ref vmik, .ref vmon, .int vosm, .int vohp, .ref vmw, .ref vmf, .ref vmb, .int vomb, .ref vmd, .ref vmc, .int vocm, .int voct, .int vocy, .ref vmx, .int votx_15, .int vose, .ref vml, .ref vmwr, .int voln, .int vohw, .ref vmno, .int vond, .int voon, .int vowi, .int votop])), (vmx, .inl (cy 0, 64, .inl vmxf_16))] := hD
    refine lv_aload_n hx hb dX11_writeNumber_14 rfl (lv_at hl 0 rfl) ?_
    refine lv_bipush (v := 48) hx hb dX11_writeNumber_15 (by decide) ?_
    refine lv_iload_n hx hb dX11_writeNumber_17 rfl (lv_at hl 1 rfl) ?_
    refine lv_bipush (v := 10) hx hb dX11_writeNumber_18 (by decide) ?_
    have k_10 : (10 : Int32).toInt = 10 := by decide
    have k_0 : (0 : Int32).toInt = 0 := by decide
    refine lv_irem hx hb dX11_writeNumber_20 (fun h9 => absurd (i_eq.mp h9) (by omega)) ?_
    refine lv_topi (fun z_20 ez_20 => ?_)
    have bz_20 : 0 ≤ z_20.toInt ∧ z_20.toInt < (10 : Int32).toInt := i_rem ez_20 (by omega) (by omega)
    refine lv_iadd hx hb dX11_writeNumber_21 ?_
    refine lv_topi (fun z_21 ez_21 => ?_)
    have k_48 : (48 : Int32).toInt = 48 := by decide
    have bz_21 : z_21.toInt = (48 : Int32).toInt + z_20.toInt := i_add ez_21 (by omega) (by omega)
    refine jn_v (wr := []) (rV (As := [.int z_21]) (rest := []) (ci := 12) ⟨hx, hb, hml, hown, hts⟩ (m_write l dC dI cy _ vo voth vmt votp vosz volm voto vofr vokd vonu vosg vofa vopl vowd votd vmn vmr vmk vms vma vmm vmrn vmkn vmik vmon vosm vohp vmw vmf vmb vomb vmd vmc vocm voct vocy vmx votx_15 vose vml vmwr voln vohw vmno vond voon vowi votop vmxf_16 z_21 ⟨by omega, by omega⟩) (cw_X11_342 hts rfl rfl ⟨Nat.le_of_ble_eq_true rfl, Nat.le_of_ble_eq_true rfl⟩) hP hD hK [0, 1] rfl rfl rfl rfl bl0 e0 rfl hl.1 rfl (Nat.le_of_ble_eq_true rfl) dX11_writeNumber_22 ⟨Nat.le_of_ble_eq_true rfl, Nat.le_of_ble_eq_true rfl⟩) hP hD hS hA [0, 1] [] rfl rfl rfl (by decide) (fun u_24 H locs hp_23 hP hD hS => ?_)
    obtain ⟨votx_25, vmxf_26⟩ := u_24
    have hp_23 : (0 ≤ (votx_25 : Int32).toInt ∧ (votx_25 : Int32).toInt ≤ 64) ∧ ((votx_25 : Int32).toInt = (votx_15 : Int32).toInt + 1) := hp_23
    obtain ⟨q_27, q_28⟩ := hp_23
    have hP : va_P (dC, dI) vwCl [(vo, .inr (12, [.int voth, .ref vmt, .int votp, .int vosz, .int volm, .int voto, .int vofr, .int vokd, .int vonu, .int vosg, .int vofa, .int vopl, .long vowd, .int votd, .ref vmn, .ref vmr, .ref vmk, .ref vms, .ref vma, .ref vmm, .ref vmrn, .ref vmkn, .ref vmik, .ref vmon, .int vosm, .int vohp, .ref vmw, .ref vmf, .ref vmb, .int vomb, .ref vmd, .ref vmc, .int vocm, .int voct, .int vocy, .ref vmx, .int votx_25, .int vose, .ref vml, .ref vmwr, .int voln, .int vohw, .ref vmno, .int vond, .int voon, .int vowi, .int votop])), (vmx, .inl (cy 0, 64, .inl vmxf_26))] H := hP
    have hD : va_D A [(vo, .inr (12, [.int voth, .ref vmt, .int votp, .int vosz, .int volm, .int voto, .int vofr, .int vokd, .int vonu, .int vosg, .int vofa, .int vopl, .long vowd, .int votd, .ref vmn, .ref vmr, .ref vmk, .ref vms, .ref vma, .ref vmm, .ref vmrn, .ref vmkn, .ref vmik, .ref vmon, .int vosm, .int vohp, .ref vmw, .ref vmf, .ref vmb, .int vomb, .ref vmd, .ref vmc, .int vocm, .int voct, .int vocy, .ref vmx, .int votx_25, .int vose, .ref vml, .ref vmwr, .int voln, .int vohw, .ref vmno, .int vond, .int voon, .int vowi, .int votop])), (vmx, .inl (cy 0, 64, .inl vmxf_26))] := hD
    rw [hQ9]
    exact re_v (votx_25, vmxf_26) hx hb hr hlocks ⟨(show 0 ≤ (votx_25 : Int32).toInt ∧ (votx_25 : Int32).toInt ≤ 64 from ⟨by omega, by omega⟩), (show (votx_25 : Int32).toInt ≤ (votx : Int32).toInt + 9 from (by omega)), (show (votx : Int32).toInt ≤ (votx_25 : Int32).toInt from (by omega))⟩ (hP.sub [0, 1] rfl) (hD.sub [0, 1] rfl rfl) hS dX11_writeNumber_25
abbrev O_m_writeNumber_10 (cy : Nat → ClassId) (vo : Nat) (voth : Int32) (vmt : Nat) (votp : Int32) (vosz : Int32) (volm : Int32) (voto : Int32) (vofr : Int32) (vokd : Int32) (vonu : Int32) (vosg : Int32) (vofa : Int32) (vopl : Int32) (vowd : Int64) (votd : Int32) (vmn : Nat) (vmr : Nat) (vmk : Nat) (vms : Nat) (vma : Nat) (vmm : Nat) (vmrn : Nat) (vmkn : Nat) (vmik : Nat) (vmon : Nat) (vosm : Int32) (vohp : Int32) (vmw : Nat) (vmf : Nat) (vmb : Nat) (vomb : Int32) (vmd : Nat) (vmc : Nat) (vocm : Int32) (voct : Int32) (vocy : Int32) (vmx : Nat) (votx : Int32) (vose : Int32) (vml : Nat) (vmwr : Nat) (voln : Int32) (vohw : Int32) (vmno : Nat) (vond : Int32) (voon : Int32) (vowi : Int32) (votop : Int32) (vmxf : Nat → Int32) (vn : Int32) (u : Int32 × (Nat → Int32)) : va_W := [(vo, .inr (12, [.int voth, .ref vmt, .int votp, .int vosz, .int volm, .int voto, .int vofr, .int vokd, .int vonu, .int vosg, .int vofa, .int vopl, .long vowd, .int votd, .ref vmn, .ref vmr, .ref vmk, .ref vms, .ref vma, .ref vmm, .ref vmrn, .ref vmkn, .ref vmik, .ref vmon, .int vosm, .int vohp, .ref vmw, .ref vmf, .ref vmb, .int vomb, .ref vmd, .ref vmc, .int vocm, .int voct, .int vocy, .ref vmx, .int u.1, .int vose, .ref vml, .ref vmwr, .int voln, .int vohw, .ref vmno, .int vond, .int voon, .int vowi, .int votop])), (vmx, .inl (cy 0, 64, .inl u.2))]
set_option maxHeartbeats 4000000 in
set_option maxRecDepth 100000 in
theorem m_writeNumber_10 (l : Launch) (dC : Nat → ClassId) (dI : Nat → Nat → Nat) (cy : Nat → ClassId) (sz : Nat) (vo : Nat) (voth : Int32) (vmt : Nat) (votp : Int32) (vosz : Int32) (volm : Int32) (voto : Int32) (vofr : Int32) (vokd : Int32) (vonu : Int32) (vosg : Int32) (vofa : Int32) (vopl : Int32) (vowd : Int64) (votd : Int32) (vmn : Nat) (vmr : Nat) (vmk : Nat) (vms : Nat) (vma : Nat) (vmm : Nat) (vmrn : Nat) (vmkn : Nat) (vmik : Nat) (vmon : Nat) (vosm : Int32) (vohp : Int32) (vmw : Nat) (vmf : Nat) (vmb : Nat) (vomb : Int32) (vmd : Nat) (vmc : Nat) (vocm : Int32) (voct : Int32) (vocy : Int32) (vmx : Nat) (votx : Int32) (vose : Int32) (vml : Nat) (vmwr : Nat) (voln : Int32) (vohw : Int32) (vmno : Nat) (vond : Int32) (voon : Int32) (vowi : Int32) (votop : Int32) (vmxf : Nat → Int32) (vn : Int32) (r_votx : 0 ≤ (votx : Int32).toInt ∧ (votx : Int32).toInt ≤ 54) (hw : (vn : Int32).toInt < 10000000000) : Met l yX11_writeNumber (wl yX11_writeNumber cX11_writeNumber 2 none) ({ frames := 10, cells := 0, slots := 0, locals := 640 }) (Pw (dC, dI) vwCl cy [(vo, .inr (12, [.int voth, .ref vmt, .int votp, .int vosz, .int volm, .int voto, .int vofr, .int vokd, .int vonu, .int vosg, .int vofa, .int vopl, .long vowd, .int votd, .ref vmn, .ref vmr, .ref vmk, .ref vms, .ref vma, .ref vmm, .ref vmrn, .ref vmkn, .ref vmik, .ref vmon, .int vosm, .int vohp, .ref vmw, .ref vmf, .ref vmb, .int vomb, .ref vmd, .ref vmc, .int vocm, .int voct, .int vocy, .ref vmx, .int votx, .int vose, .ref vml, .ref vmwr, .int voln, .int vohw, .ref vmno, .int vond, .int voon, .int vowi, .int votop])), (vmx, .inl (cy 0, 64, .inl vmxf))] sz [.ref vo, .int vn] nE) (Qv (dC, dI) vwCl (fun (u : Int32 × (Nat → Int32)) => (0 ≤ (u.1 : Int32).toInt ∧ (u.1 : Int32).toInt ≤ 64) ∧ ((u.1 : Int32).toInt ≤ (votx : Int32).toInt + 10) ∧ ((votx : Int32).toInt ≤ (u.1 : Int32).toInt)) (O_m_writeNumber_10 cy vo voth vmt votp vosz volm voto vofr vokd vonu vosg vofa vopl vowd votd vmn vmr vmk vms vma vmm vmrn vmkn vmik vmon vosm vohp vmw vmf vmb vomb vmd vmc vocm voct vocy vmx votx vose vml vmwr voln vohw vmno vond voon vowi votop vmxf vn) (va_A [(vo, .inr (12, [.int voth, .ref vmt, .int votp, .int vosz, .int volm, .int voto, .int vofr, .int vokd, .int vonu, .int vosg, .int vofa, .int vopl, .long vowd, .int votd, .ref vmn, .ref vmr, .ref vmk, .ref vms, .ref vma, .ref vmm, .ref vmrn, .ref vmkn, .ref vmik, .ref vmon, .int vosm, .int vohp, .ref vmw, .ref vmf, .ref vmb, .int vomb, .ref vmd, .ref vmc, .int vocm, .int voct, .int vocy, .ref vmx, .int votx, .int vose, .ref vml, .ref vmwr, .int voln, .int vohw, .ref vmno, .int vond, .int voon, .int vowi, .int votop])), (vmx, .inl (cy 0, 64, .inl vmxf))] sz)) 0 0 (va_A [(vo, .inr (12, [.int voth, .ref vmt, .int votp, .int vosz, .int volm, .int voto, .int vofr, .int vokd, .int vonu, .int vosg, .int vofa, .int vopl, .long vowd, .int votd, .ref vmn, .ref vmr, .ref vmk, .ref vms, .ref vma, .ref vmm, .ref vmrn, .ref vmkn, .ref vmik, .ref vmon, .int vosm, .int vohp, .ref vmw, .ref vmf, .ref vmb, .int vomb, .ref vmd, .ref vmc, .int vocm, .int voct, .int vocy, .ref vmx, .int votx, .int vose, .ref vml, .ref vmwr, .int voln, .int vohw, .ref vmno, .int vond, .int voon, .int vowi, .int votop])), (vmx, .inl (cy 0, 64, .inl vmxf))] sz) := by
  refine mw (Qc := Qv (dC, dI) vwCl (fun (u : Int32 × (Nat → Int32)) => (0 ≤ (u.1 : Int32).toInt ∧ (u.1 : Int32).toInt ≤ 64) ∧ ((u.1 : Int32).toInt ≤ (votx : Int32).toInt + 10) ∧ ((votx : Int32).toInt ≤ (u.1 : Int32).toInt)) (O_m_writeNumber_10 cy vo voth vmt votp vosz volm voto vofr vokd vonu vosg vofa vopl vowd votd vmn vmr vmk vms vma vmm vmrn vmkn vmik vmon vosm vohp vmw vmf vmb vomb vmd vmc vocm voct vocy vmx votx vose vml vmwr voln vohw vmno vond voon vowi votop vmxf vn)) RX11 rfl (by decide +kernel) (Nat.le_of_ble_eq_true rfl) ?_
  intro p e s m below meth c A hx hb hr hlocks av9 hav hts hown hnm hml hK hP hD hA hS hE hAe Q9 hQ9 ls hl
  have hl : lv_has ls 2 [(0, .ref vo), (1, .int vn)] := hl
  refine lv_iload_n hx hb dX11_writeNumber_0 rfl (lv_at hl 1 rfl) ?_
  refine lv_bipush (v := 9) hx hb dX11_writeNumber_1 (by decide) ?_
  have k_9 : (9 : Int32).toInt = 9 := by decide
  refine lv_icmp_le (tgt := 14) hx hb dX11_writeNumber_3 (by decide) (fun c_1 => ?_) (fun c_1 => ?_)
  · skip
    have c_1 : vn.toInt ≤ (9 : Int32).toInt := i_le.mp c_1
    refine lv_aload_n hx hb dX11_writeNumber_14 rfl (lv_at hl 0 rfl) ?_
    refine lv_bipush (v := 48) hx hb dX11_writeNumber_15 (by decide) ?_
    refine lv_iload_n hx hb dX11_writeNumber_17 rfl (lv_at hl 1 rfl) ?_
    refine lv_bipush (v := 10) hx hb dX11_writeNumber_18 (by decide) ?_
    have k_10 : (10 : Int32).toInt = 10 := by decide
    have k_0 : (0 : Int32).toInt = 0 := by decide
    refine lv_irem hx hb dX11_writeNumber_20 (fun h9 => absurd (i_eq.mp h9) (by omega)) ?_
    refine lv_topi (fun z_2 ez_2 => ?_)
    refine lv_iadd hx hb dX11_writeNumber_21 ?_
    refine lv_topi (fun z_3 ez_3 => ?_)
    refine jn_v (wr := []) (rV (As := [.int z_3]) (rest := []) (ci := 12) ⟨hx, hb, hml, hown, hts⟩ (m_write l dC dI cy _ vo voth vmt votp vosz volm voto vofr vokd vonu vosg vofa vopl vowd votd vmn vmr vmk vms vma vmm vmrn vmkn vmik vmon vosm vohp vmw vmf vmb vomb vmd vmc vocm voct vocy vmx votx vose vml vmwr voln vohw vmno vond voon vowi votop vmxf z_3 ⟨by omega, by omega⟩) (cw_X11_342 hts rfl rfl ⟨Nat.le_of_ble_eq_true rfl, Nat.le_of_ble_eq_true rfl⟩) hP hD hK [0, 1] rfl rfl rfl rfl bl0 e0 rfl hl.1 rfl (Nat.le_of_ble_eq_true rfl) dX11_writeNumber_22 ⟨Nat.le_of_ble_eq_true rfl, Nat.le_of_ble_eq_true rfl⟩) hP hD hS hA [0, 1] [] rfl rfl rfl (by decide) (fun u_6 H locs hp_5 hP hD hS => ?_)
    obtain ⟨votx_7, vmxf_8⟩ := u_6
    have hp_5 : (0 ≤ (votx_7 : Int32).toInt ∧ (votx_7 : Int32).toInt ≤ 64) ∧ ((votx_7 : Int32).toInt = (votx : Int32).toInt + 1) := hp_5
    obtain ⟨q_9, q_10⟩ := hp_5
    have hP : va_P (dC, dI) vwCl [(vo, .inr (12, [.int voth, .ref vmt, .int votp, .int vosz, .int volm, .int voto, .int vofr, .int vokd, .int vonu, .int vosg, .int vofa, .int vopl, .long vowd, .int votd, .ref vmn, .ref vmr, .ref vmk, .ref vms, .ref vma, .ref vmm, .ref vmrn, .ref vmkn, .ref vmik, .ref vmon, .int vosm, .int vohp, .ref vmw, .ref vmf, .ref vmb, .int vomb, .ref vmd, .ref vmc, .int vocm, .int voct, .int vocy, .ref vmx, .int votx_7, .int vose, .ref vml, .ref vmwr, .int voln, .int vohw, .ref vmno, .int vond, .int voon, .int vowi, .int votop])), (vmx, .inl (cy 0, 64, .inl vmxf_8))] H := hP
    have hD : va_D A [(vo, .inr (12, [.int voth, .ref vmt, .int votp, .int vosz, .int volm, .int voto, .int vofr, .int vokd, .int vonu, .int vosg, .int vofa, .int vopl, .long vowd, .int votd, .ref vmn, .ref vmr, .ref vmk, .ref vms, .ref vma, .ref vmm, .ref vmrn, .ref vmkn, .ref vmik, .ref vmon, .int vosm, .int vohp, .ref vmw, .ref vmf, .ref vmb, .int vomb, .ref vmd, .ref vmc, .int vocm, .int voct, .int vocy, .ref vmx, .int votx_7, .int vose, .ref vml, .ref vmwr, .int voln, .int vohw, .ref vmno, .int vond, .int voon, .int vowi, .int votop])), (vmx, .inl (cy 0, 64, .inl vmxf_8))] := hD
    rw [hQ9]
    exact re_v (votx_7, vmxf_8) hx hb hr hlocks ⟨(show 0 ≤ (votx_7 : Int32).toInt ∧ (votx_7 : Int32).toInt ≤ 64 from ⟨by omega, by omega⟩), (show (votx_7 : Int32).toInt ≤ (votx : Int32).toInt + 10 from (by omega)), (show (votx : Int32).toInt ≤ (votx_7 : Int32).toInt from (by omega))⟩ (hP.sub [0, 1] rfl) (hD.sub [0, 1] rfl rfl) hS dX11_writeNumber_25
  · skip
    have c_1 : ¬ (vn.toInt ≤ (9 : Int32).toInt) := fun h9 => c_1 (i_le.mpr h9)
    refine lv_aload_n hx hb dX11_writeNumber_6 rfl (lv_at hl 0 rfl) ?_
    refine lv_iload_n hx hb dX11_writeNumber_7 rfl (lv_at hl 1 rfl) ?_
    refine lv_bipush (v := 10) hx hb dX11_writeNumber_8 (by decide) ?_
    refine lv_idiv hx hb dX11_writeNumber_10 (by decide) ?_
    refine lv_topi (fun z_11 ez_11 => ?_)
    have bz_11 : 0 ≤ z_11.toInt ∧ z_11.toInt * 10 ≤ vn.toInt := i_div10 ez_11 (by omega)
    refine jn_v (wr := []) (rV (As := [.int z_11]) (rest := []) (ci := 12) ⟨hx, hb, hml, hown, hts⟩ (m_writeNumber_9 l dC dI cy _ vo voth vmt votp vosz volm voto vofr vokd vonu vosg vofa vopl vowd votd vmn vmr vmk vms vma vmm vmrn vmkn vmik vmon vosm vohp vmw vmf vmb vomb vmd vmc vocm voct vocy vmx votx vose vml vmwr voln vohw vmno vond voon vowi votop vmxf z_11 ⟨by omega, by omega⟩ (by omega)) (cw_X11_345 hts rfl rfl ⟨Nat.le_of_ble_eq_true rfl, Nat.le_of_ble_eq_true rfl⟩) hP hD hK [0, 1] rfl rfl rfl rfl bl0 e0 rfl hl.1 rfl (Nat.le_of_ble_eq_true rfl) dX11_writeNumber_11 ⟨Nat.le_of_ble_eq_true rfl, Nat.le_of_ble_eq_true rfl⟩) hP hD hS hA [0, 1] [] rfl rfl rfl (by decide) (fun u_14 H locs hp_13 hP hD hS => ?_)
    obtain ⟨votx_15, vmxf_16⟩ := u_14
    have hp_13 : (0 ≤ (votx_15 : Int32).toInt ∧ (votx_15 : Int32).toInt ≤ 64) ∧ ((votx_15 : Int32).toInt ≤ (votx : Int32).toInt + 9) ∧ ((votx : Int32).toInt ≤ (votx_15 : Int32).toInt) := hp_13
    obtain ⟨q_17, q_18, q_19⟩ := hp_13
    have hP : va_P (dC, dI) vwCl [(vo, .inr (12, [.int voth, .ref vmt, .int votp, .int vosz, .int volm, .int voto, .int vofr, .int vokd, .int vonu, .int vosg, .int vofa, .int vopl, .long vowd, .int votd, .ref vmn, .ref vmr, .ref vmk, .ref vms, .ref vma, .ref vmm, .ref vmrn, .ref vmkn, .ref vmik, .ref vmon, .int vosm, .int vohp, .ref vmw, .ref vmf, .ref vmb, .int vomb, .ref vmd, .ref vmc, .int vocm, .int voct, .int vocy, .ref vmx, .int votx_15, .int vose, .ref vml, .ref vmwr, .int voln, .int vohw, .ref vmno, .int vond, .int voon, .int vowi, .int votop])), (vmx, .inl (cy 0, 64, .inl vmxf_16))] H := hP
    have hD : va_D A [(vo, .inr (12, [.int voth, .ref vmt, .int votp, .int vosz, .int volm, .int voto, .int vofr, .int vokd, .int vonu, .int vosg, .int vofa, .int vopl, .long vowd, .int votd, .ref vmn, .ref vmr, .ref vmk, .ref vms, .ref vma, .ref vmm, .ref vmrn, .ref vmkn, .ref vmik, .ref vmon, .int vosm, .int vohp, .ref vmw, .ref vmf, .ref vmb, .int vomb, .ref vmd, .ref vmc, .int vocm, .int voct, .int vocy, .ref vmx, .int votx_15, .int vose, .ref vml, .ref vmwr, .int voln, .int vohw, .ref vmno, .int vond, .int voon, .int vowi, .int votop])), (vmx, .inl (cy 0, 64, .inl vmxf_16))] := hD
    refine lv_aload_n hx hb dX11_writeNumber_14 rfl (lv_at hl 0 rfl) ?_
    refine lv_bipush (v := 48) hx hb dX11_writeNumber_15 (by decide) ?_
    refine lv_iload_n hx hb dX11_writeNumber_17 rfl (lv_at hl 1 rfl) ?_
    refine lv_bipush (v := 10) hx hb dX11_writeNumber_18 (by decide) ?_
    have k_10 : (10 : Int32).toInt = 10 := by decide
    have k_0 : (0 : Int32).toInt = 0 := by decide
    refine lv_irem hx hb dX11_writeNumber_20 (fun h9 => absurd (i_eq.mp h9) (by omega)) ?_
    refine lv_topi (fun z_20 ez_20 => ?_)
    have bz_20 : 0 ≤ z_20.toInt ∧ z_20.toInt < (10 : Int32).toInt := i_rem ez_20 (by omega) (by omega)
    refine lv_iadd hx hb dX11_writeNumber_21 ?_
    refine lv_topi (fun z_21 ez_21 => ?_)
    have k_48 : (48 : Int32).toInt = 48 := by decide
    have bz_21 : z_21.toInt = (48 : Int32).toInt + z_20.toInt := i_add ez_21 (by omega) (by omega)
    refine jn_v (wr := []) (rV (As := [.int z_21]) (rest := []) (ci := 12) ⟨hx, hb, hml, hown, hts⟩ (m_write l dC dI cy _ vo voth vmt votp vosz volm voto vofr vokd vonu vosg vofa vopl vowd votd vmn vmr vmk vms vma vmm vmrn vmkn vmik vmon vosm vohp vmw vmf vmb vomb vmd vmc vocm voct vocy vmx votx_15 vose vml vmwr voln vohw vmno vond voon vowi votop vmxf_16 z_21 ⟨by omega, by omega⟩) (cw_X11_342 hts rfl rfl ⟨Nat.le_of_ble_eq_true rfl, Nat.le_of_ble_eq_true rfl⟩) hP hD hK [0, 1] rfl rfl rfl rfl bl0 e0 rfl hl.1 rfl (Nat.le_of_ble_eq_true rfl) dX11_writeNumber_22 ⟨Nat.le_of_ble_eq_true rfl, Nat.le_of_ble_eq_true rfl⟩) hP hD hS hA [0, 1] [] rfl rfl rfl (by decide) (fun u_24 H locs hp_23 hP hD hS => ?_)
    obtain ⟨votx_25, vmxf_26⟩ := u_24
    have hp_23 : (0 ≤ (votx_25 : Int32).toInt ∧ (votx_25 : Int32).toInt ≤ 64) ∧ ((votx_25 : Int32).toInt = (votx_15 : Int32).toInt + 1) := hp_23
    obtain ⟨q_27, q_28⟩ := hp_23
    have hP : va_P (dC, dI) vwCl [(vo, .inr (12, [.int voth, .ref vmt, .int votp, .int vosz, .int volm, .int voto, .int vofr, .int vokd, .int vonu, .int vosg, .int vofa, .int vopl, .long vowd, .int votd, .ref vmn, .ref vmr, .ref vmk, .ref vms, .ref vma, .ref vmm, .ref vmrn, .ref vmkn, .ref vmik, .ref vmon, .int vosm, .int vohp, .ref vmw, .ref vmf, .ref vmb, .int vomb, .ref vmd, .ref vmc, .int vocm, .int voct, .int vocy, .ref vmx, .int votx_25, .int vose, .ref vml, .ref vmwr, .int voln, .int vohw, .ref vmno, .int vond, .int voon, .int vowi, .int votop])), (vmx, .inl (cy 0, 64, .inl vmxf_26))] H := hP
    have hD : va_D A [(vo, .inr (12, [.int voth, .ref vmt, .int votp, .int vosz, .int volm, .int voto, .int vofr, .int vokd, .int vonu, .int vosg, .int vofa, .int vopl, .long vowd, .int votd, .ref vmn, .ref vmr, .ref vmk, .ref vms, .ref vma, .ref vmm, .ref vmrn, .ref vmkn, .ref vmik, .ref vmon, .int vosm, .int vohp, .ref vmw, .ref vmf, .ref vmb, .int vomb, .ref vmd, .ref vmc, .int vocm, .int voct, .int vocy, .ref vmx, .int votx_25, .int vose, .ref vml, .ref vmwr, .int voln, .int vohw, .ref vmno, .int vond, .int voon, .int vowi, .int votop])), (vmx, .inl (cy 0, 64, .inl vmxf_26))] := hD
    rw [hQ9]
    exact re_v (votx_25, vmxf_26) hx hb hr hlocks ⟨(show 0 ≤ (votx_25 : Int32).toInt ∧ (votx_25 : Int32).toInt ≤ 64 from ⟨by omega, by omega⟩), (show (votx_25 : Int32).toInt ≤ (votx : Int32).toInt + 10 from (by omega)), (show (votx : Int32).toInt ≤ (votx_25 : Int32).toInt from (by omega))⟩ (hP.sub [0, 1] rfl) (hD.sub [0, 1] rfl rfl) hS dX11_writeNumber_25
abbrev cX11_writeNext : ByteArray := prog_13_method_98_code
def yX11_writeNext : MethodName := ⟨RX11, "writeNext", "(J)V"⟩
theorem t1937 : Cond.code yX11_writeNext cX11_writeNext 3 none ∈ GW := gw_mem 2051 (by decide +kernel) (by decide +kernel)
abbrev O_m_writeNext (cy : Nat → ClassId) (vo : Nat) (voth : Int32) (vmt : Nat) (votp : Int32) (vosz : Int32) (volm : Int32) (voto : Int32) (vofr : Int32) (vokd : Int32) (vonu : Int32) (vosg : Int32) (vofa : Int32) (vopl : Int32) (vowd : Int64) (votd : Int32) (vmn : Nat) (vmr : Nat) (vmk : Nat) (vms : Nat) (vma : Nat) (vmm : Nat) (vmrn : Nat) (vmkn : Nat) (vmik : Nat) (vmon : Nat) (vosm : Int32) (vohp : Int32) (vmw : Nat) (vmf : Nat) (vmb : Nat) (vomb : Int32) (vmd : Nat) (vmc : Nat) (vocm : Int32) (voct : Int32) (vocy : Int32) (vmx : Nat) (votx : Int32) (vose : Int32) (vml : Nat) (vmwr : Nat) (voln : Int32) (vohw : Int32) (vmno : Nat) (vond : Int32) (voon : Int32) (vowi : Int32) (votop : Int32) (vmxf : Nat → Int32) (vw : Int64) (u : Int32 × (Nat → Int32)) : va_W := [(vo, .inr (12, [.int voth, .ref vmt, .int votp, .int vosz, .int volm, .int voto, .int vofr, .int vokd, .int vonu, .int vosg, .int vofa, .int vopl, .long vowd, .int votd, .ref vmn, .ref vmr, .ref vmk, .ref vms, .ref vma, .ref vmm, .ref vmrn, .ref vmkn, .ref vmik, .ref vmon, .int vosm, .int vohp, .ref vmw, .ref vmf, .ref vmb, .int vomb, .ref vmd, .ref vmc, .int vocm, .int voct, .int vocy, .ref vmx, .int u.1, .int vose, .ref vml, .ref vmwr, .int voln, .int vohw, .ref vmno, .int vond, .int voon, .int vowi, .int votop])), (vmx, .inl (cy 0, 64, .inl u.2))]
theorem dX11_writeNext_0 : decode cX11_writeNext 0 = .ok (.aload_n 0, 1) := by decide +kernel
theorem dX11_writeNext_1 : decode cX11_writeNext 1 = .ok (.bipush 32, 2) := by decide +kernel
theorem dX11_writeNext_3 : decode cX11_writeNext 3 = .ok (.invokevirtual 342, 3) := by decide +kernel
theorem dX11_writeNext_6 : decode cX11_writeNext 6 = .ok (.aload_n 0, 1) := by decide +kernel
theorem dX11_writeNext_7 : decode cX11_writeNext 7 = .ok (.lload_n 1, 1) := by decide +kernel
theorem dX11_writeNext_8 : decode cX11_writeNext 8 = .ok (.invokevirtual 338, 3) := by decide +kernel
theorem dX11_writeNext_11 : decode cX11_writeNext 11 = .ok (.return_, 1) := by decide +kernel
set_option maxHeartbeats 4000000 in
set_option maxRecDepth 100000 in
theorem m_writeNext (l : Launch) (dC : Nat → ClassId) (dI : Nat → Nat → Nat) (cy : Nat → ClassId) (sz : Nat) (vo : Nat) (voth : Int32) (vmt : Nat) (votp : Int32) (vosz : Int32) (volm : Int32) (voto : Int32) (vofr : Int32) (vokd : Int32) (vonu : Int32) (vosg : Int32) (vofa : Int32) (vopl : Int32) (vowd : Int64) (votd : Int32) (vmn : Nat) (vmr : Nat) (vmk : Nat) (vms : Nat) (vma : Nat) (vmm : Nat) (vmrn : Nat) (vmkn : Nat) (vmik : Nat) (vmon : Nat) (vosm : Int32) (vohp : Int32) (vmw : Nat) (vmf : Nat) (vmb : Nat) (vomb : Int32) (vmd : Nat) (vmc : Nat) (vocm : Int32) (voct : Int32) (vocy : Int32) (vmx : Nat) (votx : Int32) (vose : Int32) (vml : Nat) (vmwr : Nat) (voln : Int32) (vohw : Int32) (vmno : Nat) (vond : Int32) (voon : Int32) (vowi : Int32) (votop : Int32) (vmxf : Nat → Int32) (vw : Int64) (r_votx : 0 ≤ (votx : Int32).toInt ∧ (votx : Int32).toInt ≤ 58) (hw : (vw : Int64).toInt < 14348907) : Met l yX11_writeNext (wl yX11_writeNext cX11_writeNext 3 none) ({ frames := 6, cells := 0, slots := 0, locals := 384 }) (Pw (dC, dI) vwCl cy [(vo, .inr (12, [.int voth, .ref vmt, .int votp, .int vosz, .int volm, .int voto, .int vofr, .int vokd, .int vonu, .int vosg, .int vofa, .int vopl, .long vowd, .int votd, .ref vmn, .ref vmr, .ref vmk, .ref vms, .ref vma, .ref vmm, .ref vmrn, .ref vmkn, .ref vmik, .ref vmon, .int vosm, .int vohp, .ref vmw, .ref vmf, .ref vmb, .int vomb, .ref vmd, .ref vmc, .int vocm, .int voct, .int vocy, .ref vmx, .int votx, .int vose, .ref vml, .ref vmwr, .int voln, .int vohw, .ref vmno, .int vond, .int voon, .int vowi, .int votop])), (vmx, .inl (cy 0, 64, .inl vmxf))] sz [.ref vo, .long vw] nE) (Qv (dC, dI) vwCl (fun (u : Int32 × (Nat → Int32)) => (0 ≤ (u.1 : Int32).toInt ∧ (u.1 : Int32).toInt ≤ 64) ∧ ((u.1 : Int32).toInt ≤ (votx : Int32).toInt + 6) ∧ ((votx : Int32).toInt ≤ (u.1 : Int32).toInt)) (O_m_writeNext cy vo voth vmt votp vosz volm voto vofr vokd vonu vosg vofa vopl vowd votd vmn vmr vmk vms vma vmm vmrn vmkn vmik vmon vosm vohp vmw vmf vmb vomb vmd vmc vocm voct vocy vmx votx vose vml vmwr voln vohw vmno vond voon vowi votop vmxf vw) (va_A [(vo, .inr (12, [.int voth, .ref vmt, .int votp, .int vosz, .int volm, .int voto, .int vofr, .int vokd, .int vonu, .int vosg, .int vofa, .int vopl, .long vowd, .int votd, .ref vmn, .ref vmr, .ref vmk, .ref vms, .ref vma, .ref vmm, .ref vmrn, .ref vmkn, .ref vmik, .ref vmon, .int vosm, .int vohp, .ref vmw, .ref vmf, .ref vmb, .int vomb, .ref vmd, .ref vmc, .int vocm, .int voct, .int vocy, .ref vmx, .int votx, .int vose, .ref vml, .ref vmwr, .int voln, .int vohw, .ref vmno, .int vond, .int voon, .int vowi, .int votop])), (vmx, .inl (cy 0, 64, .inl vmxf))] sz)) 0 0 (va_A [(vo, .inr (12, [.int voth, .ref vmt, .int votp, .int vosz, .int volm, .int voto, .int vofr, .int vokd, .int vonu, .int vosg, .int vofa, .int vopl, .long vowd, .int votd, .ref vmn, .ref vmr, .ref vmk, .ref vms, .ref vma, .ref vmm, .ref vmrn, .ref vmkn, .ref vmik, .ref vmon, .int vosm, .int vohp, .ref vmw, .ref vmf, .ref vmb, .int vomb, .ref vmd, .ref vmc, .int vocm, .int voct, .int vocy, .ref vmx, .int votx, .int vose, .ref vml, .ref vmwr, .int voln, .int vohw, .ref vmno, .int vond, .int voon, .int vowi, .int votop])), (vmx, .inl (cy 0, 64, .inl vmxf))] sz) := by
  refine mw (Qc := Qv (dC, dI) vwCl (fun (u : Int32 × (Nat → Int32)) => (0 ≤ (u.1 : Int32).toInt ∧ (u.1 : Int32).toInt ≤ 64) ∧ ((u.1 : Int32).toInt ≤ (votx : Int32).toInt + 6) ∧ ((votx : Int32).toInt ≤ (u.1 : Int32).toInt)) (O_m_writeNext cy vo voth vmt votp vosz volm voto vofr vokd vonu vosg vofa vopl vowd votd vmn vmr vmk vms vma vmm vmrn vmkn vmik vmon vosm vohp vmw vmf vmb vomb vmd vmc vocm voct vocy vmx votx vose vml vmwr voln vohw vmno vond voon vowi votop vmxf vw)) RX11 rfl (by decide +kernel) (Nat.le_of_ble_eq_true rfl) ?_
  intro p e s m below meth c A hx hb hr hlocks av9 hav hts hown hnm hml hK hP hD hA hS hE hAe Q9 hQ9 ls hl
  have hl : lv_has ls 3 [(0, .ref vo), (1, .long vw)] := hl
  refine lv_aload_n hx hb dX11_writeNext_0 rfl (lv_at hl 0 rfl) ?_
  refine lv_bipush (v := 32) hx hb dX11_writeNext_1 (by decide) ?_
  have k_32 : (32 : Int32).toInt = 32 := by decide
  refine jn_v (wr := []) (rV (As := [.int 32]) (rest := []) (ci := 12) ⟨hx, hb, hml, hown, hts⟩ (m_write l dC dI cy _ vo voth vmt votp vosz volm voto vofr vokd vonu vosg vofa vopl vowd votd vmn vmr vmk vms vma vmm vmrn vmkn vmik vmon vosm vohp vmw vmf vmb vomb vmd vmc vocm voct vocy vmx votx vose vml vmwr voln vohw vmno vond voon vowi votop vmxf 32 ⟨by omega, by omega⟩) (cw_X11_342 hts rfl rfl ⟨Nat.le_of_ble_eq_true rfl, Nat.le_of_ble_eq_true rfl⟩) hP hD hK [0, 1] rfl rfl rfl rfl bl0 e0 rfl hl.1 rfl (Nat.le_of_ble_eq_true rfl) dX11_writeNext_3 ⟨Nat.le_of_ble_eq_true rfl, Nat.le_of_ble_eq_true rfl⟩) hP hD hS hA [0, 1] [] rfl rfl rfl (by decide) (fun u_3 H locs hp_2 hP hD hS => ?_)
  obtain ⟨votx_4, vmxf_5⟩ := u_3
  have hp_2 : (0 ≤ (votx_4 : Int32).toInt ∧ (votx_4 : Int32).toInt ≤ 64) ∧ ((votx_4 : Int32).toInt = (votx : Int32).toInt + 1) := hp_2
  obtain ⟨q_6, q_7⟩ := hp_2
  have hP : va_P (dC, dI) vwCl [(vo, .inr (12, [.int voth, .ref vmt, .int votp, .int vosz, .int volm, .int voto, .int vofr, .int vokd, .int vonu, .int vosg, .int vofa, .int vopl, .long vowd, .int votd, .ref vmn, .ref vmr, .ref vmk, .ref vms, .ref vma, .ref vmm, .ref vmrn, .ref vmkn, .ref vmik, .ref vmon, .int vosm, .int vohp, .ref vmw, .ref vmf, .ref vmb, .int vomb, .ref vmd, .ref vmc, .int vocm, .int voct, .int vocy, .ref vmx, .int votx_4, .int vose, .ref vml, .ref vmwr, .int voln, .int vohw, .ref vmno, .int vond, .int voon, .int vowi, .int votop])), (vmx, .inl (cy 0, 64, .inl vmxf_5))] H := hP
  have hD : va_D A [(vo, .inr (12, [.int voth, .ref vmt, .int votp, .int vosz, .int volm, .int voto, .int vofr, .int vokd, .int vonu, .int vosg, .int vofa, .int vopl, .long vowd, .int votd, .ref vmn, .ref vmr, .ref vmk, .ref vms, .ref vma, .ref vmm, .ref vmrn, .ref vmkn, .ref vmik, .ref vmon, .int vosm, .int vohp, .ref vmw, .ref vmf, .ref vmb, .int vomb, .ref vmd, .ref vmc, .int vocm, .int voct, .int vocy, .ref vmx, .int votx_4, .int vose, .ref vml, .ref vmwr, .int voln, .int vohw, .ref vmno, .int vond, .int voon, .int vowi, .int votop])), (vmx, .inl (cy 0, 64, .inl vmxf_5))] := hD
  refine lv_aload_n hx hb dX11_writeNext_6 rfl (lv_at hl 0 rfl) ?_
  refine lv_lload_n hx hb dX11_writeNext_7 rfl (lv_at hl 1 rfl) ?_
  refine jn_v (wr := []) (rV (As := [.long vw]) (rest := []) (ci := 12) ⟨hx, hb, hml, hown, hts⟩ (m_writeWord_5 l dC dI cy _ vo voth vmt votp vosz volm voto vofr vokd vonu vosg vofa vopl vowd votd vmn vmr vmk vms vma vmm vmrn vmkn vmik vmon vosm vohp vmw vmf vmb vomb vmd vmc vocm voct vocy vmx votx_4 vose vml vmwr voln vohw vmno vond voon vowi votop vmxf_5 vw ⟨by omega, by omega⟩ hw) (cw_X11_338 hts rfl rfl ⟨Nat.le_of_ble_eq_true rfl, Nat.le_of_ble_eq_true rfl⟩) hP hD hK [0, 1] rfl rfl rfl rfl bl0 e0 rfl hl.1 rfl (Nat.le_of_ble_eq_true rfl) dX11_writeNext_8 ⟨Nat.le_of_ble_eq_true rfl, Nat.le_of_ble_eq_true rfl⟩) hP hD hS hA [0, 1] [] rfl rfl rfl (by decide) (fun u_10 H locs hp_9 hP hD hS => ?_)
  obtain ⟨votx_11, vmxf_12⟩ := u_10
  have hp_9 : (0 ≤ (votx_11 : Int32).toInt ∧ (votx_11 : Int32).toInt ≤ 64) ∧ ((votx_11 : Int32).toInt ≤ (votx_4 : Int32).toInt + 5) ∧ ((votx_4 : Int32).toInt ≤ (votx_11 : Int32).toInt) := hp_9
  obtain ⟨q_13, q_14, q_15⟩ := hp_9
  have hP : va_P (dC, dI) vwCl [(vo, .inr (12, [.int voth, .ref vmt, .int votp, .int vosz, .int volm, .int voto, .int vofr, .int vokd, .int vonu, .int vosg, .int vofa, .int vopl, .long vowd, .int votd, .ref vmn, .ref vmr, .ref vmk, .ref vms, .ref vma, .ref vmm, .ref vmrn, .ref vmkn, .ref vmik, .ref vmon, .int vosm, .int vohp, .ref vmw, .ref vmf, .ref vmb, .int vomb, .ref vmd, .ref vmc, .int vocm, .int voct, .int vocy, .ref vmx, .int votx_11, .int vose, .ref vml, .ref vmwr, .int voln, .int vohw, .ref vmno, .int vond, .int voon, .int vowi, .int votop])), (vmx, .inl (cy 0, 64, .inl vmxf_12))] H := hP
  have hD : va_D A [(vo, .inr (12, [.int voth, .ref vmt, .int votp, .int vosz, .int volm, .int voto, .int vofr, .int vokd, .int vonu, .int vosg, .int vofa, .int vopl, .long vowd, .int votd, .ref vmn, .ref vmr, .ref vmk, .ref vms, .ref vma, .ref vmm, .ref vmrn, .ref vmkn, .ref vmik, .ref vmon, .int vosm, .int vohp, .ref vmw, .ref vmf, .ref vmb, .int vomb, .ref vmd, .ref vmc, .int vocm, .int voct, .int vocy, .ref vmx, .int votx_11, .int vose, .ref vml, .ref vmwr, .int voln, .int vohw, .ref vmno, .int vond, .int voon, .int vowi, .int votop])), (vmx, .inl (cy 0, 64, .inl vmxf_12))] := hD
  rw [hQ9]
  exact re_v (votx_11, vmxf_12) hx hb hr hlocks ⟨(show 0 ≤ (votx_11 : Int32).toInt ∧ (votx_11 : Int32).toInt ≤ 64 from ⟨by omega, by omega⟩), (show (votx_11 : Int32).toInt ≤ (votx : Int32).toInt + 6 from (by omega)), (show (votx : Int32).toInt ≤ (votx_11 : Int32).toInt from (by omega))⟩ (hP.sub [0, 1] rfl) (hD.sub [0, 1] rfl rfl) hS dX11_writeNext_11
abbrev cX11_caption : ByteArray := prog_13_method_99_code
def yX11_caption : MethodName := ⟨RX11, "caption", "(I)I"⟩
theorem t1925 : Cond.code yX11_caption cX11_caption 2 (some .int) ∈ GW := gw_mem 2039 (by decide +kernel) (by decide +kernel)
abbrev O_m_caption (cy : Nat → ClassId) (vo : Nat) (voth : Int32) (vmt : Nat) (votp : Int32) (vosz : Int32) (volm : Int32) (voto : Int32) (vofr : Int32) (vokd : Int32) (vonu : Int32) (vosg : Int32) (vofa : Int32) (vopl : Int32) (vowd : Int64) (votd : Int32) (vmn : Nat) (vmr : Nat) (vmk : Nat) (vms : Nat) (vma : Nat) (vmm : Nat) (vmrn : Nat) (vmkn : Nat) (vmik : Nat) (vmon : Nat) (vosm : Int32) (vohp : Int32) (vmw : Nat) (vmf : Nat) (vmb : Nat) (vomb : Int32) (vmd : Nat) (vmc : Nat) (vocm : Int32) (voct : Int32) (vocy : Int32) (vmx : Nat) (votx : Int32) (vose : Int32) (vml : Nat) (vmwr : Nat) (voln : Int32) (vohw : Int32) (vmno : Nat) (vond : Int32) (voon : Int32) (vowi : Int32) (votop : Int32) (vmnf : Nat → Int32) (vmmf : Nat → Int64) (vmxf : Nat → Int32) (vm : Int32) (u : Int32 × Int32 × (Nat → Int32)) : va_W := [(vo, .inr (12, [.int u.1, .ref vmt, .int votp, .int vosz, .int volm, .int voto, .int vofr, .int vokd, .int vonu, .int vosg, .int vofa, .int vopl, .long vowd, .int votd, .ref vmn, .ref vmr, .ref vmk, .ref vms, .ref vma, .ref vmm, .ref vmrn, .ref vmkn, .ref vmik, .ref vmon, .int vosm, .int vohp, .ref vmw, .ref vmf, .ref vmb, .int vomb, .ref vmd, .ref vmc, .int vocm, .int voct, .int vocy, .ref vmx, .int u.2.1, .int vose, .ref vml, .ref vmwr, .int voln, .int vohw, .ref vmno, .int vond, .int voon, .int vowi, .int votop])), (vmn, .inl (cy 0, 575, .inl vmnf)), (vmm, .inl (cy 1, 17, .inr (.inl vmmf))), (vmx, .inl (cy 0, 64, .inl u.2.2))]
theorem dX11_caption_0 : decode cX11_caption 0 = .ok (.aload_n 0, 1) := by decide +kernel
theorem dX11_caption_1 : decode cX11_caption 1 = .ok (.iconst 0, 1) := by decide +kernel
theorem dX11_caption_2 : decode cX11_caption 2 = .ok (.putfield 1, 3) := by decide +kernel
theorem dX11_caption_5 : decode cX11_caption 5 = .ok (.aload_n 0, 1) := by decide +kernel
theorem dX11_caption_6 : decode cX11_caption 6 = .ok (.iload_n 1, 1) := by decide +kernel
theorem dX11_caption_7 : decode cX11_caption 7 = .ok (.invokevirtual 250, 3) := by decide +kernel
theorem dX11_caption_10 : decode cX11_caption 10 = .ok (.ifCond .ne 5, 3) := by decide +kernel
theorem dX11_caption_13 : decode cX11_caption 13 = .ok (.iconst (-1), 1) := by decide +kernel
theorem dX11_caption_14 : decode cX11_caption 14 = .ok (.ireturn, 1) := by decide +kernel
theorem dX11_caption_15 : decode cX11_caption 15 = .ok (.aload_n 0, 1) := by decide +kernel
theorem dX11_caption_16 : decode cX11_caption 16 = .ok (.iconst 0, 1) := by decide +kernel
theorem dX11_caption_17 : decode cX11_caption 17 = .ok (.putfield 335, 3) := by decide +kernel
theorem dX11_caption_20 : decode cX11_caption 20 = .ok (.aload_n 0, 1) := by decide +kernel
theorem dX11_caption_21 : decode cX11_caption 21 = .ok (.iload_n 1, 1) := by decide +kernel
theorem dX11_caption_22 : decode cX11_caption 22 = .ok (.invokevirtual 256, 3) := by decide +kernel
theorem dX11_caption_25 : decode cX11_caption 25 = .ok (.iconst 2, 1) := by decide +kernel
theorem dX11_caption_26 : decode cX11_caption 26 = .ok (.if_icmp .ne 42, 3) := by decide +kernel
theorem dX11_caption_68 : decode cX11_caption 68 = .ok (.aload_n 0, 1) := by decide +kernel
theorem dX11_caption_69 : decode cX11_caption 69 = .ok (.aload_n 0, 1) := by decide +kernel
theorem dX11_caption_70 : decode cX11_caption 70 = .ok (.getfield 113, 3) := by decide +kernel
theorem dX11_caption_73 : decode cX11_caption 73 = .ok (.iload_n 1, 1) := by decide +kernel
theorem dX11_caption_74 : decode cX11_caption 74 = .ok (.laload, 1) := by decide +kernel
theorem dX11_caption_75 : decode cX11_caption 75 = .ok (.invokevirtual 338, 3) := by decide +kernel
theorem dX11_caption_78 : decode cX11_caption 78 = .ok (.aload_n 0, 1) := by decide +kernel
theorem dX11_caption_79 : decode cX11_caption 79 = .ok (.iload_n 1, 1) := by decide +kernel
theorem dX11_caption_80 : decode cX11_caption 80 = .ok (.invokevirtual 256, 3) := by decide +kernel
theorem dX11_caption_83 : decode cX11_caption 83 = .ok (.ifCond .ne 33, 3) := by decide +kernel
theorem dX11_caption_116 : decode cX11_caption 116 = .ok (.aload_n 0, 1) := by decide +kernel
theorem dX11_caption_117 : decode cX11_caption 117 = .ok (.bipush 25, 2) := by decide +kernel
theorem dX11_caption_119 : decode cX11_caption 119 = .ok (.invokestatic 62, 3) := by decide +kernel
theorem dX11_caption_122 : decode cX11_caption 122 = .ok (.invokevirtual 348, 3) := by decide +kernel
theorem t1934 : Cond.methodLink RX11 348 yX11_writeNext ∈ GW := gw_mem 2048 (by decide +kernel) (by decide +kernel)
theorem t1936 : Cond.instanceMethod yX11_writeNext ∈ GW := gw_mem 2050 (by decide +kernel) (by decide +kernel)
theorem s90 : Cond.selects RX11 yX11_writeNext yX11_writeNext ∈ GW := gw_mem 90 (by decide +kernel) (by decide +kernel)
theorem cw_X11_348 {R : Room} {s : State} {args : Array Value} {rm : Room} {mc ms : Nat} (hts : ∀ w ∈ GW, w.before args s = true) (hrc : rm.cells = mc) (hrs : rm.slots = ms) (hR : rm.frames + 1 ≤ R.frames ∧ 8 + (3 + 11) + rm.locals ≤ R.locals) : CallW R s args RX11 RX11 348 yX11_writeNext cX11_writeNext 3 none (wl yX11_writeNext cX11_writeNext 3 none) rm mc ms 1 := cwV 1 hts (gi_V t1934 t1936 s90 t18 t1937) rfl hrc hrs (by decide +kernel) hR
theorem dX11_caption_125 : decode cX11_caption 125 = .ok (.aload_n 0, 1) := by decide +kernel
theorem dX11_caption_126 : decode cX11_caption 126 = .ok (.bipush 32, 2) := by decide +kernel
theorem dX11_caption_128 : decode cX11_caption 128 = .ok (.invokevirtual 342, 3) := by decide +kernel
theorem dX11_caption_131 : decode cX11_caption 131 = .ok (.aload_n 0, 1) := by decide +kernel
theorem dX11_caption_132 : decode cX11_caption 132 = .ok (.aload_n 0, 1) := by decide +kernel
theorem dX11_caption_133 : decode cX11_caption 133 = .ok (.iload_n 1, 1) := by decide +kernel
theorem dX11_caption_134 : decode cX11_caption 134 = .ok (.invokevirtual 241, 3) := by decide +kernel
theorem dX11_caption_137 : decode cX11_caption 137 = .ok (.invokevirtual 345, 3) := by decide +kernel
theorem dX11_caption_140 : decode cX11_caption 140 = .ok (.aload_n 0, 1) := by decide +kernel
theorem dX11_caption_141 : decode cX11_caption 141 = .ok (.bipush 26, 2) := by decide +kernel
theorem dX11_caption_143 : decode cX11_caption 143 = .ok (.invokestatic 62, 3) := by decide +kernel
theorem dX11_caption_146 : decode cX11_caption 146 = .ok (.invokevirtual 348, 3) := by decide +kernel
theorem dX11_caption_149 : decode cX11_caption 149 = .ok (.aload_n 0, 1) := by decide +kernel
theorem dX11_caption_150 : decode cX11_caption 150 = .ok (.bipush 32, 2) := by decide +kernel
theorem dX11_caption_152 : decode cX11_caption 152 = .ok (.invokevirtual 342, 3) := by decide +kernel
theorem dX11_caption_155 : decode cX11_caption 155 = .ok (.aload_n 0, 1) := by decide +kernel
theorem dX11_caption_156 : decode cX11_caption 156 = .ok (.aload_n 0, 1) := by decide +kernel
theorem dX11_caption_157 : decode cX11_caption 157 = .ok (.iload_n 1, 1) := by decide +kernel
theorem dX11_caption_158 : decode cX11_caption 158 = .ok (.invokevirtual 244, 3) := by decide +kernel
theorem dX11_caption_161 : decode cX11_caption 161 = .ok (.invokevirtual 345, 3) := by decide +kernel
theorem dX11_caption_164 : decode cX11_caption 164 = .ok (.aload_n 0, 1) := by decide +kernel
theorem dX11_caption_165 : decode cX11_caption 165 = .ok (.getfield 335, 3) := by decide +kernel
theorem dX11_caption_168 : decode cX11_caption 168 = .ok (.ireturn, 1) := by decide +kernel
theorem dX11_caption_86 : decode cX11_caption 86 = .ok (.aload_n 0, 1) := by decide +kernel
theorem dX11_caption_87 : decode cX11_caption 87 = .ok (.bipush 105, 2) := by decide +kernel
theorem dX11_caption_89 : decode cX11_caption 89 = .ok (.bipush 115, 2) := by decide +kernel
theorem dX11_caption_91 : decode cX11_caption 91 = .ok (.iconst 0, 1) := by decide +kernel
theorem dX11_caption_92 : decode cX11_caption 92 = .ok (.iconst 0, 1) := by decide +kernel
theorem dX11_caption_93 : decode cX11_caption 93 = .ok (.iconst 0, 1) := by decide +kernel
theorem dX11_caption_94 : decode cX11_caption 94 = .ok (.iconst 0, 1) := by decide +kernel
theorem dX11_caption_95 : decode cX11_caption 95 = .ok (.iconst 0, 1) := by decide +kernel
theorem dX11_caption_96 : decode cX11_caption 96 = .ok (.invokestatic 58, 3) := by decide +kernel
theorem dX11_caption_99 : decode cX11_caption 99 = .ok (.invokevirtual 348, 3) := by decide +kernel
theorem dX11_caption_102 : decode cX11_caption 102 = .ok (.aload_n 0, 1) := by decide +kernel
theorem dX11_caption_103 : decode cX11_caption 103 = .ok (.bipush 19, 2) := by decide +kernel
theorem dX11_caption_105 : decode cX11_caption 105 = .ok (.invokestatic 62, 3) := by decide +kernel
theorem dX11_caption_108 : decode cX11_caption 108 = .ok (.invokevirtual 348, 3) := by decide +kernel
theorem dX11_caption_111 : decode cX11_caption 111 = .ok (.aload_n 0, 1) := by decide +kernel
theorem dX11_caption_112 : decode cX11_caption 112 = .ok (.getfield 335, 3) := by decide +kernel
theorem dX11_caption_115 : decode cX11_caption 115 = .ok (.ireturn, 1) := by decide +kernel
theorem dX11_caption_29 : decode cX11_caption 29 = .ok (.aload_n 0, 1) := by decide +kernel
theorem dX11_caption_30 : decode cX11_caption 30 = .ok (.bipush 110, 2) := by decide +kernel
theorem dX11_caption_32 : decode cX11_caption 32 = .ok (.bipush 111, 2) := by decide +kernel
theorem dX11_caption_34 : decode cX11_caption 34 = .ok (.iconst 0, 1) := by decide +kernel
theorem dX11_caption_35 : decode cX11_caption 35 = .ok (.iconst 0, 1) := by decide +kernel
theorem dX11_caption_36 : decode cX11_caption 36 = .ok (.iconst 0, 1) := by decide +kernel
theorem dX11_caption_37 : decode cX11_caption 37 = .ok (.iconst 0, 1) := by decide +kernel
theorem dX11_caption_38 : decode cX11_caption 38 = .ok (.iconst 0, 1) := by decide +kernel
theorem dX11_caption_39 : decode cX11_caption 39 = .ok (.invokestatic 58, 3) := by decide +kernel
theorem dX11_caption_42 : decode cX11_caption 42 = .ok (.invokevirtual 338, 3) := by decide +kernel
theorem dX11_caption_45 : decode cX11_caption 45 = .ok (.aload_n 0, 1) := by decide +kernel
theorem dX11_caption_46 : decode cX11_caption 46 = .ok (.bipush 114, 2) := by decide +kernel
theorem dX11_caption_48 : decode cX11_caption 48 = .ok (.bipush 111, 2) := by decide +kernel
theorem dX11_caption_50 : decode cX11_caption 50 = .ok (.bipush 111, 2) := by decide +kernel
theorem dX11_caption_52 : decode cX11_caption 52 = .ok (.bipush 109, 2) := by decide +kernel
theorem dX11_caption_54 : decode cX11_caption 54 = .ok (.iconst 0, 1) := by decide +kernel
theorem dX11_caption_55 : decode cX11_caption 55 = .ok (.iconst 0, 1) := by decide +kernel
theorem dX11_caption_56 : decode cX11_caption 56 = .ok (.iconst 0, 1) := by decide +kernel
theorem dX11_caption_57 : decode cX11_caption 57 = .ok (.invokestatic 58, 3) := by decide +kernel
theorem dX11_caption_60 : decode cX11_caption 60 = .ok (.invokevirtual 348, 3) := by decide +kernel
theorem dX11_caption_63 : decode cX11_caption 63 = .ok (.aload_n 0, 1) := by decide +kernel
theorem dX11_caption_64 : decode cX11_caption 64 = .ok (.getfield 335, 3) := by decide +kernel
theorem dX11_caption_67 : decode cX11_caption 67 = .ok (.ireturn, 1) := by decide +kernel
set_option maxHeartbeats 4000000 in
set_option maxRecDepth 100000 in
theorem m_caption (l : Launch) (dC : Nat → ClassId) (dI : Nat → Nat → Nat) (cy : Nat → ClassId) (sz : Nat) (vo : Nat) (voth : Int32) (vmt : Nat) (votp : Int32) (vosz : Int32) (volm : Int32) (voto : Int32) (vofr : Int32) (vokd : Int32) (vonu : Int32) (vosg : Int32) (vofa : Int32) (vopl : Int32) (vowd : Int64) (votd : Int32) (vmn : Nat) (vmr : Nat) (vmk : Nat) (vms : Nat) (vma : Nat) (vmm : Nat) (vmrn : Nat) (vmkn : Nat) (vmik : Nat) (vmon : Nat) (vosm : Int32) (vohp : Int32) (vmw : Nat) (vmf : Nat) (vmb : Nat) (vomb : Int32) (vmd : Nat) (vmc : Nat) (vocm : Int32) (voct : Int32) (vocy : Int32) (vmx : Nat) (votx : Int32) (vose : Int32) (vml : Nat) (vmwr : Nat) (voln : Int32) (vohw : Int32) (vmno : Nat) (vond : Int32) (voon : Int32) (vowi : Int32) (votop : Int32) (vmnf : Nat → Int32) (vmmf : Nat → Int64) (vmxf : Nat → Int32) (vm : Int32) (r_votx : 0 ≤ (votx : Int32).toInt ∧ (votx : Int32).toInt ≤ 64) (p_vmnf : NW vmnf) : Met l yX11_caption (wl yX11_caption cX11_caption 2 (some .int)) ({ frames := 15, cells := 0, slots := 0, locals := 960 }) (Pw (dC, dI) vwCl cy [(vo, .inr (12, [.int voth, .ref vmt, .int votp, .int vosz, .int volm, .int voto, .int vofr, .int vokd, .int vonu, .int vosg, .int vofa, .int vopl, .long vowd, .int votd, .ref vmn, .ref vmr, .ref vmk, .ref vms, .ref vma, .ref vmm, .ref vmrn, .ref vmkn, .ref vmik, .ref vmon, .int vosm, .int vohp, .ref vmw, .ref vmf, .ref vmb, .int vomb, .ref vmd, .ref vmc, .int vocm, .int voct, .int vocy, .ref vmx, .int votx, .int vose, .ref vml, .ref vmwr, .int voln, .int vohw, .ref vmno, .int vond, .int voon, .int vowi, .int votop])), (vmn, .inl (cy 0, 575, .inl vmnf)), (vmm, .inl (cy 1, 17, .inr (.inl vmmf))), (vmx, .inl (cy 0, 64, .inl vmxf))] sz [.ref vo, .int vm] nE) (Qi (dC, dI) vwCl (fun (r : Int32) (u : Int32 × Int32 × (Nat → Int32)) => (0 ≤ (u.2.1 : Int32).toInt ∧ (u.2.1 : Int32).toInt ≤ 64)) (O_m_caption cy vo voth vmt votp vosz volm voto vofr vokd vonu vosg vofa vopl vowd votd vmn vmr vmk vms vma vmm vmrn vmkn vmik vmon vosm vohp vmw vmf vmb vomb vmd vmc vocm voct vocy vmx votx vose vml vmwr voln vohw vmno vond voon vowi votop vmnf vmmf vmxf vm) (va_A [(vo, .inr (12, [.int voth, .ref vmt, .int votp, .int vosz, .int volm, .int voto, .int vofr, .int vokd, .int vonu, .int vosg, .int vofa, .int vopl, .long vowd, .int votd, .ref vmn, .ref vmr, .ref vmk, .ref vms, .ref vma, .ref vmm, .ref vmrn, .ref vmkn, .ref vmik, .ref vmon, .int vosm, .int vohp, .ref vmw, .ref vmf, .ref vmb, .int vomb, .ref vmd, .ref vmc, .int vocm, .int voct, .int vocy, .ref vmx, .int votx, .int vose, .ref vml, .ref vmwr, .int voln, .int vohw, .ref vmno, .int vond, .int voon, .int vowi, .int votop])), (vmn, .inl (cy 0, 575, .inl vmnf)), (vmm, .inl (cy 1, 17, .inr (.inl vmmf))), (vmx, .inl (cy 0, 64, .inl vmxf))] sz)) 0 0 (va_A [(vo, .inr (12, [.int voth, .ref vmt, .int votp, .int vosz, .int volm, .int voto, .int vofr, .int vokd, .int vonu, .int vosg, .int vofa, .int vopl, .long vowd, .int votd, .ref vmn, .ref vmr, .ref vmk, .ref vms, .ref vma, .ref vmm, .ref vmrn, .ref vmkn, .ref vmik, .ref vmon, .int vosm, .int vohp, .ref vmw, .ref vmf, .ref vmb, .int vomb, .ref vmd, .ref vmc, .int vocm, .int voct, .int vocy, .ref vmx, .int votx, .int vose, .ref vml, .ref vmwr, .int voln, .int vohw, .ref vmno, .int vond, .int voon, .int vowi, .int votop])), (vmn, .inl (cy 0, 575, .inl vmnf)), (vmm, .inl (cy 1, 17, .inr (.inl vmmf))), (vmx, .inl (cy 0, 64, .inl vmxf))] sz) := by
  refine mw (Qc := Qi (dC, dI) vwCl (fun (r : Int32) (u : Int32 × Int32 × (Nat → Int32)) => (0 ≤ (u.2.1 : Int32).toInt ∧ (u.2.1 : Int32).toInt ≤ 64)) (O_m_caption cy vo voth vmt votp vosz volm voto vofr vokd vonu vosg vofa vopl vowd votd vmn vmr vmk vms vma vmm vmrn vmkn vmik vmon vosm vohp vmw vmf vmb vomb vmd vmc vocm voct vocy vmx votx vose vml vmwr voln vohw vmno vond voon vowi votop vmnf vmmf vmxf vm)) RX11 rfl (by decide +kernel) (Nat.le_of_ble_eq_true rfl) ?_
  intro p e s m below meth c A hx hb hr hlocks av9 hav hts hown hnm hml hK hP hD hA hS hE hAe Q9 hQ9 ls hl
  have hl : lv_has ls 2 [(0, .ref vo), (1, .int vm)] := hl
  refine lv_aload_n hx hb dX11_caption_0 rfl (lv_at hl 0 rfl) ?_
  refine lv_iconst (v := 0) hx hb dX11_caption_1 (by decide) ?_
  refine pf_X11_1 hx hb hts hown hK hP hD hS 0 rfl rfl rfl (Nat.le_of_ble_eq_true rfl) dX11_caption_2 (fun H locs hP hD hS => ?_)
  have hP : va_P (dC, dI) vwCl [(vo, .inr (12, [.int 0, .ref vmt, .int votp, .int vosz, .int volm, .int voto, .int vofr, .int vokd, .int vonu, .int vosg, .int vofa, .int vopl, .long vowd, .int votd, .ref vmn, .ref vmr, .ref vmk, .ref vms, .ref vma, .ref vmm, .ref vmrn, .ref vmkn, .ref vmik, .ref vmon, .int vosm, .int vohp, .ref vmw, .ref vmf, .ref vmb, .int vomb, .ref vmd, .ref vmc, .int vocm, .int voct, .int vocy, .ref vmx, .int votx, .int vose, .ref vml, .ref vmwr, .int voln, .int vohw, .ref vmno, .int vond, .int voon, .int vowi, .int votop])), (vmn, .inl (cy 0, 575, .inl vmnf)), (vmm, .inl (cy 1, 17, .inr (.inl vmmf))), (vmx, .inl (cy 0, 64, .inl vmxf))] H := hP
  have hD : va_D A [(vo, .inr (12, [.int 0, .ref vmt, .int votp, .int vosz, .int volm, .int voto, .int vofr, .int vokd, .int vonu, .int vosg, .int vofa, .int vopl, .long vowd, .int votd, .ref vmn, .ref vmr, .ref vmk, .ref vms, .ref vma, .ref vmm, .ref vmrn, .ref vmkn, .ref vmik, .ref vmon, .int vosm, .int vohp, .ref vmw, .ref vmf, .ref vmb, .int vomb, .ref vmd, .ref vmc, .int vocm, .int voct, .int vocy, .ref vmx, .int votx, .int vose, .ref vml, .ref vmwr, .int voln, .int vohw, .ref vmno, .int vond, .int voon, .int vowi, .int votop])), (vmn, .inl (cy 0, 575, .inl vmnf)), (vmm, .inl (cy 1, 17, .inr (.inl vmmf))), (vmx, .inl (cy 0, 64, .inl vmxf))] := hD
  refine lv_aload_n hx hb dX11_caption_5 rfl (lv_at hl 0 rfl) ?_
  refine lv_iload_n hx hb dX11_caption_6 rfl (lv_at hl 1 rfl) ?_
  have k_0 : (0 : Int32).toInt = 0 := by decide
  refine jr_i (rVr (As := [.int vm]) (rest := []) (ci := 12) ⟨hx, hb, hml, hown, hts⟩ (m_isMan l dC dI cy vo 0 vmt votp vosz volm voto vofr vokd vonu vosg vofa vopl vowd votd vmn vmr vmk vms vma vmm vmrn vmkn vmik vmon vosm vohp vmw vmf vmb vomb vmd vmc vocm voct vocy vmx votx vose vml vmwr voln vohw vmno vond voon vowi votop vmnf vm p_vmnf) (cw_X11_250 hts rfl rfl ⟨Nat.le_of_ble_eq_true rfl, Nat.le_of_ble_eq_true rfl⟩) hP hK [0, 1] rfl rfl rfl rfl hl.1 rfl (Nat.le_of_ble_eq_true rfl) dX11_caption_7 ⟨Nat.le_of_ble_eq_true rfl, Nat.le_of_ble_eq_true rfl⟩) hP hS (fun r_1 H locs hp_2 hP hS => ?_)
  have hp_2 : ((r_1 = 0) ∨ (r_1 = 1 ∧ 0 ≤ (vm : Int32).toInt ∧ (vm : Int32).toInt ≤ 6)) := hp_2
  have q_3 := hp_2
  rcases q_3 with aq_3 | ⟨aq_3, f0q_3, f1q_3⟩
  · skip
    refine as_i 0 aq_3 ?_
    refine lv_if_ne (tgt := 15) hx hb dX11_caption_10 (by decide) (fun c9 => absurd c9 (by decide)) (fun _ => ?_)
    refine lv_iconst (v := (-1)) hx hb dX11_caption_13 (by decide) ?_
    have k_m1 : ((-1) : Int32).toInt = (-1) := by decide
    rw [hQ9]
    exact re_i ((0 : Int32), votx, vmxf) hx hb hr hlocks (show 0 ≤ (votx : Int32).toInt ∧ (votx : Int32).toInt ≤ 64 from ⟨by omega, by omega⟩) (hP.sub [0, 1, 2, 3] rfl) (hD.sub [0, 1, 2, 3] rfl rfl) hS dX11_caption_14
  · skip
    refine as_i 1 aq_3 ?_
    refine lv_if_ne (tgt := 15) hx hb dX11_caption_10 (by decide) (fun _ => ?_) (fun c9 => absurd c9 (by decide))
    refine lv_aload_n hx hb dX11_caption_15 rfl (lv_at hl 0 rfl) ?_
    refine lv_iconst (v := 0) hx hb dX11_caption_16 (by decide) ?_
    refine pf_X11_335 hx hb hts hown hK hP hD hS 0 rfl rfl rfl (Nat.le_of_ble_eq_true rfl) dX11_caption_17 (fun H locs hP hD hS => ?_)
    have hP : va_P (dC, dI) vwCl [(vo, .inr (12, [.int 0, .ref vmt, .int votp, .int vosz, .int volm, .int voto, .int vofr, .int vokd, .int vonu, .int vosg, .int vofa, .int vopl, .long vowd, .int votd, .ref vmn, .ref vmr, .ref vmk, .ref vms, .ref vma, .ref vmm, .ref vmrn, .ref vmkn, .ref vmik, .ref vmon, .int vosm, .int vohp, .ref vmw, .ref vmf, .ref vmb, .int vomb, .ref vmd, .ref vmc, .int vocm, .int voct, .int vocy, .ref vmx, .int 0, .int vose, .ref vml, .ref vmwr, .int voln, .int vohw, .ref vmno, .int vond, .int voon, .int vowi, .int votop])), (vmn, .inl (cy 0, 575, .inl vmnf)), (vmm, .inl (cy 1, 17, .inr (.inl vmmf))), (vmx, .inl (cy 0, 64, .inl vmxf))] H := hP
    have hD : va_D A [(vo, .inr (12, [.int 0, .ref vmt, .int votp, .int vosz, .int volm, .int voto, .int vofr, .int vokd, .int vonu, .int vosg, .int vofa, .int vopl, .long vowd, .int votd, .ref vmn, .ref vmr, .ref vmk, .ref vms, .ref vma, .ref vmm, .ref vmrn, .ref vmkn, .ref vmik, .ref vmon, .int vosm, .int vohp, .ref vmw, .ref vmf, .ref vmb, .int vomb, .ref vmd, .ref vmc, .int vocm, .int voct, .int vocy, .ref vmx, .int 0, .int vose, .ref vml, .ref vmwr, .int voln, .int vohw, .ref vmno, .int vond, .int voon, .int vowi, .int votop])), (vmn, .inl (cy 0, 575, .inl vmnf)), (vmm, .inl (cy 1, 17, .inr (.inl vmmf))), (vmx, .inl (cy 0, 64, .inl vmxf))] := hD
    refine lv_aload_n hx hb dX11_caption_20 rfl (lv_at hl 0 rfl) ?_
    refine lv_iload_n hx hb dX11_caption_21 rfl (lv_at hl 1 rfl) ?_
    refine jr_i (rVr (As := [.int vm]) (rest := []) (ci := 12) ⟨hx, hb, hml, hown, hts⟩ (m_howOf l dC dI cy vo 0 vmt votp vosz volm voto vofr vokd vonu vosg vofa vopl vowd votd vmn vmr vmk vms vma vmm vmrn vmkn vmik vmon vosm vohp vmw vmf vmb vomb vmd vmc vocm voct vocy vmx 0 vose vml vmwr voln vohw vmno vond voon vowi votop vmnf vm ⟨by omega, by omega⟩ p_vmnf) (cw_X11_256 hts rfl rfl ⟨Nat.le_of_ble_eq_true rfl, Nat.le_of_ble_eq_true rfl⟩) hP hK [0, 1] rfl rfl rfl rfl hl.1 rfl (Nat.le_of_ble_eq_true rfl) dX11_caption_22 ⟨Nat.le_of_ble_eq_true rfl, Nat.le_of_ble_eq_true rfl⟩) hP hS (fun r_4 H locs hp_5 hP hS => ?_)
    have hp_5 : (0 ≤ (r_4 : Int32).toInt ∧ (r_4 : Int32).toInt ≤ 2) := hp_5
    have q_6 := hp_5
    refine lv_iconst (v := 2) hx hb dX11_caption_25 (by decide) ?_
    have k_2 : (2 : Int32).toInt = 2 := by decide
    refine lv_icmp_ne (tgt := 68) hx hb dX11_caption_26 (by decide) (fun c_7 => ?_) (fun c_7 => ?_)
    · skip
      have c_7 : ¬ (r_4.toInt = (2 : Int32).toInt) := fun h9 => c_7 (i_eq.mpr h9)
      refine lv_aload_n hx hb dX11_caption_68 rfl (lv_at hl 0 rfl) ?_
      refine lv_aload_n hx hb dX11_caption_69 rfl (lv_at hl 0 rfl) ?_
      refine gf_X11_113 hx hb hts hown hK hP 0 rfl rfl dX11_caption_70 ?_
      refine lv_iload_n hx hb dX11_caption_73 rfl (lv_at hl 1 rfl) ?_
      have hin_8 : vp_in vm 17 := vp_in_iff.mpr ⟨by omega, by omega⟩
      refine va_lald hx hb hK hP 2 1 rfl rfl hin_8 dX11_caption_74 ?_
      refine lv_topl (fun y_9 ey_9 => ?_)
      refine jn_v (wr := [(vmn, .inl (cy 0, 575, .inl vmnf)), (vmm, .inl (cy 1, 17, .inr (.inl vmmf)))]) (rV (As := [.long y_9]) (rest := []) (ci := 12) ⟨hx, hb, hml, hown, hts⟩ (m_writeWord_14 l dC dI cy _ vo 0 vmt votp vosz volm voto vofr vokd vonu vosg vofa vopl vowd votd vmn vmr vmk vms vma vmm vmrn vmkn vmik vmon vosm vohp vmw vmf vmb vomb vmd vmc vocm voct vocy vmx 0 vose vml vmwr voln vohw vmno vond voon vowi votop vmxf y_9 ⟨by omega, by omega⟩ (by have := l_rng y_9; omega)) (cw_X11_338 hts rfl rfl ⟨Nat.le_of_ble_eq_true rfl, Nat.le_of_ble_eq_true rfl⟩) hP hD hK [0, 3] rfl rfl rfl rfl bl0 e0 rfl hl.1 rfl (Nat.le_of_ble_eq_true rfl) dX11_caption_75 ⟨Nat.le_of_ble_eq_true rfl, Nat.le_of_ble_eq_true rfl⟩) hP hD hS hA [0, 3] [1, 2] rfl rfl rfl (by decide) (fun u_12 H locs hp_11 hP hD hS => ?_)
      obtain ⟨votx_13, vmxf_14⟩ := u_12
      have hp_11 : (0 ≤ (votx_13 : Int32).toInt ∧ (votx_13 : Int32).toInt ≤ 64) ∧ ((votx_13 : Int32).toInt ≤ (0 : Int32).toInt + 14) ∧ ((0 : Int32).toInt ≤ (votx_13 : Int32).toInt) := hp_11
      obtain ⟨q_15, q_16, q_17⟩ := hp_11
      have hP : va_P (dC, dI) vwCl [(vmn, .inl (cy 0, 575, .inl vmnf)), (vmm, .inl (cy 1, 17, .inr (.inl vmmf))), (vo, .inr (12, [.int 0, .ref vmt, .int votp, .int vosz, .int volm, .int voto, .int vofr, .int vokd, .int vonu, .int vosg, .int vofa, .int vopl, .long vowd, .int votd, .ref vmn, .ref vmr, .ref vmk, .ref vms, .ref vma, .ref vmm, .ref vmrn, .ref vmkn, .ref vmik, .ref vmon, .int vosm, .int vohp, .ref vmw, .ref vmf, .ref vmb, .int vomb, .ref vmd, .ref vmc, .int vocm, .int voct, .int vocy, .ref vmx, .int votx_13, .int vose, .ref vml, .ref vmwr, .int voln, .int vohw, .ref vmno, .int vond, .int voon, .int vowi, .int votop])), (vmx, .inl (cy 0, 64, .inl vmxf_14))] H := hP
      have hD : va_D A [(vmn, .inl (cy 0, 575, .inl vmnf)), (vmm, .inl (cy 1, 17, .inr (.inl vmmf))), (vo, .inr (12, [.int 0, .ref vmt, .int votp, .int vosz, .int volm, .int voto, .int vofr, .int vokd, .int vonu, .int vosg, .int vofa, .int vopl, .long vowd, .int votd, .ref vmn, .ref vmr, .ref vmk, .ref vms, .ref vma, .ref vmm, .ref vmrn, .ref vmkn, .ref vmik, .ref vmon, .int vosm, .int vohp, .ref vmw, .ref vmf, .ref vmb, .int vomb, .ref vmd, .ref vmc, .int vocm, .int voct, .int vocy, .ref vmx, .int votx_13, .int vose, .ref vml, .ref vmwr, .int voln, .int vohw, .ref vmno, .int vond, .int voon, .int vowi, .int votop])), (vmx, .inl (cy 0, 64, .inl vmxf_14))] := hD
      refine lv_aload_n hx hb dX11_caption_78 rfl (lv_at hl 0 rfl) ?_
      refine lv_iload_n hx hb dX11_caption_79 rfl (lv_at hl 1 rfl) ?_
      refine jr_i (rVr (As := [.int vm]) (rest := []) (ci := 12) ⟨hx, hb, hml, hown, hts⟩ (m_howOf l dC dI cy vo 0 vmt votp vosz volm voto vofr vokd vonu vosg vofa vopl vowd votd vmn vmr vmk vms vma vmm vmrn vmkn vmik vmon vosm vohp vmw vmf vmb vomb vmd vmc vocm voct vocy vmx votx_13 vose vml vmwr voln vohw vmno vond voon vowi votop vmnf vm ⟨by omega, by omega⟩ p_vmnf) (cw_X11_256 hts rfl rfl ⟨Nat.le_of_ble_eq_true rfl, Nat.le_of_ble_eq_true rfl⟩) hP hK [2, 0] rfl rfl rfl rfl hl.1 rfl (Nat.le_of_ble_eq_true rfl) dX11_caption_80 ⟨Nat.le_of_ble_eq_true rfl, Nat.le_of_ble_eq_true rfl⟩) hP hS (fun r_18 H locs hp_19 hP hS => ?_)
      have hp_19 : (0 ≤ (r_18 : Int32).toInt ∧ (r_18 : Int32).toInt ≤ 2) := hp_19
      have q_20 := hp_19
      refine lv_if_ne (tgt := 116) hx hb dX11_caption_83 (by decide) (fun c_21 => ?_) (fun c_21 => ?_)
      · skip
        have c_21 : ¬ (r_18.toInt = (0 : Int32).toInt) := fun h9 => c_21 (i_eq.mpr h9)
        refine lv_aload_n hx hb dX11_caption_116 rfl (lv_at hl 0 rfl) ?_
        refine lv_bipush (v := 25) hx hb dX11_caption_117 (by decide) ?_
        refine jr_l (rSr (As := [.int 25]) (rest := [.ref vo]) ⟨hx, hb, hml, hown, hts⟩ (m_wordOf_25 l dC dI cy  ) (cw_X11_62 hts rfl rfl ⟨Nat.le_of_ble_eq_true rfl, Nat.le_of_ble_eq_true rfl⟩) hP hK [] rfl rfl hl.1 rfl (Nat.le_of_ble_eq_true rfl) dX11_caption_119 ⟨Nat.le_of_ble_eq_true rfl, Nat.le_of_ble_eq_true rfl⟩) hP hS (fun r_22 H locs hp_23 hP hS => ?_)
        have hp_23 : ((r_22 : Int64).toInt = 12387713) := hp_23
        have q_24 := hp_23
        refine jn_v (wr := [(vmn, .inl (cy 0, 575, .inl vmnf)), (vmm, .inl (cy 1, 17, .inr (.inl vmmf)))]) (rV (As := [.long r_22]) (rest := []) (ci := 12) ⟨hx, hb, hml, hown, hts⟩ (m_writeNext l dC dI cy _ vo 0 vmt votp vosz volm voto vofr vokd vonu vosg vofa vopl vowd votd vmn vmr vmk vms vma vmm vmrn vmkn vmik vmon vosm vohp vmw vmf vmb vomb vmd vmc vocm voct vocy vmx votx_13 vose vml vmwr voln vohw vmno vond voon vowi votop vmxf_14 r_22 ⟨by omega, by omega⟩ (by omega)) (cw_X11_348 hts rfl rfl ⟨Nat.le_of_ble_eq_true rfl, Nat.le_of_ble_eq_true rfl⟩) hP hD hK [2, 3] rfl rfl rfl rfl bl0 e0 rfl hl.1 rfl (Nat.le_of_ble_eq_true rfl) dX11_caption_122 ⟨Nat.le_of_ble_eq_true rfl, Nat.le_of_ble_eq_true rfl⟩) hP hD hS hA [2, 3] [0, 1] rfl rfl rfl (by decide) (fun u_27 H locs hp_26 hP hD hS => ?_)
        obtain ⟨votx_28, vmxf_29⟩ := u_27
        have hp_26 : (0 ≤ (votx_28 : Int32).toInt ∧ (votx_28 : Int32).toInt ≤ 64) ∧ ((votx_28 : Int32).toInt ≤ (votx_13 : Int32).toInt + 6) ∧ ((votx_13 : Int32).toInt ≤ (votx_28 : Int32).toInt) := hp_26
        obtain ⟨q_30, q_31, q_32⟩ := hp_26
        have hP : va_P (dC, dI) vwCl [(vmn, .inl (cy 0, 575, .inl vmnf)), (vmm, .inl (cy 1, 17, .inr (.inl vmmf))), (vo, .inr (12, [.int 0, .ref vmt, .int votp, .int vosz, .int volm, .int voto, .int vofr, .int vokd, .int vonu, .int vosg, .int vofa, .int vopl, .long vowd, .int votd, .ref vmn, .ref vmr, .ref vmk, .ref vms, .ref vma, .ref vmm, .ref vmrn, .ref vmkn, .ref vmik, .ref vmon, .int vosm, .int vohp, .ref vmw, .ref vmf, .ref vmb, .int vomb, .ref vmd, .ref vmc, .int vocm, .int voct, .int vocy, .ref vmx, .int votx_28, .int vose, .ref vml, .ref vmwr, .int voln, .int vohw, .ref vmno, .int vond, .int voon, .int vowi, .int votop])), (vmx, .inl (cy 0, 64, .inl vmxf_29))] H := hP
        have hD : va_D A [(vmn, .inl (cy 0, 575, .inl vmnf)), (vmm, .inl (cy 1, 17, .inr (.inl vmmf))), (vo, .inr (12, [.int 0, .ref vmt, .int votp, .int vosz, .int volm, .int voto, .int vofr, .int vokd, .int vonu, .int vosg, .int vofa, .int vopl, .long vowd, .int votd, .ref vmn, .ref vmr, .ref vmk, .ref vms, .ref vma, .ref vmm, .ref vmrn, .ref vmkn, .ref vmik, .ref vmon, .int vosm, .int vohp, .ref vmw, .ref vmf, .ref vmb, .int vomb, .ref vmd, .ref vmc, .int vocm, .int voct, .int vocy, .ref vmx, .int votx_28, .int vose, .ref vml, .ref vmwr, .int voln, .int vohw, .ref vmno, .int vond, .int voon, .int vowi, .int votop])), (vmx, .inl (cy 0, 64, .inl vmxf_29))] := hD
        refine lv_aload_n hx hb dX11_caption_125 rfl (lv_at hl 0 rfl) ?_
        refine lv_bipush (v := 32) hx hb dX11_caption_126 (by decide) ?_
        have k_32 : (32 : Int32).toInt = 32 := by decide
        refine jn_v (wr := [(vmn, .inl (cy 0, 575, .inl vmnf)), (vmm, .inl (cy 1, 17, .inr (.inl vmmf)))]) (rV (As := [.int 32]) (rest := []) (ci := 12) ⟨hx, hb, hml, hown, hts⟩ (m_write l dC dI cy _ vo 0 vmt votp vosz volm voto vofr vokd vonu vosg vofa vopl vowd votd vmn vmr vmk vms vma vmm vmrn vmkn vmik vmon vosm vohp vmw vmf vmb vomb vmd vmc vocm voct vocy vmx votx_28 vose vml vmwr voln vohw vmno vond voon vowi votop vmxf_29 32 ⟨by omega, by omega⟩) (cw_X11_342 hts rfl rfl ⟨Nat.le_of_ble_eq_true rfl, Nat.le_of_ble_eq_true rfl⟩) hP hD hK [2, 3] rfl rfl rfl rfl bl0 e0 rfl hl.1 rfl (Nat.le_of_ble_eq_true rfl) dX11_caption_128 ⟨Nat.le_of_ble_eq_true rfl, Nat.le_of_ble_eq_true rfl⟩) hP hD hS hA [2, 3] [0, 1] rfl rfl rfl (by decide) (fun u_35 H locs hp_34 hP hD hS => ?_)
        obtain ⟨votx_36, vmxf_37⟩ := u_35
        have hp_34 : (0 ≤ (votx_36 : Int32).toInt ∧ (votx_36 : Int32).toInt ≤ 64) ∧ ((votx_36 : Int32).toInt = (votx_28 : Int32).toInt + 1) := hp_34
        obtain ⟨q_38, q_39⟩ := hp_34
        have hP : va_P (dC, dI) vwCl [(vmn, .inl (cy 0, 575, .inl vmnf)), (vmm, .inl (cy 1, 17, .inr (.inl vmmf))), (vo, .inr (12, [.int 0, .ref vmt, .int votp, .int vosz, .int volm, .int voto, .int vofr, .int vokd, .int vonu, .int vosg, .int vofa, .int vopl, .long vowd, .int votd, .ref vmn, .ref vmr, .ref vmk, .ref vms, .ref vma, .ref vmm, .ref vmrn, .ref vmkn, .ref vmik, .ref vmon, .int vosm, .int vohp, .ref vmw, .ref vmf, .ref vmb, .int vomb, .ref vmd, .ref vmc, .int vocm, .int voct, .int vocy, .ref vmx, .int votx_36, .int vose, .ref vml, .ref vmwr, .int voln, .int vohw, .ref vmno, .int vond, .int voon, .int vowi, .int votop])), (vmx, .inl (cy 0, 64, .inl vmxf_37))] H := hP
        have hD : va_D A [(vmn, .inl (cy 0, 575, .inl vmnf)), (vmm, .inl (cy 1, 17, .inr (.inl vmmf))), (vo, .inr (12, [.int 0, .ref vmt, .int votp, .int vosz, .int volm, .int voto, .int vofr, .int vokd, .int vonu, .int vosg, .int vofa, .int vopl, .long vowd, .int votd, .ref vmn, .ref vmr, .ref vmk, .ref vms, .ref vma, .ref vmm, .ref vmrn, .ref vmkn, .ref vmik, .ref vmon, .int vosm, .int vohp, .ref vmw, .ref vmf, .ref vmb, .int vomb, .ref vmd, .ref vmc, .int vocm, .int voct, .int vocy, .ref vmx, .int votx_36, .int vose, .ref vml, .ref vmwr, .int voln, .int vohw, .ref vmno, .int vond, .int voon, .int vowi, .int votop])), (vmx, .inl (cy 0, 64, .inl vmxf_37))] := hD
        refine lv_aload_n hx hb dX11_caption_131 rfl (lv_at hl 0 rfl) ?_
        refine lv_aload_n hx hb dX11_caption_132 rfl (lv_at hl 0 rfl) ?_
        refine lv_iload_n hx hb dX11_caption_133 rfl (lv_at hl 1 rfl) ?_
        refine jr_i (rVr (As := [.int vm]) (rest := [.ref vo]) (ci := 12) ⟨hx, hb, hml, hown, hts⟩ (m_whiteOf l dC dI cy vo 0 vmt votp vosz volm voto vofr vokd vonu vosg vofa vopl vowd votd vmn vmr vmk vms vma vmm vmrn vmkn vmik vmon vosm vohp vmw vmf vmb vomb vmd vmc vocm voct vocy vmx votx_36 vose vml vmwr voln vohw vmno vond voon vowi votop vmnf vm ⟨by omega, by omega⟩ p_vmnf) (cw_X11_241 hts rfl rfl ⟨Nat.le_of_ble_eq_true rfl, Nat.le_of_ble_eq_true rfl⟩) hP hK [2, 0] rfl rfl rfl rfl hl.1 rfl (Nat.le_of_ble_eq_true rfl) dX11_caption_134 ⟨Nat.le_of_ble_eq_true rfl, Nat.le_of_ble_eq_true rfl⟩) hP hS (fun r_40 H locs hp_41 hP hS => ?_)
        refine jn_v (wr := [(vmn, .inl (cy 0, 575, .inl vmnf)), (vmm, .inl (cy 1, 17, .inr (.inl vmmf)))]) (rV (As := [.int r_40]) (rest := []) (ci := 12) ⟨hx, hb, hml, hown, hts⟩ (m_writeNumber_10 l dC dI cy _ vo 0 vmt votp vosz volm voto vofr vokd vonu vosg vofa vopl vowd votd vmn vmr vmk vms vma vmm vmrn vmkn vmik vmon vosm vohp vmw vmf vmb vomb vmd vmc vocm voct vocy vmx votx_36 vose vml vmwr voln vohw vmno vond voon vowi votop vmxf_37 r_40 ⟨by omega, by omega⟩ (by have := i_rng r_40; omega)) (cw_X11_345 hts rfl rfl ⟨Nat.le_of_ble_eq_true rfl, Nat.le_of_ble_eq_true rfl⟩) hP hD hK [2, 3] rfl rfl rfl rfl bl0 e0 rfl hl.1 rfl (Nat.le_of_ble_eq_true rfl) dX11_caption_137 ⟨Nat.le_of_ble_eq_true rfl, Nat.le_of_ble_eq_true rfl⟩) hP hD hS hA [2, 3] [0, 1] rfl rfl rfl (by decide) (fun u_44 H locs hp_43 hP hD hS => ?_)
        obtain ⟨votx_45, vmxf_46⟩ := u_44
        have hp_43 : (0 ≤ (votx_45 : Int32).toInt ∧ (votx_45 : Int32).toInt ≤ 64) ∧ ((votx_45 : Int32).toInt ≤ (votx_36 : Int32).toInt + 10) ∧ ((votx_36 : Int32).toInt ≤ (votx_45 : Int32).toInt) := hp_43
        obtain ⟨q_47, q_48, q_49⟩ := hp_43
        have hP : va_P (dC, dI) vwCl [(vmn, .inl (cy 0, 575, .inl vmnf)), (vmm, .inl (cy 1, 17, .inr (.inl vmmf))), (vo, .inr (12, [.int 0, .ref vmt, .int votp, .int vosz, .int volm, .int voto, .int vofr, .int vokd, .int vonu, .int vosg, .int vofa, .int vopl, .long vowd, .int votd, .ref vmn, .ref vmr, .ref vmk, .ref vms, .ref vma, .ref vmm, .ref vmrn, .ref vmkn, .ref vmik, .ref vmon, .int vosm, .int vohp, .ref vmw, .ref vmf, .ref vmb, .int vomb, .ref vmd, .ref vmc, .int vocm, .int voct, .int vocy, .ref vmx, .int votx_45, .int vose, .ref vml, .ref vmwr, .int voln, .int vohw, .ref vmno, .int vond, .int voon, .int vowi, .int votop])), (vmx, .inl (cy 0, 64, .inl vmxf_46))] H := hP
        have hD : va_D A [(vmn, .inl (cy 0, 575, .inl vmnf)), (vmm, .inl (cy 1, 17, .inr (.inl vmmf))), (vo, .inr (12, [.int 0, .ref vmt, .int votp, .int vosz, .int volm, .int voto, .int vofr, .int vokd, .int vonu, .int vosg, .int vofa, .int vopl, .long vowd, .int votd, .ref vmn, .ref vmr, .ref vmk, .ref vms, .ref vma, .ref vmm, .ref vmrn, .ref vmkn, .ref vmik, .ref vmon, .int vosm, .int vohp, .ref vmw, .ref vmf, .ref vmb, .int vomb, .ref vmd, .ref vmc, .int vocm, .int voct, .int vocy, .ref vmx, .int votx_45, .int vose, .ref vml, .ref vmwr, .int voln, .int vohw, .ref vmno, .int vond, .int voon, .int vowi, .int votop])), (vmx, .inl (cy 0, 64, .inl vmxf_46))] := hD
        refine lv_aload_n hx hb dX11_caption_140 rfl (lv_at hl 0 rfl) ?_
        refine lv_bipush (v := 26) hx hb dX11_caption_141 (by decide) ?_
        refine jr_l (rSr (As := [.int 26]) (rest := [.ref vo]) ⟨hx, hb, hml, hown, hts⟩ (m_wordOf_26 l dC dI cy  ) (cw_X11_62 hts rfl rfl ⟨Nat.le_of_ble_eq_true rfl, Nat.le_of_ble_eq_true rfl⟩) hP hK [] rfl rfl hl.1 rfl (Nat.le_of_ble_eq_true rfl) dX11_caption_143 ⟨Nat.le_of_ble_eq_true rfl, Nat.le_of_ble_eq_true rfl⟩) hP hS (fun r_50 H locs hp_51 hP hS => ?_)
        have hp_51 : ((r_50 : Int64).toInt = 79958) := hp_51
        have q_52 := hp_51
        refine jn_v (wr := [(vmn, .inl (cy 0, 575, .inl vmnf)), (vmm, .inl (cy 1, 17, .inr (.inl vmmf)))]) (rV (As := [.long r_50]) (rest := []) (ci := 12) ⟨hx, hb, hml, hown, hts⟩ (m_writeNext l dC dI cy _ vo 0 vmt votp vosz volm voto vofr vokd vonu vosg vofa vopl vowd votd vmn vmr vmk vms vma vmm vmrn vmkn vmik vmon vosm vohp vmw vmf vmb vomb vmd vmc vocm voct vocy vmx votx_45 vose vml vmwr voln vohw vmno vond voon vowi votop vmxf_46 r_50 ⟨by omega, by omega⟩ (by omega)) (cw_X11_348 hts rfl rfl ⟨Nat.le_of_ble_eq_true rfl, Nat.le_of_ble_eq_true rfl⟩) hP hD hK [2, 3] rfl rfl rfl rfl bl0 e0 rfl hl.1 rfl (Nat.le_of_ble_eq_true rfl) dX11_caption_146 ⟨Nat.le_of_ble_eq_true rfl, Nat.le_of_ble_eq_true rfl⟩) hP hD hS hA [2, 3] [0, 1] rfl rfl rfl (by decide) (fun u_55 H locs hp_54 hP hD hS => ?_)
        obtain ⟨votx_56, vmxf_57⟩ := u_55
        have hp_54 : (0 ≤ (votx_56 : Int32).toInt ∧ (votx_56 : Int32).toInt ≤ 64) ∧ ((votx_56 : Int32).toInt ≤ (votx_45 : Int32).toInt + 6) ∧ ((votx_45 : Int32).toInt ≤ (votx_56 : Int32).toInt) := hp_54
        obtain ⟨q_58, q_59, q_60⟩ := hp_54
        have hP : va_P (dC, dI) vwCl [(vmn, .inl (cy 0, 575, .inl vmnf)), (vmm, .inl (cy 1, 17, .inr (.inl vmmf))), (vo, .inr (12, [.int 0, .ref vmt, .int votp, .int vosz, .int volm, .int voto, .int vofr, .int vokd, .int vonu, .int vosg, .int vofa, .int vopl, .long vowd, .int votd, .ref vmn, .ref vmr, .ref vmk, .ref vms, .ref vma, .ref vmm, .ref vmrn, .ref vmkn, .ref vmik, .ref vmon, .int vosm, .int vohp, .ref vmw, .ref vmf, .ref vmb, .int vomb, .ref vmd, .ref vmc, .int vocm, .int voct, .int vocy, .ref vmx, .int votx_56, .int vose, .ref vml, .ref vmwr, .int voln, .int vohw, .ref vmno, .int vond, .int voon, .int vowi, .int votop])), (vmx, .inl (cy 0, 64, .inl vmxf_57))] H := hP
        have hD : va_D A [(vmn, .inl (cy 0, 575, .inl vmnf)), (vmm, .inl (cy 1, 17, .inr (.inl vmmf))), (vo, .inr (12, [.int 0, .ref vmt, .int votp, .int vosz, .int volm, .int voto, .int vofr, .int vokd, .int vonu, .int vosg, .int vofa, .int vopl, .long vowd, .int votd, .ref vmn, .ref vmr, .ref vmk, .ref vms, .ref vma, .ref vmm, .ref vmrn, .ref vmkn, .ref vmik, .ref vmon, .int vosm, .int vohp, .ref vmw, .ref vmf, .ref vmb, .int vomb, .ref vmd, .ref vmc, .int vocm, .int voct, .int vocy, .ref vmx, .int votx_56, .int vose, .ref vml, .ref vmwr, .int voln, .int vohw, .ref vmno, .int vond, .int voon, .int vowi, .int votop])), (vmx, .inl (cy 0, 64, .inl vmxf_57))] := hD
        refine lv_aload_n hx hb dX11_caption_149 rfl (lv_at hl 0 rfl) ?_
        refine lv_bipush (v := 32) hx hb dX11_caption_150 (by decide) ?_
        refine jn_v (wr := [(vmn, .inl (cy 0, 575, .inl vmnf)), (vmm, .inl (cy 1, 17, .inr (.inl vmmf)))]) (rV (As := [.int 32]) (rest := []) (ci := 12) ⟨hx, hb, hml, hown, hts⟩ (m_write l dC dI cy _ vo 0 vmt votp vosz volm voto vofr vokd vonu vosg vofa vopl vowd votd vmn vmr vmk vms vma vmm vmrn vmkn vmik vmon vosm vohp vmw vmf vmb vomb vmd vmc vocm voct vocy vmx votx_56 vose vml vmwr voln vohw vmno vond voon vowi votop vmxf_57 32 ⟨by omega, by omega⟩) (cw_X11_342 hts rfl rfl ⟨Nat.le_of_ble_eq_true rfl, Nat.le_of_ble_eq_true rfl⟩) hP hD hK [2, 3] rfl rfl rfl rfl bl0 e0 rfl hl.1 rfl (Nat.le_of_ble_eq_true rfl) dX11_caption_152 ⟨Nat.le_of_ble_eq_true rfl, Nat.le_of_ble_eq_true rfl⟩) hP hD hS hA [2, 3] [0, 1] rfl rfl rfl (by decide) (fun u_63 H locs hp_62 hP hD hS => ?_)
        obtain ⟨votx_64, vmxf_65⟩ := u_63
        have hp_62 : (0 ≤ (votx_64 : Int32).toInt ∧ (votx_64 : Int32).toInt ≤ 64) ∧ ((votx_64 : Int32).toInt = (votx_56 : Int32).toInt + 1) := hp_62
        obtain ⟨q_66, q_67⟩ := hp_62
        have hP : va_P (dC, dI) vwCl [(vmn, .inl (cy 0, 575, .inl vmnf)), (vmm, .inl (cy 1, 17, .inr (.inl vmmf))), (vo, .inr (12, [.int 0, .ref vmt, .int votp, .int vosz, .int volm, .int voto, .int vofr, .int vokd, .int vonu, .int vosg, .int vofa, .int vopl, .long vowd, .int votd, .ref vmn, .ref vmr, .ref vmk, .ref vms, .ref vma, .ref vmm, .ref vmrn, .ref vmkn, .ref vmik, .ref vmon, .int vosm, .int vohp, .ref vmw, .ref vmf, .ref vmb, .int vomb, .ref vmd, .ref vmc, .int vocm, .int voct, .int vocy, .ref vmx, .int votx_64, .int vose, .ref vml, .ref vmwr, .int voln, .int vohw, .ref vmno, .int vond, .int voon, .int vowi, .int votop])), (vmx, .inl (cy 0, 64, .inl vmxf_65))] H := hP
        have hD : va_D A [(vmn, .inl (cy 0, 575, .inl vmnf)), (vmm, .inl (cy 1, 17, .inr (.inl vmmf))), (vo, .inr (12, [.int 0, .ref vmt, .int votp, .int vosz, .int volm, .int voto, .int vofr, .int vokd, .int vonu, .int vosg, .int vofa, .int vopl, .long vowd, .int votd, .ref vmn, .ref vmr, .ref vmk, .ref vms, .ref vma, .ref vmm, .ref vmrn, .ref vmkn, .ref vmik, .ref vmon, .int vosm, .int vohp, .ref vmw, .ref vmf, .ref vmb, .int vomb, .ref vmd, .ref vmc, .int vocm, .int voct, .int vocy, .ref vmx, .int votx_64, .int vose, .ref vml, .ref vmwr, .int voln, .int vohw, .ref vmno, .int vond, .int voon, .int vowi, .int votop])), (vmx, .inl (cy 0, 64, .inl vmxf_65))] := hD
        refine lv_aload_n hx hb dX11_caption_155 rfl (lv_at hl 0 rfl) ?_
        refine lv_aload_n hx hb dX11_caption_156 rfl (lv_at hl 0 rfl) ?_
        refine lv_iload_n hx hb dX11_caption_157 rfl (lv_at hl 1 rfl) ?_
        refine jr_i (rVr (As := [.int vm]) (rest := [.ref vo]) (ci := 12) ⟨hx, hb, hml, hown, hts⟩ (m_darkOf l dC dI cy vo 0 vmt votp vosz volm voto vofr vokd vonu vosg vofa vopl vowd votd vmn vmr vmk vms vma vmm vmrn vmkn vmik vmon vosm vohp vmw vmf vmb vomb vmd vmc vocm voct vocy vmx votx_64 vose vml vmwr voln vohw vmno vond voon vowi votop vmnf vm ⟨by omega, by omega⟩ p_vmnf) (cw_X11_244 hts rfl rfl ⟨Nat.le_of_ble_eq_true rfl, Nat.le_of_ble_eq_true rfl⟩) hP hK [2, 0] rfl rfl rfl rfl hl.1 rfl (Nat.le_of_ble_eq_true rfl) dX11_caption_158 ⟨Nat.le_of_ble_eq_true rfl, Nat.le_of_ble_eq_true rfl⟩) hP hS (fun r_68 H locs hp_69 hP hS => ?_)
        refine jn_v (wr := [(vmn, .inl (cy 0, 575, .inl vmnf)), (vmm, .inl (cy 1, 17, .inr (.inl vmmf)))]) (rV (As := [.int r_68]) (rest := []) (ci := 12) ⟨hx, hb, hml, hown, hts⟩ (m_writeNumber_10 l dC dI cy _ vo 0 vmt votp vosz volm voto vofr vokd vonu vosg vofa vopl vowd votd vmn vmr vmk vms vma vmm vmrn vmkn vmik vmon vosm vohp vmw vmf vmb vomb vmd vmc vocm voct vocy vmx votx_64 vose vml vmwr voln vohw vmno vond voon vowi votop vmxf_65 r_68 ⟨by omega, by omega⟩ (by have := i_rng r_68; omega)) (cw_X11_345 hts rfl rfl ⟨Nat.le_of_ble_eq_true rfl, Nat.le_of_ble_eq_true rfl⟩) hP hD hK [2, 3] rfl rfl rfl rfl bl0 e0 rfl hl.1 rfl (Nat.le_of_ble_eq_true rfl) dX11_caption_161 ⟨Nat.le_of_ble_eq_true rfl, Nat.le_of_ble_eq_true rfl⟩) hP hD hS hA [2, 3] [0, 1] rfl rfl rfl (by decide) (fun u_72 H locs hp_71 hP hD hS => ?_)
        obtain ⟨votx_73, vmxf_74⟩ := u_72
        have hp_71 : (0 ≤ (votx_73 : Int32).toInt ∧ (votx_73 : Int32).toInt ≤ 64) ∧ ((votx_73 : Int32).toInt ≤ (votx_64 : Int32).toInt + 10) ∧ ((votx_64 : Int32).toInt ≤ (votx_73 : Int32).toInt) := hp_71
        obtain ⟨q_75, q_76, q_77⟩ := hp_71
        have hP : va_P (dC, dI) vwCl [(vmn, .inl (cy 0, 575, .inl vmnf)), (vmm, .inl (cy 1, 17, .inr (.inl vmmf))), (vo, .inr (12, [.int 0, .ref vmt, .int votp, .int vosz, .int volm, .int voto, .int vofr, .int vokd, .int vonu, .int vosg, .int vofa, .int vopl, .long vowd, .int votd, .ref vmn, .ref vmr, .ref vmk, .ref vms, .ref vma, .ref vmm, .ref vmrn, .ref vmkn, .ref vmik, .ref vmon, .int vosm, .int vohp, .ref vmw, .ref vmf, .ref vmb, .int vomb, .ref vmd, .ref vmc, .int vocm, .int voct, .int vocy, .ref vmx, .int votx_73, .int vose, .ref vml, .ref vmwr, .int voln, .int vohw, .ref vmno, .int vond, .int voon, .int vowi, .int votop])), (vmx, .inl (cy 0, 64, .inl vmxf_74))] H := hP
        have hD : va_D A [(vmn, .inl (cy 0, 575, .inl vmnf)), (vmm, .inl (cy 1, 17, .inr (.inl vmmf))), (vo, .inr (12, [.int 0, .ref vmt, .int votp, .int vosz, .int volm, .int voto, .int vofr, .int vokd, .int vonu, .int vosg, .int vofa, .int vopl, .long vowd, .int votd, .ref vmn, .ref vmr, .ref vmk, .ref vms, .ref vma, .ref vmm, .ref vmrn, .ref vmkn, .ref vmik, .ref vmon, .int vosm, .int vohp, .ref vmw, .ref vmf, .ref vmb, .int vomb, .ref vmd, .ref vmc, .int vocm, .int voct, .int vocy, .ref vmx, .int votx_73, .int vose, .ref vml, .ref vmwr, .int voln, .int vohw, .ref vmno, .int vond, .int voon, .int vowi, .int votop])), (vmx, .inl (cy 0, 64, .inl vmxf_74))] := hD
        refine lv_aload_n hx hb dX11_caption_164 rfl (lv_at hl 0 rfl) ?_
        refine gf_X11_335 hx hb hts hown hK hP 2 rfl rfl dX11_caption_165 ?_
        rw [hQ9]
        exact re_i ((0 : Int32), votx_73, vmxf_74) hx hb hr hlocks (show 0 ≤ (votx_73 : Int32).toInt ∧ (votx_73 : Int32).toInt ≤ 64 from ⟨by omega, by omega⟩) (hP.sub [2, 0, 1, 3] rfl) (hD.sub [2, 0, 1, 3] rfl rfl) hS dX11_caption_168
      · skip
        have c_21 : r_18.toInt = (0 : Int32).toInt := i_eq.mp c_21
        refine lv_aload_n hx hb dX11_caption_86 rfl (lv_at hl 0 rfl) ?_
        refine lv_bipush (v := 105) hx hb dX11_caption_87 (by decide) ?_
        refine lv_bipush (v := 115) hx hb dX11_caption_89 (by decide) ?_
        refine lv_iconst (v := 0) hx hb dX11_caption_91 (by decide) ?_
        refine lv_iconst (v := 0) hx hb dX11_caption_92 (by decide) ?_
        refine lv_iconst (v := 0) hx hb dX11_caption_93 (by decide) ?_
        refine lv_iconst (v := 0) hx hb dX11_caption_94 (by decide) ?_
        refine lv_iconst (v := 0) hx hb dX11_caption_95 (by decide) ?_
        refine jr_l (rSr (As := [.int 105, .int 115, .int 0, .int 0, .int 0, .int 0, .int 0]) (rest := [.ref vo]) ⟨hx, hb, hml, hown, hts⟩ (m_spelt_is l dC dI cy  ) (cw_X11_58 hts rfl rfl ⟨Nat.le_of_ble_eq_true rfl, Nat.le_of_ble_eq_true rfl⟩) hP hK [] rfl rfl hl.1 rfl (Nat.le_of_ble_eq_true rfl) dX11_caption_96 ⟨Nat.le_of_ble_eq_true rfl, Nat.le_of_ble_eq_true rfl⟩) hP hS (fun r_78 H locs hp_79 hP hS => ?_)
        have hp_79 : ((r_78 : Int64).toInt = 262) := hp_79
        have q_80 := hp_79
        refine jn_v (wr := [(vmn, .inl (cy 0, 575, .inl vmnf)), (vmm, .inl (cy 1, 17, .inr (.inl vmmf)))]) (rV (As := [.long r_78]) (rest := []) (ci := 12) ⟨hx, hb, hml, hown, hts⟩ (m_writeNext l dC dI cy _ vo 0 vmt votp vosz volm voto vofr vokd vonu vosg vofa vopl vowd votd vmn vmr vmk vms vma vmm vmrn vmkn vmik vmon vosm vohp vmw vmf vmb vomb vmd vmc vocm voct vocy vmx votx_13 vose vml vmwr voln vohw vmno vond voon vowi votop vmxf_14 r_78 ⟨by omega, by omega⟩ (by omega)) (cw_X11_348 hts rfl rfl ⟨Nat.le_of_ble_eq_true rfl, Nat.le_of_ble_eq_true rfl⟩) hP hD hK [2, 3] rfl rfl rfl rfl bl0 e0 rfl hl.1 rfl (Nat.le_of_ble_eq_true rfl) dX11_caption_99 ⟨Nat.le_of_ble_eq_true rfl, Nat.le_of_ble_eq_true rfl⟩) hP hD hS hA [2, 3] [0, 1] rfl rfl rfl (by decide) (fun u_83 H locs hp_82 hP hD hS => ?_)
        obtain ⟨votx_84, vmxf_85⟩ := u_83
        have hp_82 : (0 ≤ (votx_84 : Int32).toInt ∧ (votx_84 : Int32).toInt ≤ 64) ∧ ((votx_84 : Int32).toInt ≤ (votx_13 : Int32).toInt + 6) ∧ ((votx_13 : Int32).toInt ≤ (votx_84 : Int32).toInt) := hp_82
        obtain ⟨q_86, q_87, q_88⟩ := hp_82
        have hP : va_P (dC, dI) vwCl [(vmn, .inl (cy 0, 575, .inl vmnf)), (vmm, .inl (cy 1, 17, .inr (.inl vmmf))), (vo, .inr (12, [.int 0, .ref vmt, .int votp, .int vosz, .int volm, .int voto, .int vofr, .int vokd, .int vonu, .int vosg, .int vofa, .int vopl, .long vowd, .int votd, .ref vmn, .ref vmr, .ref vmk, .ref vms, .ref vma, .ref vmm, .ref vmrn, .ref vmkn, .ref vmik, .ref vmon, .int vosm, .int vohp, .ref vmw, .ref vmf, .ref vmb, .int vomb, .ref vmd, .ref vmc, .int vocm, .int voct, .int vocy, .ref vmx, .int votx_84, .int vose, .ref vml, .ref vmwr, .int voln, .int vohw, .ref vmno, .int vond, .int voon, .int vowi, .int votop])), (vmx, .inl (cy 0, 64, .inl vmxf_85))] H := hP
        have hD : va_D A [(vmn, .inl (cy 0, 575, .inl vmnf)), (vmm, .inl (cy 1, 17, .inr (.inl vmmf))), (vo, .inr (12, [.int 0, .ref vmt, .int votp, .int vosz, .int volm, .int voto, .int vofr, .int vokd, .int vonu, .int vosg, .int vofa, .int vopl, .long vowd, .int votd, .ref vmn, .ref vmr, .ref vmk, .ref vms, .ref vma, .ref vmm, .ref vmrn, .ref vmkn, .ref vmik, .ref vmon, .int vosm, .int vohp, .ref vmw, .ref vmf, .ref vmb, .int vomb, .ref vmd, .ref vmc, .int vocm, .int voct, .int vocy, .ref vmx, .int votx_84, .int vose, .ref vml, .ref vmwr, .int voln, .int vohw, .ref vmno, .int vond, .int voon, .int vowi, .int votop])), (vmx, .inl (cy 0, 64, .inl vmxf_85))] := hD
        refine lv_aload_n hx hb dX11_caption_102 rfl (lv_at hl 0 rfl) ?_
        refine lv_bipush (v := 19) hx hb dX11_caption_103 (by decide) ?_
        refine jr_l (rSr (As := [.int 19]) (rest := [.ref vo]) ⟨hx, hb, hml, hown, hts⟩ (m_wordOf_19 l dC dI cy  ) (cw_X11_62 hts rfl rfl ⟨Nat.le_of_ble_eq_true rfl, Nat.le_of_ble_eq_true rfl⟩) hP hK [] rfl rfl hl.1 rfl (Nat.le_of_ble_eq_true rfl) dX11_caption_105 ⟨Nat.le_of_ble_eq_true rfl, Nat.le_of_ble_eq_true rfl⟩) hP hS (fun r_89 H locs hp_90 hP hS => ?_)
        have hp_90 : ((r_89 : Int64).toInt = 3215288) := hp_90
        have q_91 := hp_90
        refine jn_v (wr := [(vmn, .inl (cy 0, 575, .inl vmnf)), (vmm, .inl (cy 1, 17, .inr (.inl vmmf)))]) (rV (As := [.long r_89]) (rest := []) (ci := 12) ⟨hx, hb, hml, hown, hts⟩ (m_writeNext l dC dI cy _ vo 0 vmt votp vosz volm voto vofr vokd vonu vosg vofa vopl vowd votd vmn vmr vmk vms vma vmm vmrn vmkn vmik vmon vosm vohp vmw vmf vmb vomb vmd vmc vocm voct vocy vmx votx_84 vose vml vmwr voln vohw vmno vond voon vowi votop vmxf_85 r_89 ⟨by omega, by omega⟩ (by omega)) (cw_X11_348 hts rfl rfl ⟨Nat.le_of_ble_eq_true rfl, Nat.le_of_ble_eq_true rfl⟩) hP hD hK [2, 3] rfl rfl rfl rfl bl0 e0 rfl hl.1 rfl (Nat.le_of_ble_eq_true rfl) dX11_caption_108 ⟨Nat.le_of_ble_eq_true rfl, Nat.le_of_ble_eq_true rfl⟩) hP hD hS hA [2, 3] [0, 1] rfl rfl rfl (by decide) (fun u_94 H locs hp_93 hP hD hS => ?_)
        obtain ⟨votx_95, vmxf_96⟩ := u_94
        have hp_93 : (0 ≤ (votx_95 : Int32).toInt ∧ (votx_95 : Int32).toInt ≤ 64) ∧ ((votx_95 : Int32).toInt ≤ (votx_84 : Int32).toInt + 6) ∧ ((votx_84 : Int32).toInt ≤ (votx_95 : Int32).toInt) := hp_93
        obtain ⟨q_97, q_98, q_99⟩ := hp_93
        have hP : va_P (dC, dI) vwCl [(vmn, .inl (cy 0, 575, .inl vmnf)), (vmm, .inl (cy 1, 17, .inr (.inl vmmf))), (vo, .inr (12, [.int 0, .ref vmt, .int votp, .int vosz, .int volm, .int voto, .int vofr, .int vokd, .int vonu, .int vosg, .int vofa, .int vopl, .long vowd, .int votd, .ref vmn, .ref vmr, .ref vmk, .ref vms, .ref vma, .ref vmm, .ref vmrn, .ref vmkn, .ref vmik, .ref vmon, .int vosm, .int vohp, .ref vmw, .ref vmf, .ref vmb, .int vomb, .ref vmd, .ref vmc, .int vocm, .int voct, .int vocy, .ref vmx, .int votx_95, .int vose, .ref vml, .ref vmwr, .int voln, .int vohw, .ref vmno, .int vond, .int voon, .int vowi, .int votop])), (vmx, .inl (cy 0, 64, .inl vmxf_96))] H := hP
        have hD : va_D A [(vmn, .inl (cy 0, 575, .inl vmnf)), (vmm, .inl (cy 1, 17, .inr (.inl vmmf))), (vo, .inr (12, [.int 0, .ref vmt, .int votp, .int vosz, .int volm, .int voto, .int vofr, .int vokd, .int vonu, .int vosg, .int vofa, .int vopl, .long vowd, .int votd, .ref vmn, .ref vmr, .ref vmk, .ref vms, .ref vma, .ref vmm, .ref vmrn, .ref vmkn, .ref vmik, .ref vmon, .int vosm, .int vohp, .ref vmw, .ref vmf, .ref vmb, .int vomb, .ref vmd, .ref vmc, .int vocm, .int voct, .int vocy, .ref vmx, .int votx_95, .int vose, .ref vml, .ref vmwr, .int voln, .int vohw, .ref vmno, .int vond, .int voon, .int vowi, .int votop])), (vmx, .inl (cy 0, 64, .inl vmxf_96))] := hD
        refine lv_aload_n hx hb dX11_caption_111 rfl (lv_at hl 0 rfl) ?_
        refine gf_X11_335 hx hb hts hown hK hP 2 rfl rfl dX11_caption_112 ?_
        rw [hQ9]
        exact re_i ((0 : Int32), votx_95, vmxf_96) hx hb hr hlocks (show 0 ≤ (votx_95 : Int32).toInt ∧ (votx_95 : Int32).toInt ≤ 64 from ⟨by omega, by omega⟩) (hP.sub [2, 0, 1, 3] rfl) (hD.sub [2, 0, 1, 3] rfl rfl) hS dX11_caption_115
    · skip
      have c_7 : r_4.toInt = (2 : Int32).toInt := i_eq.mp c_7
      refine lv_aload_n hx hb dX11_caption_29 rfl (lv_at hl 0 rfl) ?_
      refine lv_bipush (v := 110) hx hb dX11_caption_30 (by decide) ?_
      refine lv_bipush (v := 111) hx hb dX11_caption_32 (by decide) ?_
      refine lv_iconst (v := 0) hx hb dX11_caption_34 (by decide) ?_
      refine lv_iconst (v := 0) hx hb dX11_caption_35 (by decide) ?_
      refine lv_iconst (v := 0) hx hb dX11_caption_36 (by decide) ?_
      refine lv_iconst (v := 0) hx hb dX11_caption_37 (by decide) ?_
      refine lv_iconst (v := 0) hx hb dX11_caption_38 (by decide) ?_
      refine jr_l (rSr (As := [.int 110, .int 111, .int 0, .int 0, .int 0, .int 0, .int 0]) (rest := [.ref vo]) ⟨hx, hb, hml, hown, hts⟩ (m_spelt_no l dC dI cy  ) (cw_X11_58 hts rfl rfl ⟨Nat.le_of_ble_eq_true rfl, Nat.le_of_ble_eq_true rfl⟩) hP hK [] rfl rfl hl.1 rfl (Nat.le_of_ble_eq_true rfl) dX11_caption_39 ⟨Nat.le_of_ble_eq_true rfl, Nat.le_of_ble_eq_true rfl⟩) hP hS (fun r_100 H locs hp_101 hP hS => ?_)
      have hp_101 : ((r_100 : Int64).toInt = 393) := hp_101
      have q_102 := hp_101
      refine jn_v (wr := [(vmn, .inl (cy 0, 575, .inl vmnf)), (vmm, .inl (cy 1, 17, .inr (.inl vmmf)))]) (rV (As := [.long r_100]) (rest := []) (ci := 12) ⟨hx, hb, hml, hown, hts⟩ (m_writeWord_14 l dC dI cy _ vo 0 vmt votp vosz volm voto vofr vokd vonu vosg vofa vopl vowd votd vmn vmr vmk vms vma vmm vmrn vmkn vmik vmon vosm vohp vmw vmf vmb vomb vmd vmc vocm voct vocy vmx 0 vose vml vmwr voln vohw vmno vond voon vowi votop vmxf r_100 ⟨by omega, by omega⟩ (by have := l_rng r_100; omega)) (cw_X11_338 hts rfl rfl ⟨Nat.le_of_ble_eq_true rfl, Nat.le_of_ble_eq_true rfl⟩) hP hD hK [0, 3] rfl rfl rfl rfl bl0 e0 rfl hl.1 rfl (Nat.le_of_ble_eq_true rfl) dX11_caption_42 ⟨Nat.le_of_ble_eq_true rfl, Nat.le_of_ble_eq_true rfl⟩) hP hD hS hA [0, 3] [1, 2] rfl rfl rfl (by decide) (fun u_105 H locs hp_104 hP hD hS => ?_)
      obtain ⟨votx_106, vmxf_107⟩ := u_105
      have hp_104 : (0 ≤ (votx_106 : Int32).toInt ∧ (votx_106 : Int32).toInt ≤ 64) ∧ ((votx_106 : Int32).toInt ≤ (0 : Int32).toInt + 14) ∧ ((0 : Int32).toInt ≤ (votx_106 : Int32).toInt) := hp_104
      obtain ⟨q_108, q_109, q_110⟩ := hp_104
      have hP : va_P (dC, dI) vwCl [(vmn, .inl (cy 0, 575, .inl vmnf)), (vmm, .inl (cy 1, 17, .inr (.inl vmmf))), (vo, .inr (12, [.int 0, .ref vmt, .int votp, .int vosz, .int volm, .int voto, .int vofr, .int vokd, .int vonu, .int vosg, .int vofa, .int vopl, .long vowd, .int votd, .ref vmn, .ref vmr, .ref vmk, .ref vms, .ref vma, .ref vmm, .ref vmrn, .ref vmkn, .ref vmik, .ref vmon, .int vosm, .int vohp, .ref vmw, .ref vmf, .ref vmb, .int vomb, .ref vmd, .ref vmc, .int vocm, .int voct, .int vocy, .ref vmx, .int votx_106, .int vose, .ref vml, .ref vmwr, .int voln, .int vohw, .ref vmno, .int vond, .int voon, .int vowi, .int votop])), (vmx, .inl (cy 0, 64, .inl vmxf_107))] H := hP
      have hD : va_D A [(vmn, .inl (cy 0, 575, .inl vmnf)), (vmm, .inl (cy 1, 17, .inr (.inl vmmf))), (vo, .inr (12, [.int 0, .ref vmt, .int votp, .int vosz, .int volm, .int voto, .int vofr, .int vokd, .int vonu, .int vosg, .int vofa, .int vopl, .long vowd, .int votd, .ref vmn, .ref vmr, .ref vmk, .ref vms, .ref vma, .ref vmm, .ref vmrn, .ref vmkn, .ref vmik, .ref vmon, .int vosm, .int vohp, .ref vmw, .ref vmf, .ref vmb, .int vomb, .ref vmd, .ref vmc, .int vocm, .int voct, .int vocy, .ref vmx, .int votx_106, .int vose, .ref vml, .ref vmwr, .int voln, .int vohw, .ref vmno, .int vond, .int voon, .int vowi, .int votop])), (vmx, .inl (cy 0, 64, .inl vmxf_107))] := hD
      refine lv_aload_n hx hb dX11_caption_45 rfl (lv_at hl 0 rfl) ?_
      refine lv_bipush (v := 114) hx hb dX11_caption_46 (by decide) ?_
      refine lv_bipush (v := 111) hx hb dX11_caption_48 (by decide) ?_
      refine lv_bipush (v := 111) hx hb dX11_caption_50 (by decide) ?_
      refine lv_bipush (v := 109) hx hb dX11_caption_52 (by decide) ?_
      refine lv_iconst (v := 0) hx hb dX11_caption_54 (by decide) ?_
      refine lv_iconst (v := 0) hx hb dX11_caption_55 (by decide) ?_
      refine lv_iconst (v := 0) hx hb dX11_caption_56 (by decide) ?_
      refine jr_l (rSr (As := [.int 114, .int 111, .int 111, .int 109, .int 0, .int 0, .int 0]) (rest := [.ref vo]) ⟨hx, hb, hml, hown, hts⟩ (m_spelt_room l dC dI cy  ) (cw_X11_58 hts rfl rfl ⟨Nat.le_of_ble_eq_true rfl, Nat.le_of_ble_eq_true rfl⟩) hP hK [] rfl rfl hl.1 rfl (Nat.le_of_ble_eq_true rfl) dX11_caption_57 ⟨Nat.le_of_ble_eq_true rfl, Nat.le_of_ble_eq_true rfl⟩) hP hS (fun r_111 H locs hp_112 hP hS => ?_)
      have hp_112 : ((r_111 : Int64).toInt = 365647) := hp_112
      have q_113 := hp_112
      refine jn_v (wr := [(vmn, .inl (cy 0, 575, .inl vmnf)), (vmm, .inl (cy 1, 17, .inr (.inl vmmf)))]) (rV (As := [.long r_111]) (rest := []) (ci := 12) ⟨hx, hb, hml, hown, hts⟩ (m_writeNext l dC dI cy _ vo 0 vmt votp vosz volm voto vofr vokd vonu vosg vofa vopl vowd votd vmn vmr vmk vms vma vmm vmrn vmkn vmik vmon vosm vohp vmw vmf vmb vomb vmd vmc vocm voct vocy vmx votx_106 vose vml vmwr voln vohw vmno vond voon vowi votop vmxf_107 r_111 ⟨by omega, by omega⟩ (by omega)) (cw_X11_348 hts rfl rfl ⟨Nat.le_of_ble_eq_true rfl, Nat.le_of_ble_eq_true rfl⟩) hP hD hK [2, 3] rfl rfl rfl rfl bl0 e0 rfl hl.1 rfl (Nat.le_of_ble_eq_true rfl) dX11_caption_60 ⟨Nat.le_of_ble_eq_true rfl, Nat.le_of_ble_eq_true rfl⟩) hP hD hS hA [2, 3] [0, 1] rfl rfl rfl (by decide) (fun u_116 H locs hp_115 hP hD hS => ?_)
      obtain ⟨votx_117, vmxf_118⟩ := u_116
      have hp_115 : (0 ≤ (votx_117 : Int32).toInt ∧ (votx_117 : Int32).toInt ≤ 64) ∧ ((votx_117 : Int32).toInt ≤ (votx_106 : Int32).toInt + 6) ∧ ((votx_106 : Int32).toInt ≤ (votx_117 : Int32).toInt) := hp_115
      obtain ⟨q_119, q_120, q_121⟩ := hp_115
      have hP : va_P (dC, dI) vwCl [(vmn, .inl (cy 0, 575, .inl vmnf)), (vmm, .inl (cy 1, 17, .inr (.inl vmmf))), (vo, .inr (12, [.int 0, .ref vmt, .int votp, .int vosz, .int volm, .int voto, .int vofr, .int vokd, .int vonu, .int vosg, .int vofa, .int vopl, .long vowd, .int votd, .ref vmn, .ref vmr, .ref vmk, .ref vms, .ref vma, .ref vmm, .ref vmrn, .ref vmkn, .ref vmik, .ref vmon, .int vosm, .int vohp, .ref vmw, .ref vmf, .ref vmb, .int vomb, .ref vmd, .ref vmc, .int vocm, .int voct, .int vocy, .ref vmx, .int votx_117, .int vose, .ref vml, .ref vmwr, .int voln, .int vohw, .ref vmno, .int vond, .int voon, .int vowi, .int votop])), (vmx, .inl (cy 0, 64, .inl vmxf_118))] H := hP
      have hD : va_D A [(vmn, .inl (cy 0, 575, .inl vmnf)), (vmm, .inl (cy 1, 17, .inr (.inl vmmf))), (vo, .inr (12, [.int 0, .ref vmt, .int votp, .int vosz, .int volm, .int voto, .int vofr, .int vokd, .int vonu, .int vosg, .int vofa, .int vopl, .long vowd, .int votd, .ref vmn, .ref vmr, .ref vmk, .ref vms, .ref vma, .ref vmm, .ref vmrn, .ref vmkn, .ref vmik, .ref vmon, .int vosm, .int vohp, .ref vmw, .ref vmf, .ref vmb, .int vomb, .ref vmd, .ref vmc, .int vocm, .int voct, .int vocy, .ref vmx, .int votx_117, .int vose, .ref vml, .ref vmwr, .int voln, .int vohw, .ref vmno, .int vond, .int voon, .int vowi, .int votop])), (vmx, .inl (cy 0, 64, .inl vmxf_118))] := hD
      refine lv_aload_n hx hb dX11_caption_63 rfl (lv_at hl 0 rfl) ?_
      refine gf_X11_335 hx hb hts hown hK hP 2 rfl rfl dX11_caption_64 ?_
      rw [hQ9]
      exact re_i ((0 : Int32), votx_117, vmxf_118) hx hb hr hlocks (show 0 ≤ (votx_117 : Int32).toInt ∧ (votx_117 : Int32).toInt ≤ 64 from ⟨by omega, by omega⟩) (hP.sub [2, 0, 1, 3] rfl) (hD.sub [2, 0, 1, 3] rfl rfl) hS dX11_caption_67
