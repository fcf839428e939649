abbrev cX11_may : ByteArray := prog_13_method_88_code
def yX11_may : MethodName := ⟨RX11, "may", "()J"⟩
theorem t1884 : Cond.code yX11_may cX11_may 7 (some .long) ∈ GW := gw_mem 1998 (by decide +kernel) (by decide +kernel)
abbrev O_m_may (cy : Nat → ClassId) (vnh : Nat → Int32) (vo : Nat) (voth : Int32) (vmt : Nat) (votp : Int32) (vosz : Int32) (volm : Int32) (voto : Int32) (vofr : Int32) (vokd : Int32) (vonu : Int32) (vosg : Int32) (vofa : Int32) (vopl : Int32) (vowd : Int64) (votd : Int32) (vmn : Nat) (vmr : Nat) (vmk : Nat) (vms : Nat) (vma : Nat) (vmm : Nat) (vmrn : Nat) (vmkn : Nat) (vmik : Nat) (vmon : Nat) (vosm : Int32) (vohp : Int32) (vmw : Nat) (vmf : Nat) (vmb : Nat) (vomb : Int32) (vmd : Nat) (vmc : Nat) (vocm : Int32) (voct : Int32) (vocy : Int32) (vmx : Nat) (votx : Int32) (vose : Int32) (vml : Nat) (vmwr : Nat) (voln : Int32) (vohw : Int32) (vmno : Nat) (vond : Int32) (voon : Int32) (vowi : Int32) (votop : Int32) (vmtf : Nat → Int32) (vmnf : Nat → Int32) (vmwf : Nat → Int64) (vmff : Nat → Int32) (vmbf : Nat → Int32) (u : Int32 × Int32 × (Nat → Int64) × (Nat → Int32) × (Nat → Int32) × Int32) : va_W := [(vo, .inr (12, [.int u.1, .ref vmt, .int u.2.1, .int vosz, .int volm, .int voto, .int vofr, .int vokd, .int vonu, .int vosg, .int vofa, .int vopl, .long vowd, .int votd, .ref vmn, .ref vmr, .ref vmk, .ref vms, .ref vma, .ref vmm, .ref vmrn, .ref vmkn, .ref vmik, .ref vmon, .int vosm, .int vohp, .ref vmw, .ref vmf, .ref vmb, .int u.2.2.2.2.2, .ref vmd, .ref vmc, .int vocm, .int voct, .int vocy, .ref vmx, .int votx, .int vose, .ref vml, .ref vmwr, .int voln, .int vohw, .ref vmno, .int vond, .int voon, .int vowi, .int votop])), (vmt, .inl (cy 0, 940, .inl vmtf)), (vmn, .inl (cy 0, 575, .inl vmnf)), (vmw, .inl (cy 1, 5632, .inr (.inl u.2.2.1))), (vmf, .inl (cy 0, 5632, .inl u.2.2.2.1)), (vmb, .inl (cy 0, 10, .inl u.2.2.2.2.1))]
theorem dX11_may_0 : decode cX11_may 0 = .ok (.aload_n 0, 1) := by decide +kernel
theorem dX11_may_1 : decode cX11_may 1 = .ok (.iconst 0, 1) := by decide +kernel
theorem dX11_may_2 : decode cX11_may 2 = .ok (.putfield 1, 3) := by decide +kernel
theorem dX11_may_5 : decode cX11_may 5 = .ok (.aload_n 0, 1) := by decide +kernel
theorem dX11_may_6 : decode cX11_may 6 = .ok (.invokevirtual 89, 3) := by decide +kernel
theorem dX11_may_9 : decode cX11_may 9 = .ok (.iconst 2, 1) := by decide +kernel
theorem dX11_may_10 : decode cX11_may 10 = .ok (.if_icmp .eq 7, 3) := by decide +kernel
theorem dX11_may_17 : decode cX11_may 17 = .ok (.aload_n 0, 1) := by decide +kernel
theorem dX11_may_18 : decode cX11_may 18 = .ok (.invokevirtual 316, 3) := by decide +kernel
theorem t1886 : Cond.methodLink RX11 316 yX11_layWays ∈ GW := gw_mem 2000 (by decide +kernel) (by decide +kernel)
theorem t1888 : Cond.instanceMethod yX11_layWays ∈ GW := gw_mem 2002 (by decide +kernel) (by decide +kernel)
theorem s85 : Cond.selects RX11 yX11_layWays yX11_layWays ∈ GW := gw_mem 85 (by decide +kernel) (by decide +kernel)
theorem cw_X11_316 {R : Room} {s : State} {args : Array Value} {rm : Room} {mc ms : Nat} (hts : ∀ w ∈ GW, w.before args s = true) (hrc : rm.cells = mc) (hrs : rm.slots = ms) (hR : rm.frames + 1 ≤ R.frames ∧ 8 + (5 + 11) + rm.locals ≤ R.locals) : CallW R s args RX11 RX11 316 yX11_layWays cX11_layWays 5 none (wl yX11_layWays cX11_layWays 5 none) rm mc ms 0 := cwV 0 hts (gi_V t1886 t1888 s85 t18 t1889) rfl hrc hrs (by decide +kernel) hR
theorem dX11_may_21 : decode cX11_may 21 = .ok (.aload_n 0, 1) := by decide +kernel
theorem dX11_may_22 : decode cX11_may 22 = .ok (.getfield 133, 3) := by decide +kernel
theorem dX11_may_25 : decode cX11_may 25 = .ok (.iconst 0, 1) := by decide +kernel
theorem dX11_may_26 : decode cX11_may 26 = .ok (.iconst 0, 1) := by decide +kernel
theorem dX11_may_27 : decode cX11_may 27 = .ok (.aload_n 0, 1) := by decide +kernel
theorem dX11_may_28 : decode cX11_may 28 = .ok (.getfield 7, 3) := by decide +kernel
theorem dX11_may_31 : decode cX11_may 31 = .ok (.iconst 0, 1) := by decide +kernel
theorem dX11_may_32 : decode cX11_may 32 = .ok (.iaload, 1) := by decide +kernel
theorem dX11_may_33 : decode cX11_may 33 = .ok (.invokestatic 306, 3) := by decide +kernel
theorem dX11_may_36 : decode cX11_may 36 = .ok (.laload, 1) := by decide +kernel
theorem dX11_may_37 : decode cX11_may 37 = .ok (.aload_n 0, 1) := by decide +kernel
theorem dX11_may_38 : decode cX11_may 38 = .ok (.getfield 133, 3) := by decide +kernel
theorem dX11_may_41 : decode cX11_may 41 = .ok (.iconst 0, 1) := by decide +kernel
theorem dX11_may_42 : decode cX11_may 42 = .ok (.iconst 1, 1) := by decide +kernel
theorem dX11_may_43 : decode cX11_may 43 = .ok (.aload_n 0, 1) := by decide +kernel
theorem dX11_may_44 : decode cX11_may 44 = .ok (.getfield 7, 3) := by decide +kernel
theorem dX11_may_47 : decode cX11_may 47 = .ok (.iconst 1, 1) := by decide +kernel
theorem dX11_may_48 : decode cX11_may 48 = .ok (.iaload, 1) := by decide +kernel
theorem dX11_may_49 : decode cX11_may 49 = .ok (.invokestatic 306, 3) := by decide +kernel
theorem dX11_may_52 : decode cX11_may 52 = .ok (.laload, 1) := by decide +kernel
theorem dX11_may_53 : decode cX11_may 53 = .ok (.lmul, 1) := by decide +kernel
theorem dX11_may_54 : decode cX11_may 54 = .ok (.lstore_n 1, 1) := by decide +kernel
theorem dX11_may_55 : decode cX11_may 55 = .ok (.lload_n 1, 1) := by decide +kernel
theorem dX11_may_56 : decode cX11_may 56 = .ok (.lconst 0, 1) := by decide +kernel
theorem dX11_may_57 : decode cX11_may 57 = .ok (.lcmp, 1) := by decide +kernel
theorem dX11_may_58 : decode cX11_may 58 = .ok (.ifCond .ne 5, 3) := by decide +kernel
theorem dX11_may_63 : decode cX11_may 63 = .ok (.iconst 0, 1) := by decide +kernel
theorem dX11_may_64 : decode cX11_may 64 = .ok (.istore_n 3, 1) := by decide +kernel
theorem dX11_may_65 : decode cX11_may 65 = .ok (.iload_n 3, 1) := by decide +kernel
theorem dX11_may_66 : decode cX11_may 66 = .ok (.iconst 2, 1) := by decide +kernel
theorem dX11_may_67 : decode cX11_may 67 = .ok (.if_icmp .ge 138, 3) := by decide +kernel
theorem dX11_may_205 : decode cX11_may 205 = .ok (.aload_n 0, 1) := by decide +kernel
theorem dX11_may_206 : decode cX11_may 206 = .ok (.aload_n 0, 1) := by decide +kernel
theorem dX11_may_207 : decode cX11_may 207 = .ok (.getfield 98, 3) := by decide +kernel
theorem dX11_may_210 : decode cX11_may 210 = .ok (.iconst 1, 1) := by decide +kernel
theorem dX11_may_211 : decode cX11_may 211 = .ok (.iaload, 1) := by decide +kernel
theorem dX11_may_212 : decode cX11_may 212 = .ok (.putfield 319, 3) := by decide +kernel
theorem pf_X11_319 {p : Program} {l : Launch} {e : Env} {R : Room} {s : State} {m : MethodId} {args : Array Value} {below : List Frame} {meth : Method} {c : Code} {H : Heap} {locs : List Loc} {cells slots : Nat} {Q : State → Prop} {cc : ByteArray} {pc : Nat} {ls : Array Slot} {rest : List Value} {D : va_G} {A : Nat → Prop} {a : Nat} {tys : List (ClassId × FieldType)} {ws : va_W} {H0 : Heap} (hx : p.tables.exec = Jvm.exec) (hb : c.code = cc) (hts : ∀ w ∈ GW, w.before args s = true) (hown : s.vm.findClass RX11 = some m.cls) (hK : va_K D vwCl tys s) (hP : va_P D vwCl ws H) (hD : va_D A ws) (hS0 : va_S A H0 H locs) (q0 : Nat) {fs : List Value} (he : ws[q0]? = some (a, .inr (12, fs))) {v : Value} (hn : narrow (tyX11 29) v = v) (hfit : fits (tyX11 29) v = true) (hl : 29 < fs.length) (hdg : decode cc pc = .ok (.putfield 319, 3)) (kk : ∀ (H1 : Heap) (locs1 : List Loc), va_P D vwCl (ws.set q0 (a, .inr (12, fs.set 29 v))) H1 → va_D A (ws.set q0 (a, .inr (12, fs.set 29 v))) → va_S A H0 H1 locs1 → W p l e R s m args below meth c H1 locs1 cells slots Q (F0 m (pc + 3) ls rest)) : W p l e R s m args below meth c H locs cells slots Q (F0 m pc ls (v :: .ref a :: rest)) := va_put (C := RX11) (T := TX11) (N := 47) (ci := 12) hx hb hts inX11 tyX11 tkX11 nmX11 hown hK hP hD hS0 q0 he rfl 29 (by decide) (hts _ t1471) (fun _ h => h) rfl (tkX11 29 (by decide)) hn hfit hl hdg kk
theorem dX11_may_215 : decode cX11_may 215 = .ok (.lload_n 1, 1) := by decide +kernel
theorem dX11_may_216 : decode cX11_may 216 = .ok (.lreturn, 1) := by decide +kernel
theorem dX11_may_70 : decode cX11_may 70 = .ok (.aload_n 0, 1) := by decide +kernel
theorem dX11_may_71 : decode cX11_may 71 = .ok (.getfield 7, 3) := by decide +kernel
theorem dX11_may_74 : decode cX11_may 74 = .ok (.iload_n 3, 1) := by decide +kernel
theorem dX11_may_75 : decode cX11_may 75 = .ok (.iaload, 1) := by decide +kernel
theorem dX11_may_76 : decode cX11_may 76 = .ok (.istore 4, 2) := by decide +kernel
theorem dX11_may_78 : decode cX11_may 78 = .ok (.iconst 0, 1) := by decide +kernel
theorem dX11_may_79 : decode cX11_may 79 = .ok (.istore 5, 2) := by decide +kernel
theorem dX11_may_81 : decode cX11_may 81 = .ok (.iload 5, 2) := by decide +kernel
theorem dX11_may_83 : decode cX11_may 83 = .ok (.aload_n 0, 1) := by decide +kernel
theorem dX11_may_84 : decode cX11_may 84 = .ok (.getfield 98, 3) := by decide +kernel
theorem dX11_may_87 : decode cX11_may 87 = .ok (.iconst 1, 1) := by decide +kernel
theorem dX11_may_88 : decode cX11_may 88 = .ok (.iaload, 1) := by decide +kernel
theorem dX11_may_89 : decode cX11_may 89 = .ok (.if_icmp .ge 110, 3) := by decide +kernel
theorem dX11_may_199 : decode cX11_may 199 = .ok (.iinc 3 1, 3) := by decide +kernel
theorem dX11_may_202 : decode cX11_may 202 = .ok (.goto (-137), 3) := by decide +kernel
theorem dX11_may_92 : decode cX11_may 92 = .ok (.aload_n 0, 1) := by decide +kernel
theorem dX11_may_93 : decode cX11_may 93 = .ok (.getfield 98, 3) := by decide +kernel
theorem dX11_may_96 : decode cX11_may 96 = .ok (.bipush 21, 2) := by decide +kernel
theorem dX11_may_98 : decode cX11_may 98 = .ok (.iload 5, 2) := by decide +kernel
theorem dX11_may_100 : decode cX11_may 100 = .ok (.iadd, 1) := by decide +kernel
theorem dX11_may_101 : decode cX11_may 101 = .ok (.iaload, 1) := by decide +kernel
theorem dX11_may_102 : decode cX11_may 102 = .ok (.iload_n 3, 1) := by decide +kernel
theorem dX11_may_103 : decode cX11_may 103 = .ok (.if_icmp .eq 6, 3) := by decide +kernel
theorem dX11_may_109 : decode cX11_may 109 = .ok (.iconst 0, 1) := by decide +kernel
theorem dX11_may_110 : decode cX11_may 110 = .ok (.istore 6, 2) := by decide +kernel
theorem dX11_may_112 : decode cX11_may 112 = .ok (.aload_n 0, 1) := by decide +kernel
theorem dX11_may_113 : decode cX11_may 113 = .ok (.getfield 136, 3) := by decide +kernel
theorem dX11_may_116 : decode cX11_may 116 = .ok (.iload 5, 2) := by decide +kernel
theorem dX11_may_118 : decode cX11_may 118 = .ok (.iconst 1, 1) := by decide +kernel
theorem dX11_may_119 : decode cX11_may 119 = .ok (.iadd, 1) := by decide +kernel
theorem dX11_may_120 : decode cX11_may 120 = .ok (.iload_n 3, 1) := by decide +kernel
theorem dX11_may_121 : decode cX11_may 121 = .ok (.iload 4, 2) := by decide +kernel
theorem dX11_may_123 : decode cX11_may 123 = .ok (.iload 6, 2) := by decide +kernel
theorem dX11_may_125 : decode cX11_may 125 = .ok (.aload_n 0, 1) := by decide +kernel
theorem dX11_may_126 : decode cX11_may 126 = .ok (.getfield 98, 3) := by decide +kernel
theorem dX11_may_129 : decode cX11_may 129 = .ok (.bipush 11, 2) := by decide +kernel
theorem dX11_may_131 : decode cX11_may 131 = .ok (.iload 5, 2) := by decide +kernel
theorem dX11_may_133 : decode cX11_may 133 = .ok (.iadd, 1) := by decide +kernel
theorem dX11_may_134 : decode cX11_may 134 = .ok (.iaload, 1) := by decide +kernel
theorem dX11_may_135 : decode cX11_may 135 = .ok (.imul, 1) := by decide +kernel
theorem dX11_may_136 : decode cX11_may 136 = .ok (.isub, 1) := by decide +kernel
theorem dX11_may_137 : decode cX11_may 137 = .ok (.invokestatic 306, 3) := by decide +kernel
theorem dX11_may_140 : decode cX11_may 140 = .ok (.iaload, 1) := by decide +kernel
theorem dX11_may_141 : decode cX11_may 141 = .ok (.iload 6, 2) := by decide +kernel
theorem dX11_may_143 : decode cX11_may 143 = .ok (.iadd, 1) := by decide +kernel
theorem dX11_may_144 : decode cX11_may 144 = .ok (.aload_n 0, 1) := by decide +kernel
theorem dX11_may_145 : decode cX11_may 145 = .ok (.getfield 136, 3) := by decide +kernel
theorem dX11_may_148 : decode cX11_may 148 = .ok (.iload 5, 2) := by decide +kernel
theorem dX11_may_150 : decode cX11_may 150 = .ok (.iload_n 3, 1) := by decide +kernel
theorem dX11_may_151 : decode cX11_may 151 = .ok (.iload 4, 2) := by decide +kernel
theorem dX11_may_153 : decode cX11_may 153 = .ok (.invokestatic 306, 3) := by decide +kernel
theorem dX11_may_156 : decode cX11_may 156 = .ok (.iaload, 1) := by decide +kernel
theorem dX11_may_157 : decode cX11_may 157 = .ok (.if_icmp .eq 9, 3) := by decide +kernel
theorem dX11_may_166 : decode cX11_may 166 = .ok (.aload_n 0, 1) := by decide +kernel
theorem dX11_may_167 : decode cX11_may 167 = .ok (.getfield 139, 3) := by decide +kernel
theorem dX11_may_170 : decode cX11_may 170 = .ok (.iload 5, 2) := by decide +kernel
theorem dX11_may_172 : decode cX11_may 172 = .ok (.iload 6, 2) := by decide +kernel
theorem dX11_may_174 : decode cX11_may 174 = .ok (.iastore, 1) := by decide +kernel
theorem dX11_may_175 : decode cX11_may 175 = .ok (.iload 4, 2) := by decide +kernel
theorem dX11_may_177 : decode cX11_may 177 = .ok (.iload 6, 2) := by decide +kernel
theorem dX11_may_179 : decode cX11_may 179 = .ok (.aload_n 0, 1) := by decide +kernel
theorem dX11_may_180 : decode cX11_may 180 = .ok (.getfield 98, 3) := by decide +kernel
theorem dX11_may_183 : decode cX11_may 183 = .ok (.bipush 11, 2) := by decide +kernel
theorem dX11_may_185 : decode cX11_may 185 = .ok (.iload 5, 2) := by decide +kernel
theorem dX11_may_187 : decode cX11_may 187 = .ok (.iadd, 1) := by decide +kernel
theorem dX11_may_188 : decode cX11_may 188 = .ok (.iaload, 1) := by decide +kernel
theorem dX11_may_189 : decode cX11_may 189 = .ok (.imul, 1) := by decide +kernel
theorem dX11_may_190 : decode cX11_may 190 = .ok (.isub, 1) := by decide +kernel
theorem dX11_may_191 : decode cX11_may 191 = .ok (.istore 4, 2) := by decide +kernel
theorem dX11_may_193 : decode cX11_may 193 = .ok (.iinc 5 1, 3) := by decide +kernel
theorem dX11_may_196 : decode cX11_may 196 = .ok (.goto (-115), 3) := by decide +kernel
theorem dX11_may_160 : decode cX11_may 160 = .ok (.iinc 6 1, 3) := by decide +kernel
theorem dX11_may_163 : decode cX11_may 163 = .ok (.goto (-51), 3) := by decide +kernel
theorem dX11_may_106 : decode cX11_may 106 = .ok (.goto 87, 3) := by decide +kernel
theorem dX11_may_61 : decode cX11_may 61 = .ok (.lconst 0, 1) := by decide +kernel
theorem dX11_may_62 : decode cX11_may 62 = .ok (.lreturn, 1) := by decide +kernel
theorem dX11_may_13 : decode cX11_may 13 = .ok (.ldc2_w 314, 3) := by decide +kernel
theorem t1885 : Cond.constantLong RX11 314 (-1) ∈ GW := gw_mem 1999 (by decide +kernel) (by decide +kernel)
theorem dX11_may_16 : decode cX11_may 16 = .ok (.lreturn, 1) := by decide +kernel
set_option maxHeartbeats 4000000 in
set_option maxRecDepth 100000 in
theorem m_may (l : Launch) (dC : Nat → ClassId) (dI : Nat → Nat → Nat) (cy : Nat → ClassId) (sz : Nat) (vnh : Nat → Int32) (vo : Nat) (voth : Int32) (vmt : Nat) (votp : Int32) (vosz : Int32) (volm : Int32) (voto : Int32) (vofr : Int32) (vokd : Int32) (vonu : Int32) (vosg : Int32) (vofa : Int32) (vopl : Int32) (vowd : Int64) (votd : Int32) (vmn : Nat) (vmr : Nat) (vmk : Nat) (vms : Nat) (vma : Nat) (vmm : Nat) (vmrn : Nat) (vmkn : Nat) (vmik : Nat) (vmon : Nat) (vosm : Int32) (vohp : Int32) (vmw : Nat) (vmf : Nat) (vmb : Nat) (vomb : Int32) (vmd : Nat) (vmc : Nat) (vocm : Int32) (voct : Int32) (vocy : Int32) (vmx : Nat) (votx : Int32) (vose : Int32) (vml : Nat) (vmwr : Nat) (voln : Int32) (vohw : Int32) (vmno : Nat) (vond : Int32) (voon : Int32) (vowi : Int32) (votop : Int32) (vmtf : Nat → Int32) (vmnf : Nat → Int32) (vmwf : Nat → Int64) (vmff : Nat → Int32) (vmbf : Nat → Int32) (r_votp : 0 ≤ (votp : Int32).toInt ∧ (votp : Int32).toInt ≤ 940) (r_vomb : 0 ≤ (vomb : Int32).toInt ∧ (vomb : Int32).toInt ≤ 10) (p_vmtf : Rg vmtf 940 0 255) (p_vmnf : NW vnh vmnf) (p_vmff : Rg vmff 5632 0 100000) : Met l yX11_may (wl yX11_may cX11_may 7 (some .long)) ({ frames := 3, cells := 0, slots := 0, locals := 192 }) (Pw (dC, dI) vwCl cy [(vo, .inr (12, [.int voth, .ref vmt, .int votp, .int vosz, .int volm, .int voto, .int vofr, .int vokd, .int vonu, .int vosg, .int vofa, .int vopl, .long vowd, .int votd, .ref vmn, .ref vmr, .ref vmk, .ref vms, .ref vma, .ref vmm, .ref vmrn, .ref vmkn, .ref vmik, .ref vmon, .int vosm, .int vohp, .ref vmw, .ref vmf, .ref vmb, .int vomb, .ref vmd, .ref vmc, .int vocm, .int voct, .int vocy, .ref vmx, .int votx, .int vose, .ref vml, .ref vmwr, .int voln, .int vohw, .ref vmno, .int vond, .int voon, .int vowi, .int votop])), (vmt, .inl (cy 0, 940, .inl vmtf)), (vmn, .inl (cy 0, 575, .inl vmnf)), (vmw, .inl (cy 1, 5632, .inr (.inl vmwf))), (vmf, .inl (cy 0, 5632, .inl vmff)), (vmb, .inl (cy 0, 10, .inl vmbf))] sz [.ref vo] nE) (Ql (dC, dI) vwCl (fun (r : Int64) (u : Int32 × Int32 × (Nat → Int64) × (Nat → Int32) × (Nat → Int32) × Int32) => (0 ≤ (u.2.1 : Int32).toInt ∧ (u.2.1 : Int32).toInt ≤ 0) ∧ (Rg u.2.2.2.1 5632 0 100000) ∧ (0 ≤ (u.2.2.2.2.2 : Int32).toInt ∧ (u.2.2.2.2.2 : Int32).toInt ≤ 10)) (O_m_may cy vnh vo voth vmt votp vosz volm voto vofr vokd vonu vosg vofa vopl vowd votd vmn vmr vmk vms vma vmm vmrn vmkn vmik vmon vosm vohp vmw vmf vmb vomb vmd vmc vocm voct vocy vmx votx vose vml vmwr voln vohw vmno vond voon vowi votop vmtf vmnf vmwf vmff vmbf) (va_A [(vo, .inr (12, [.int voth, .ref vmt, .int votp, .int vosz, .int volm, .int voto, .int vofr, .int vokd, .int vonu, .int vosg, .int vofa, .int vopl, .long vowd, .int votd, .ref vmn, .ref vmr, .ref vmk, .ref vms, .ref vma, .ref vmm, .ref vmrn, .ref vmkn, .ref vmik, .ref vmon, .int vosm, .int vohp, .ref vmw, .ref vmf, .ref vmb, .int vomb, .ref vmd, .ref vmc, .int vocm, .int voct, .int vocy, .ref vmx, .int votx, .int vose, .ref vml, .ref vmwr, .int voln, .int vohw, .ref vmno, .int vond, .int voon, .int vowi, .int votop])), (vmt, .inl (cy 0, 940, .inl vmtf)), (vmn, .inl (cy 0, 575, .inl vmnf)), (vmw, .inl (cy 1, 5632, .inr (.inl vmwf))), (vmf, .inl (cy 0, 5632, .inl vmff)), (vmb, .inl (cy 0, 10, .inl vmbf))] sz)) 0 0 (va_A [(vo, .inr (12, [.int voth, .ref vmt, .int votp, .int vosz, .int volm, .int voto, .int vofr, .int vokd, .int vonu, .int vosg, .int vofa, .int vopl, .long vowd, .int votd, .ref vmn, .ref vmr, .ref vmk, .ref vms, .ref vma, .ref vmm, .ref vmrn, .ref vmkn, .ref vmik, .ref vmon, .int vosm, .int vohp, .ref vmw, .ref vmf, .ref vmb, .int vomb, .ref vmd, .ref vmc, .int vocm, .int voct, .int vocy, .ref vmx, .int votx, .int vose, .ref vml, .ref vmwr, .int voln, .int vohw, .ref vmno, .int vond, .int voon, .int vowi, .int votop])), (vmt, .inl (cy 0, 940, .inl vmtf)), (vmn, .inl (cy 0, 575, .inl vmnf)), (vmw, .inl (cy 1, 5632, .inr (.inl vmwf))), (vmf, .inl (cy 0, 5632, .inl vmff)), (vmb, .inl (cy 0, 10, .inl vmbf))] sz) := by
  refine mw (Qc := Ql (dC, dI) vwCl (fun (r : Int64) (u : Int32 × Int32 × (Nat → Int64) × (Nat → Int32) × (Nat → Int32) × Int32) => (0 ≤ (u.2.1 : Int32).toInt ∧ (u.2.1 : Int32).toInt ≤ 0) ∧ (Rg u.2.2.2.1 5632 0 100000) ∧ (0 ≤ (u.2.2.2.2.2 : Int32).toInt ∧ (u.2.2.2.2.2 : Int32).toInt ≤ 10)) (O_m_may cy vnh vo voth vmt votp vosz volm voto vofr vokd vonu vosg vofa vopl vowd votd vmn vmr vmk vms vma vmm vmrn vmkn vmik vmon vosm vohp vmw vmf vmb vomb vmd vmc vocm voct vocy vmx votx vose vml vmwr voln vohw vmno vond voon vowi votop vmtf vmnf vmwf vmff vmbf)) RX11 rfl (by decide +kernel) (Nat.le_of_ble_eq_true rfl) ?_
  intro p e s m below meth c A hx hb hr hlocks av9 hav hts hown hnm hml hK hP hD hA hS hE hAe Q9 hQ9 ls hl
  have hl : lv_has ls 7 [(0, .ref vo)] := hl
  refine lv_aload_n hx hb dX11_may_0 rfl (lv_at hl 0 rfl) ?_
  refine lv_iconst (v := 0) hx hb dX11_may_1 (by decide) ?_
  refine pf_X11_1 hx hb hts hown hK hP hD hS 0 rfl rfl rfl (Nat.le_of_ble_eq_true rfl) dX11_may_2 (fun H locs hP hD hS => ?_)
  have hP : va_P (dC, dI) vwCl [(vo, .inr (12, [.int 0, .ref vmt, .int votp, .int vosz, .int volm, .int voto, .int vofr, .int vokd, .int vonu, .int vosg, .int vofa, .int vopl, .long vowd, .int votd, .ref vmn, .ref vmr, .ref vmk, .ref vms, .ref vma, .ref vmm, .ref vmrn, .ref vmkn, .ref vmik, .ref vmon, .int vosm, .int vohp, .ref vmw, .ref vmf, .ref vmb, .int vomb, .ref vmd, .ref vmc, .int vocm, .int voct, .int vocy, .ref vmx, .int votx, .int vose, .ref vml, .ref vmwr, .int voln, .int vohw, .ref vmno, .int vond, .int voon, .int vowi, .int votop])), (vmt, .inl (cy 0, 940, .inl vmtf)), (vmn, .inl (cy 0, 575, .inl vmnf)), (vmw, .inl (cy 1, 5632, .inr (.inl vmwf))), (vmf, .inl (cy 0, 5632, .inl vmff)), (vmb, .inl (cy 0, 10, .inl vmbf))] H := hP
  have hD : va_D A [(vo, .inr (12, [.int 0, .ref vmt, .int votp, .int vosz, .int volm, .int voto, .int vofr, .int vokd, .int vonu, .int vosg, .int vofa, .int vopl, .long vowd, .int votd, .ref vmn, .ref vmr, .ref vmk, .ref vms, .ref vma, .ref vmm, .ref vmrn, .ref vmkn, .ref vmik, .ref vmon, .int vosm, .int vohp, .ref vmw, .ref vmf, .ref vmb, .int vomb, .ref vmd, .ref vmc, .int vocm, .int voct, .int vocy, .ref vmx, .int votx, .int vose, .ref vml, .ref vmwr, .int voln, .int vohw, .ref vmno, .int vond, .int voon, .int vowi, .int votop])), (vmt, .inl (cy 0, 940, .inl vmtf)), (vmn, .inl (cy 0, 575, .inl vmnf)), (vmw, .inl (cy 1, 5632, .inr (.inl vmwf))), (vmf, .inl (cy 0, 5632, .inl vmff)), (vmb, .inl (cy 0, 10, .inl vmbf))] := hD
  refine lv_aload_n hx hb dX11_may_5 rfl (lv_at hl 0 rfl) ?_
  have k_0 : (0 : Int32).toInt = 0 := by decide
  refine jn_i (wr := [(vmt, .inl (cy 0, 940, .inl vmtf)), (vmn, .inl (cy 0, 575, .inl vmnf)), (vmw, .inl (cy 1, 5632, .inr (.inl vmwf))), (vmf, .inl (cy 0, 5632, .inl vmff)), (vmb, .inl (cy 0, 10, .inl vmbf))]) (rV (As := []) (rest := []) (ci := 12) ⟨hx, hb, hml, hown, hts⟩ (m_take l dC dI cy _ vo 0 vmt votp vosz volm voto vofr vokd vonu vosg vofa vopl vowd votd vmn vmr vmk vms vma vmm vmrn vmkn vmik vmon vosm vohp vmw vmf vmb vomb vmd vmc vocm voct vocy vmx votx vose vml vmwr voln vohw vmno vond voon vowi votop r_votp) (cw_X11_89 hts rfl rfl ⟨Nat.le_of_ble_eq_true rfl, Nat.le_of_ble_eq_true rfl⟩) hP hD hK [0] rfl rfl rfl rfl bl0 e0 rfl hl.1 rfl (Nat.le_of_ble_eq_true rfl) dX11_may_6 ⟨Nat.le_of_ble_eq_true rfl, Nat.le_of_ble_eq_true rfl⟩) hP hD hS hA [0] [1, 2, 3, 4, 5] rfl rfl rfl (by decide) (fun r_1 u_3 H locs hp_2 hP hD hS => ?_)
  obtain ⟨votp_4, rfl⟩ : ∃ z, z = u_3 := ⟨_, rfl⟩
  have hp_2 : (0 ≤ (r_1 : Int32).toInt ∧ (r_1 : Int32).toInt ≤ 940) ∧ (0 ≤ (votp_4 : Int32).toInt ∧ (votp_4 : Int32).toInt ≤ 0) := hp_2
  obtain ⟨q_5, q_6⟩ := hp_2
  have hP : va_P (dC, dI) vwCl [(vmt, .inl (cy 0, 940, .inl vmtf)), (vmn, .inl (cy 0, 575, .inl vmnf)), (vmw, .inl (cy 1, 5632, .inr (.inl vmwf))), (vmf, .inl (cy 0, 5632, .inl vmff)), (vmb, .inl (cy 0, 10, .inl vmbf)), (vo, .inr (12, [.int 0, .ref vmt, .int votp_4, .int vosz, .int volm, .int voto, .int vofr, .int vokd, .int vonu, .int vosg, .int vofa, .int vopl, .long vowd, .int votd, .ref vmn, .ref vmr, .ref vmk, .ref vms, .ref vma, .ref vmm, .ref vmrn, .ref vmkn, .ref vmik, .ref vmon, .int vosm, .int vohp, .ref vmw, .ref vmf, .ref vmb, .int vomb, .ref vmd, .ref vmc, .int vocm, .int voct, .int vocy, .ref vmx, .int votx, .int vose, .ref vml, .ref vmwr, .int voln, .int vohw, .ref vmno, .int vond, .int voon, .int vowi, .int votop]))] H := hP
  have hD : va_D A [(vmt, .inl (cy 0, 940, .inl vmtf)), (vmn, .inl (cy 0, 575, .inl vmnf)), (vmw, .inl (cy 1, 5632, .inr (.inl vmwf))), (vmf, .inl (cy 0, 5632, .inl vmff)), (vmb, .inl (cy 0, 10, .inl vmbf)), (vo, .inr (12, [.int 0, .ref vmt, .int votp_4, .int vosz, .int volm, .int voto, .int vofr, .int vokd, .int vonu, .int vosg, .int vofa, .int vopl, .long vowd, .int votd, .ref vmn, .ref vmr, .ref vmk, .ref vms, .ref vma, .ref vmm, .ref vmrn, .ref vmkn, .ref vmik, .ref vmon, .int vosm, .int vohp, .ref vmw, .ref vmf, .ref vmb, .int vomb, .ref vmd, .ref vmc, .int vocm, .int voct, .int vocy, .ref vmx, .int votx, .int vose, .ref vml, .ref vmwr, .int voln, .int vohw, .ref vmno, .int vond, .int voon, .int vowi, .int votop]))] := hD
  refine lv_iconst (v := 2) hx hb dX11_may_9 (by decide) ?_
  have k_2 : (2 : Int32).toInt = 2 := by decide
  refine lv_icmp_eq (tgt := 17) hx hb dX11_may_10 (by decide) (fun c_7 => ?_) (fun c_7 => ?_)
  · skip
    have c_7 : r_1.toInt = (2 : Int32).toInt := i_eq.mp c_7
    refine lv_aload_n hx hb dX11_may_17 rfl (lv_at hl 0 rfl) ?_
    refine jn_v (wr := [(vmt, .inl (cy 0, 940, .inl vmtf)), (vmb, .inl (cy 0, 10, .inl vmbf))]) (rV (As := []) (rest := []) (ci := 12) ⟨hx, hb, hml, hown, hts⟩ (m_layWays l dC dI cy _ vnh vo 0 vmt votp_4 vosz volm voto vofr vokd vonu vosg vofa vopl vowd votd vmn vmr vmk vms vma vmm vmrn vmkn vmik vmon vosm vohp vmw vmf vmb vomb vmd vmc vocm voct vocy vmx votx vose vml vmwr voln vohw vmno vond voon vowi votop vmnf vmwf vmff p_vmnf p_vmff) (cw_X11_316 hts rfl rfl ⟨Nat.le_of_ble_eq_true rfl, Nat.le_of_ble_eq_true rfl⟩) hP hD hK [5, 1, 2, 3] rfl rfl rfl rfl bl0 e0 rfl hl.1 rfl (Nat.le_of_ble_eq_true rfl) dX11_may_18 ⟨Nat.le_of_ble_eq_true rfl, Nat.le_of_ble_eq_true rfl⟩) hP hD hS hA [5, 1, 2, 3] [0, 4] rfl rfl rfl (by decide) (fun u_10 H locs hp_9 hP hD hS => ?_)
    obtain ⟨vmwf_11, vmff_12⟩ := u_10
    have hp_9 : (Rg vmff_12 5632 0 100000) ∧ (LWA vmff_12 vmnf) := hp_9
    obtain ⟨q_13, q_14⟩ := hp_9
    have hP : va_P (dC, dI) vwCl [(vmt, .inl (cy 0, 940, .inl vmtf)), (vmb, .inl (cy 0, 10, .inl vmbf)), (vo, .inr (12, [.int 0, .ref vmt, .int votp_4, .int vosz, .int volm, .int voto, .int vofr, .int vokd, .int vonu, .int vosg, .int vofa, .int vopl, .long vowd, .int votd, .ref vmn, .ref vmr, .ref vmk, .ref vms, .ref vma, .ref vmm, .ref vmrn, .ref vmkn, .ref vmik, .ref vmon, .int vosm, .int vohp, .ref vmw, .ref vmf, .ref vmb, .int vomb, .ref vmd, .ref vmc, .int vocm, .int voct, .int vocy, .ref vmx, .int votx, .int vose, .ref vml, .ref vmwr, .int voln, .int vohw, .ref vmno, .int vond, .int voon, .int vowi, .int votop])), (vmn, .inl (cy 0, 575, .inl vmnf)), (vmw, .inl (cy 1, 5632, .inr (.inl vmwf_11))), (vmf, .inl (cy 0, 5632, .inl vmff_12))] H := hP
    have hD : va_D A [(vmt, .inl (cy 0, 940, .inl vmtf)), (vmb, .inl (cy 0, 10, .inl vmbf)), (vo, .inr (12, [.int 0, .ref vmt, .int votp_4, .int vosz, .int volm, .int voto, .int vofr, .int vokd, .int vonu, .int vosg, .int vofa, .int vopl, .long vowd, .int votd, .ref vmn, .ref vmr, .ref vmk, .ref vms, .ref vma, .ref vmm, .ref vmrn, .ref vmkn, .ref vmik, .ref vmon, .int vosm, .int vohp, .ref vmw, .ref vmf, .ref vmb, .int vomb, .ref vmd, .ref vmc, .int vocm, .int voct, .int vocy, .ref vmx, .int votx, .int vose, .ref vml, .ref vmwr, .int voln, .int vohw, .ref vmno, .int vond, .int voon, .int vowi, .int votop])), (vmn, .inl (cy 0, 575, .inl vmnf)), (vmw, .inl (cy 1, 5632, .inr (.inl vmwf_11))), (vmf, .inl (cy 0, 5632, .inl vmff_12))] := hD
    refine lv_aload_n hx hb dX11_may_21 rfl (lv_at hl 0 rfl) ?_
    refine gf_X11_133 hx hb hts hown hK hP 2 rfl rfl dX11_may_22 ?_
    refine lv_iconst (v := 0) hx hb dX11_may_25 (by decide) ?_
    refine lv_iconst (v := 0) hx hb dX11_may_26 (by decide) ?_
    refine lv_aload_n hx hb dX11_may_27 rfl (lv_at hl 0 rfl) ?_
    refine gf_X11_7 hx hb hts hown hK hP 2 rfl rfl dX11_may_28 ?_
    refine lv_iconst (v := 0) hx hb dX11_may_31 (by decide) ?_
    have hin_15 : vp_in (0 : Int32) 940 := vp_in_iff.mpr ⟨by omega, by omega⟩
    refine va_iald hx hb hK hP 0 0 rfl rfl hin_15 dX11_may_32 ?_
    refine lv_topi (fun z_16 ez_16 => ?_)
    have bz_16 := p_vmtf.at hin_15 ez_16
    refine jr_i (rSr (As := [.int 0, .int 0, .int z_16]) (rest := [.ref vmw]) ⟨hx, hb, hml, hown, hts⟩ (m_cellOf l dC dI cy 0 0 z_16 ⟨by omega, by omega⟩ ⟨by omega, by omega⟩ ⟨by omega, by omega⟩) (cw_X11_306 hts rfl rfl ⟨Nat.le_of_ble_eq_true rfl, Nat.le_of_ble_eq_true rfl⟩) hP hK [] rfl rfl hl.1 rfl (Nat.le_of_ble_eq_true rfl) dX11_may_33 ⟨Nat.le_of_ble_eq_true rfl, Nat.le_of_ble_eq_true rfl⟩) hP hS (fun r_17 H locs hp_18 hP hS => ?_)
    have hp_18 : (0 ≤ (r_17 : Int32).toInt ∧ (r_17 : Int32).toInt ≤ 5631) ∧ ((r_17 : Int32).toInt = 512 * (0 : Int32).toInt + 256 * (0 : Int32).toInt + (z_16 : Int32).toInt) := hp_18
    obtain ⟨q_19, q_20⟩ := hp_18
    have hin_21 : vp_in r_17 5632 := vp_in_iff.mpr ⟨by omega, by omega⟩
    refine va_lald hx hb hK hP 4 1 rfl rfl hin_21 dX11_may_36 ?_
    refine lv_topl (fun y_22 ey_22 => ?_)
    refine lv_aload_n hx hb dX11_may_37 rfl (lv_at hl 0 rfl) ?_
    refine gf_X11_133 hx hb hts hown hK hP 2 rfl rfl dX11_may_38 ?_
    refine lv_iconst (v := 0) hx hb dX11_may_41 (by decide) ?_
    refine lv_iconst (v := 1) hx hb dX11_may_42 (by decide) ?_
    refine lv_aload_n hx hb dX11_may_43 rfl (lv_at hl 0 rfl) ?_
    refine gf_X11_7 hx hb hts hown hK hP 2 rfl rfl dX11_may_44 ?_
    refine lv_iconst (v := 1) hx hb dX11_may_47 (by decide) ?_
    have k_1 : (1 : Int32).toInt = 1 := by decide
    have hin_23 : vp_in (1 : Int32) 940 := vp_in_iff.mpr ⟨by omega, by omega⟩
    refine va_iald hx hb hK hP 0 0 rfl rfl hin_23 dX11_may_48 ?_
    refine lv_topi (fun z_24 ez_24 => ?_)
    have bz_24 := p_vmtf.at hin_23 ez_24
    refine jr_i (rSr (As := [.int 0, .int 1, .int z_24]) (rest := [.ref vmw, .long y_22]) ⟨hx, hb, hml, hown, hts⟩ (m_cellOf l dC dI cy 0 1 z_24 ⟨by omega, by omega⟩ ⟨by omega, by omega⟩ ⟨by omega, by omega⟩) (cw_X11_306 hts rfl rfl ⟨Nat.le_of_ble_eq_true rfl, Nat.le_of_ble_eq_true rfl⟩) hP hK [] rfl rfl hl.1 rfl (Nat.le_of_ble_eq_true rfl) dX11_may_49 ⟨Nat.le_of_ble_eq_true rfl, Nat.le_of_ble_eq_true rfl⟩) hP hS (fun r_25 H locs hp_26 hP hS => ?_)
    have hp_26 : (0 ≤ (r_25 : Int32).toInt ∧ (r_25 : Int32).toInt ≤ 5631) ∧ ((r_25 : Int32).toInt = 512 * (0 : Int32).toInt + 256 * (1 : Int32).toInt + (z_24 : Int32).toInt) := hp_26
    obtain ⟨q_27, q_28⟩ := hp_26
    have hin_29 : vp_in r_25 5632 := vp_in_iff.mpr ⟨by omega, by omega⟩
    refine va_lald hx hb hK hP 4 1 rfl rfl hin_29 dX11_may_52 ?_
    refine lv_topl (fun y_30 ey_30 => ?_)
    refine lv_lmul hx hb dX11_may_53 ?_
    refine lv_topl (fun y_31 ey_31 => ?_)
    refine lv_lstore_n (lv' := [(1, .long y_31), (0, .ref vo)]) hx hb dX11_may_54 rfl hl (by decide) rfl (fun ls hl => ?_)
    refine lv_lload_n hx hb dX11_may_55 rfl (lv_at hl 0 rfl) ?_
    refine lv_lconst (v := 0) hx hb dX11_may_56 (by decide) ?_
    refine W.lcmp hx hb dX11_may_57 ?_
    refine lv_topi (fun z_32 ez_32 => ?_)
    refine lv_if_ne (tgt := 63) hx hb dX11_may_58 (by decide) (fun c_33 => ?_) (fun c_33 => ?_)
    · skip
      have c_33 : ¬ (z_32.toInt = (0 : Int32).toInt) := fun h9 => c_33 (i_eq.mpr h9)
      refine lv_iconst (v := 0) hx hb dX11_may_63 (by decide) ?_
      refine lv_istore_n (lv' := [(3, .int 0), (1, .long y_31), (0, .ref vo)]) hx hb dX11_may_64 rfl hl (by decide) rfl (fun ls hl => ?_)
      have loop34 : ∀ (n34 : Nat) (x_35 : Int32) (g_36 : Nat → Int32), (0 ≤ x_35.toInt ∧ x_35.toInt ≤ 2) → 2 - x_35.toInt < (n34 : Int) → ∀ (H : Heap) (locs : List Loc), va_P (dC, dI) vwCl [(vmt, .inl (cy 0, 940, .inl vmtf)), (vmb, .inl (cy 0, 10, .inl g_36)), (vo, .inr (12, [.int 0, .ref vmt, .int votp_4, .int vosz, .int volm, .int voto, .int vofr, .int vokd, .int vonu, .int vosg, .int vofa, .int vopl, .long vowd, .int votd, .ref vmn, .ref vmr, .ref vmk, .ref vms, .ref vma, .ref vmm, .ref vmrn, .ref vmkn, .ref vmik, .ref vmon, .int vosm, .int vohp, .ref vmw, .ref vmf, .ref vmb, .int vomb, .ref vmd, .ref vmc, .int vocm, .int voct, .int vocy, .ref vmx, .int votx, .int vose, .ref vml, .ref vmwr, .int voln, .int vohw, .ref vmno, .int vond, .int voon, .int vowi, .int votop])), (vmn, .inl (cy 0, 575, .inl vmnf)), (vmw, .inl (cy 1, 5632, .inr (.inl vmwf_11))), (vmf, .inl (cy 0, 5632, .inl vmff_12))] H → va_D A [(vmt, .inl (cy 0, 940, .inl vmtf)), (vmb, .inl (cy 0, 10, .inl g_36)), (vo, .inr (12, [.int 0, .ref vmt, .int votp_4, .int vosz, .int volm, .int voto, .int vofr, .int vokd, .int vonu, .int vosg, .int vofa, .int vopl, .long vowd, .int votd, .ref vmn, .ref vmr, .ref vmk, .ref vms, .ref vma, .ref vmm, .ref vmrn, .ref vmkn, .ref vmik, .ref vmon, .int vosm, .int vohp, .ref vmw, .ref vmf, .ref vmb, .int vomb, .ref vmd, .ref vmc, .int vocm, .int voct, .int vocy, .ref vmx, .int votx, .int vose, .ref vml, .ref vmwr, .int voln, .int vohw, .ref vmno, .int vond, .int voon, .int vowi, .int votop])), (vmn, .inl (cy 0, 575, .inl vmnf)), (vmw, .inl (cy 1, 5632, .inr (.inl vmwf_11))), (vmf, .inl (cy 0, 5632, .inl vmff_12))] → va_S A s.heap H locs → ∀ ls : Array Slot, lv_has ls 7 [(3, .int x_35), (1, .long y_31), (0, .ref vo)] → W p l e ({ frames := 3, cells := 0, slots := 0, locals := 192 }) s m av9 below meth c H locs 0 0 Q9 (F0 m 65 ls []) := by
        intro n34
        induction n34 with
        | zero =>
          intro x_35 g_36 bx_35 hn34 H locs hP hD hS ls hl
          exfalso; omega
        | succ n34 ih34 =>
          intro x_35 g_36 bx_35 hn34 H locs hP hD hS ls hl
          refine lv_iload_n hx hb dX11_may_65 rfl (lv_at hl 0 rfl) ?_
          refine lv_iconst (v := 2) hx hb dX11_may_66 (by decide) ?_
          refine lv_icmp_ge (tgt := 205) hx hb dX11_may_67 (by decide) (fun c_37 => ?_) (fun c_37 => ?_)
          · skip
            have c_37 : (2 : Int32).toInt ≤ x_35.toInt := i_le.mp c_37
            refine lv_aload_n hx hb dX11_may_205 rfl (lv_at hl 2 rfl) ?_
            refine lv_aload_n hx hb dX11_may_206 rfl (lv_at hl 2 rfl) ?_
            refine gf_X11_98 hx hb hts hown hK hP 2 rfl rfl dX11_may_207 ?_
            refine lv_iconst (v := 1) hx hb dX11_may_210 (by decide) ?_
            have hin_38 : vp_in (1 : Int32) 575 := vp_in_iff.mpr ⟨by omega, by omega⟩
            refine va_iald hx hb hK hP 3 0 rfl rfl hin_38 dX11_may_211 ?_
            refine lv_topi (fun z_39 ez_39 => ?_)
            have bz_39 := p_vmnf.a1 (x := 1) ⟨by omega, by omega⟩ ez_39
            have tz_39 : z_39.toInt = (vmnf 1).toInt := by rw [ez_39]; rfl
            refine pf_X11_319 hx hb hts hown hK hP hD hS 2 rfl rfl rfl (Nat.le_of_ble_eq_true rfl) dX11_may_212 (fun H locs hP hD hS => ?_)
            have hP : va_P (dC, dI) vwCl [(vmt, .inl (cy 0, 940, .inl vmtf)), (vmb, .inl (cy 0, 10, .inl g_36)), (vo, .inr (12, [.int 0, .ref vmt, .int votp_4, .int vosz, .int volm, .int voto, .int vofr, .int vokd, .int vonu, .int vosg, .int vofa, .int vopl, .long vowd, .int votd, .ref vmn, .ref vmr, .ref vmk, .ref vms, .ref vma, .ref vmm, .ref vmrn, .ref vmkn, .ref vmik, .ref vmon, .int vosm, .int vohp, .ref vmw, .ref vmf, .ref vmb, .int z_39, .ref vmd, .ref vmc, .int vocm, .int voct, .int vocy, .ref vmx, .int votx, .int vose, .ref vml, .ref vmwr, .int voln, .int vohw, .ref vmno, .int vond, .int voon, .int vowi, .int votop])), (vmn, .inl (cy 0, 575, .inl vmnf)), (vmw, .inl (cy 1, 5632, .inr (.inl vmwf_11))), (vmf, .inl (cy 0, 5632, .inl vmff_12))] H := hP
            have hD : va_D A [(vmt, .inl (cy 0, 940, .inl vmtf)), (vmb, .inl (cy 0, 10, .inl g_36)), (vo, .inr (12, [.int 0, .ref vmt, .int votp_4, .int vosz, .int volm, .int voto, .int vofr, .int vokd, .int vonu, .int vosg, .int vofa, .int vopl, .long vowd, .int votd, .ref vmn, .ref vmr, .ref vmk, .ref vms, .ref vma, .ref vmm, .ref vmrn, .ref vmkn, .ref vmik, .ref vmon, .int vosm, .int vohp, .ref vmw, .ref vmf, .ref vmb, .int z_39, .ref vmd, .ref vmc, .int vocm, .int voct, .int vocy, .ref vmx, .int votx, .int vose, .ref vml, .ref vmwr, .int voln, .int vohw, .ref vmno, .int vond, .int voon, .int vowi, .int votop])), (vmn, .inl (cy 0, 575, .inl vmnf)), (vmw, .inl (cy 1, 5632, .inr (.inl vmwf_11))), (vmf, .inl (cy 0, 5632, .inl vmff_12))] := hD
            refine lv_lload_n hx hb dX11_may_215 rfl (lv_at hl 1 rfl) ?_
            rw [hQ9]
            exact re_l ((0 : Int32), votp_4, vmwf_11, vmff_12, g_36, z_39) hx hb hr hlocks ⟨(show 0 ≤ (votp_4 : Int32).toInt ∧ (votp_4 : Int32).toInt ≤ 0 from ⟨by omega, by omega⟩), (show Rg vmff_12 5632 0 100000 from q_13), (show 0 ≤ (z_39 : Int32).toInt ∧ (z_39 : Int32).toInt ≤ 10 from ⟨by omega, by omega⟩)⟩ (hP.sub [2, 0, 3, 4, 5, 1] rfl) (hD.sub [2, 0, 3, 4, 5, 1] rfl rfl) hS dX11_may_216
          · skip
            have c_37 : ¬ ((2 : Int32).toInt ≤ x_35.toInt) := fun h9 => c_37 (i_le.mpr h9)
            refine lv_aload_n hx hb dX11_may_70 rfl (lv_at hl 2 rfl) ?_
            refine gf_X11_7 hx hb hts hown hK hP 2 rfl rfl dX11_may_71 ?_
            refine lv_iload_n hx hb dX11_may_74 rfl (lv_at hl 0 rfl) ?_
            have hin_40 : vp_in x_35 940 := vp_in_iff.mpr ⟨by omega, by omega⟩
            refine va_iald hx hb hK hP 0 0 rfl rfl hin_40 dX11_may_75 ?_
            refine lv_topi (fun z_41 ez_41 => ?_)
            have bz_41 := p_vmtf.at hin_40 ez_41
            refine lv_istore (lv' := [(4, .int z_41), (3, .int x_35), (1, .long y_31), (0, .ref vo)]) hx hb dX11_may_76 hl (by decide) rfl (fun ls hl => ?_)
            refine lv_iconst (v := 0) hx hb dX11_may_78 (by decide) ?_
            refine lv_istore (lv' := [(5, .int 0), (4, .int z_41), (3, .int x_35), (1, .long y_31), (0, .ref vo)]) hx hb dX11_may_79 hl (by decide) rfl (fun ls hl => ?_)
            have loop42 : ∀ (n42 : Nat) (x_44 : Int32) (x_43 : Int32) (g_45 : Nat → Int32), (0 ≤ x_44.toInt ∧ x_44.toInt ≤ 255) → (0 ≤ x_43.toInt ∧ x_43.toInt ≤ 10) → 10 - x_43.toInt < (n42 : Int) → ∀ (H : Heap) (locs : List Loc), va_P (dC, dI) vwCl [(vmt, .inl (cy 0, 940, .inl vmtf)), (vmb, .inl (cy 0, 10, .inl g_45)), (vo, .inr (12, [.int 0, .ref vmt, .int votp_4, .int vosz, .int volm, .int voto, .int vofr, .int vokd, .int vonu, .int vosg, .int vofa, .int vopl, .long vowd, .int votd, .ref vmn, .ref vmr, .ref vmk, .ref vms, .ref vma, .ref vmm, .ref vmrn, .ref vmkn, .ref vmik, .ref vmon, .int vosm, .int vohp, .ref vmw, .ref vmf, .ref vmb, .int vomb, .ref vmd, .ref vmc, .int vocm, .int voct, .int vocy, .ref vmx, .int votx, .int vose, .ref vml, .ref vmwr, .int voln, .int vohw, .ref vmno, .int vond, .int voon, .int vowi, .int votop])), (vmn, .inl (cy 0, 575, .inl vmnf)), (vmw, .inl (cy 1, 5632, .inr (.inl vmwf_11))), (vmf, .inl (cy 0, 5632, .inl vmff_12))] H → va_D A [(vmt, .inl (cy 0, 940, .inl vmtf)), (vmb, .inl (cy 0, 10, .inl g_45)), (vo, .inr (12, [.int 0, .ref vmt, .int votp_4, .int vosz, .int volm, .int voto, .int vofr, .int vokd, .int vonu, .int vosg, .int vofa, .int vopl, .long vowd, .int votd, .ref vmn, .ref vmr, .ref vmk, .ref vms, .ref vma, .ref vmm, .ref vmrn, .ref vmkn, .ref vmik, .ref vmon, .int vosm, .int vohp, .ref vmw, .ref vmf, .ref vmb, .int vomb, .ref vmd, .ref vmc, .int vocm, .int voct, .int vocy, .ref vmx, .int votx, .int vose, .ref vml, .ref vmwr, .int voln, .int vohw, .ref vmno, .int vond, .int voon, .int vowi, .int votop])), (vmn, .inl (cy 0, 575, .inl vmnf)), (vmw, .inl (cy 1, 5632, .inr (.inl vmwf_11))), (vmf, .inl (cy 0, 5632, .inl vmff_12))] → va_S A s.heap H locs → ∀ ls : Array Slot, lv_has ls 7 [(5, .int x_43), (4, .int x_44), (3, .int x_35), (1, .long y_31), (0, .ref vo)] → W p l e ({ frames := 3, cells := 0, slots := 0, locals := 192 }) s m av9 below meth c H locs 0 0 Q9 (F0 m 81 ls []) := by
              intro n42
              induction n42 with
              | zero =>
                intro x_44 x_43 g_45 bx_44 bx_43 hn42 H locs hP hD hS ls hl
                exfalso; omega
              | succ n42 ih42 =>
                intro x_44 x_43 g_45 bx_44 bx_43 hn42 H locs hP hD hS ls hl
                refine lv_iload hx hb dX11_may_81 (lv_at hl 0 rfl) ?_
                refine lv_aload_n hx hb dX11_may_83 rfl (lv_at hl 4 rfl) ?_
                refine gf_X11_98 hx hb hts hown hK hP 2 rfl rfl dX11_may_84 ?_
                refine lv_iconst (v := 1) hx hb dX11_may_87 (by decide) ?_
                have hin_46 : vp_in (1 : Int32) 575 := vp_in_iff.mpr ⟨by omega, by omega⟩
                refine va_iald hx hb hK hP 3 0 rfl rfl hin_46 dX11_may_88 ?_
                refine lv_topi (fun z_47 ez_47 => ?_)
                have bz_47 := p_vmnf.a1 (x := 1) ⟨by omega, by omega⟩ ez_47
                have tz_47 : z_47.toInt = (vmnf 1).toInt := by rw [ez_47]; rfl
                refine lv_icmp_ge (tgt := 199) hx hb dX11_may_89 (by decide) (fun c_48 => ?_) (fun c_48 => ?_)
                · skip
                  have c_48 : z_47.toInt ≤ x_43.toInt := i_le.mp c_48
                  obtain ⟨z_49, ez_49⟩ : ∃ z : Int32, z = x_35 + 1 := ⟨_, rfl⟩
                  have bz_49 : z_49.toInt = x_35.toInt + (1 : Int32).toInt := i_add ez_49 (by omega) (by omega)
                  refine lv_iinc (v := z_49) (lv' := [(3, .int z_49), (5, .int x_43), (4, .int x_44), (1, .long y_31), (0, .ref vo)]) hx hb dX11_may_199 hl (k := 2) rfl ez_49.symm (by decide) rfl (fun ls hl => ?_)
                  refine lv_goto (tgt := 65) hx hb dX11_may_202 (by decide) ?_
                  exact ih34 z_49 g_45 ⟨by omega, by omega⟩ (by omega) _ _ (hP.sub [0, 1, 2, 3, 4, 5] rfl) (hD.sub [0, 1, 2, 3, 4, 5] rfl rfl) hS ls (lv_sub hl [0, 3, 4] rfl)
                · skip
                  have c_48 : ¬ (z_47.toInt ≤ x_43.toInt) := fun h9 => c_48 (i_le.mpr h9)
                  refine lv_aload_n hx hb dX11_may_92 rfl (lv_at hl 4 rfl) ?_
                  refine gf_X11_98 hx hb hts hown hK hP 2 rfl rfl dX11_may_93 ?_
                  refine lv_bipush (v := 21) hx hb dX11_may_96 (by decide) ?_
                  refine lv_iload hx hb dX11_may_98 (lv_at hl 0 rfl) ?_
                  refine lv_iadd hx hb dX11_may_100 ?_
                  refine lv_topi (fun z_50 ez_50 => ?_)
                  have k_21 : (21 : Int32).toInt = 21 := by decide
                  have bz_50 : z_50.toInt = (21 : Int32).toInt + x_43.toInt := i_add ez_50 (by omega) (by omega)
                  have hin_51 : vp_in z_50 575 := vp_in_iff.mpr ⟨by omega, by omega⟩
                  refine va_iald hx hb hK hP 3 0 rfl rfl hin_51 dX11_may_101 ?_
                  refine lv_topi (fun z_52 ez_52 => ?_)
                  refine lv_iload_n hx hb dX11_may_102 rfl (lv_at hl 2 rfl) ?_
                  refine lv_icmp_eq (tgt := 109) hx hb dX11_may_103 (by decide) (fun c_53 => ?_) (fun c_53 => ?_)
                  · skip
                    have c_53 : z_52.toInt = x_35.toInt := i_eq.mp c_53
                    refine lv_iconst (v := 0) hx hb dX11_may_109 (by decide) ?_
                    refine lv_istore (lv' := [(6, .int 0), (5, .int x_43), (4, .int x_44), (3, .int x_35), (1, .long y_31), (0, .ref vo)]) hx hb dX11_may_110 hl (by decide) rfl (fun ls hl => ?_)
                    have loop54 : ∀ (n54 : Nat) (x_55 : Int32), (0 ≤ x_55.toInt ∧ x_55.toInt ≤ 10) → (WH vmff_12 vmnf (512 * x_43.toInt + 256 * x_35.toInt + x_44.toInt).toNat x_55.toInt) → 10 - x_55.toInt < (n54 : Int) → ∀ (H : Heap) (locs : List Loc), va_P (dC, dI) vwCl [(vmt, .inl (cy 0, 940, .inl vmtf)), (vmb, .inl (cy 0, 10, .inl g_45)), (vo, .inr (12, [.int 0, .ref vmt, .int votp_4, .int vosz, .int volm, .int voto, .int vofr, .int vokd, .int vonu, .int vosg, .int vofa, .int vopl, .long vowd, .int votd, .ref vmn, .ref vmr, .ref vmk, .ref vms, .ref vma, .ref vmm, .ref vmrn, .ref vmkn, .ref vmik, .ref vmon, .int vosm, .int vohp, .ref vmw, .ref vmf, .ref vmb, .int vomb, .ref vmd, .ref vmc, .int vocm, .int voct, .int vocy, .ref vmx, .int votx, .int vose, .ref vml, .ref vmwr, .int voln, .int vohw, .ref vmno, .int vond, .int voon, .int vowi, .int votop])), (vmn, .inl (cy 0, 575, .inl vmnf)), (vmw, .inl (cy 1, 5632, .inr (.inl vmwf_11))), (vmf, .inl (cy 0, 5632, .inl vmff_12))] H → va_D A [(vmt, .inl (cy 0, 940, .inl vmtf)), (vmb, .inl (cy 0, 10, .inl g_45)), (vo, .inr (12, [.int 0, .ref vmt, .int votp_4, .int vosz, .int volm, .int voto, .int vofr, .int vokd, .int vonu, .int vosg, .int vofa, .int vopl, .long vowd, .int votd, .ref vmn, .ref vmr, .ref vmk, .ref vms, .ref vma, .ref vmm, .ref vmrn, .ref vmkn, .ref vmik, .ref vmon, .int vosm, .int vohp, .ref vmw, .ref vmf, .ref vmb, .int vomb, .ref vmd, .ref vmc, .int vocm, .int voct, .int vocy, .ref vmx, .int votx, .int vose, .ref vml, .ref vmwr, .int voln, .int vohw, .ref vmno, .int vond, .int voon, .int vowi, .int votop])), (vmn, .inl (cy 0, 575, .inl vmnf)), (vmw, .inl (cy 1, 5632, .inr (.inl vmwf_11))), (vmf, .inl (cy 0, 5632, .inl vmff_12))] → va_S A s.heap H locs → ∀ ls : Array Slot, lv_has ls 7 [(6, .int x_55), (5, .int x_43), (4, .int x_44), (3, .int x_35), (1, .long y_31), (0, .ref vo)] → W p l e ({ frames := 3, cells := 0, slots := 0, locals := 192 }) s m av9 below meth c H locs 0 0 Q9 (F0 m 112 ls []) := by
                      intro n54
                      induction n54 with
                      | zero =>
                        intro x_55 bx_55 v54_0 hn54 H locs hP hD hS ls hl
                        exfalso; omega
                      | succ n54 ih54 =>
                        intro x_55 bx_55 v54_0 hn54 H locs hP hD hS ls hl
                        refine lv_aload_n hx hb dX11_may_112 rfl (lv_at hl 5 rfl) ?_
                        refine gf_X11_136 hx hb hts hown hK hP 2 rfl rfl dX11_may_113 ?_
                        refine lv_iload hx hb dX11_may_116 (lv_at hl 1 rfl) ?_
                        refine lv_iconst (v := 1) hx hb dX11_may_118 (by decide) ?_
                        refine lv_iadd hx hb dX11_may_119 ?_
                        refine lv_topi (fun z_56 ez_56 => ?_)
                        have bz_56 : z_56.toInt = x_43.toInt + (1 : Int32).toInt := i_add ez_56 (by omega) (by omega)
                        refine lv_iload_n hx hb dX11_may_120 rfl (lv_at hl 3 rfl) ?_
                        refine lv_iload hx hb dX11_may_121 (lv_at hl 2 rfl) ?_
                        refine lv_iload hx hb dX11_may_123 (lv_at hl 0 rfl) ?_
                        refine lv_aload_n hx hb dX11_may_125 rfl (lv_at hl 5 rfl) ?_
                        refine gf_X11_98 hx hb hts hown hK hP 2 rfl rfl dX11_may_126 ?_
                        refine lv_bipush (v := 11) hx hb dX11_may_129 (by decide) ?_
                        refine lv_iload hx hb dX11_may_131 (lv_at hl 1 rfl) ?_
                        refine lv_iadd hx hb dX11_may_133 ?_
                        refine lv_topi (fun z_57 ez_57 => ?_)
                        have k_11 : (11 : Int32).toInt = 11 := by decide
                        have bz_57 : z_57.toInt = (11 : Int32).toInt + x_43.toInt := i_add ez_57 (by omega) (by omega)
                        have hin_58 : vp_in z_57 575 := vp_in_iff.mpr ⟨by omega, by omega⟩
                        refine va_iald hx hb hK hP 3 0 rfl rfl hin_58 dX11_may_134 ?_
                        refine lv_topi (fun z_59 ez_59 => ?_)
                        have bz_59 := p_vmnf.aw (x := z_57) ⟨by omega, by omega⟩ ez_59
                        have hw_z_59 := WH.le (x := x_55) v54_0 (by omega) ⟨by omega, by omega⟩ ⟨by omega, by omega⟩ ⟨by omega, by omega⟩ (i1 := z_57) (by omega) ez_59 (by omega)
                        refine lv_imul hx hb dX11_may_135 ?_
                        refine lv_topi (fun z_60 ez_60 => ?_)
                        have bz_60 : 0 ≤ z_60.toInt ∧ z_60.toInt ≤ 400 ∧ z_60.toInt = x_55.toInt * z_59.toInt := i_mulb (A := 10) (B := 40) ez_60 ⟨by omega, by omega⟩ ⟨by omega, by omega⟩ (by decide)
                        refine lv_isub hx hb dX11_may_136 ?_
                        refine lv_topi (fun z_61 ez_61 => ?_)
                        have bz_61 : z_61.toInt = x_44.toInt - z_60.toInt := i_sub ez_61 (by omega) (by omega)
                        refine jr_i (rSr (As := [.int z_56, .int x_35, .int z_61]) (rest := [.ref vmf]) ⟨hx, hb, hml, hown, hts⟩ (m_cellOf l dC dI cy z_56 x_35 z_61 ⟨by omega, by omega⟩ ⟨by omega, by omega⟩ ⟨by omega, by omega⟩) (cw_X11_306 hts rfl rfl ⟨Nat.le_of_ble_eq_true rfl, Nat.le_of_ble_eq_true rfl⟩) hP hK [] rfl rfl hl.1 rfl (Nat.le_of_ble_eq_true rfl) dX11_may_137 ⟨Nat.le_of_ble_eq_true rfl, Nat.le_of_ble_eq_true rfl⟩) hP hS (fun r_62 H locs hp_63 hP hS => ?_)
                        have hp_63 : (0 ≤ (r_62 : Int32).toInt ∧ (r_62 : Int32).toInt ≤ 5631) ∧ ((r_62 : Int32).toInt = 512 * (z_56 : Int32).toInt + 256 * (x_35 : Int32).toInt + (z_61 : Int32).toInt) := hp_63
                        obtain ⟨q_64, q_65⟩ := hp_63
                        have hin_66 : vp_in r_62 5632 := vp_in_iff.mpr ⟨by omega, by omega⟩
                        refine va_iald hx hb hK hP 5 0 rfl rfl hin_66 dX11_may_140 ?_
                        refine lv_topi (fun z_67 ez_67 => ?_)
                        have bz_67 := q_13.at hin_66 ez_67
                        refine lv_iload hx hb dX11_may_141 (lv_at hl 0 rfl) ?_
                        refine lv_iadd hx hb dX11_may_143 ?_
                        refine lv_topi (fun z_68 ez_68 => ?_)
                        have bz_68 : z_68.toInt = z_67.toInt + x_55.toInt := i_add ez_68 (by omega) (by omega)
                        refine lv_aload_n hx hb dX11_may_144 rfl (lv_at hl 5 rfl) ?_
                        refine gf_X11_136 hx hb hts hown hK hP 2 rfl rfl dX11_may_145 ?_
                        refine lv_iload hx hb dX11_may_148 (lv_at hl 1 rfl) ?_
                        refine lv_iload_n hx hb dX11_may_150 rfl (lv_at hl 3 rfl) ?_
                        refine lv_iload hx hb dX11_may_151 (lv_at hl 2 rfl) ?_
                        refine jr_i (rSr (As := [.int x_43, .int x_35, .int x_44]) (rest := [.ref vmf, .int z_68]) ⟨hx, hb, hml, hown, hts⟩ (m_cellOf l dC dI cy x_43 x_35 x_44 ⟨by omega, by omega⟩ ⟨by omega, by omega⟩ ⟨by omega, by omega⟩) (cw_X11_306 hts rfl rfl ⟨Nat.le_of_ble_eq_true rfl, Nat.le_of_ble_eq_true rfl⟩) hP hK [] rfl rfl hl.1 rfl (Nat.le_of_ble_eq_true rfl) dX11_may_153 ⟨Nat.le_of_ble_eq_true rfl, Nat.le_of_ble_eq_true rfl⟩) hP hS (fun r_69 H locs hp_70 hP hS => ?_)
                        have hp_70 : (0 ≤ (r_69 : Int32).toInt ∧ (r_69 : Int32).toInt ≤ 5631) ∧ ((r_69 : Int32).toInt = 512 * (x_43 : Int32).toInt + 256 * (x_35 : Int32).toInt + (x_44 : Int32).toInt) := hp_70
                        obtain ⟨q_71, q_72⟩ := hp_70
                        have hin_73 : vp_in r_69 5632 := vp_in_iff.mpr ⟨by omega, by omega⟩
                        refine va_iald hx hb hK hP 5 0 rfl rfl hin_73 dX11_may_156 ?_
                        refine lv_topi (fun z_74 ez_74 => ?_)
                        have bz_74 := q_13.at hin_73 ez_74
                        refine lv_icmp_eq (tgt := 166) hx hb dX11_may_157 (by decide) (fun c_75 => ?_) (fun c_75 => ?_)
                        · skip
                          have c_75 : z_68.toInt = z_74.toInt := i_eq.mp c_75
                          refine lv_aload_n hx hb dX11_may_166 rfl (lv_at hl 5 rfl) ?_
                          refine gf_X11_139 hx hb hts hown hK hP 2 rfl rfl dX11_may_167 ?_
                          refine lv_iload hx hb dX11_may_170 (lv_at hl 1 rfl) ?_
                          refine lv_iload hx hb dX11_may_172 (lv_at hl 0 rfl) ?_
                          have hin_76 : vp_in x_43 10 := vp_in_iff.mpr ⟨by omega, by omega⟩
                          refine va_iast hx hb hK hP hD hS 1 0 rfl rfl hin_76 dX11_may_174 (fun H locs hP hD hS => ?_)
                          obtain ⟨f_77, ef_77⟩ : ∃ z : Nat → Int32, z = upd g_45 (Int32.toNatClampNeg x_43) x_55 := ⟨_, rfl⟩
                          have hP : va_P (dC, dI) vwCl [(vmt, .inl (cy 0, 940, .inl vmtf)), (vmb, .inl (cy 0, 10, .inl f_77)), (vo, .inr (12, [.int 0, .ref vmt, .int votp_4, .int vosz, .int volm, .int voto, .int vofr, .int vokd, .int vonu, .int vosg, .int vofa, .int vopl, .long vowd, .int votd, .ref vmn, .ref vmr, .ref vmk, .ref vms, .ref vma, .ref vmm, .ref vmrn, .ref vmkn, .ref vmik, .ref vmon, .int vosm, .int vohp, .ref vmw, .ref vmf, .ref vmb, .int vomb, .ref vmd, .ref vmc, .int vocm, .int voct, .int vocy, .ref vmx, .int votx, .int vose, .ref vml, .ref vmwr, .int voln, .int vohw, .ref vmno, .int vond, .int voon, .int vowi, .int votop])), (vmn, .inl (cy 0, 575, .inl vmnf)), (vmw, .inl (cy 1, 5632, .inr (.inl vmwf_11))), (vmf, .inl (cy 0, 5632, .inl vmff_12))] H := by rw [ef_77]; exact hP
                          have hD : va_D A [(vmt, .inl (cy 0, 940, .inl vmtf)), (vmb, .inl (cy 0, 10, .inl f_77)), (vo, .inr (12, [.int 0, .ref vmt, .int votp_4, .int vosz, .int volm, .int voto, .int vofr, .int vokd, .int vonu, .int vosg, .int vofa, .int vopl, .long vowd, .int votd, .ref vmn, .ref vmr, .ref vmk, .ref vms, .ref vma, .ref vmm, .ref vmrn, .ref vmkn, .ref vmik, .ref vmon, .int vosm, .int vohp, .ref vmw, .ref vmf, .ref vmb, .int vomb, .ref vmd, .ref vmc, .int vocm, .int voct, .int vocy, .ref vmx, .int votx, .int vose, .ref vml, .ref vmwr, .int voln, .int vohw, .ref vmno, .int vond, .int voon, .int vowi, .int votop])), (vmn, .inl (cy 0, 575, .inl vmnf)), (vmw, .inl (cy 1, 5632, .inr (.inl vmwf_11))), (vmf, .inl (cy 0, 5632, .inl vmff_12))] := by rw [ef_77]; exact hD
                          refine lv_iload hx hb dX11_may_175 (lv_at hl 2 rfl) ?_
                          refine lv_iload hx hb dX11_may_177 (lv_at hl 0 rfl) ?_
                          refine lv_aload_n hx hb dX11_may_179 rfl (lv_at hl 5 rfl) ?_
                          refine gf_X11_98 hx hb hts hown hK hP 2 rfl rfl dX11_may_180 ?_
                          refine lv_bipush (v := 11) hx hb dX11_may_183 (by decide) ?_
                          refine lv_iload hx hb dX11_may_185 (lv_at hl 1 rfl) ?_
                          refine lv_iadd hx hb dX11_may_187 ?_
                          refine lv_topi (fun z_78 ez_78 => ?_)
                          have bz_78 : z_78.toInt = (11 : Int32).toInt + x_43.toInt := i_add ez_78 (by omega) (by omega)
                          have hin_79 : vp_in z_78 575 := vp_in_iff.mpr ⟨by omega, by omega⟩
                          refine va_iald hx hb hK hP 3 0 rfl rfl hin_79 dX11_may_188 ?_
                          refine lv_topi (fun z_80 ez_80 => ?_)
                          have bz_80 := p_vmnf.aw (x := z_78) ⟨by omega, by omega⟩ ez_80
                          refine as_i z_59 (i_eq.mpr (i_same ez_59 ez_80 (by omega))) ?_
                          refine lv_imul hx hb dX11_may_189 ?_
                          refine lv_topi (fun z_81 ez_81 => ?_)
                          have bz_81 : 0 ≤ z_81.toInt ∧ z_81.toInt ≤ 400 ∧ z_81.toInt = x_55.toInt * z_59.toInt := i_mulb (A := 10) (B := 40) ez_81 ⟨by omega, by omega⟩ ⟨by omega, by omega⟩ (by decide)
                          refine lv_isub hx hb dX11_may_190 ?_
                          refine lv_topi (fun z_82 ez_82 => ?_)
                          have bz_82 : z_82.toInt = x_44.toInt - z_81.toInt := i_sub ez_82 (by omega) (by omega)
                          refine lv_istore (lv' := [(4, .int z_82), (6, .int x_55), (5, .int x_43), (3, .int x_35), (1, .long y_31), (0, .ref vo)]) hx hb dX11_may_191 hl (by decide) rfl (fun ls hl => ?_)
                          obtain ⟨z_83, ez_83⟩ : ∃ z : Int32, z = x_43 + 1 := ⟨_, rfl⟩
                          have bz_83 : z_83.toInt = x_43.toInt + (1 : Int32).toInt := i_add ez_83 (by omega) (by omega)
                          refine lv_iinc (v := z_83) (lv' := [(5, .int z_83), (4, .int z_82), (6, .int x_55), (3, .int x_35), (1, .long y_31), (0, .ref vo)]) hx hb dX11_may_193 hl (k := 2) rfl ez_83.symm (by decide) rfl (fun ls hl => ?_)
                          refine lv_goto (tgt := 81) hx hb dX11_may_196 (by decide) ?_
                          exact ih42 z_82 z_83 f_77 ⟨by omega, by omega⟩ ⟨by omega, by omega⟩ (by omega) _ _ (hP.sub [0, 1, 2, 3, 4, 5] rfl) (hD.sub [0, 1, 2, 3, 4, 5] rfl rfl) hS ls (lv_sub hl [0, 1, 3, 4, 5] rfl)
                        · skip
                          have c_75 : ¬ (z_68.toInt = z_74.toInt) := fun h9 => c_75 (i_eq.mpr h9)
                          obtain ⟨z_84, ez_84⟩ : ∃ z : Int32, z = x_55 + 1 := ⟨_, rfl⟩
                          have bz_84 : z_84.toInt = x_55.toInt + (1 : Int32).toInt := i_add ez_84 (by omega) (by omega)
                          refine lv_iinc (v := z_84) (lv' := [(6, .int z_84), (5, .int x_43), (4, .int x_44), (3, .int x_35), (1, .long y_31), (0, .ref vo)]) hx hb dX11_may_160 hl (k := 0) rfl ez_84.symm (by decide) rfl (fun ls hl => ?_)
                          refine lv_goto (tgt := 112) hx hb dX11_may_163 (by decide) ?_
                          exact ih54 z_84 ⟨by omega, by omega⟩ (WH.next v54_0 (by omega) ⟨by omega, by omega⟩ ⟨by omega, by omega⟩ ⟨by omega, by omega⟩ (i1 := z_57) (by omega) ez_59 bz_60.2.2 ⟨by omega, by omega⟩ (nx := r_62) (by omega) ez_67 (v := z_68) (by omega) (r2 := r_69) (by omega) ez_74 c_75 (by omega)) (by omega) _ _ (hP.sub [0, 1, 2, 3, 4, 5] rfl) (hD.sub [0, 1, 2, 3, 4, 5] rfl rfl) hS ls (lv_sub hl [0, 1, 2, 3, 4, 5] rfl)
                    exact loop54 ((10 - (0 : Int32).toInt).toNat + 1) 0 ⟨by omega, by omega⟩ (WH.of (q_14 _ (by omega)) (by omega)) (by omega) _ _ hP hD hS ls (lv_sub hl [0, 1, 2, 3, 4, 5] rfl)
                  · skip
                    have c_53 : ¬ (z_52.toInt = x_35.toInt) := fun h9 => c_53 (i_eq.mpr h9)
                    refine lv_goto (tgt := 193) hx hb dX11_may_106 (by decide) ?_
                    obtain ⟨z_85, ez_85⟩ : ∃ z : Int32, z = x_43 + 1 := ⟨_, rfl⟩
                    have bz_85 : z_85.toInt = x_43.toInt + (1 : Int32).toInt := i_add ez_85 (by omega) (by omega)
                    refine lv_iinc (v := z_85) (lv' := [(5, .int z_85), (4, .int x_44), (3, .int x_35), (1, .long y_31), (0, .ref vo)]) hx hb dX11_may_193 hl (k := 0) rfl ez_85.symm (by decide) rfl (fun ls hl => ?_)
                    refine lv_goto (tgt := 81) hx hb dX11_may_196 (by decide) ?_
                    exact ih42 x_44 z_85 g_45 ⟨by omega, by omega⟩ ⟨by omega, by omega⟩ (by omega) _ _ (hP.sub [0, 1, 2, 3, 4, 5] rfl) (hD.sub [0, 1, 2, 3, 4, 5] rfl rfl) hS ls (lv_sub hl [0, 1, 2, 3, 4] rfl)
            exact loop42 ((10 - (0 : Int32).toInt).toNat + 1) z_41 0 g_36 ⟨by omega, by omega⟩ ⟨by omega, by omega⟩ (by omega) _ _ hP hD hS ls (lv_sub hl [0, 1, 2, 3, 4] rfl)
      exact loop34 ((2 - (0 : Int32).toInt).toNat + 1) 0 vmbf ⟨by omega, by omega⟩ (by omega) _ _ hP hD hS ls (lv_sub hl [0, 1, 2] rfl)
    · skip
      have c_33 : z_32.toInt = (0 : Int32).toInt := i_eq.mp c_33
      refine lv_lconst (v := 0) hx hb dX11_may_61 (by decide) ?_
      rw [hQ9]
      exact re_l ((0 : Int32), votp_4, vmwf_11, vmff_12, vmbf, vomb) hx hb hr hlocks ⟨(show 0 ≤ (votp_4 : Int32).toInt ∧ (votp_4 : Int32).toInt ≤ 0 from ⟨by omega, by omega⟩), (show Rg vmff_12 5632 0 100000 from q_13), (show 0 ≤ (vomb : Int32).toInt ∧ (vomb : Int32).toInt ≤ 10 from ⟨by omega, by omega⟩)⟩ (hP.sub [2, 0, 3, 4, 5, 1] rfl) (hD.sub [2, 0, 3, 4, 5, 1] rfl rfl) hS dX11_may_62
  · skip
    have c_7 : ¬ (r_1.toInt = (2 : Int32).toInt) := fun h9 => c_7 (i_eq.mpr h9)
    refine lv_ldc2 hx hb hown (hts _ t1885) dX11_may_13 ?_
    rw [hQ9]
    exact re_l ((0 : Int32), votp_4, vmwf, vmff, vmbf, vomb) hx hb hr hlocks ⟨(show 0 ≤ (votp_4 : Int32).toInt ∧ (votp_4 : Int32).toInt ≤ 0 from ⟨by omega, by omega⟩), (show Rg vmff 5632 0 100000 from p_vmff), (show 0 ≤ (vomb : Int32).toInt ∧ (vomb : Int32).toInt ≤ 10 from ⟨by omega, by omega⟩)⟩ (hP.sub [5, 0, 1, 2, 3, 4] rfl) (hD.sub [5, 0, 1, 2, 3, 4] rfl rfl) hS dX11_may_16
