def y_MText_init : ab_Y := (⟨"WorldEngineModel$Text", "<init>", "()V"⟩, prog_16_method_1_code, 1, none, [])
theorem d_MText_init_0 : decode y_MText_init.2.1 0 = .ok (.aload_n 0, 1) := by decide +kernel
theorem d_MText_init_1 : decode y_MText_init.2.1 1 = .ok (.invokespecial 5, 3) := by decide +kernel
theorem d_MText_init_4 : decode y_MText_init.2.1 4 = .ok (.aload_n 0, 1) := by decide +kernel
theorem d_MText_init_5 : decode y_MText_init.2.1 5 = .ok (.sipush 6000, 3) := by decide +kernel
theorem d_MText_init_8 : decode y_MText_init.2.1 8 = .ok (.newarray .byte, 2) := by decide +kernel
theorem d_MText_init_10 : decode y_MText_init.2.1 10 = .ok (.putfield 11, 3) := by decide +kernel
theorem d_MText_init_13 : decode y_MText_init.2.1 13 = .ok (.aload_n 0, 1) := by decide +kernel
theorem d_MText_init_14 : decode y_MText_init.2.1 14 = .ok (.sipush 6002, 3) := by decide +kernel
theorem d_MText_init_17 : decode y_MText_init.2.1 17 = .ok (.newarray .int, 2) := by decide +kernel
theorem d_MText_init_19 : decode y_MText_init.2.1 19 = .ok (.putfield 15, 3) := by decide +kernel
theorem d_MText_init_22 : decode y_MText_init.2.1 22 = .ok (.aload_n 0, 1) := by decide +kernel
theorem d_MText_init_23 : decode y_MText_init.2.1 23 = .ok (.sipush 6002, 3) := by decide +kernel
theorem d_MText_init_26 : decode y_MText_init.2.1 26 = .ok (.newarray .int, 2) := by decide +kernel
theorem d_MText_init_28 : decode y_MText_init.2.1 28 = .ok (.putfield 19, 3) := by decide +kernel
theorem d_MText_init_31 : decode y_MText_init.2.1 31 = .ok (.aload_n 0, 1) := by decide +kernel
theorem d_MText_init_32 : decode y_MText_init.2.1 32 = .ok (.sipush 6002, 3) := by decide +kernel
theorem d_MText_init_35 : decode y_MText_init.2.1 35 = .ok (.newarray .int, 2) := by decide +kernel
theorem d_MText_init_37 : decode y_MText_init.2.1 37 = .ok (.putfield 22, 3) := by decide +kernel
theorem d_MText_init_40 : decode y_MText_init.2.1 40 = .ok (.aload_n 0, 1) := by decide +kernel
theorem d_MText_init_41 : decode y_MText_init.2.1 41 = .ok (.sipush 6002, 3) := by decide +kernel
theorem d_MText_init_44 : decode y_MText_init.2.1 44 = .ok (.newarray .int, 2) := by decide +kernel
theorem d_MText_init_46 : decode y_MText_init.2.1 46 = .ok (.putfield 25, 3) := by decide +kernel
theorem d_MText_init_49 : decode y_MText_init.2.1 49 = .ok (.aload_n 0, 1) := by decide +kernel
theorem d_MText_init_50 : decode y_MText_init.2.1 50 = .ok (.sipush 6002, 3) := by decide +kernel
theorem d_MText_init_53 : decode y_MText_init.2.1 53 = .ok (.newarray .boolean, 2) := by decide +kernel
theorem d_MText_init_55 : decode y_MText_init.2.1 55 = .ok (.putfield 28, 3) := by decide +kernel
theorem d_MText_init_58 : decode y_MText_init.2.1 58 = .ok (.aload_n 0, 1) := by decide +kernel
theorem d_MText_init_59 : decode y_MText_init.2.1 59 = .ok (.sipush 6002, 3) := by decide +kernel
theorem d_MText_init_62 : decode y_MText_init.2.1 62 = .ok (.newarray .int, 2) := by decide +kernel
theorem d_MText_init_64 : decode y_MText_init.2.1 64 = .ok (.putfield 32, 3) := by decide +kernel
theorem d_MText_init_67 : decode y_MText_init.2.1 67 = .ok (.aload_n 0, 1) := by decide +kernel
theorem d_MText_init_68 : decode y_MText_init.2.1 68 = .ok (.bipush 56, 2) := by decide +kernel
theorem d_MText_init_70 : decode y_MText_init.2.1 70 = .ok (.newarray .int, 2) := by decide +kernel
theorem d_MText_init_72 : decode y_MText_init.2.1 72 = .ok (.putfield 35, 3) := by decide +kernel
theorem d_MText_init_75 : decode y_MText_init.2.1 75 = .ok (.aload_n 0, 1) := by decide +kernel
theorem d_MText_init_76 : decode y_MText_init.2.1 76 = .ok (.bipush 56, 2) := by decide +kernel
theorem d_MText_init_78 : decode y_MText_init.2.1 78 = .ok (.newarray .int, 2) := by decide +kernel
theorem d_MText_init_80 : decode y_MText_init.2.1 80 = .ok (.putfield 38, 3) := by decide +kernel
theorem d_MText_init_83 : decode y_MText_init.2.1 83 = .ok (.aload_n 0, 1) := by decide +kernel
theorem d_MText_init_84 : decode y_MText_init.2.1 84 = .ok (.bipush 56, 2) := by decide +kernel
theorem d_MText_init_86 : decode y_MText_init.2.1 86 = .ok (.newarray .int, 2) := by decide +kernel
theorem d_MText_init_88 : decode y_MText_init.2.1 88 = .ok (.putfield 41, 3) := by decide +kernel
theorem d_MText_init_91 : decode y_MText_init.2.1 91 = .ok (.aload_n 0, 1) := by decide +kernel
theorem d_MText_init_92 : decode y_MText_init.2.1 92 = .ok (.bipush 16, 2) := by decide +kernel
theorem d_MText_init_94 : decode y_MText_init.2.1 94 = .ok (.newarray .int, 2) := by decide +kernel
theorem d_MText_init_96 : decode y_MText_init.2.1 96 = .ok (.putfield 44, 3) := by decide +kernel
theorem d_MText_init_99 : decode y_MText_init.2.1 99 = .ok (.aload_n 0, 1) := by decide +kernel
theorem d_MText_init_100 : decode y_MText_init.2.1 100 = .ok (.bipush 17, 2) := by decide +kernel
theorem d_MText_init_102 : decode y_MText_init.2.1 102 = .ok (.newarray .int, 2) := by decide +kernel
theorem d_MText_init_104 : decode y_MText_init.2.1 104 = .ok (.putfield 47, 3) := by decide +kernel
theorem d_MText_init_107 : decode y_MText_init.2.1 107 = .ok (.aload_n 0, 1) := by decide +kernel
theorem d_MText_init_108 : decode y_MText_init.2.1 108 = .ok (.bipush 48, 2) := by decide +kernel
theorem d_MText_init_110 : decode y_MText_init.2.1 110 = .ok (.newarray .int, 2) := by decide +kernel
theorem d_MText_init_112 : decode y_MText_init.2.1 112 = .ok (.putfield 50, 3) := by decide +kernel
theorem d_MText_init_115 : decode y_MText_init.2.1 115 = .ok (.aload_n 0, 1) := by decide +kernel
theorem d_MText_init_116 : decode y_MText_init.2.1 116 = .ok (.bipush 48, 2) := by decide +kernel
theorem d_MText_init_118 : decode y_MText_init.2.1 118 = .ok (.newarray .int, 2) := by decide +kernel
theorem d_MText_init_120 : decode y_MText_init.2.1 120 = .ok (.putfield 53, 3) := by decide +kernel
theorem d_MText_init_123 : decode y_MText_init.2.1 123 = .ok (.aload_n 0, 1) := by decide +kernel
theorem d_MText_init_124 : decode y_MText_init.2.1 124 = .ok (.bipush 8, 2) := by decide +kernel
theorem d_MText_init_126 : decode y_MText_init.2.1 126 = .ok (.newarray .int, 2) := by decide +kernel
theorem d_MText_init_128 : decode y_MText_init.2.1 128 = .ok (.putfield 56, 3) := by decide +kernel
theorem d_MText_init_131 : decode y_MText_init.2.1 131 = .ok (.aload_n 0, 1) := by decide +kernel
theorem d_MText_init_132 : decode y_MText_init.2.1 132 = .ok (.bipush 8, 2) := by decide +kernel
theorem d_MText_init_134 : decode y_MText_init.2.1 134 = .ok (.newarray .int, 2) := by decide +kernel
theorem d_MText_init_136 : decode y_MText_init.2.1 136 = .ok (.putfield 59, 3) := by decide +kernel
theorem d_MText_init_139 : decode y_MText_init.2.1 139 = .ok (.aload_n 0, 1) := by decide +kernel
theorem d_MText_init_140 : decode y_MText_init.2.1 140 = .ok (.bipush 32, 2) := by decide +kernel
theorem d_MText_init_142 : decode y_MText_init.2.1 142 = .ok (.newarray .int, 2) := by decide +kernel
theorem d_MText_init_144 : decode y_MText_init.2.1 144 = .ok (.putfield 62, 3) := by decide +kernel
theorem d_MText_init_147 : decode y_MText_init.2.1 147 = .ok (.aload_n 0, 1) := by decide +kernel
theorem d_MText_init_148 : decode y_MText_init.2.1 148 = .ok (.bipush 32, 2) := by decide +kernel
theorem d_MText_init_150 : decode y_MText_init.2.1 150 = .ok (.newarray .int, 2) := by decide +kernel
theorem d_MText_init_152 : decode y_MText_init.2.1 152 = .ok (.putfield 65, 3) := by decide +kernel
theorem d_MText_init_155 : decode y_MText_init.2.1 155 = .ok (.aload_n 0, 1) := by decide +kernel
theorem d_MText_init_156 : decode y_MText_init.2.1 156 = .ok (.bipush 16, 2) := by decide +kernel
theorem d_MText_init_158 : decode y_MText_init.2.1 158 = .ok (.newarray .int, 2) := by decide +kernel
theorem d_MText_init_160 : decode y_MText_init.2.1 160 = .ok (.putfield 68, 3) := by decide +kernel
theorem d_MText_init_163 : decode y_MText_init.2.1 163 = .ok (.aload_n 0, 1) := by decide +kernel
theorem d_MText_init_164 : decode y_MText_init.2.1 164 = .ok (.sipush 768, 3) := by decide +kernel
theorem d_MText_init_167 : decode y_MText_init.2.1 167 = .ok (.newarray .int, 2) := by decide +kernel
theorem d_MText_init_169 : decode y_MText_init.2.1 169 = .ok (.putfield 71, 3) := by decide +kernel
theorem d_MText_init_172 : decode y_MText_init.2.1 172 = .ok (.aload_n 0, 1) := by decide +kernel
theorem d_MText_init_173 : decode y_MText_init.2.1 173 = .ok (.bipush 16, 2) := by decide +kernel
theorem d_MText_init_175 : decode y_MText_init.2.1 175 = .ok (.newarray .int, 2) := by decide +kernel
theorem d_MText_init_177 : decode y_MText_init.2.1 177 = .ok (.putfield 74, 3) := by decide +kernel
theorem d_MText_init_180 : decode y_MText_init.2.1 180 = .ok (.aload_n 0, 1) := by decide +kernel
theorem d_MText_init_181 : decode y_MText_init.2.1 181 = .ok (.bipush 16, 2) := by decide +kernel
theorem d_MText_init_183 : decode y_MText_init.2.1 183 = .ok (.newarray .int, 2) := by decide +kernel
theorem d_MText_init_185 : decode y_MText_init.2.1 185 = .ok (.putfield 77, 3) := by decide +kernel
theorem d_MText_init_188 : decode y_MText_init.2.1 188 = .ok (.aload_n 0, 1) := by decide +kernel
theorem d_MText_init_189 : decode y_MText_init.2.1 189 = .ok (.bipush 16, 2) := by decide +kernel
theorem d_MText_init_191 : decode y_MText_init.2.1 191 = .ok (.newarray .int, 2) := by decide +kernel
theorem d_MText_init_193 : decode y_MText_init.2.1 193 = .ok (.putfield 80, 3) := by decide +kernel
theorem d_MText_init_196 : decode y_MText_init.2.1 196 = .ok (.aload_n 0, 1) := by decide +kernel
theorem d_MText_init_197 : decode y_MText_init.2.1 197 = .ok (.bipush 16, 2) := by decide +kernel
theorem d_MText_init_199 : decode y_MText_init.2.1 199 = .ok (.newarray .int, 2) := by decide +kernel
theorem d_MText_init_201 : decode y_MText_init.2.1 201 = .ok (.putfield 83, 3) := by decide +kernel
theorem d_MText_init_204 : decode y_MText_init.2.1 204 = .ok (.aload_n 0, 1) := by decide +kernel
theorem d_MText_init_205 : decode y_MText_init.2.1 205 = .ok (.bipush 16, 2) := by decide +kernel
theorem d_MText_init_207 : decode y_MText_init.2.1 207 = .ok (.newarray .int, 2) := by decide +kernel
theorem d_MText_init_209 : decode y_MText_init.2.1 209 = .ok (.putfield 86, 3) := by decide +kernel
theorem d_MText_init_212 : decode y_MText_init.2.1 212 = .ok (.aload_n 0, 1) := by decide +kernel
theorem d_MText_init_213 : decode y_MText_init.2.1 213 = .ok (.bipush 16, 2) := by decide +kernel
theorem d_MText_init_215 : decode y_MText_init.2.1 215 = .ok (.newarray .int, 2) := by decide +kernel
theorem d_MText_init_217 : decode y_MText_init.2.1 217 = .ok (.putfield 89, 3) := by decide +kernel
theorem d_MText_init_220 : decode y_MText_init.2.1 220 = .ok (.aload_n 0, 1) := by decide +kernel
theorem d_MText_init_221 : decode y_MText_init.2.1 221 = .ok (.bipush 16, 2) := by decide +kernel
theorem d_MText_init_223 : decode y_MText_init.2.1 223 = .ok (.newarray .int, 2) := by decide +kernel
theorem d_MText_init_225 : decode y_MText_init.2.1 225 = .ok (.putfield 92, 3) := by decide +kernel
theorem d_MText_init_228 : decode y_MText_init.2.1 228 = .ok (.aload_n 0, 1) := by decide +kernel
theorem d_MText_init_229 : decode y_MText_init.2.1 229 = .ok (.bipush 12, 2) := by decide +kernel
theorem d_MText_init_231 : decode y_MText_init.2.1 231 = .ok (.newarray .int, 2) := by decide +kernel
theorem d_MText_init_233 : decode y_MText_init.2.1 233 = .ok (.putfield 95, 3) := by decide +kernel
theorem d_MText_init_236 : decode y_MText_init.2.1 236 = .ok (.aload_n 0, 1) := by decide +kernel
theorem d_MText_init_237 : decode y_MText_init.2.1 237 = .ok (.bipush 12, 2) := by decide +kernel
theorem d_MText_init_239 : decode y_MText_init.2.1 239 = .ok (.newarray .int, 2) := by decide +kernel
theorem d_MText_init_241 : decode y_MText_init.2.1 241 = .ok (.putfield 98, 3) := by decide +kernel
theorem d_MText_init_244 : decode y_MText_init.2.1 244 = .ok (.aload_n 0, 1) := by decide +kernel
theorem d_MText_init_245 : decode y_MText_init.2.1 245 = .ok (.bipush 12, 2) := by decide +kernel
theorem d_MText_init_247 : decode y_MText_init.2.1 247 = .ok (.newarray .boolean, 2) := by decide +kernel
theorem d_MText_init_249 : decode y_MText_init.2.1 249 = .ok (.putfield 101, 3) := by decide +kernel
theorem d_MText_init_252 : decode y_MText_init.2.1 252 = .ok (.return_, 1) := by decide +kernel
theorem s_MText_init : ab_Stat y_MText_init 0 := ⟨(k8 157 rfl rfl), (k1 20 rfl rfl), ⟨by decide, by decide⟩, by decide +kernel⟩
theorem i_MText_init : Cond.instanceMethod y_MText_init.1 ∈ ab_T := (k8 156 rfl rfl)
def F_MText_init (N : Nat) (p0 : Nat) (H : Hp) : Option (Unit × Hp) :=
    ck (¬ (6000 : Int32) < 0) <|
    ck (((6000 : Int32)).toNatClampNeg * 1 ≤ 536870912) <|
    bnd (H.nw (101, ((6000 : Int32)).toNatClampNeg) ((6000 : Int32)).toNatClampNeg) fun H3 =>
    bnd H.sh.length fun a4 =>
    ck (H3.sh[p0]? = some (14, 0)) <|
    bnd (H3.sP p0 0 (.ref a4)) fun H6 =>
    ck (¬ (6002 : Int32) < 0) <|
    ck (((6002 : Int32)).toNatClampNeg * 4 ≤ 536870912) <|
    bnd (H6.nw (100, ((6002 : Int32)).toNatClampNeg) ((6002 : Int32)).toNatClampNeg) fun H9 =>
    bnd H6.sh.length fun a10 =>
    bnd (H9.sP p0 3 (.ref a10)) fun H11 =>
    ck (¬ (6002 : Int32) < 0) <|
    ck (((6002 : Int32)).toNatClampNeg * 4 ≤ 536870912) <|
    bnd (H11.nw (100, ((6002 : Int32)).toNatClampNeg) ((6002 : Int32)).toNatClampNeg) fun H14 =>
    bnd H11.sh.length fun a15 =>
    bnd (H14.sP p0 4 (.ref a15)) fun H16 =>
    ck (¬ (6002 : Int32) < 0) <|
    ck (((6002 : Int32)).toNatClampNeg * 4 ≤ 536870912) <|
    bnd (H16.nw (100, ((6002 : Int32)).toNatClampNeg) ((6002 : Int32)).toNatClampNeg) fun H19 =>
    bnd H16.sh.length fun a20 =>
    bnd (H19.sP p0 5 (.ref a20)) fun H21 =>
    ck (¬ (6002 : Int32) < 0) <|
    ck (((6002 : Int32)).toNatClampNeg * 4 ≤ 536870912) <|
    bnd (H21.nw (100, ((6002 : Int32)).toNatClampNeg) ((6002 : Int32)).toNatClampNeg) fun H24 =>
    bnd H21.sh.length fun a25 =>
    bnd (H24.sP p0 6 (.ref a25)) fun H26 =>
    ck (¬ (6002 : Int32) < 0) <|
    ck (((6002 : Int32)).toNatClampNeg * 1 ≤ 536870912) <|
    bnd (H26.nw (102, ((6002 : Int32)).toNatClampNeg) ((6002 : Int32)).toNatClampNeg) fun H29 =>
    bnd H26.sh.length fun a30 =>
    bnd (H29.sP p0 7 (.ref a30)) fun H31 =>
    ck (¬ (6002 : Int32) < 0) <|
    ck (((6002 : Int32)).toNatClampNeg * 4 ≤ 536870912) <|
    bnd (H31.nw (100, ((6002 : Int32)).toNatClampNeg) ((6002 : Int32)).toNatClampNeg) fun H34 =>
    bnd H31.sh.length fun a35 =>
    bnd (H34.sP p0 8 (.ref a35)) fun H36 =>
    ck (¬ (56 : Int32) < 0) <|
    ck (((56 : Int32)).toNatClampNeg * 4 ≤ 536870912) <|
    bnd (H36.nw (100, ((56 : Int32)).toNatClampNeg) ((56 : Int32)).toNatClampNeg) fun H39 =>
    bnd H36.sh.length fun a40 =>
    bnd (H39.sP p0 13 (.ref a40)) fun H41 =>
    ck (¬ (56 : Int32) < 0) <|
    ck (((56 : Int32)).toNatClampNeg * 4 ≤ 536870912) <|
    bnd (H41.nw (100, ((56 : Int32)).toNatClampNeg) ((56 : Int32)).toNatClampNeg) fun H44 =>
    bnd H41.sh.length fun a45 =>
    bnd (H44.sP p0 14 (.ref a45)) fun H46 =>
    ck (¬ (56 : Int32) < 0) <|
    ck (((56 : Int32)).toNatClampNeg * 4 ≤ 536870912) <|
    bnd (H46.nw (100, ((56 : Int32)).toNatClampNeg) ((56 : Int32)).toNatClampNeg) fun H49 =>
    bnd H46.sh.length fun a50 =>
    bnd (H49.sP p0 15 (.ref a50)) fun H51 =>
    ck (¬ (16 : Int32) < 0) <|
    ck (((16 : Int32)).toNatClampNeg * 4 ≤ 536870912) <|
    bnd (H51.nw (100, ((16 : Int32)).toNatClampNeg) ((16 : Int32)).toNatClampNeg) fun H54 =>
    bnd H51.sh.length fun a55 =>
    bnd (H54.sP p0 17 (.ref a55)) fun H56 =>
    ck (¬ (17 : Int32) < 0) <|
    ck (((17 : Int32)).toNatClampNeg * 4 ≤ 536870912) <|
    bnd (H56.nw (100, ((17 : Int32)).toNatClampNeg) ((17 : Int32)).toNatClampNeg) fun H59 =>
    bnd H56.sh.length fun a60 =>
    bnd (H59.sP p0 18 (.ref a60)) fun H61 =>
    ck (¬ (48 : Int32) < 0) <|
    ck (((48 : Int32)).toNatClampNeg * 4 ≤ 536870912) <|
    bnd (H61.nw (100, ((48 : Int32)).toNatClampNeg) ((48 : Int32)).toNatClampNeg) fun H64 =>
    bnd H61.sh.length fun a65 =>
    bnd (H64.sP p0 19 (.ref a65)) fun H66 =>
    ck (¬ (48 : Int32) < 0) <|
    ck (((48 : Int32)).toNatClampNeg * 4 ≤ 536870912) <|
    bnd (H66.nw (100, ((48 : Int32)).toNatClampNeg) ((48 : Int32)).toNatClampNeg) fun H69 =>
    bnd H66.sh.length fun a70 =>
    bnd (H69.sP p0 20 (.ref a70)) fun H71 =>
    ck (¬ (8 : Int32) < 0) <|
    ck (((8 : Int32)).toNatClampNeg * 4 ≤ 536870912) <|
    bnd (H71.nw (100, ((8 : Int32)).toNatClampNeg) ((8 : Int32)).toNatClampNeg) fun H74 =>
    bnd H71.sh.length fun a75 =>
    bnd (H74.sP p0 22 (.ref a75)) fun H76 =>
    ck (¬ (8 : Int32) < 0) <|
    ck (((8 : Int32)).toNatClampNeg * 4 ≤ 536870912) <|
    bnd (H76.nw (100, ((8 : Int32)).toNatClampNeg) ((8 : Int32)).toNatClampNeg) fun H79 =>
    bnd H76.sh.length fun a80 =>
    bnd (H79.sP p0 23 (.ref a80)) fun H81 =>
    ck (¬ (32 : Int32) < 0) <|
    ck (((32 : Int32)).toNatClampNeg * 4 ≤ 536870912) <|
    bnd (H81.nw (100, ((32 : Int32)).toNatClampNeg) ((32 : Int32)).toNatClampNeg) fun H84 =>
    bnd H81.sh.length fun a85 =>
    bnd (H84.sP p0 24 (.ref a85)) fun H86 =>
    ck (¬ (32 : Int32) < 0) <|
    ck (((32 : Int32)).toNatClampNeg * 4 ≤ 536870912) <|
    bnd (H86.nw (100, ((32 : Int32)).toNatClampNeg) ((32 : Int32)).toNatClampNeg) fun H89 =>
    bnd H86.sh.length fun a90 =>
    bnd (H89.sP p0 25 (.ref a90)) fun H91 =>
    ck (¬ (16 : Int32) < 0) <|
    ck (((16 : Int32)).toNatClampNeg * 4 ≤ 536870912) <|
    bnd (H91.nw (100, ((16 : Int32)).toNatClampNeg) ((16 : Int32)).toNatClampNeg) fun H94 =>
    bnd H91.sh.length fun a95 =>
    bnd (H94.sP p0 27 (.ref a95)) fun H96 =>
    ck (¬ (768 : Int32) < 0) <|
    ck (((768 : Int32)).toNatClampNeg * 4 ≤ 536870912) <|
    bnd (H96.nw (100, ((768 : Int32)).toNatClampNeg) ((768 : Int32)).toNatClampNeg) fun H99 =>
    bnd H96.sh.length fun a100 =>
    bnd (H99.sP p0 28 (.ref a100)) fun H101 =>
    ck (¬ (16 : Int32) < 0) <|
    ck (((16 : Int32)).toNatClampNeg * 4 ≤ 536870912) <|
    bnd (H101.nw (100, ((16 : Int32)).toNatClampNeg) ((16 : Int32)).toNatClampNeg) fun H104 =>
    bnd H101.sh.length fun a105 =>
    bnd (H104.sP p0 30 (.ref a105)) fun H106 =>
    ck (¬ (16 : Int32) < 0) <|
    ck (((16 : Int32)).toNatClampNeg * 4 ≤ 536870912) <|
    bnd (H106.nw (100, ((16 : Int32)).toNatClampNeg) ((16 : Int32)).toNatClampNeg) fun H109 =>
    bnd H106.sh.length fun a110 =>
    bnd (H109.sP p0 31 (.ref a110)) fun H111 =>
    ck (¬ (16 : Int32) < 0) <|
    ck (((16 : Int32)).toNatClampNeg * 4 ≤ 536870912) <|
    bnd (H111.nw (100, ((16 : Int32)).toNatClampNeg) ((16 : Int32)).toNatClampNeg) fun H114 =>
    bnd H111.sh.length fun a115 =>
    bnd (H114.sP p0 32 (.ref a115)) fun H116 =>
    ck (¬ (16 : Int32) < 0) <|
    ck (((16 : Int32)).toNatClampNeg * 4 ≤ 536870912) <|
    bnd (H116.nw (100, ((16 : Int32)).toNatClampNeg) ((16 : Int32)).toNatClampNeg) fun H119 =>
    bnd H116.sh.length fun a120 =>
    bnd (H119.sP p0 33 (.ref a120)) fun H121 =>
    ck (¬ (16 : Int32) < 0) <|
    ck (((16 : Int32)).toNatClampNeg * 4 ≤ 536870912) <|
    bnd (H121.nw (100, ((16 : Int32)).toNatClampNeg) ((16 : Int32)).toNatClampNeg) fun H124 =>
    bnd H121.sh.length fun a125 =>
    bnd (H124.sP p0 34 (.ref a125)) fun H126 =>
    ck (¬ (16 : Int32) < 0) <|
    ck (((16 : Int32)).toNatClampNeg * 4 ≤ 536870912) <|
    bnd (H126.nw (100, ((16 : Int32)).toNatClampNeg) ((16 : Int32)).toNatClampNeg) fun H129 =>
    bnd H126.sh.length fun a130 =>
    bnd (H129.sP p0 35 (.ref a130)) fun H131 =>
    ck (¬ (16 : Int32) < 0) <|
    ck (((16 : Int32)).toNatClampNeg * 4 ≤ 536870912) <|
    bnd (H131.nw (100, ((16 : Int32)).toNatClampNeg) ((16 : Int32)).toNatClampNeg) fun H134 =>
    bnd H131.sh.length fun a135 =>
    bnd (H134.sP p0 36 (.ref a135)) fun H136 =>
    ck (¬ (12 : Int32) < 0) <|
    ck (((12 : Int32)).toNatClampNeg * 4 ≤ 536870912) <|
    bnd (H136.nw (100, ((12 : Int32)).toNatClampNeg) ((12 : Int32)).toNatClampNeg) fun H139 =>
    bnd H136.sh.length fun a140 =>
    bnd (H139.sP p0 38 (.ref a140)) fun H141 =>
    ck (¬ (12 : Int32) < 0) <|
    ck (((12 : Int32)).toNatClampNeg * 4 ≤ 536870912) <|
    bnd (H141.nw (100, ((12 : Int32)).toNatClampNeg) ((12 : Int32)).toNatClampNeg) fun H144 =>
    bnd H141.sh.length fun a145 =>
    bnd (H144.sP p0 39 (.ref a145)) fun H146 =>
    ck (¬ (12 : Int32) < 0) <|
    ck (((12 : Int32)).toNatClampNeg * 1 ≤ 536870912) <|
    bnd (H146.nw (102, ((12 : Int32)).toNatClampNeg) ((12 : Int32)).toNatClampNeg) fun H149 =>
    bnd H146.sh.length fun a150 =>
    bnd (H149.sP p0 40 (.ref a150)) fun H151 =>
    some ((), H151)
set_option maxRecDepth 20000 in
set_option maxHeartbeats 2000000 in
theorem m_MText_init {N : Nat} {p0 : Nat} {H : Hp} {r : Unit × Hp} (hF : F_MText_init N p0 H = some r) : Mo H r.2 := by
  unfold F_MText_init at hF
  have hm := Mo.rf H
  obtain ⟨q152, hG⟩ := ck_s hF; clear hF
  obtain ⟨q153, hF⟩ := ck_s hG; clear hG
  obtain ⟨H154, eH154, hG⟩ := bnd_g hF; clear hF
  replace hm : Mo H H154 := hm.tr (by rw [eH154]; exact Mo.nw _ _ _)
  obtain ⟨a155, -, hF⟩ := bnd_g hG; clear hG
  obtain ⟨q156, hG⟩ := ck_s hF; clear hF
  obtain ⟨H157, eH157, hF⟩ := bnd_g hG; clear hG
  replace hm : Mo H H157 := by rw [eH157]; exact hm
  obtain ⟨q158, hG⟩ := ck_s hF; clear hF
  obtain ⟨q159, hF⟩ := ck_s hG; clear hG
  obtain ⟨H160, eH160, hG⟩ := bnd_g hF; clear hF
  replace hm : Mo H H160 := hm.tr (by rw [eH160]; exact Mo.nw _ _ _)
  obtain ⟨a161, -, hF⟩ := bnd_g hG; clear hG
  obtain ⟨H162, eH162, hG⟩ := bnd_g hF; clear hF
  replace hm : Mo H H162 := by rw [eH162]; exact hm
  obtain ⟨q163, hF⟩ := ck_s hG; clear hG
  obtain ⟨q164, hG⟩ := ck_s hF; clear hF
  obtain ⟨H165, eH165, hF⟩ := bnd_g hG; clear hG
  replace hm : Mo H H165 := hm.tr (by rw [eH165]; exact Mo.nw _ _ _)
  obtain ⟨a166, -, hG⟩ := bnd_g hF; clear hF
  obtain ⟨H167, eH167, hF⟩ := bnd_g hG; clear hG
  replace hm : Mo H H167 := by rw [eH167]; exact hm
  obtain ⟨q168, hG⟩ := ck_s hF; clear hF
  obtain ⟨q169, hF⟩ := ck_s hG; clear hG
  obtain ⟨H170, eH170, hG⟩ := bnd_g hF; clear hF
  replace hm : Mo H H170 := hm.tr (by rw [eH170]; exact Mo.nw _ _ _)
  obtain ⟨a171, -, hF⟩ := bnd_g hG; clear hG
  obtain ⟨H172, eH172, hG⟩ := bnd_g hF; clear hF
  replace hm : Mo H H172 := by rw [eH172]; exact hm
  obtain ⟨q173, hF⟩ := ck_s hG; clear hG
  obtain ⟨q174, hG⟩ := ck_s hF; clear hF
  obtain ⟨H175, eH175, hF⟩ := bnd_g hG; clear hG
  replace hm : Mo H H175 := hm.tr (by rw [eH175]; exact Mo.nw _ _ _)
  obtain ⟨a176, -, hG⟩ := bnd_g hF; clear hF
  obtain ⟨H177, eH177, hF⟩ := bnd_g hG; clear hG
  replace hm : Mo H H177 := by rw [eH177]; exact hm
  obtain ⟨q178, hG⟩ := ck_s hF; clear hF
  obtain ⟨q179, hF⟩ := ck_s hG; clear hG
  obtain ⟨H180, eH180, hG⟩ := bnd_g hF; clear hF
  replace hm : Mo H H180 := hm.tr (by rw [eH180]; exact Mo.nw _ _ _)
  obtain ⟨a181, -, hF⟩ := bnd_g hG; clear hG
  obtain ⟨H182, eH182, hG⟩ := bnd_g hF; clear hF
  replace hm : Mo H H182 := by rw [eH182]; exact hm
  obtain ⟨q183, hF⟩ := ck_s hG; clear hG
  obtain ⟨q184, hG⟩ := ck_s hF; clear hF
  obtain ⟨H185, eH185, hF⟩ := bnd_g hG; clear hG
  replace hm : Mo H H185 := hm.tr (by rw [eH185]; exact Mo.nw _ _ _)
  obtain ⟨a186, -, hG⟩ := bnd_g hF; clear hF
  obtain ⟨H187, eH187, hF⟩ := bnd_g hG; clear hG
  replace hm : Mo H H187 := by rw [eH187]; exact hm
  obtain ⟨q188, hG⟩ := ck_s hF; clear hF
  obtain ⟨q189, hF⟩ := ck_s hG; clear hG
  obtain ⟨H190, eH190, hG⟩ := bnd_g hF; clear hF
  replace hm : Mo H H190 := hm.tr (by rw [eH190]; exact Mo.nw _ _ _)
  obtain ⟨a191, -, hF⟩ := bnd_g hG; clear hG
  obtain ⟨H192, eH192, hG⟩ := bnd_g hF; clear hF
  replace hm : Mo H H192 := by rw [eH192]; exact hm
  obtain ⟨q193, hF⟩ := ck_s hG; clear hG
  obtain ⟨q194, hG⟩ := ck_s hF; clear hF
  obtain ⟨H195, eH195, hF⟩ := bnd_g hG; clear hG
  replace hm : Mo H H195 := hm.tr (by rw [eH195]; exact Mo.nw _ _ _)
  obtain ⟨a196, -, hG⟩ := bnd_g hF; clear hF
  obtain ⟨H197, eH197, hF⟩ := bnd_g hG; clear hG
  replace hm : Mo H H197 := by rw [eH197]; exact hm
  obtain ⟨q198, hG⟩ := ck_s hF; clear hF
  obtain ⟨q199, hF⟩ := ck_s hG; clear hG
  obtain ⟨H200, eH200, hG⟩ := bnd_g hF; clear hF
  replace hm : Mo H H200 := hm.tr (by rw [eH200]; exact Mo.nw _ _ _)
  obtain ⟨a201, -, hF⟩ := bnd_g hG; clear hG
  obtain ⟨H202, eH202, hG⟩ := bnd_g hF; clear hF
  replace hm : Mo H H202 := by rw [eH202]; exact hm
  obtain ⟨q203, hF⟩ := ck_s hG; clear hG
  obtain ⟨q204, hG⟩ := ck_s hF; clear hF
  obtain ⟨H205, eH205, hF⟩ := bnd_g hG; clear hG
  replace hm : Mo H H205 := hm.tr (by rw [eH205]; exact Mo.nw _ _ _)
  obtain ⟨a206, -, hG⟩ := bnd_g hF; clear hF
  obtain ⟨H207, eH207, hF⟩ := bnd_g hG; clear hG
  replace hm : Mo H H207 := by rw [eH207]; exact hm
  obtain ⟨q208, hG⟩ := ck_s hF; clear hF
  obtain ⟨q209, hF⟩ := ck_s hG; clear hG
  obtain ⟨H210, eH210, hG⟩ := bnd_g hF; clear hF
  replace hm : Mo H H210 := hm.tr (by rw [eH210]; exact Mo.nw _ _ _)
  obtain ⟨a211, -, hF⟩ := bnd_g hG; clear hG
  obtain ⟨H212, eH212, hG⟩ := bnd_g hF; clear hF
  replace hm : Mo H H212 := by rw [eH212]; exact hm
  obtain ⟨q213, hF⟩ := ck_s hG; clear hG
  obtain ⟨q214, hG⟩ := ck_s hF; clear hF
  obtain ⟨H215, eH215, hF⟩ := bnd_g hG; clear hG
  replace hm : Mo H H215 := hm.tr (by rw [eH215]; exact Mo.nw _ _ _)
  obtain ⟨a216, -, hG⟩ := bnd_g hF; clear hF
  obtain ⟨H217, eH217, hF⟩ := bnd_g hG; clear hG
  replace hm : Mo H H217 := by rw [eH217]; exact hm
  obtain ⟨q218, hG⟩ := ck_s hF; clear hF
  obtain ⟨q219, hF⟩ := ck_s hG; clear hG
  obtain ⟨H220, eH220, hG⟩ := bnd_g hF; clear hF
  replace hm : Mo H H220 := hm.tr (by rw [eH220]; exact Mo.nw _ _ _)
  obtain ⟨a221, -, hF⟩ := bnd_g hG; clear hG
  obtain ⟨H222, eH222, hG⟩ := bnd_g hF; clear hF
  replace hm : Mo H H222 := by rw [eH222]; exact hm
  obtain ⟨q223, hF⟩ := ck_s hG; clear hG
  obtain ⟨q224, hG⟩ := ck_s hF; clear hF
  obtain ⟨H225, eH225, hF⟩ := bnd_g hG; clear hG
  replace hm : Mo H H225 := hm.tr (by rw [eH225]; exact Mo.nw _ _ _)
  obtain ⟨a226, -, hG⟩ := bnd_g hF; clear hF
  obtain ⟨H227, eH227, hF⟩ := bnd_g hG; clear hG
  replace hm : Mo H H227 := by rw [eH227]; exact hm
  obtain ⟨q228, hG⟩ := ck_s hF; clear hF
  obtain ⟨q229, hF⟩ := ck_s hG; clear hG
  obtain ⟨H230, eH230, hG⟩ := bnd_g hF; clear hF
  replace hm : Mo H H230 := hm.tr (by rw [eH230]; exact Mo.nw _ _ _)
  obtain ⟨a231, -, hF⟩ := bnd_g hG; clear hG
  obtain ⟨H232, eH232, hG⟩ := bnd_g hF; clear hF
  replace hm : Mo H H232 := by rw [eH232]; exact hm
  obtain ⟨q233, hF⟩ := ck_s hG; clear hG
  obtain ⟨q234, hG⟩ := ck_s hF; clear hF
  obtain ⟨H235, eH235, hF⟩ := bnd_g hG; clear hG
  replace hm : Mo H H235 := hm.tr (by rw [eH235]; exact Mo.nw _ _ _)
  obtain ⟨a236, -, hG⟩ := bnd_g hF; clear hF
  obtain ⟨H237, eH237, hF⟩ := bnd_g hG; clear hG
  replace hm : Mo H H237 := by rw [eH237]; exact hm
  obtain ⟨q238, hG⟩ := ck_s hF; clear hF
  obtain ⟨q239, hF⟩ := ck_s hG; clear hG
  obtain ⟨H240, eH240, hG⟩ := bnd_g hF; clear hF
  replace hm : Mo H H240 := hm.tr (by rw [eH240]; exact Mo.nw _ _ _)
  obtain ⟨a241, -, hF⟩ := bnd_g hG; clear hG
  obtain ⟨H242, eH242, hG⟩ := bnd_g hF; clear hF
  replace hm : Mo H H242 := by rw [eH242]; exact hm
  obtain ⟨q243, hF⟩ := ck_s hG; clear hG
  obtain ⟨q244, hG⟩ := ck_s hF; clear hF
  obtain ⟨H245, eH245, hF⟩ := bnd_g hG; clear hG
  replace hm : Mo H H245 := hm.tr (by rw [eH245]; exact Mo.nw _ _ _)
  obtain ⟨a246, -, hG⟩ := bnd_g hF; clear hF
  obtain ⟨H247, eH247, hF⟩ := bnd_g hG; clear hG
  replace hm : Mo H H247 := by rw [eH247]; exact hm
  obtain ⟨q248, hG⟩ := ck_s hF; clear hF
  obtain ⟨q249, hF⟩ := ck_s hG; clear hG
  obtain ⟨H250, eH250, hG⟩ := bnd_g hF; clear hF
  replace hm : Mo H H250 := hm.tr (by rw [eH250]; exact Mo.nw _ _ _)
  obtain ⟨a251, -, hF⟩ := bnd_g hG; clear hG
  obtain ⟨H252, eH252, hG⟩ := bnd_g hF; clear hF
  replace hm : Mo H H252 := by rw [eH252]; exact hm
  obtain ⟨q253, hF⟩ := ck_s hG; clear hG
  obtain ⟨q254, hG⟩ := ck_s hF; clear hF
  obtain ⟨H255, eH255, hF⟩ := bnd_g hG; clear hG
  replace hm : Mo H H255 := hm.tr (by rw [eH255]; exact Mo.nw _ _ _)
  obtain ⟨a256, -, hG⟩ := bnd_g hF; clear hF
  obtain ⟨H257, eH257, hF⟩ := bnd_g hG; clear hG
  replace hm : Mo H H257 := by rw [eH257]; exact hm
  obtain ⟨q258, hG⟩ := ck_s hF; clear hF
  obtain ⟨q259, hF⟩ := ck_s hG; clear hG
  obtain ⟨H260, eH260, hG⟩ := bnd_g hF; clear hF
  replace hm : Mo H H260 := hm.tr (by rw [eH260]; exact Mo.nw _ _ _)
  obtain ⟨a261, -, hF⟩ := bnd_g hG; clear hG
  obtain ⟨H262, eH262, hG⟩ := bnd_g hF; clear hF
  replace hm : Mo H H262 := by rw [eH262]; exact hm
  obtain ⟨q263, hF⟩ := ck_s hG; clear hG
  obtain ⟨q264, hG⟩ := ck_s hF; clear hF
  obtain ⟨H265, eH265, hF⟩ := bnd_g hG; clear hG
  replace hm : Mo H H265 := hm.tr (by rw [eH265]; exact Mo.nw _ _ _)
  obtain ⟨a266, -, hG⟩ := bnd_g hF; clear hF
  obtain ⟨H267, eH267, hF⟩ := bnd_g hG; clear hG
  replace hm : Mo H H267 := by rw [eH267]; exact hm
  obtain ⟨q268, hG⟩ := ck_s hF; clear hF
  obtain ⟨q269, hF⟩ := ck_s hG; clear hG
  obtain ⟨H270, eH270, hG⟩ := bnd_g hF; clear hF
  replace hm : Mo H H270 := hm.tr (by rw [eH270]; exact Mo.nw _ _ _)
  obtain ⟨a271, -, hF⟩ := bnd_g hG; clear hG
  obtain ⟨H272, eH272, hG⟩ := bnd_g hF; clear hF
  replace hm : Mo H H272 := by rw [eH272]; exact hm
  obtain ⟨q273, hF⟩ := ck_s hG; clear hG
  obtain ⟨q274, hG⟩ := ck_s hF; clear hF
  obtain ⟨H275, eH275, hF⟩ := bnd_g hG; clear hG
  replace hm : Mo H H275 := hm.tr (by rw [eH275]; exact Mo.nw _ _ _)
  obtain ⟨a276, -, hG⟩ := bnd_g hF; clear hF
  obtain ⟨H277, eH277, hF⟩ := bnd_g hG; clear hG
  replace hm : Mo H H277 := by rw [eH277]; exact hm
  obtain ⟨q278, hG⟩ := ck_s hF; clear hF
  obtain ⟨q279, hF⟩ := ck_s hG; clear hG
  obtain ⟨H280, eH280, hG⟩ := bnd_g hF; clear hF
  replace hm : Mo H H280 := hm.tr (by rw [eH280]; exact Mo.nw _ _ _)
  obtain ⟨a281, -, hF⟩ := bnd_g hG; clear hG
  obtain ⟨H282, eH282, hG⟩ := bnd_g hF; clear hF
  replace hm : Mo H H282 := by rw [eH282]; exact hm
  obtain ⟨q283, hF⟩ := ck_s hG; clear hG
  obtain ⟨q284, hG⟩ := ck_s hF; clear hF
  obtain ⟨H285, eH285, hF⟩ := bnd_g hG; clear hG
  replace hm : Mo H H285 := hm.tr (by rw [eH285]; exact Mo.nw _ _ _)
  obtain ⟨a286, -, hG⟩ := bnd_g hF; clear hF
  obtain ⟨H287, eH287, hF⟩ := bnd_g hG; clear hG
  replace hm : Mo H H287 := by rw [eH287]; exact hm
  obtain ⟨q288, hG⟩ := ck_s hF; clear hF
  obtain ⟨q289, hF⟩ := ck_s hG; clear hG
  obtain ⟨H290, eH290, hG⟩ := bnd_g hF; clear hF
  replace hm : Mo H H290 := hm.tr (by rw [eH290]; exact Mo.nw _ _ _)
  obtain ⟨a291, -, hF⟩ := bnd_g hG; clear hG
  obtain ⟨H292, eH292, hG⟩ := bnd_g hF; clear hF
  replace hm : Mo H H292 := by rw [eH292]; exact hm
  obtain ⟨q293, hF⟩ := ck_s hG; clear hG
  obtain ⟨q294, hG⟩ := ck_s hF; clear hF
  obtain ⟨H295, eH295, hF⟩ := bnd_g hG; clear hG
  replace hm : Mo H H295 := hm.tr (by rw [eH295]; exact Mo.nw _ _ _)
  obtain ⟨a296, -, hG⟩ := bnd_g hF; clear hF
  obtain ⟨H297, eH297, hF⟩ := bnd_g hG; clear hG
  replace hm : Mo H H297 := by rw [eH297]; exact hm
  obtain ⟨q298, hG⟩ := ck_s hF; clear hF
  obtain ⟨q299, hF⟩ := ck_s hG; clear hG
  obtain ⟨H300, eH300, hG⟩ := bnd_g hF; clear hF
  replace hm : Mo H H300 := hm.tr (by rw [eH300]; exact Mo.nw _ _ _)
  obtain ⟨a301, -, hF⟩ := bnd_g hG; clear hG
  obtain ⟨H302, eH302, hG⟩ := bnd_g hF; clear hF
  replace hm : Mo H H302 := by rw [eH302]; exact hm
  have hr := Option.some.inj hG; subst hr
  exact hm
set_option maxRecDepth 20000 in
set_option maxHeartbeats 2000000 in
theorem k_MText_init {N : Nat} {p0 : Nat} {H : Hp} {r : Unit × Hp} {C Sl : Nat} (hF : F_MText_init N p0 H = some r) (hC : r.2.sh.length ≤ H.sh.length + C) (hS : r.2.sl ≤ H.sl + Sl) : ab_M y_MText_init { frames := 1, cells := C, slots := Sl, locals := 60 } [.ref p0] (hpw H) (po (.returned none) r.2) := by
  unfold F_MText_init at hF
  obtain ⟨c0, e0⟩ : ∃ q, q = H.sh.length := ⟨_, rfl⟩
  obtain ⟨s0, e1⟩ : ∃ q, q = H.sl := ⟨_, rfl⟩
  rw [← e0] at hC
  rw [← e1] at hS
  have hc0 : c0 ≤ H.sh.length := Nat.le_of_eq e0
  have hs0 : s0 ≤ H.sl := Nat.le_of_eq e1
  have hcc : H.sh.length ≤ c0 + C := by omega
  have hss : H.sl ≤ s0 + Sl := by omega
  refine ab_of2 (lv := [some (.ref p0)]) 0 rfl rfl (Nat.le_of_ble_eq_true rfl) ?_
  refine ab_widen (cells' := H.sh.length - c0) (slots' := H.sl - s0) (Nat.zero_le _) (Nat.zero_le _) ?_
  refine ab_aload_n d_MText_init_0 rfl rfl rfl ?_
  refine ab_objInit d_MText_init_1 (k8 158 rfl rfl) (k1 37 rfl rfl) (k1 38 rfl rfl) (Nat.le_of_ble_eq_true rfl) (Nat.le_of_ble_eq_true rfl) ?_
  refine ab_aload_n d_MText_init_4 rfl rfl rfl ?_
  refine ab_sipush (v := 6000) d_MText_init_5 (by decide) ?_
  obtain ⟨q1, hG⟩ := ck_s hF; clear hF
  obtain ⟨q2, hF⟩ := ck_s hG; clear hG
  obtain ⟨H3, eH3, hG⟩ := bnd_g hF; clear hF
  obtain ⟨a4, ea4, hF⟩ := bnd_g hG; clear hG
  have m_1 : Mo H H3 := by rw [eH3]; exact Mo.nw _ _ _
  have b_2l := (m_1).len
  have b_2s := (m_1).2
  have b_2c : c0 ≤ H3.sh.length := by omega
  have b_2d : s0 ≤ H3.sl := by omega
  have b_2x : H3.sh.length = H.sh.length + 1 := by rw [eH3]; simp [Hp.nw, mkH_sh]
  have b_2y : H3.sl = H.sl + ((6000 : Int32)).toNatClampNeg := by rw [eH3]; rfl
  obtain ⟨q5, hG⟩ := ck_s hF; clear hF
  obtain ⟨H6, eH6, hF⟩ := bnd_g hG; clear hG
  have jH6 : Mo H3 H6 := by rw [eH6]; exact Mo.rf _
  obtain ⟨q7, hG⟩ := ck_s hF; clear hF
  obtain ⟨q8, hF⟩ := ck_s hG; clear hG
  obtain ⟨H9, eH9, hG⟩ := bnd_g hF; clear hF
  obtain ⟨a10, ea10, hF⟩ := bnd_g hG; clear hG
  have jH9 : Mo H6 H9 := by rw [eH9]; exact Mo.nw _ _ _
  obtain ⟨H11, eH11, hG⟩ := bnd_g hF; clear hF
  have jH11 : Mo H9 H11 := by rw [eH11]; exact Mo.rf _
  obtain ⟨q12, hF⟩ := ck_s hG; clear hG
  obtain ⟨q13, hG⟩ := ck_s hF; clear hF
  obtain ⟨H14, eH14, hF⟩ := bnd_g hG; clear hG
  obtain ⟨a15, ea15, hG⟩ := bnd_g hF; clear hF
  have jH14 : Mo H11 H14 := by rw [eH14]; exact Mo.nw _ _ _
  obtain ⟨H16, eH16, hF⟩ := bnd_g hG; clear hG
  have jH16 : Mo H14 H16 := by rw [eH16]; exact Mo.rf _
  obtain ⟨q17, hG⟩ := ck_s hF; clear hF
  obtain ⟨q18, hF⟩ := ck_s hG; clear hG
  obtain ⟨H19, eH19, hG⟩ := bnd_g hF; clear hF
  obtain ⟨a20, ea20, hF⟩ := bnd_g hG; clear hG
  have jH19 : Mo H16 H19 := by rw [eH19]; exact Mo.nw _ _ _
  obtain ⟨H21, eH21, hG⟩ := bnd_g hF; clear hF
  have jH21 : Mo H19 H21 := by rw [eH21]; exact Mo.rf _
  obtain ⟨q22, hF⟩ := ck_s hG; clear hG
  obtain ⟨q23, hG⟩ := ck_s hF; clear hF
  obtain ⟨H24, eH24, hF⟩ := bnd_g hG; clear hG
  obtain ⟨a25, ea25, hG⟩ := bnd_g hF; clear hF
  have jH24 : Mo H21 H24 := by rw [eH24]; exact Mo.nw _ _ _
  obtain ⟨H26, eH26, hF⟩ := bnd_g hG; clear hG
  have jH26 : Mo H24 H26 := by rw [eH26]; exact Mo.rf _
  obtain ⟨q27, hG⟩ := ck_s hF; clear hF
  obtain ⟨q28, hF⟩ := ck_s hG; clear hG
  obtain ⟨H29, eH29, hG⟩ := bnd_g hF; clear hF
  obtain ⟨a30, ea30, hF⟩ := bnd_g hG; clear hG
  have jH29 : Mo H26 H29 := by rw [eH29]; exact Mo.nw _ _ _
  obtain ⟨H31, eH31, hG⟩ := bnd_g hF; clear hF
  have jH31 : Mo H29 H31 := by rw [eH31]; exact Mo.rf _
  obtain ⟨q32, hF⟩ := ck_s hG; clear hG
  obtain ⟨q33, hG⟩ := ck_s hF; clear hF
  obtain ⟨H34, eH34, hF⟩ := bnd_g hG; clear hG
  obtain ⟨a35, ea35, hG⟩ := bnd_g hF; clear hF
  have jH34 : Mo H31 H34 := by rw [eH34]; exact Mo.nw _ _ _
  obtain ⟨H36, eH36, hF⟩ := bnd_g hG; clear hG
  have jH36 : Mo H34 H36 := by rw [eH36]; exact Mo.rf _
  obtain ⟨q37, hG⟩ := ck_s hF; clear hF
  obtain ⟨q38, hF⟩ := ck_s hG; clear hG
  obtain ⟨H39, eH39, hG⟩ := bnd_g hF; clear hF
  obtain ⟨a40, ea40, hF⟩ := bnd_g hG; clear hG
  have jH39 : Mo H36 H39 := by rw [eH39]; exact Mo.nw _ _ _
  obtain ⟨H41, eH41, hG⟩ := bnd_g hF; clear hF
  have jH41 : Mo H39 H41 := by rw [eH41]; exact Mo.rf _
  obtain ⟨q42, hF⟩ := ck_s hG; clear hG
  obtain ⟨q43, hG⟩ := ck_s hF; clear hF
  obtain ⟨H44, eH44, hF⟩ := bnd_g hG; clear hG
  obtain ⟨a45, ea45, hG⟩ := bnd_g hF; clear hF
  have jH44 : Mo H41 H44 := by rw [eH44]; exact Mo.nw _ _ _
  obtain ⟨H46, eH46, hF⟩ := bnd_g hG; clear hG
  have jH46 : Mo H44 H46 := by rw [eH46]; exact Mo.rf _
  obtain ⟨q47, hG⟩ := ck_s hF; clear hF
  obtain ⟨q48, hF⟩ := ck_s hG; clear hG
  obtain ⟨H49, eH49, hG⟩ := bnd_g hF; clear hF
  obtain ⟨a50, ea50, hF⟩ := bnd_g hG; clear hG
  have jH49 : Mo H46 H49 := by rw [eH49]; exact Mo.nw _ _ _
  obtain ⟨H51, eH51, hG⟩ := bnd_g hF; clear hF
  have jH51 : Mo H49 H51 := by rw [eH51]; exact Mo.rf _
  obtain ⟨q52, hF⟩ := ck_s hG; clear hG
  obtain ⟨q53, hG⟩ := ck_s hF; clear hF
  obtain ⟨H54, eH54, hF⟩ := bnd_g hG; clear hG
  obtain ⟨a55, ea55, hG⟩ := bnd_g hF; clear hF
  have jH54 : Mo H51 H54 := by rw [eH54]; exact Mo.nw _ _ _
  obtain ⟨H56, eH56, hF⟩ := bnd_g hG; clear hG
  have jH56 : Mo H54 H56 := by rw [eH56]; exact Mo.rf _
  obtain ⟨q57, hG⟩ := ck_s hF; clear hF
  obtain ⟨q58, hF⟩ := ck_s hG; clear hG
  obtain ⟨H59, eH59, hG⟩ := bnd_g hF; clear hF
  obtain ⟨a60, ea60, hF⟩ := bnd_g hG; clear hG
  have jH59 : Mo H56 H59 := by rw [eH59]; exact Mo.nw _ _ _
  obtain ⟨H61, eH61, hG⟩ := bnd_g hF; clear hF
  have jH61 : Mo H59 H61 := by rw [eH61]; exact Mo.rf _
  obtain ⟨q62, hF⟩ := ck_s hG; clear hG
  obtain ⟨q63, hG⟩ := ck_s hF; clear hF
  obtain ⟨H64, eH64, hF⟩ := bnd_g hG; clear hG
  obtain ⟨a65, ea65, hG⟩ := bnd_g hF; clear hF
  have jH64 : Mo H61 H64 := by rw [eH64]; exact Mo.nw _ _ _
  obtain ⟨H66, eH66, hF⟩ := bnd_g hG; clear hG
  have jH66 : Mo H64 H66 := by rw [eH66]; exact Mo.rf _
  obtain ⟨q67, hG⟩ := ck_s hF; clear hF
  obtain ⟨q68, hF⟩ := ck_s hG; clear hG
  obtain ⟨H69, eH69, hG⟩ := bnd_g hF; clear hF
  obtain ⟨a70, ea70, hF⟩ := bnd_g hG; clear hG
  have jH69 : Mo H66 H69 := by rw [eH69]; exact Mo.nw _ _ _
  obtain ⟨H71, eH71, hG⟩ := bnd_g hF; clear hF
  have jH71 : Mo H69 H71 := by rw [eH71]; exact Mo.rf _
  obtain ⟨q72, hF⟩ := ck_s hG; clear hG
  obtain ⟨q73, hG⟩ := ck_s hF; clear hF
  obtain ⟨H74, eH74, hF⟩ := bnd_g hG; clear hG
  obtain ⟨a75, ea75, hG⟩ := bnd_g hF; clear hF
  have jH74 : Mo H71 H74 := by rw [eH74]; exact Mo.nw _ _ _
  obtain ⟨H76, eH76, hF⟩ := bnd_g hG; clear hG
  have jH76 : Mo H74 H76 := by rw [eH76]; exact Mo.rf _
  obtain ⟨q77, hG⟩ := ck_s hF; clear hF
  obtain ⟨q78, hF⟩ := ck_s hG; clear hG
  obtain ⟨H79, eH79, hG⟩ := bnd_g hF; clear hF
  obtain ⟨a80, ea80, hF⟩ := bnd_g hG; clear hG
  have jH79 : Mo H76 H79 := by rw [eH79]; exact Mo.nw _ _ _
  obtain ⟨H81, eH81, hG⟩ := bnd_g hF; clear hF
  have jH81 : Mo H79 H81 := by rw [eH81]; exact Mo.rf _
  obtain ⟨q82, hF⟩ := ck_s hG; clear hG
  obtain ⟨q83, hG⟩ := ck_s hF; clear hF
  obtain ⟨H84, eH84, hF⟩ := bnd_g hG; clear hG
  obtain ⟨a85, ea85, hG⟩ := bnd_g hF; clear hF
  have jH84 : Mo H81 H84 := by rw [eH84]; exact Mo.nw _ _ _
  obtain ⟨H86, eH86, hF⟩ := bnd_g hG; clear hG
  have jH86 : Mo H84 H86 := by rw [eH86]; exact Mo.rf _
  obtain ⟨q87, hG⟩ := ck_s hF; clear hF
  obtain ⟨q88, hF⟩ := ck_s hG; clear hG
  obtain ⟨H89, eH89, hG⟩ := bnd_g hF; clear hF
  obtain ⟨a90, ea90, hF⟩ := bnd_g hG; clear hG
  have jH89 : Mo H86 H89 := by rw [eH89]; exact Mo.nw _ _ _
  obtain ⟨H91, eH91, hG⟩ := bnd_g hF; clear hF
  have jH91 : Mo H89 H91 := by rw [eH91]; exact Mo.rf _
  obtain ⟨q92, hF⟩ := ck_s hG; clear hG
  obtain ⟨q93, hG⟩ := ck_s hF; clear hF
  obtain ⟨H94, eH94, hF⟩ := bnd_g hG; clear hG
  obtain ⟨a95, ea95, hG⟩ := bnd_g hF; clear hF
  have jH94 : Mo H91 H94 := by rw [eH94]; exact Mo.nw _ _ _
  obtain ⟨H96, eH96, hF⟩ := bnd_g hG; clear hG
  have jH96 : Mo H94 H96 := by rw [eH96]; exact Mo.rf _
  obtain ⟨q97, hG⟩ := ck_s hF; clear hF
  obtain ⟨q98, hF⟩ := ck_s hG; clear hG
  obtain ⟨H99, eH99, hG⟩ := bnd_g hF; clear hF
  obtain ⟨a100, ea100, hF⟩ := bnd_g hG; clear hG
  have jH99 : Mo H96 H99 := by rw [eH99]; exact Mo.nw _ _ _
  obtain ⟨H101, eH101, hG⟩ := bnd_g hF; clear hF
  have jH101 : Mo H99 H101 := by rw [eH101]; exact Mo.rf _
  obtain ⟨q102, hF⟩ := ck_s hG; clear hG
  obtain ⟨q103, hG⟩ := ck_s hF; clear hF
  obtain ⟨H104, eH104, hF⟩ := bnd_g hG; clear hG
  obtain ⟨a105, ea105, hG⟩ := bnd_g hF; clear hF
  have jH104 : Mo H101 H104 := by rw [eH104]; exact Mo.nw _ _ _
  obtain ⟨H106, eH106, hF⟩ := bnd_g hG; clear hG
  have jH106 : Mo H104 H106 := by rw [eH106]; exact Mo.rf _
  obtain ⟨q107, hG⟩ := ck_s hF; clear hF
  obtain ⟨q108, hF⟩ := ck_s hG; clear hG
  obtain ⟨H109, eH109, hG⟩ := bnd_g hF; clear hF
  obtain ⟨a110, ea110, hF⟩ := bnd_g hG; clear hG
  have jH109 : Mo H106 H109 := by rw [eH109]; exact Mo.nw _ _ _
  obtain ⟨H111, eH111, hG⟩ := bnd_g hF; clear hF
  have jH111 : Mo H109 H111 := by rw [eH111]; exact Mo.rf _
  obtain ⟨q112, hF⟩ := ck_s hG; clear hG
  obtain ⟨q113, hG⟩ := ck_s hF; clear hF
  obtain ⟨H114, eH114, hF⟩ := bnd_g hG; clear hG
  obtain ⟨a115, ea115, hG⟩ := bnd_g hF; clear hF
  have jH114 : Mo H111 H114 := by rw [eH114]; exact Mo.nw _ _ _
  obtain ⟨H116, eH116, hF⟩ := bnd_g hG; clear hG
  have jH116 : Mo H114 H116 := by rw [eH116]; exact Mo.rf _
  obtain ⟨q117, hG⟩ := ck_s hF; clear hF
  obtain ⟨q118, hF⟩ := ck_s hG; clear hG
  obtain ⟨H119, eH119, hG⟩ := bnd_g hF; clear hF
  obtain ⟨a120, ea120, hF⟩ := bnd_g hG; clear hG
  have jH119 : Mo H116 H119 := by rw [eH119]; exact Mo.nw _ _ _
  obtain ⟨H121, eH121, hG⟩ := bnd_g hF; clear hF
  have jH121 : Mo H119 H121 := by rw [eH121]; exact Mo.rf _
  obtain ⟨q122, hF⟩ := ck_s hG; clear hG
  obtain ⟨q123, hG⟩ := ck_s hF; clear hF
  obtain ⟨H124, eH124, hF⟩ := bnd_g hG; clear hG
  obtain ⟨a125, ea125, hG⟩ := bnd_g hF; clear hF
  have jH124 : Mo H121 H124 := by rw [eH124]; exact Mo.nw _ _ _
  obtain ⟨H126, eH126, hF⟩ := bnd_g hG; clear hG
  have jH126 : Mo H124 H126 := by rw [eH126]; exact Mo.rf _
  obtain ⟨q127, hG⟩ := ck_s hF; clear hF
  obtain ⟨q128, hF⟩ := ck_s hG; clear hG
  obtain ⟨H129, eH129, hG⟩ := bnd_g hF; clear hF
  obtain ⟨a130, ea130, hF⟩ := bnd_g hG; clear hG
  have jH129 : Mo H126 H129 := by rw [eH129]; exact Mo.nw _ _ _
  obtain ⟨H131, eH131, hG⟩ := bnd_g hF; clear hF
  have jH131 : Mo H129 H131 := by rw [eH131]; exact Mo.rf _
  obtain ⟨q132, hF⟩ := ck_s hG; clear hG
  obtain ⟨q133, hG⟩ := ck_s hF; clear hF
  obtain ⟨H134, eH134, hF⟩ := bnd_g hG; clear hG
  obtain ⟨a135, ea135, hG⟩ := bnd_g hF; clear hF
  have jH134 : Mo H131 H134 := by rw [eH134]; exact Mo.nw _ _ _
  obtain ⟨H136, eH136, hF⟩ := bnd_g hG; clear hG
  have jH136 : Mo H134 H136 := by rw [eH136]; exact Mo.rf _
  obtain ⟨q137, hG⟩ := ck_s hF; clear hF
  obtain ⟨q138, hF⟩ := ck_s hG; clear hG
  obtain ⟨H139, eH139, hG⟩ := bnd_g hF; clear hF
  obtain ⟨a140, ea140, hF⟩ := bnd_g hG; clear hG
  have jH139 : Mo H136 H139 := by rw [eH139]; exact Mo.nw _ _ _
  obtain ⟨H141, eH141, hG⟩ := bnd_g hF; clear hF
  have jH141 : Mo H139 H141 := by rw [eH141]; exact Mo.rf _
  obtain ⟨q142, hF⟩ := ck_s hG; clear hG
  obtain ⟨q143, hG⟩ := ck_s hF; clear hF
  obtain ⟨H144, eH144, hF⟩ := bnd_g hG; clear hG
  obtain ⟨a145, ea145, hG⟩ := bnd_g hF; clear hF
  have jH144 : Mo H141 H144 := by rw [eH144]; exact Mo.nw _ _ _
  obtain ⟨H146, eH146, hF⟩ := bnd_g hG; clear hG
  have jH146 : Mo H144 H146 := by rw [eH146]; exact Mo.rf _
  obtain ⟨q147, hG⟩ := ck_s hF; clear hF
  obtain ⟨q148, hF⟩ := ck_s hG; clear hG
  obtain ⟨H149, eH149, hG⟩ := bnd_g hF; clear hF
  obtain ⟨a150, ea150, hF⟩ := bnd_g hG; clear hG
  have jH149 : Mo H146 H149 := by rw [eH149]; exact Mo.nw _ _ _
  obtain ⟨H151, eH151, hG⟩ := bnd_g hF; clear hF
  have jH151 : Mo H149 H151 := by rw [eH151]; exact Mo.rf _
  have fH151 : Mo H151 r.2 := by
    have hm := Mo.rf H151
    have hr := Option.some.inj hG; subst hr
    exact hm
  have fH149 : Mo H149 r.2 := jH151.tr fH151
  have fH146 : Mo H146 r.2 := jH149.tr fH149
  have fH144 : Mo H144 r.2 := jH146.tr fH146
  have fH141 : Mo H141 r.2 := jH144.tr fH144
  have fH139 : Mo H139 r.2 := jH141.tr fH141
  have fH136 : Mo H136 r.2 := jH139.tr fH139
  have fH134 : Mo H134 r.2 := jH136.tr fH136
  have fH131 : Mo H131 r.2 := jH134.tr fH134
  have fH129 : Mo H129 r.2 := jH131.tr fH131
  have fH126 : Mo H126 r.2 := jH129.tr fH129
  have fH124 : Mo H124 r.2 := jH126.tr fH126
  have fH121 : Mo H121 r.2 := jH124.tr fH124
  have fH119 : Mo H119 r.2 := jH121.tr fH121
  have fH116 : Mo H116 r.2 := jH119.tr fH119
  have fH114 : Mo H114 r.2 := jH116.tr fH116
  have fH111 : Mo H111 r.2 := jH114.tr fH114
  have fH109 : Mo H109 r.2 := jH111.tr fH111
  have fH106 : Mo H106 r.2 := jH109.tr fH109
  have fH104 : Mo H104 r.2 := jH106.tr fH106
  have fH101 : Mo H101 r.2 := jH104.tr fH104
  have fH99 : Mo H99 r.2 := jH101.tr fH101
  have fH96 : Mo H96 r.2 := jH99.tr fH99
  have fH94 : Mo H94 r.2 := jH96.tr fH96
  have fH91 : Mo H91 r.2 := jH94.tr fH94
  have fH89 : Mo H89 r.2 := jH91.tr fH91
  have fH86 : Mo H86 r.2 := jH89.tr fH89
  have fH84 : Mo H84 r.2 := jH86.tr fH86
  have fH81 : Mo H81 r.2 := jH84.tr fH84
  have fH79 : Mo H79 r.2 := jH81.tr fH81
  have fH76 : Mo H76 r.2 := jH79.tr fH79
  have fH74 : Mo H74 r.2 := jH76.tr fH76
  have fH71 : Mo H71 r.2 := jH74.tr fH74
  have fH69 : Mo H69 r.2 := jH71.tr fH71
  have fH66 : Mo H66 r.2 := jH69.tr fH69
  have fH64 : Mo H64 r.2 := jH66.tr fH66
  have fH61 : Mo H61 r.2 := jH64.tr fH64
  have fH59 : Mo H59 r.2 := jH61.tr fH61
  have fH56 : Mo H56 r.2 := jH59.tr fH59
  have fH54 : Mo H54 r.2 := jH56.tr fH56
  have fH51 : Mo H51 r.2 := jH54.tr fH54
  have fH49 : Mo H49 r.2 := jH51.tr fH51
  have fH46 : Mo H46 r.2 := jH49.tr fH49
  have fH44 : Mo H44 r.2 := jH46.tr fH46
  have fH41 : Mo H41 r.2 := jH44.tr fH44
  have fH39 : Mo H39 r.2 := jH41.tr fH41
  have fH36 : Mo H36 r.2 := jH39.tr fH39
  have fH34 : Mo H34 r.2 := jH36.tr fH36
  have fH31 : Mo H31 r.2 := jH34.tr fH34
  have fH29 : Mo H29 r.2 := jH31.tr fH31
  have fH26 : Mo H26 r.2 := jH29.tr fH29
  have fH24 : Mo H24 r.2 := jH26.tr fH26
  have fH21 : Mo H21 r.2 := jH24.tr fH24
  have fH19 : Mo H19 r.2 := jH21.tr fH21
  have fH16 : Mo H16 r.2 := jH19.tr fH19
  have fH14 : Mo H14 r.2 := jH16.tr fH16
  have fH11 : Mo H11 r.2 := jH14.tr fH14
  have fH9 : Mo H9 r.2 := jH11.tr fH11
  have fH6 : Mo H6 r.2 := jH9.tr fH9
  have fH3 : Mo H3 r.2 := jH6.tr fH6
  have b_2m := (fH3).len
  have b_2n := (fH3).2
  have b_2p : H3.sh.length ≤ c0 + C := by omega
  have b_2q : H3.sl ≤ s0 + Sl := by omega
  refine hp_newa (q := 101) d_MText_init_8 rfl (k1 142 rfl rfl) tB (Or.inr (Or.inl rfl)) ⟨by decide, by decide, rfl⟩ rfl q1 q2 (by show _ ≤ C; omega) (by show _ + ((6000 : Int32)).toNatClampNeg ≤ Sl; omega) ?_
  refine ab_widen (cells' := H3.sh.length - c0) (slots' := H3.sl - s0) (by omega) (by show _ + ((6000 : Int32)).toNatClampNeg ≤ _; omega) ?_
  rw [← eH3, ← ea4]
  clear b_2l b_2s b_2x b_2y b_2m b_2n
  refine hp_putFP (v := .ref a4) (f := 0) d_MText_init_10 q5 (by decide) rfl (by decide) (k8 159 rfl rfl) rfl rfl rfl rfl (fun _ => rfl) (fun _ => rfl) rfl ?_
  refine hp_genx eH6 ?_
  have s_62 : Sa H3 H6 := by rw [eH6]; exact Sa.rf _
  refine ab_aload_n d_MText_init_13 rfl rfl rfl ?_
  refine ab_sipush (v := 6002) d_MText_init_14 (by decide) ?_
  have m_63 : Mo H6 H9 := by rw [eH9]; exact Mo.nw _ _ _
  have b_64l := (m_63).len
  have b_64s := (m_63).2
  have b_64e := congrArg List.length (s_62).1
  have b_64f := (s_62).2
  have b_64c : c0 ≤ H9.sh.length := by omega
  have b_64d : s0 ≤ H9.sl := by omega
  have b_64x : H9.sh.length = H6.sh.length + 1 := by rw [eH9]; simp [Hp.nw, mkH_sh]
  have b_64y : H9.sl = H6.sl + ((6002 : Int32)).toNatClampNeg := by rw [eH9]; rfl
  have q_65 := (m_63).get (by rw [(s_62).1]; exact q5)
  have b_64m := (fH9).len
  have b_64n := (fH9).2
  have b_64p : H9.sh.length ≤ c0 + C := by omega
  have b_64q : H9.sl ≤ s0 + Sl := by omega
  refine ab_widen (cells' := H6.sh.length - c0) (slots' := H6.sl - s0) (by rw [(s_62).1]; exact Nat.le_refl _) (by rw [(s_62).2]; exact Nat.le_refl _) ?_
  refine hp_newa (q := 100) d_MText_init_17 rfl (k1 143 rfl rfl) tI (Or.inl rfl) ⟨by decide, by decide, rfl⟩ rfl q7 q8 (by show _ ≤ C; omega) (by show _ + ((6002 : Int32)).toNatClampNeg ≤ Sl; omega) ?_
  refine ab_widen (cells' := H9.sh.length - c0) (slots' := H9.sl - s0) (by omega) (by show _ + ((6002 : Int32)).toNatClampNeg ≤ _; omega) ?_
  rw [← eH9, ← ea10]
  clear b_64l b_64s b_64x b_64y b_64m b_64n b_64e b_64f b_2c b_2d b_2p b_2q
  refine hp_putFP (v := .ref a10) (f := 3) d_MText_init_19 q_65 (by decide) rfl (by decide) (k8 162 rfl rfl) rfl rfl rfl rfl (fun _ => rfl) (fun _ => rfl) rfl ?_
  refine hp_genx eH11 ?_
  have s_66 : Sa H9 H11 := by rw [eH11]; exact Sa.rf _
  refine ab_aload_n d_MText_init_22 rfl rfl rfl ?_
  refine ab_sipush (v := 6002) d_MText_init_23 (by decide) ?_
  have m_67 : Mo H11 H14 := by rw [eH14]; exact Mo.nw _ _ _
  have b_68l := (m_67).len
  have b_68s := (m_67).2
  have b_68e := congrArg List.length (s_66).1
  have b_68f := (s_66).2
  have b_68c : c0 ≤ H14.sh.length := by omega
  have b_68d : s0 ≤ H14.sl := by omega
  have b_68x : H14.sh.length = H11.sh.length + 1 := by rw [eH14]; simp [Hp.nw, mkH_sh]
  have b_68y : H14.sl = H11.sl + ((6002 : Int32)).toNatClampNeg := by rw [eH14]; rfl
  have q_69 := (m_67).get (by rw [(s_66).1]; exact q_65)
  have b_68m := (fH14).len
  have b_68n := (fH14).2
  have b_68p : H14.sh.length ≤ c0 + C := by omega
  have b_68q : H14.sl ≤ s0 + Sl := by omega
  refine ab_widen (cells' := H11.sh.length - c0) (slots' := H11.sl - s0) (by rw [(s_66).1]; exact Nat.le_refl _) (by rw [(s_66).2]; exact Nat.le_refl _) ?_
  refine hp_newa (q := 100) d_MText_init_26 rfl (k1 143 rfl rfl) tI (Or.inl rfl) ⟨by decide, by decide, rfl⟩ rfl q12 q13 (by show _ ≤ C; omega) (by show _ + ((6002 : Int32)).toNatClampNeg ≤ Sl; omega) ?_
  refine ab_widen (cells' := H14.sh.length - c0) (slots' := H14.sl - s0) (by omega) (by show _ + ((6002 : Int32)).toNatClampNeg ≤ _; omega) ?_
  rw [← eH14, ← ea15]
  clear b_68l b_68s b_68x b_68y b_68m b_68n b_68e b_68f b_64c b_64d b_64p b_64q
  refine hp_putFP (v := .ref a15) (f := 4) d_MText_init_28 q_69 (by decide) rfl (by decide) (k8 164 rfl rfl) rfl rfl rfl rfl (fun _ => rfl) (fun _ => rfl) rfl ?_
  refine hp_genx eH16 ?_
  have s_70 : Sa H14 H16 := by rw [eH16]; exact Sa.rf _
  refine ab_aload_n d_MText_init_31 rfl rfl rfl ?_
  refine ab_sipush (v := 6002) d_MText_init_32 (by decide) ?_
  have m_71 : Mo H16 H19 := by rw [eH19]; exact Mo.nw _ _ _
  have b_72l := (m_71).len
  have b_72s := (m_71).2
  have b_72e := congrArg List.length (s_70).1
  have b_72f := (s_70).2
  have b_72c : c0 ≤ H19.sh.length := by omega
  have b_72d : s0 ≤ H19.sl := by omega
  have b_72x : H19.sh.length = H16.sh.length + 1 := by rw [eH19]; simp [Hp.nw, mkH_sh]
  have b_72y : H19.sl = H16.sl + ((6002 : Int32)).toNatClampNeg := by rw [eH19]; rfl
  have q_73 := (m_71).get (by rw [(s_70).1]; exact q_69)
  have b_72m := (fH19).len
  have b_72n := (fH19).2
  have b_72p : H19.sh.length ≤ c0 + C := by omega
  have b_72q : H19.sl ≤ s0 + Sl := by omega
  refine ab_widen (cells' := H16.sh.length - c0) (slots' := H16.sl - s0) (by rw [(s_70).1]; exact Nat.le_refl _) (by rw [(s_70).2]; exact Nat.le_refl _) ?_
  refine hp_newa (q := 100) d_MText_init_35 rfl (k1 143 rfl rfl) tI (Or.inl rfl) ⟨by decide, by decide, rfl⟩ rfl q17 q18 (by show _ ≤ C; omega) (by show _ + ((6002 : Int32)).toNatClampNeg ≤ Sl; omega) ?_
  refine ab_widen (cells' := H19.sh.length - c0) (slots' := H19.sl - s0) (by omega) (by show _ + ((6002 : Int32)).toNatClampNeg ≤ _; omega) ?_
  rw [← eH19, ← ea20]
  clear b_72l b_72s b_72x b_72y b_72m b_72n b_72e b_72f b_68c b_68d b_68p b_68q
  refine hp_putFP (v := .ref a20) (f := 5) d_MText_init_37 q_73 (by decide) rfl (by decide) (k8 165 rfl rfl) rfl rfl rfl rfl (fun _ => rfl) (fun _ => rfl) rfl ?_
  refine hp_genx eH21 ?_
  have s_74 : Sa H19 H21 := by rw [eH21]; exact Sa.rf _
  refine ab_aload_n d_MText_init_40 rfl rfl rfl ?_
  refine ab_sipush (v := 6002) d_MText_init_41 (by decide) ?_
  have m_75 : Mo H21 H24 := by rw [eH24]; exact Mo.nw _ _ _
  have b_76l := (m_75).len
  have b_76s := (m_75).2
  have b_76e := congrArg List.length (s_74).1
  have b_76f := (s_74).2
  have b_76c : c0 ≤ H24.sh.length := by omega
  have b_76d : s0 ≤ H24.sl := by omega
  have b_76x : H24.sh.length = H21.sh.length + 1 := by rw [eH24]; simp [Hp.nw, mkH_sh]
  have b_76y : H24.sl = H21.sl + ((6002 : Int32)).toNatClampNeg := by rw [eH24]; rfl
  have q_77 := (m_75).get (by rw [(s_74).1]; exact q_73)
  have b_76m := (fH24).len
  have b_76n := (fH24).2
  have b_76p : H24.sh.length ≤ c0 + C := by omega
  have b_76q : H24.sl ≤ s0 + Sl := by omega
  refine ab_widen (cells' := H21.sh.length - c0) (slots' := H21.sl - s0) (by rw [(s_74).1]; exact Nat.le_refl _) (by rw [(s_74).2]; exact Nat.le_refl _) ?_
  refine hp_newa (q := 100) d_MText_init_44 rfl (k1 143 rfl rfl) tI (Or.inl rfl) ⟨by decide, by decide, rfl⟩ rfl q22 q23 (by show _ ≤ C; omega) (by show _ + ((6002 : Int32)).toNatClampNeg ≤ Sl; omega) ?_
  refine ab_widen (cells' := H24.sh.length - c0) (slots' := H24.sl - s0) (by omega) (by show _ + ((6002 : Int32)).toNatClampNeg ≤ _; omega) ?_
  rw [← eH24, ← ea25]
  clear b_76l b_76s b_76x b_76y b_76m b_76n b_76e b_76f b_72c b_72d b_72p b_72q
  refine hp_putFP (v := .ref a25) (f := 6) d_MText_init_46 q_77 (by decide) rfl (by decide) (k8 166 rfl rfl) rfl rfl rfl rfl (fun _ => rfl) (fun _ => rfl) rfl ?_
  refine hp_genx eH26 ?_
  have s_78 : Sa H24 H26 := by rw [eH26]; exact Sa.rf _
  refine ab_aload_n d_MText_init_49 rfl rfl rfl ?_
  refine ab_sipush (v := 6002) d_MText_init_50 (by decide) ?_
  have m_79 : Mo H26 H29 := by rw [eH29]; exact Mo.nw _ _ _
  have b_80l := (m_79).len
  have b_80s := (m_79).2
  have b_80e := congrArg List.length (s_78).1
  have b_80f := (s_78).2
  have b_80c : c0 ≤ H29.sh.length := by omega
  have b_80d : s0 ≤ H29.sl := by omega
  have b_80x : H29.sh.length = H26.sh.length + 1 := by rw [eH29]; simp [Hp.nw, mkH_sh]
  have b_80y : H29.sl = H26.sl + ((6002 : Int32)).toNatClampNeg := by rw [eH29]; rfl
  have q_81 := (m_79).get (by rw [(s_78).1]; exact q_77)
  have b_80m := (fH29).len
  have b_80n := (fH29).2
  have b_80p : H29.sh.length ≤ c0 + C := by omega
  have b_80q : H29.sl ≤ s0 + Sl := by omega
  refine ab_widen (cells' := H26.sh.length - c0) (slots' := H26.sl - s0) (by rw [(s_78).1]; exact Nat.le_refl _) (by rw [(s_78).2]; exact Nat.le_refl _) ?_
  refine hp_newa (q := 102) d_MText_init_53 rfl (k1 144 rfl rfl) tZ (Or.inr (Or.inr (Or.inl rfl))) ⟨by decide, by decide, rfl⟩ rfl q27 q28 (by show _ ≤ C; omega) (by show _ + ((6002 : Int32)).toNatClampNeg ≤ Sl; omega) ?_
  refine ab_widen (cells' := H29.sh.length - c0) (slots' := H29.sl - s0) (by omega) (by show _ + ((6002 : Int32)).toNatClampNeg ≤ _; omega) ?_
  rw [← eH29, ← ea30]
  clear b_80l b_80s b_80x b_80y b_80m b_80n b_80e b_80f b_76c b_76d b_76p b_76q
  refine hp_putFP (v := .ref a30) (f := 7) d_MText_init_55 q_81 (by decide) rfl (by decide) (k8 168 rfl rfl) rfl rfl rfl rfl (fun _ => rfl) (fun _ => rfl) rfl ?_
  refine hp_genx eH31 ?_
  have s_82 : Sa H29 H31 := by rw [eH31]; exact Sa.rf _
  refine ab_aload_n d_MText_init_58 rfl rfl rfl ?_
  refine ab_sipush (v := 6002) d_MText_init_59 (by decide) ?_
  have m_83 : Mo H31 H34 := by rw [eH34]; exact Mo.nw _ _ _
  have b_84l := (m_83).len
  have b_84s := (m_83).2
  have b_84e := congrArg List.length (s_82).1
  have b_84f := (s_82).2
  have b_84c : c0 ≤ H34.sh.length := by omega
  have b_84d : s0 ≤ H34.sl := by omega
  have b_84x : H34.sh.length = H31.sh.length + 1 := by rw [eH34]; simp [Hp.nw, mkH_sh]
  have b_84y : H34.sl = H31.sl + ((6002 : Int32)).toNatClampNeg := by rw [eH34]; rfl
  have q_85 := (m_83).get (by rw [(s_82).1]; exact q_81)
  have b_84m := (fH34).len
  have b_84n := (fH34).2
  have b_84p : H34.sh.length ≤ c0 + C := by omega
  have b_84q : H34.sl ≤ s0 + Sl := by omega
  refine ab_widen (cells' := H31.sh.length - c0) (slots' := H31.sl - s0) (by rw [(s_82).1]; exact Nat.le_refl _) (by rw [(s_82).2]; exact Nat.le_refl _) ?_
  refine hp_newa (q := 100) d_MText_init_62 rfl (k1 143 rfl rfl) tI (Or.inl rfl) ⟨by decide, by decide, rfl⟩ rfl q32 q33 (by show _ ≤ C; omega) (by show _ + ((6002 : Int32)).toNatClampNeg ≤ Sl; omega) ?_
  refine ab_widen (cells' := H34.sh.length - c0) (slots' := H34.sl - s0) (by omega) (by show _ + ((6002 : Int32)).toNatClampNeg ≤ _; omega) ?_
  rw [← eH34, ← ea35]
  clear b_84l b_84s b_84x b_84y b_84m b_84n b_84e b_84f b_80c b_80d b_80p b_80q
  refine hp_putFP (v := .ref a35) (f := 8) d_MText_init_64 q_85 (by decide) rfl (by decide) (k8 169 rfl rfl) rfl rfl rfl rfl (fun _ => rfl) (fun _ => rfl) rfl ?_
  refine hp_genx eH36 ?_
  have s_86 : Sa H34 H36 := by rw [eH36]; exact Sa.rf _
  refine ab_aload_n d_MText_init_67 rfl rfl rfl ?_
  refine ab_bipush (v := 56) d_MText_init_68 (by decide) ?_
  have m_87 : Mo H36 H39 := by rw [eH39]; exact Mo.nw _ _ _
  have b_88l := (m_87).len
  have b_88s := (m_87).2
  have b_88e := congrArg List.length (s_86).1
  have b_88f := (s_86).2
  have b_88c : c0 ≤ H39.sh.length := by omega
  have b_88d : s0 ≤ H39.sl := by omega
  have b_88x : H39.sh.length = H36.sh.length + 1 := by rw [eH39]; simp [Hp.nw, mkH_sh]
  have b_88y : H39.sl = H36.sl + ((56 : Int32)).toNatClampNeg := by rw [eH39]; rfl
  have q_89 := (m_87).get (by rw [(s_86).1]; exact q_85)
  have b_88m := (fH39).len
  have b_88n := (fH39).2
  have b_88p : H39.sh.length ≤ c0 + C := by omega
  have b_88q : H39.sl ≤ s0 + Sl := by omega
  refine ab_widen (cells' := H36.sh.length - c0) (slots' := H36.sl - s0) (by rw [(s_86).1]; exact Nat.le_refl _) (by rw [(s_86).2]; exact Nat.le_refl _) ?_
  refine hp_newa (q := 100) d_MText_init_70 rfl (k1 143 rfl rfl) tI (Or.inl rfl) ⟨by decide, by decide, rfl⟩ rfl q37 q38 (by show _ ≤ C; omega) (by show _ + ((56 : Int32)).toNatClampNeg ≤ Sl; omega) ?_
  refine ab_widen (cells' := H39.sh.length - c0) (slots' := H39.sl - s0) (by omega) (by show _ + ((56 : Int32)).toNatClampNeg ≤ _; omega) ?_
  rw [← eH39, ← ea40]
  clear b_88l b_88s b_88x b_88y b_88m b_88n b_88e b_88f b_84c b_84d b_84p b_84q
  refine hp_putFP (v := .ref a40) (f := 13) d_MText_init_72 q_89 (by decide) rfl (by decide) (k8 177 rfl rfl) rfl rfl rfl rfl (fun _ => rfl) (fun _ => rfl) rfl ?_
  refine hp_genx eH41 ?_
  have s_90 : Sa H39 H41 := by rw [eH41]; exact Sa.rf _
  refine ab_aload_n d_MText_init_75 rfl rfl rfl ?_
  refine ab_bipush (v := 56) d_MText_init_76 (by decide) ?_
  have m_91 : Mo H41 H44 := by rw [eH44]; exact Mo.nw _ _ _
  have b_92l := (m_91).len
  have b_92s := (m_91).2
  have b_92e := congrArg List.length (s_90).1
  have b_92f := (s_90).2
  have b_92c : c0 ≤ H44.sh.length := by omega
  have b_92d : s0 ≤ H44.sl := by omega
  have b_92x : H44.sh.length = H41.sh.length + 1 := by rw [eH44]; simp [Hp.nw, mkH_sh]
  have b_92y : H44.sl = H41.sl + ((56 : Int32)).toNatClampNeg := by rw [eH44]; rfl
  have q_93 := (m_91).get (by rw [(s_90).1]; exact q_89)
  have b_92m := (fH44).len
  have b_92n := (fH44).2
  have b_92p : H44.sh.length ≤ c0 + C := by omega
  have b_92q : H44.sl ≤ s0 + Sl := by omega
  refine ab_widen (cells' := H41.sh.length - c0) (slots' := H41.sl - s0) (by rw [(s_90).1]; exact Nat.le_refl _) (by rw [(s_90).2]; exact Nat.le_refl _) ?_
  refine hp_newa (q := 100) d_MText_init_78 rfl (k1 143 rfl rfl) tI (Or.inl rfl) ⟨by decide, by decide, rfl⟩ rfl q42 q43 (by show _ ≤ C; omega) (by show _ + ((56 : Int32)).toNatClampNeg ≤ Sl; omega) ?_
  refine ab_widen (cells' := H44.sh.length - c0) (slots' := H44.sl - s0) (by omega) (by show _ + ((56 : Int32)).toNatClampNeg ≤ _; omega) ?_
  rw [← eH44, ← ea45]
  clear b_92l b_92s b_92x b_92y b_92m b_92n b_92e b_92f b_88c b_88d b_88p b_88q
  refine hp_putFP (v := .ref a45) (f := 14) d_MText_init_80 q_93 (by decide) rfl (by decide) (k8 178 rfl rfl) rfl rfl rfl rfl (fun _ => rfl) (fun _ => rfl) rfl ?_
  refine hp_genx eH46 ?_
  have s_94 : Sa H44 H46 := by rw [eH46]; exact Sa.rf _
  refine ab_aload_n d_MText_init_83 rfl rfl rfl ?_
  refine ab_bipush (v := 56) d_MText_init_84 (by decide) ?_
  have m_95 : Mo H46 H49 := by rw [eH49]; exact Mo.nw _ _ _
  have b_96l := (m_95).len
  have b_96s := (m_95).2
  have b_96e := congrArg List.length (s_94).1
  have b_96f := (s_94).2
  have b_96c : c0 ≤ H49.sh.length := by omega
  have b_96d : s0 ≤ H49.sl := by omega
  have b_96x : H49.sh.length = H46.sh.length + 1 := by rw [eH49]; simp [Hp.nw, mkH_sh]
  have b_96y : H49.sl = H46.sl + ((56 : Int32)).toNatClampNeg := by rw [eH49]; rfl
  have q_97 := (m_95).get (by rw [(s_94).1]; exact q_93)
  have b_96m := (fH49).len
  have b_96n := (fH49).2
  have b_96p : H49.sh.length ≤ c0 + C := by omega
  have b_96q : H49.sl ≤ s0 + Sl := by omega
  refine ab_widen (cells' := H46.sh.length - c0) (slots' := H46.sl - s0) (by rw [(s_94).1]; exact Nat.le_refl _) (by rw [(s_94).2]; exact Nat.le_refl _) ?_
  refine hp_newa (q := 100) d_MText_init_86 rfl (k1 143 rfl rfl) tI (Or.inl rfl) ⟨by decide, by decide, rfl⟩ rfl q47 q48 (by show _ ≤ C; omega) (by show _ + ((56 : Int32)).toNatClampNeg ≤ Sl; omega) ?_
  refine ab_widen (cells' := H49.sh.length - c0) (slots' := H49.sl - s0) (by omega) (by show _ + ((56 : Int32)).toNatClampNeg ≤ _; omega) ?_
  rw [← eH49, ← ea50]
  clear b_96l b_96s b_96x b_96y b_96m b_96n b_96e b_96f b_92c b_92d b_92p b_92q
  refine hp_putFP (v := .ref a50) (f := 15) d_MText_init_88 q_97 (by decide) rfl (by decide) (k8 179 rfl rfl) rfl rfl rfl rfl (fun _ => rfl) (fun _ => rfl) rfl ?_
  refine hp_genx eH51 ?_
  have s_98 : Sa H49 H51 := by rw [eH51]; exact Sa.rf _
  refine ab_aload_n d_MText_init_91 rfl rfl rfl ?_
  refine ab_bipush (v := 16) d_MText_init_92 (by decide) ?_
  have m_99 : Mo H51 H54 := by rw [eH54]; exact Mo.nw _ _ _
  have b_100l := (m_99).len
  have b_100s := (m_99).2
  have b_100e := congrArg List.length (s_98).1
  have b_100f := (s_98).2
  have b_100c : c0 ≤ H54.sh.length := by omega
  have b_100d : s0 ≤ H54.sl := by omega
  have b_100x : H54.sh.length = H51.sh.length + 1 := by rw [eH54]; simp [Hp.nw, mkH_sh]
  have b_100y : H54.sl = H51.sl + ((16 : Int32)).toNatClampNeg := by rw [eH54]; rfl
  have q_101 := (m_99).get (by rw [(s_98).1]; exact q_97)
  have b_100m := (fH54).len
  have b_100n := (fH54).2
  have b_100p : H54.sh.length ≤ c0 + C := by omega
  have b_100q : H54.sl ≤ s0 + Sl := by omega
  refine ab_widen (cells' := H51.sh.length - c0) (slots' := H51.sl - s0) (by rw [(s_98).1]; exact Nat.le_refl _) (by rw [(s_98).2]; exact Nat.le_refl _) ?_
  refine hp_newa (q := 100) d_MText_init_94 rfl (k1 143 rfl rfl) tI (Or.inl rfl) ⟨by decide, by decide, rfl⟩ rfl q52 q53 (by show _ ≤ C; omega) (by show _ + ((16 : Int32)).toNatClampNeg ≤ Sl; omega) ?_
  refine ab_widen (cells' := H54.sh.length - c0) (slots' := H54.sl - s0) (by omega) (by show _ + ((16 : Int32)).toNatClampNeg ≤ _; omega) ?_
  rw [← eH54, ← ea55]
  clear b_100l b_100s b_100x b_100y b_100m b_100n b_100e b_100f b_96c b_96d b_96p b_96q
  refine hp_putFP (v := .ref a55) (f := 17) d_MText_init_96 q_101 (by decide) rfl (by decide) (k8 182 rfl rfl) rfl rfl rfl rfl (fun _ => rfl) (fun _ => rfl) rfl ?_
  refine hp_genx eH56 ?_
  have s_102 : Sa H54 H56 := by rw [eH56]; exact Sa.rf _
  refine ab_aload_n d_MText_init_99 rfl rfl rfl ?_
  refine ab_bipush (v := 17) d_MText_init_100 (by decide) ?_
  have m_103 : Mo H56 H59 := by rw [eH59]; exact Mo.nw _ _ _
  have b_104l := (m_103).len
  have b_104s := (m_103).2
  have b_104e := congrArg List.length (s_102).1
  have b_104f := (s_102).2
  have b_104c : c0 ≤ H59.sh.length := by omega
  have b_104d : s0 ≤ H59.sl := by omega
  have b_104x : H59.sh.length = H56.sh.length + 1 := by rw [eH59]; simp [Hp.nw, mkH_sh]
  have b_104y : H59.sl = H56.sl + ((17 : Int32)).toNatClampNeg := by rw [eH59]; rfl
  have q_105 := (m_103).get (by rw [(s_102).1]; exact q_101)
  have b_104m := (fH59).len
  have b_104n := (fH59).2
  have b_104p : H59.sh.length ≤ c0 + C := by omega
  have b_104q : H59.sl ≤ s0 + Sl := by omega
  refine ab_widen (cells' := H56.sh.length - c0) (slots' := H56.sl - s0) (by rw [(s_102).1]; exact Nat.le_refl _) (by rw [(s_102).2]; exact Nat.le_refl _) ?_
  refine hp_newa (q := 100) d_MText_init_102 rfl (k1 143 rfl rfl) tI (Or.inl rfl) ⟨by decide, by decide, rfl⟩ rfl q57 q58 (by show _ ≤ C; omega) (by show _ + ((17 : Int32)).toNatClampNeg ≤ Sl; omega) ?_
  refine ab_widen (cells' := H59.sh.length - c0) (slots' := H59.sl - s0) (by omega) (by show _ + ((17 : Int32)).toNatClampNeg ≤ _; omega) ?_
  rw [← eH59, ← ea60]
  clear b_104l b_104s b_104x b_104y b_104m b_104n b_104e b_104f b_100c b_100d b_100p b_100q
  refine hp_putFP (v := .ref a60) (f := 18) d_MText_init_104 q_105 (by decide) rfl (by decide) (k8 184 rfl rfl) rfl rfl rfl rfl (fun _ => rfl) (fun _ => rfl) rfl ?_
  refine hp_genx eH61 ?_
  have s_106 : Sa H59 H61 := by rw [eH61]; exact Sa.rf _
  refine ab_aload_n d_MText_init_107 rfl rfl rfl ?_
  refine ab_bipush (v := 48) d_MText_init_108 (by decide) ?_
  have m_107 : Mo H61 H64 := by rw [eH64]; exact Mo.nw _ _ _
  have b_108l := (m_107).len
  have b_108s := (m_107).2
  have b_108e := congrArg List.length (s_106).1
  have b_108f := (s_106).2
  have b_108c : c0 ≤ H64.sh.length := by omega
  have b_108d : s0 ≤ H64.sl := by omega
  have b_108x : H64.sh.length = H61.sh.length + 1 := by rw [eH64]; simp [Hp.nw, mkH_sh]
  have b_108y : H64.sl = H61.sl + ((48 : Int32)).toNatClampNeg := by rw [eH64]; rfl
  have q_109 := (m_107).get (by rw [(s_106).1]; exact q_105)
  have b_108m := (fH64).len
  have b_108n := (fH64).2
  have b_108p : H64.sh.length ≤ c0 + C := by omega
  have b_108q : H64.sl ≤ s0 + Sl := by omega
  refine ab_widen (cells' := H61.sh.length - c0) (slots' := H61.sl - s0) (by rw [(s_106).1]; exact Nat.le_refl _) (by rw [(s_106).2]; exact Nat.le_refl _) ?_
  refine hp_newa (q := 100) d_MText_init_110 rfl (k1 143 rfl rfl) tI (Or.inl rfl) ⟨by decide, by decide, rfl⟩ rfl q62 q63 (by show _ ≤ C; omega) (by show _ + ((48 : Int32)).toNatClampNeg ≤ Sl; omega) ?_
  refine ab_widen (cells' := H64.sh.length - c0) (slots' := H64.sl - s0) (by omega) (by show _ + ((48 : Int32)).toNatClampNeg ≤ _; omega) ?_
  rw [← eH64, ← ea65]
  clear b_108l b_108s b_108x b_108y b_108m b_108n b_108e b_108f b_104c b_104d b_104p b_104q
  refine hp_putFP (v := .ref a65) (f := 19) d_MText_init_112 q_109 (by decide) rfl (by decide) (k8 188 rfl rfl) rfl rfl rfl rfl (fun _ => rfl) (fun _ => rfl) rfl ?_
  refine hp_genx eH66 ?_
  have s_110 : Sa H64 H66 := by rw [eH66]; exact Sa.rf _
  refine ab_aload_n d_MText_init_115 rfl rfl rfl ?_
  refine ab_bipush (v := 48) d_MText_init_116 (by decide) ?_
  have m_111 : Mo H66 H69 := by rw [eH69]; exact Mo.nw _ _ _
  have b_112l := (m_111).len
  have b_112s := (m_111).2
  have b_112e := congrArg List.length (s_110).1
  have b_112f := (s_110).2
  have b_112c : c0 ≤ H69.sh.length := by omega
  have b_112d : s0 ≤ H69.sl := by omega
  have b_112x : H69.sh.length = H66.sh.length + 1 := by rw [eH69]; simp [Hp.nw, mkH_sh]
  have b_112y : H69.sl = H66.sl + ((48 : Int32)).toNatClampNeg := by rw [eH69]; rfl
  have q_113 := (m_111).get (by rw [(s_110).1]; exact q_109)
  have b_112m := (fH69).len
  have b_112n := (fH69).2
  have b_112p : H69.sh.length ≤ c0 + C := by omega
  have b_112q : H69.sl ≤ s0 + Sl := by omega
  refine ab_widen (cells' := H66.sh.length - c0) (slots' := H66.sl - s0) (by rw [(s_110).1]; exact Nat.le_refl _) (by rw [(s_110).2]; exact Nat.le_refl _) ?_
  refine hp_newa (q := 100) d_MText_init_118 rfl (k1 143 rfl rfl) tI (Or.inl rfl) ⟨by decide, by decide, rfl⟩ rfl q67 q68 (by show _ ≤ C; omega) (by show _ + ((48 : Int32)).toNatClampNeg ≤ Sl; omega) ?_
  refine ab_widen (cells' := H69.sh.length - c0) (slots' := H69.sl - s0) (by omega) (by show _ + ((48 : Int32)).toNatClampNeg ≤ _; omega) ?_
  rw [← eH69, ← ea70]
  clear b_112l b_112s b_112x b_112y b_112m b_112n b_112e b_112f b_108c b_108d b_108p b_108q
  refine hp_putFP (v := .ref a70) (f := 20) d_MText_init_120 q_113 (by decide) rfl (by decide) (k8 192 rfl rfl) rfl rfl rfl rfl (fun _ => rfl) (fun _ => rfl) rfl ?_
  refine hp_genx eH71 ?_
  have s_114 : Sa H69 H71 := by rw [eH71]; exact Sa.rf _
  refine ab_aload_n d_MText_init_123 rfl rfl rfl ?_
  refine ab_bipush (v := 8) d_MText_init_124 (by decide) ?_
  have m_115 : Mo H71 H74 := by rw [eH74]; exact Mo.nw _ _ _
  have b_116l := (m_115).len
  have b_116s := (m_115).2
  have b_116e := congrArg List.length (s_114).1
  have b_116f := (s_114).2
  have b_116c : c0 ≤ H74.sh.length := by omega
  have b_116d : s0 ≤ H74.sl := by omega
  have b_116x : H74.sh.length = H71.sh.length + 1 := by rw [eH74]; simp [Hp.nw, mkH_sh]
  have b_116y : H74.sl = H71.sl + ((8 : Int32)).toNatClampNeg := by rw [eH74]; rfl
  have q_117 := (m_115).get (by rw [(s_114).1]; exact q_113)
  have b_116m := (fH74).len
  have b_116n := (fH74).2
  have b_116p : H74.sh.length ≤ c0 + C := by omega
  have b_116q : H74.sl ≤ s0 + Sl := by omega
  refine ab_widen (cells' := H71.sh.length - c0) (slots' := H71.sl - s0) (by rw [(s_114).1]; exact Nat.le_refl _) (by rw [(s_114).2]; exact Nat.le_refl _) ?_
  refine hp_newa (q := 100) d_MText_init_126 rfl (k1 143 rfl rfl) tI (Or.inl rfl) ⟨by decide, by decide, rfl⟩ rfl q72 q73 (by show _ ≤ C; omega) (by show _ + ((8 : Int32)).toNatClampNeg ≤ Sl; omega) ?_
  refine ab_widen (cells' := H74.sh.length - c0) (slots' := H74.sl - s0) (by omega) (by show _ + ((8 : Int32)).toNatClampNeg ≤ _; omega) ?_
  rw [← eH74, ← ea75]
  clear b_116l b_116s b_116x b_116y b_116m b_116n b_116e b_116f b_112c b_112d b_112p b_112q
  refine hp_putFP (v := .ref a75) (f := 22) d_MText_init_128 q_117 (by decide) rfl (by decide) (k8 196 rfl rfl) rfl rfl rfl rfl (fun _ => rfl) (fun _ => rfl) rfl ?_
  refine hp_genx eH76 ?_
  have s_118 : Sa H74 H76 := by rw [eH76]; exact Sa.rf _
  refine ab_aload_n d_MText_init_131 rfl rfl rfl ?_
  refine ab_bipush (v := 8) d_MText_init_132 (by decide) ?_
  have m_119 : Mo H76 H79 := by rw [eH79]; exact Mo.nw _ _ _
  have b_120l := (m_119).len
  have b_120s := (m_119).2
  have b_120e := congrArg List.length (s_118).1
  have b_120f := (s_118).2
  have b_120c : c0 ≤ H79.sh.length := by omega
  have b_120d : s0 ≤ H79.sl := by omega
  have b_120x : H79.sh.length = H76.sh.length + 1 := by rw [eH79]; simp [Hp.nw, mkH_sh]
  have b_120y : H79.sl = H76.sl + ((8 : Int32)).toNatClampNeg := by rw [eH79]; rfl
  have q_121 := (m_119).get (by rw [(s_118).1]; exact q_117)
  have b_120m := (fH79).len
  have b_120n := (fH79).2
  have b_120p : H79.sh.length ≤ c0 + C := by omega
  have b_120q : H79.sl ≤ s0 + Sl := by omega
  refine ab_widen (cells' := H76.sh.length - c0) (slots' := H76.sl - s0) (by rw [(s_118).1]; exact Nat.le_refl _) (by rw [(s_118).2]; exact Nat.le_refl _) ?_
  refine hp_newa (q := 100) d_MText_init_134 rfl (k1 143 rfl rfl) tI (Or.inl rfl) ⟨by decide, by decide, rfl⟩ rfl q77 q78 (by show _ ≤ C; omega) (by show _ + ((8 : Int32)).toNatClampNeg ≤ Sl; omega) ?_
  refine ab_widen (cells' := H79.sh.length - c0) (slots' := H79.sl - s0) (by omega) (by show _ + ((8 : Int32)).toNatClampNeg ≤ _; omega) ?_
  rw [← eH79, ← ea80]
  clear b_120l b_120s b_120x b_120y b_120m b_120n b_120e b_120f b_116c b_116d b_116p b_116q
  refine hp_putFP (v := .ref a80) (f := 23) d_MText_init_136 q_121 (by decide) rfl (by decide) (k8 198 rfl rfl) rfl rfl rfl rfl (fun _ => rfl) (fun _ => rfl) rfl ?_
  refine hp_genx eH81 ?_
  have s_122 : Sa H79 H81 := by rw [eH81]; exact Sa.rf _
  refine ab_aload_n d_MText_init_139 rfl rfl rfl ?_
  refine ab_bipush (v := 32) d_MText_init_140 (by decide) ?_
  have m_123 : Mo H81 H84 := by rw [eH84]; exact Mo.nw _ _ _
  have b_124l := (m_123).len
  have b_124s := (m_123).2
  have b_124e := congrArg List.length (s_122).1
  have b_124f := (s_122).2
  have b_124c : c0 ≤ H84.sh.length := by omega
  have b_124d : s0 ≤ H84.sl := by omega
  have b_124x : H84.sh.length = H81.sh.length + 1 := by rw [eH84]; simp [Hp.nw, mkH_sh]
  have b_124y : H84.sl = H81.sl + ((32 : Int32)).toNatClampNeg := by rw [eH84]; rfl
  have q_125 := (m_123).get (by rw [(s_122).1]; exact q_121)
  have b_124m := (fH84).len
  have b_124n := (fH84).2
  have b_124p : H84.sh.length ≤ c0 + C := by omega
  have b_124q : H84.sl ≤ s0 + Sl := by omega
  refine ab_widen (cells' := H81.sh.length - c0) (slots' := H81.sl - s0) (by rw [(s_122).1]; exact Nat.le_refl _) (by rw [(s_122).2]; exact Nat.le_refl _) ?_
  refine hp_newa (q := 100) d_MText_init_142 rfl (k1 143 rfl rfl) tI (Or.inl rfl) ⟨by decide, by decide, rfl⟩ rfl q82 q83 (by show _ ≤ C; omega) (by show _ + ((32 : Int32)).toNatClampNeg ≤ Sl; omega) ?_
  refine ab_widen (cells' := H84.sh.length - c0) (slots' := H84.sl - s0) (by omega) (by show _ + ((32 : Int32)).toNatClampNeg ≤ _; omega) ?_
  rw [← eH84, ← ea85]
  clear b_124l b_124s b_124x b_124y b_124m b_124n b_124e b_124f b_120c b_120d b_120p b_120q
  refine hp_putFP (v := .ref a85) (f := 24) d_MText_init_144 q_125 (by decide) rfl (by decide) (k8 201 rfl rfl) rfl rfl rfl rfl (fun _ => rfl) (fun _ => rfl) rfl ?_
  refine hp_genx eH86 ?_
  have s_126 : Sa H84 H86 := by rw [eH86]; exact Sa.rf _
  refine ab_aload_n d_MText_init_147 rfl rfl rfl ?_
  refine ab_bipush (v := 32) d_MText_init_148 (by decide) ?_
  have m_127 : Mo H86 H89 := by rw [eH89]; exact Mo.nw _ _ _
  have b_128l := (m_127).len
  have b_128s := (m_127).2
  have b_128e := congrArg List.length (s_126).1
  have b_128f := (s_126).2
  have b_128c : c0 ≤ H89.sh.length := by omega
  have b_128d : s0 ≤ H89.sl := by omega
  have b_128x : H89.sh.length = H86.sh.length + 1 := by rw [eH89]; simp [Hp.nw, mkH_sh]
  have b_128y : H89.sl = H86.sl + ((32 : Int32)).toNatClampNeg := by rw [eH89]; rfl
  have q_129 := (m_127).get (by rw [(s_126).1]; exact q_125)
  have b_128m := (fH89).len
  have b_128n := (fH89).2
  have b_128p : H89.sh.length ≤ c0 + C := by omega
  have b_128q : H89.sl ≤ s0 + Sl := by omega
  refine ab_widen (cells' := H86.sh.length - c0) (slots' := H86.sl - s0) (by rw [(s_126).1]; exact Nat.le_refl _) (by rw [(s_126).2]; exact Nat.le_refl _) ?_
  refine hp_newa (q := 100) d_MText_init_150 rfl (k1 143 rfl rfl) tI (Or.inl rfl) ⟨by decide, by decide, rfl⟩ rfl q87 q88 (by show _ ≤ C; omega) (by show _ + ((32 : Int32)).toNatClampNeg ≤ Sl; omega) ?_
  refine ab_widen (cells' := H89.sh.length - c0) (slots' := H89.sl - s0) (by omega) (by show _ + ((32 : Int32)).toNatClampNeg ≤ _; omega) ?_
  rw [← eH89, ← ea90]
  clear b_128l b_128s b_128x b_128y b_128m b_128n b_128e b_128f b_124c b_124d b_124p b_124q
  refine hp_putFP (v := .ref a90) (f := 25) d_MText_init_152 q_129 (by decide) rfl (by decide) (k8 204 rfl rfl) rfl rfl rfl rfl (fun _ => rfl) (fun _ => rfl) rfl ?_
  refine hp_genx eH91 ?_
  have s_130 : Sa H89 H91 := by rw [eH91]; exact Sa.rf _
  refine ab_aload_n d_MText_init_155 rfl rfl rfl ?_
  refine ab_bipush (v := 16) d_MText_init_156 (by decide) ?_
  have m_131 : Mo H91 H94 := by rw [eH94]; exact Mo.nw _ _ _
  have b_132l := (m_131).len
  have b_132s := (m_131).2
  have b_132e := congrArg List.length (s_130).1
  have b_132f := (s_130).2
  have b_132c : c0 ≤ H94.sh.length := by omega
  have b_132d : s0 ≤ H94.sl := by omega
  have b_132x : H94.sh.length = H91.sh.length + 1 := by rw [eH94]; simp [Hp.nw, mkH_sh]
  have b_132y : H94.sl = H91.sl + ((16 : Int32)).toNatClampNeg := by rw [eH94]; rfl
  have q_133 := (m_131).get (by rw [(s_130).1]; exact q_129)
  have b_132m := (fH94).len
  have b_132n := (fH94).2
  have b_132p : H94.sh.length ≤ c0 + C := by omega
  have b_132q : H94.sl ≤ s0 + Sl := by omega
  refine ab_widen (cells' := H91.sh.length - c0) (slots' := H91.sl - s0) (by rw [(s_130).1]; exact Nat.le_refl _) (by rw [(s_130).2]; exact Nat.le_refl _) ?_
  refine hp_newa (q := 100) d_MText_init_158 rfl (k1 143 rfl rfl) tI (Or.inl rfl) ⟨by decide, by decide, rfl⟩ rfl q92 q93 (by show _ ≤ C; omega) (by show _ + ((16 : Int32)).toNatClampNeg ≤ Sl; omega) ?_
  refine ab_widen (cells' := H94.sh.length - c0) (slots' := H94.sl - s0) (by omega) (by show _ + ((16 : Int32)).toNatClampNeg ≤ _; omega) ?_
  rw [← eH94, ← ea95]
  clear b_132l b_132s b_132x b_132y b_132m b_132n b_132e b_132f b_128c b_128d b_128p b_128q
  refine hp_putFP (v := .ref a95) (f := 27) d_MText_init_160 q_133 (by decide) rfl (by decide) (k8 207 rfl rfl) rfl rfl rfl rfl (fun _ => rfl) (fun _ => rfl) rfl ?_
  refine hp_genx eH96 ?_
  have s_134 : Sa H94 H96 := by rw [eH96]; exact Sa.rf _
  refine ab_aload_n d_MText_init_163 rfl rfl rfl ?_
  refine ab_sipush (v := 768) d_MText_init_164 (by decide) ?_
  have m_135 : Mo H96 H99 := by rw [eH99]; exact Mo.nw _ _ _
  have b_136l := (m_135).len
  have b_136s := (m_135).2
  have b_136e := congrArg List.length (s_134).1
  have b_136f := (s_134).2
  have b_136c : c0 ≤ H99.sh.length := by omega
  have b_136d : s0 ≤ H99.sl := by omega
  have b_136x : H99.sh.length = H96.sh.length + 1 := by rw [eH99]; simp [Hp.nw, mkH_sh]
  have b_136y : H99.sl = H96.sl + ((768 : Int32)).toNatClampNeg := by rw [eH99]; rfl
  have q_137 := (m_135).get (by rw [(s_134).1]; exact q_133)
  have b_136m := (fH99).len
  have b_136n := (fH99).2
  have b_136p : H99.sh.length ≤ c0 + C := by omega
  have b_136q : H99.sl ≤ s0 + Sl := by omega
  refine ab_widen (cells' := H96.sh.length - c0) (slots' := H96.sl - s0) (by rw [(s_134).1]; exact Nat.le_refl _) (by rw [(s_134).2]; exact Nat.le_refl _) ?_
  refine hp_newa (q := 100) d_MText_init_167 rfl (k1 143 rfl rfl) tI (Or.inl rfl) ⟨by decide, by decide, rfl⟩ rfl q97 q98 (by show _ ≤ C; omega) (by show _ + ((768 : Int32)).toNatClampNeg ≤ Sl; omega) ?_
  refine ab_widen (cells' := H99.sh.length - c0) (slots' := H99.sl - s0) (by omega) (by show _ + ((768 : Int32)).toNatClampNeg ≤ _; omega) ?_
  rw [← eH99, ← ea100]
  clear b_136l b_136s b_136x b_136y b_136m b_136n b_136e b_136f b_132c b_132d b_132p b_132q
  refine hp_putFP (v := .ref a100) (f := 28) d_MText_init_169 q_137 (by decide) rfl (by decide) (k8 209 rfl rfl) rfl rfl rfl rfl (fun _ => rfl) (fun _ => rfl) rfl ?_
  refine hp_genx eH101 ?_
  have s_138 : Sa H99 H101 := by rw [eH101]; exact Sa.rf _
  refine ab_aload_n d_MText_init_172 rfl rfl rfl ?_
  refine ab_bipush (v := 16) d_MText_init_173 (by decide) ?_
  have m_139 : Mo H101 H104 := by rw [eH104]; exact Mo.nw _ _ _
  have b_140l := (m_139).len
  have b_140s := (m_139).2
  have b_140e := congrArg List.length (s_138).1
  have b_140f := (s_138).2
  have b_140c : c0 ≤ H104.sh.length := by omega
  have b_140d : s0 ≤ H104.sl := by omega
  have b_140x : H104.sh.length = H101.sh.length + 1 := by rw [eH104]; simp [Hp.nw, mkH_sh]
  have b_140y : H104.sl = H101.sl + ((16 : Int32)).toNatClampNeg := by rw [eH104]; rfl
  have q_141 := (m_139).get (by rw [(s_138).1]; exact q_137)
  have b_140m := (fH104).len
  have b_140n := (fH104).2
  have b_140p : H104.sh.length ≤ c0 + C := by omega
  have b_140q : H104.sl ≤ s0 + Sl := by omega
  refine ab_widen (cells' := H101.sh.length - c0) (slots' := H101.sl - s0) (by rw [(s_138).1]; exact Nat.le_refl _) (by rw [(s_138).2]; exact Nat.le_refl _) ?_
  refine hp_newa (q := 100) d_MText_init_175 rfl (k1 143 rfl rfl) tI (Or.inl rfl) ⟨by decide, by decide, rfl⟩ rfl q102 q103 (by show _ ≤ C; omega) (by show _ + ((16 : Int32)).toNatClampNeg ≤ Sl; omega) ?_
  refine ab_widen (cells' := H104.sh.length - c0) (slots' := H104.sl - s0) (by omega) (by show _ + ((16 : Int32)).toNatClampNeg ≤ _; omega) ?_
  rw [← eH104, ← ea105]
  clear b_140l b_140s b_140x b_140y b_140m b_140n b_140e b_140f b_136c b_136d b_136p b_136q
  refine hp_putFP (v := .ref a105) (f := 30) d_MText_init_177 q_141 (by decide) rfl (by decide) (k8 214 rfl rfl) rfl rfl rfl rfl (fun _ => rfl) (fun _ => rfl) rfl ?_
  refine hp_genx eH106 ?_
  have s_142 : Sa H104 H106 := by rw [eH106]; exact Sa.rf _
  refine ab_aload_n d_MText_init_180 rfl rfl rfl ?_
  refine ab_bipush (v := 16) d_MText_init_181 (by decide) ?_
  have m_143 : Mo H106 H109 := by rw [eH109]; exact Mo.nw _ _ _
  have b_144l := (m_143).len
  have b_144s := (m_143).2
  have b_144e := congrArg List.length (s_142).1
  have b_144f := (s_142).2
  have b_144c : c0 ≤ H109.sh.length := by omega
  have b_144d : s0 ≤ H109.sl := by omega
  have b_144x : H109.sh.length = H106.sh.length + 1 := by rw [eH109]; simp [Hp.nw, mkH_sh]
  have b_144y : H109.sl = H106.sl + ((16 : Int32)).toNatClampNeg := by rw [eH109]; rfl
  have q_145 := (m_143).get (by rw [(s_142).1]; exact q_141)
  have b_144m := (fH109).len
  have b_144n := (fH109).2
  have b_144p : H109.sh.length ≤ c0 + C := by omega
  have b_144q : H109.sl ≤ s0 + Sl := by omega
  refine ab_widen (cells' := H106.sh.length - c0) (slots' := H106.sl - s0) (by rw [(s_142).1]; exact Nat.le_refl _) (by rw [(s_142).2]; exact Nat.le_refl _) ?_
  refine hp_newa (q := 100) d_MText_init_183 rfl (k1 143 rfl rfl) tI (Or.inl rfl) ⟨by decide, by decide, rfl⟩ rfl q107 q108 (by show _ ≤ C; omega) (by show _ + ((16 : Int32)).toNatClampNeg ≤ Sl; omega) ?_
  refine ab_widen (cells' := H109.sh.length - c0) (slots' := H109.sl - s0) (by omega) (by show _ + ((16 : Int32)).toNatClampNeg ≤ _; omega) ?_
  rw [← eH109, ← ea110]
  clear b_144l b_144s b_144x b_144y b_144m b_144n b_144e b_144f b_140c b_140d b_140p b_140q
  refine hp_putFP (v := .ref a110) (f := 31) d_MText_init_185 q_145 (by decide) rfl (by decide) (k8 215 rfl rfl) rfl rfl rfl rfl (fun _ => rfl) (fun _ => rfl) rfl ?_
  refine hp_genx eH111 ?_
  have s_146 : Sa H109 H111 := by rw [eH111]; exact Sa.rf _
  refine ab_aload_n d_MText_init_188 rfl rfl rfl ?_
  refine ab_bipush (v := 16) d_MText_init_189 (by decide) ?_
  have m_147 : Mo H111 H114 := by rw [eH114]; exact Mo.nw _ _ _
  have b_148l := (m_147).len
  have b_148s := (m_147).2
  have b_148e := congrArg List.length (s_146).1
  have b_148f := (s_146).2
  have b_148c : c0 ≤ H114.sh.length := by omega
  have b_148d : s0 ≤ H114.sl := by omega
  have b_148x : H114.sh.length = H111.sh.length + 1 := by rw [eH114]; simp [Hp.nw, mkH_sh]
  have b_148y : H114.sl = H111.sl + ((16 : Int32)).toNatClampNeg := by rw [eH114]; rfl
  have q_149 := (m_147).get (by rw [(s_146).1]; exact q_145)
  have b_148m := (fH114).len
  have b_148n := (fH114).2
  have b_148p : H114.sh.length ≤ c0 + C := by omega
  have b_148q : H114.sl ≤ s0 + Sl := by omega
  refine ab_widen (cells' := H111.sh.length - c0) (slots' := H111.sl - s0) (by rw [(s_146).1]; exact Nat.le_refl _) (by rw [(s_146).2]; exact Nat.le_refl _) ?_
  refine hp_newa (q := 100) d_MText_init_191 rfl (k1 143 rfl rfl) tI (Or.inl rfl) ⟨by decide, by decide, rfl⟩ rfl q112 q113 (by show _ ≤ C; omega) (by show _ + ((16 : Int32)).toNatClampNeg ≤ Sl; omega) ?_
  refine ab_widen (cells' := H114.sh.length - c0) (slots' := H114.sl - s0) (by omega) (by show _ + ((16 : Int32)).toNatClampNeg ≤ _; omega) ?_
  rw [← eH114, ← ea115]
  clear b_148l b_148s b_148x b_148y b_148m b_148n b_148e b_148f b_144c b_144d b_144p b_144q
  refine hp_putFP (v := .ref a115) (f := 32) d_MText_init_193 q_149 (by decide) rfl (by decide) (k8 216 rfl rfl) rfl rfl rfl rfl (fun _ => rfl) (fun _ => rfl) rfl ?_
  refine hp_genx eH116 ?_
  have s_150 : Sa H114 H116 := by rw [eH116]; exact Sa.rf _
  refine ab_aload_n d_MText_init_196 rfl rfl rfl ?_
  refine ab_bipush (v := 16) d_MText_init_197 (by decide) ?_
  have m_151 : Mo H116 H119 := by rw [eH119]; exact Mo.nw _ _ _
  have b_152l := (m_151).len
  have b_152s := (m_151).2
  have b_152e := congrArg List.length (s_150).1
  have b_152f := (s_150).2
  have b_152c : c0 ≤ H119.sh.length := by omega
  have b_152d : s0 ≤ H119.sl := by omega
  have b_152x : H119.sh.length = H116.sh.length + 1 := by rw [eH119]; simp [Hp.nw, mkH_sh]
  have b_152y : H119.sl = H116.sl + ((16 : Int32)).toNatClampNeg := by rw [eH119]; rfl
  have q_153 := (m_151).get (by rw [(s_150).1]; exact q_149)
  have b_152m := (fH119).len
  have b_152n := (fH119).2
  have b_152p : H119.sh.length ≤ c0 + C := by omega
  have b_152q : H119.sl ≤ s0 + Sl := by omega
  refine ab_widen (cells' := H116.sh.length - c0) (slots' := H116.sl - s0) (by rw [(s_150).1]; exact Nat.le_refl _) (by rw [(s_150).2]; exact Nat.le_refl _) ?_
  refine hp_newa (q := 100) d_MText_init_199 rfl (k1 143 rfl rfl) tI (Or.inl rfl) ⟨by decide, by decide, rfl⟩ rfl q117 q118 (by show _ ≤ C; omega) (by show _ + ((16 : Int32)).toNatClampNeg ≤ Sl; omega) ?_
  refine ab_widen (cells' := H119.sh.length - c0) (slots' := H119.sl - s0) (by omega) (by show _ + ((16 : Int32)).toNatClampNeg ≤ _; omega) ?_
  rw [← eH119, ← ea120]
  clear b_152l b_152s b_152x b_152y b_152m b_152n b_152e b_152f b_148c b_148d b_148p b_148q
  refine hp_putFP (v := .ref a120) (f := 33) d_MText_init_201 q_153 (by decide) rfl (by decide) (k8 217 rfl rfl) rfl rfl rfl rfl (fun _ => rfl) (fun _ => rfl) rfl ?_
  refine hp_genx eH121 ?_
  have s_154 : Sa H119 H121 := by rw [eH121]; exact Sa.rf _
  refine ab_aload_n d_MText_init_204 rfl rfl rfl ?_
  refine ab_bipush (v := 16) d_MText_init_205 (by decide) ?_
  have m_155 : Mo H121 H124 := by rw [eH124]; exact Mo.nw _ _ _
  have b_156l := (m_155).len
  have b_156s := (m_155).2
  have b_156e := congrArg List.length (s_154).1
  have b_156f := (s_154).2
  have b_156c : c0 ≤ H124.sh.length := by omega
  have b_156d : s0 ≤ H124.sl := by omega
  have b_156x : H124.sh.length = H121.sh.length + 1 := by rw [eH124]; simp [Hp.nw, mkH_sh]
  have b_156y : H124.sl = H121.sl + ((16 : Int32)).toNatClampNeg := by rw [eH124]; rfl
  have q_157 := (m_155).get (by rw [(s_154).1]; exact q_153)
  have b_156m := (fH124).len
  have b_156n := (fH124).2
  have b_156p : H124.sh.length ≤ c0 + C := by omega
  have b_156q : H124.sl ≤ s0 + Sl := by omega
  refine ab_widen (cells' := H121.sh.length - c0) (slots' := H121.sl - s0) (by rw [(s_154).1]; exact Nat.le_refl _) (by rw [(s_154).2]; exact Nat.le_refl _) ?_
  refine hp_newa (q := 100) d_MText_init_207 rfl (k1 143 rfl rfl) tI (Or.inl rfl) ⟨by decide, by decide, rfl⟩ rfl q122 q123 (by show _ ≤ C; omega) (by show _ + ((16 : Int32)).toNatClampNeg ≤ Sl; omega) ?_
  refine ab_widen (cells' := H124.sh.length - c0) (slots' := H124.sl - s0) (by omega) (by show _ + ((16 : Int32)).toNatClampNeg ≤ _; omega) ?_
  rw [← eH124, ← ea125]
  clear b_156l b_156s b_156x b_156y b_156m b_156n b_156e b_156f b_152c b_152d b_152p b_152q
  refine hp_putFP (v := .ref a125) (f := 34) d_MText_init_209 q_157 (by decide) rfl (by decide) (k8 218 rfl rfl) rfl rfl rfl rfl (fun _ => rfl) (fun _ => rfl) rfl ?_
  refine hp_genx eH126 ?_
  have s_158 : Sa H124 H126 := by rw [eH126]; exact Sa.rf _
  refine ab_aload_n d_MText_init_212 rfl rfl rfl ?_
  refine ab_bipush (v := 16) d_MText_init_213 (by decide) ?_
  have m_159 : Mo H126 H129 := by rw [eH129]; exact Mo.nw _ _ _
  have b_160l := (m_159).len
  have b_160s := (m_159).2
  have b_160e := congrArg List.length (s_158).1
  have b_160f := (s_158).2
  have b_160c : c0 ≤ H129.sh.length := by omega
  have b_160d : s0 ≤ H129.sl := by omega
  have b_160x : H129.sh.length = H126.sh.length + 1 := by rw [eH129]; simp [Hp.nw, mkH_sh]
  have b_160y : H129.sl = H126.sl + ((16 : Int32)).toNatClampNeg := by rw [eH129]; rfl
  have q_161 := (m_159).get (by rw [(s_158).1]; exact q_157)
  have b_160m := (fH129).len
  have b_160n := (fH129).2
  have b_160p : H129.sh.length ≤ c0 + C := by omega
  have b_160q : H129.sl ≤ s0 + Sl := by omega
  refine ab_widen (cells' := H126.sh.length - c0) (slots' := H126.sl - s0) (by rw [(s_158).1]; exact Nat.le_refl _) (by rw [(s_158).2]; exact Nat.le_refl _) ?_
  refine hp_newa (q := 100) d_MText_init_215 rfl (k1 143 rfl rfl) tI (Or.inl rfl) ⟨by decide, by decide, rfl⟩ rfl q127 q128 (by show _ ≤ C; omega) (by show _ + ((16 : Int32)).toNatClampNeg ≤ Sl; omega) ?_
  refine ab_widen (cells' := H129.sh.length - c0) (slots' := H129.sl - s0) (by omega) (by show _ + ((16 : Int32)).toNatClampNeg ≤ _; omega) ?_
  rw [← eH129, ← ea130]
  clear b_160l b_160s b_160x b_160y b_160m b_160n b_160e b_160f b_156c b_156d b_156p b_156q
  refine hp_putFP (v := .ref a130) (f := 35) d_MText_init_217 q_161 (by decide) rfl (by decide) (k8 219 rfl rfl) rfl rfl rfl rfl (fun _ => rfl) (fun _ => rfl) rfl ?_
  refine hp_genx eH131 ?_
  have s_162 : Sa H129 H131 := by rw [eH131]; exact Sa.rf _
  refine ab_aload_n d_MText_init_220 rfl rfl rfl ?_
  refine ab_bipush (v := 16) d_MText_init_221 (by decide) ?_
  have m_163 : Mo H131 H134 := by rw [eH134]; exact Mo.nw _ _ _
  have b_164l := (m_163).len
  have b_164s := (m_163).2
  have b_164e := congrArg List.length (s_162).1
  have b_164f := (s_162).2
  have b_164c : c0 ≤ H134.sh.length := by omega
  have b_164d : s0 ≤ H134.sl := by omega
  have b_164x : H134.sh.length = H131.sh.length + 1 := by rw [eH134]; simp [Hp.nw, mkH_sh]
  have b_164y : H134.sl = H131.sl + ((16 : Int32)).toNatClampNeg := by rw [eH134]; rfl
  have q_165 := (m_163).get (by rw [(s_162).1]; exact q_161)
  have b_164m := (fH134).len
  have b_164n := (fH134).2
  have b_164p : H134.sh.length ≤ c0 + C := by omega
  have b_164q : H134.sl ≤ s0 + Sl := by omega
  refine ab_widen (cells' := H131.sh.length - c0) (slots' := H131.sl - s0) (by rw [(s_162).1]; exact Nat.le_refl _) (by rw [(s_162).2]; exact Nat.le_refl _) ?_
  refine hp_newa (q := 100) d_MText_init_223 rfl (k1 143 rfl rfl) tI (Or.inl rfl) ⟨by decide, by decide, rfl⟩ rfl q132 q133 (by show _ ≤ C; omega) (by show _ + ((16 : Int32)).toNatClampNeg ≤ Sl; omega) ?_
  refine ab_widen (cells' := H134.sh.length - c0) (slots' := H134.sl - s0) (by omega) (by show _ + ((16 : Int32)).toNatClampNeg ≤ _; omega) ?_
  rw [← eH134, ← ea135]
  clear b_164l b_164s b_164x b_164y b_164m b_164n b_164e b_164f b_160c b_160d b_160p b_160q
  refine hp_putFP (v := .ref a135) (f := 36) d_MText_init_225 q_165 (by decide) rfl (by decide) (k8 221 rfl rfl) rfl rfl rfl rfl (fun _ => rfl) (fun _ => rfl) rfl ?_
  refine hp_genx eH136 ?_
  have s_166 : Sa H134 H136 := by rw [eH136]; exact Sa.rf _
  refine ab_aload_n d_MText_init_228 rfl rfl rfl ?_
  refine ab_bipush (v := 12) d_MText_init_229 (by decide) ?_
  have m_167 : Mo H136 H139 := by rw [eH139]; exact Mo.nw _ _ _
  have b_168l := (m_167).len
  have b_168s := (m_167).2
  have b_168e := congrArg List.length (s_166).1
  have b_168f := (s_166).2
  have b_168c : c0 ≤ H139.sh.length := by omega
  have b_168d : s0 ≤ H139.sl := by omega
  have b_168x : H139.sh.length = H136.sh.length + 1 := by rw [eH139]; simp [Hp.nw, mkH_sh]
  have b_168y : H139.sl = H136.sl + ((12 : Int32)).toNatClampNeg := by rw [eH139]; rfl
  have q_169 := (m_167).get (by rw [(s_166).1]; exact q_165)
  have b_168m := (fH139).len
  have b_168n := (fH139).2
  have b_168p : H139.sh.length ≤ c0 + C := by omega
  have b_168q : H139.sl ≤ s0 + Sl := by omega
  refine ab_widen (cells' := H136.sh.length - c0) (slots' := H136.sl - s0) (by rw [(s_166).1]; exact Nat.le_refl _) (by rw [(s_166).2]; exact Nat.le_refl _) ?_
  refine hp_newa (q := 100) d_MText_init_231 rfl (k1 143 rfl rfl) tI (Or.inl rfl) ⟨by decide, by decide, rfl⟩ rfl q137 q138 (by show _ ≤ C; omega) (by show _ + ((12 : Int32)).toNatClampNeg ≤ Sl; omega) ?_
  refine ab_widen (cells' := H139.sh.length - c0) (slots' := H139.sl - s0) (by omega) (by show _ + ((12 : Int32)).toNatClampNeg ≤ _; omega) ?_
  rw [← eH139, ← ea140]
  clear b_168l b_168s b_168x b_168y b_168m b_168n b_168e b_168f b_164c b_164d b_164p b_164q
  refine hp_putFP (v := .ref a140) (f := 38) d_MText_init_233 q_169 (by decide) rfl (by decide) (k8 225 rfl rfl) rfl rfl rfl rfl (fun _ => rfl) (fun _ => rfl) rfl ?_
  refine hp_genx eH141 ?_
  have s_170 : Sa H139 H141 := by rw [eH141]; exact Sa.rf _
  refine ab_aload_n d_MText_init_236 rfl rfl rfl ?_
  refine ab_bipush (v := 12) d_MText_init_237 (by decide) ?_
  have m_171 : Mo H141 H144 := by rw [eH144]; exact Mo.nw _ _ _
  have b_172l := (m_171).len
  have b_172s := (m_171).2
  have b_172e := congrArg List.length (s_170).1
  have b_172f := (s_170).2
  have b_172c : c0 ≤ H144.sh.length := by omega
  have b_172d : s0 ≤ H144.sl := by omega
  have b_172x : H144.sh.length = H141.sh.length + 1 := by rw [eH144]; simp [Hp.nw, mkH_sh]
  have b_172y : H144.sl = H141.sl + ((12 : Int32)).toNatClampNeg := by rw [eH144]; rfl
  have q_173 := (m_171).get (by rw [(s_170).1]; exact q_169)
  have b_172m := (fH144).len
  have b_172n := (fH144).2
  have b_172p : H144.sh.length ≤ c0 + C := by omega
  have b_172q : H144.sl ≤ s0 + Sl := by omega
  refine ab_widen (cells' := H141.sh.length - c0) (slots' := H141.sl - s0) (by rw [(s_170).1]; exact Nat.le_refl _) (by rw [(s_170).2]; exact Nat.le_refl _) ?_
  refine hp_newa (q := 100) d_MText_init_239 rfl (k1 143 rfl rfl) tI (Or.inl rfl) ⟨by decide, by decide, rfl⟩ rfl q142 q143 (by show _ ≤ C; omega) (by show _ + ((12 : Int32)).toNatClampNeg ≤ Sl; omega) ?_
  refine ab_widen (cells' := H144.sh.length - c0) (slots' := H144.sl - s0) (by omega) (by show _ + ((12 : Int32)).toNatClampNeg ≤ _; omega) ?_
  rw [← eH144, ← ea145]
  clear b_172l b_172s b_172x b_172y b_172m b_172n b_172e b_172f b_168c b_168d b_168p b_168q
  refine hp_putFP (v := .ref a145) (f := 39) d_MText_init_241 q_173 (by decide) rfl (by decide) (k8 226 rfl rfl) rfl rfl rfl rfl (fun _ => rfl) (fun _ => rfl) rfl ?_
  refine hp_genx eH146 ?_
  have s_174 : Sa H144 H146 := by rw [eH146]; exact Sa.rf _
  refine ab_aload_n d_MText_init_244 rfl rfl rfl ?_
  refine ab_bipush (v := 12) d_MText_init_245 (by decide) ?_
  have m_175 : Mo H146 H149 := by rw [eH149]; exact Mo.nw _ _ _
  have b_176l := (m_175).len
  have b_176s := (m_175).2
  have b_176e := congrArg List.length (s_174).1
  have b_176f := (s_174).2
  have b_176c : c0 ≤ H149.sh.length := by omega
  have b_176d : s0 ≤ H149.sl := by omega
  have b_176x : H149.sh.length = H146.sh.length + 1 := by rw [eH149]; simp [Hp.nw, mkH_sh]
  have b_176y : H149.sl = H146.sl + ((12 : Int32)).toNatClampNeg := by rw [eH149]; rfl
  have q_177 := (m_175).get (by rw [(s_174).1]; exact q_173)
  have b_176m := (fH149).len
  have b_176n := (fH149).2
  have b_176p : H149.sh.length ≤ c0 + C := by omega
  have b_176q : H149.sl ≤ s0 + Sl := by omega
  refine ab_widen (cells' := H146.sh.length - c0) (slots' := H146.sl - s0) (by rw [(s_174).1]; exact Nat.le_refl _) (by rw [(s_174).2]; exact Nat.le_refl _) ?_
  refine hp_newa (q := 102) d_MText_init_247 rfl (k1 144 rfl rfl) tZ (Or.inr (Or.inr (Or.inl rfl))) ⟨by decide, by decide, rfl⟩ rfl q147 q148 (by show _ ≤ C; omega) (by show _ + ((12 : Int32)).toNatClampNeg ≤ Sl; omega) ?_
  refine ab_widen (cells' := H149.sh.length - c0) (slots' := H149.sl - s0) (by omega) (by show _ + ((12 : Int32)).toNatClampNeg ≤ _; omega) ?_
  rw [← eH149, ← ea150]
  clear b_176l b_176s b_176x b_176y b_176m b_176n b_176e b_176f b_172c b_172d b_172p b_172q
  refine hp_putFP (v := .ref a150) (f := 40) d_MText_init_249 q_177 (by decide) rfl (by decide) (k8 227 rfl rfl) rfl rfl rfl rfl (fun _ => rfl) (fun _ => rfl) rfl ?_
  refine hp_genx eH151 ?_
  have s_178 : Sa H149 H151 := by rw [eH151]; exact Sa.rf _
  exact ab_vret d_MText_init_252 rfl (by show _ ≤ C; omega) (by show _ ≤ Sl; omega) (by have hr := Option.some.inj hG; subst hr; exact ⟨rfl, rfl⟩)
def y_MWorld_begin : ab_Y := (⟨"WorldEngineModel$World", "begin", "()V"⟩, prog_17_method_2_code, 2, none, [])
theorem d_MWorld_begin_0 : decode y_MWorld_begin.2.1 0 = .ok (.aload_n 0, 1) := by decide +kernel
theorem d_MWorld_begin_1 : decode y_MWorld_begin.2.1 1 = .ok (.iconst 0, 1) := by decide +kernel
theorem d_MWorld_begin_2 : decode y_MWorld_begin.2.1 2 = .ok (.putfield 43, 3) := by decide +kernel
theorem d_MWorld_begin_5 : decode y_MWorld_begin.2.1 5 = .ok (.aload_n 0, 1) := by decide +kernel
theorem d_MWorld_begin_6 : decode y_MWorld_begin.2.1 6 = .ok (.iconst 0, 1) := by decide +kernel
theorem d_MWorld_begin_7 : decode y_MWorld_begin.2.1 7 = .ok (.putfield 47, 3) := by decide +kernel
theorem d_MWorld_begin_10 : decode y_MWorld_begin.2.1 10 = .ok (.aload_n 0, 1) := by decide +kernel
theorem d_MWorld_begin_11 : decode y_MWorld_begin.2.1 11 = .ok (.iconst 0, 1) := by decide +kernel
theorem d_MWorld_begin_12 : decode y_MWorld_begin.2.1 12 = .ok (.putfield 50, 3) := by decide +kernel
theorem d_MWorld_begin_15 : decode y_MWorld_begin.2.1 15 = .ok (.aload_n 0, 1) := by decide +kernel
theorem d_MWorld_begin_16 : decode y_MWorld_begin.2.1 16 = .ok (.iconst 0, 1) := by decide +kernel
theorem d_MWorld_begin_17 : decode y_MWorld_begin.2.1 17 = .ok (.putfield 53, 3) := by decide +kernel
theorem d_MWorld_begin_20 : decode y_MWorld_begin.2.1 20 = .ok (.aload_n 0, 1) := by decide +kernel
theorem d_MWorld_begin_21 : decode y_MWorld_begin.2.1 21 = .ok (.iconst 0, 1) := by decide +kernel
theorem d_MWorld_begin_22 : decode y_MWorld_begin.2.1 22 = .ok (.putfield 56, 3) := by decide +kernel
theorem d_MWorld_begin_25 : decode y_MWorld_begin.2.1 25 = .ok (.aload_n 0, 1) := by decide +kernel
theorem d_MWorld_begin_26 : decode y_MWorld_begin.2.1 26 = .ok (.iconst (-1), 1) := by decide +kernel
theorem d_MWorld_begin_27 : decode y_MWorld_begin.2.1 27 = .ok (.putfield 59, 3) := by decide +kernel
theorem d_MWorld_begin_30 : decode y_MWorld_begin.2.1 30 = .ok (.aload_n 0, 1) := by decide +kernel
theorem d_MWorld_begin_31 : decode y_MWorld_begin.2.1 31 = .ok (.iconst 0, 1) := by decide +kernel
theorem d_MWorld_begin_32 : decode y_MWorld_begin.2.1 32 = .ok (.putfield 62, 3) := by decide +kernel
theorem d_MWorld_begin_35 : decode y_MWorld_begin.2.1 35 = .ok (.iconst 0, 1) := by decide +kernel
theorem d_MWorld_begin_36 : decode y_MWorld_begin.2.1 36 = .ok (.istore_n 1, 1) := by decide +kernel
theorem d_MWorld_begin_37 : decode y_MWorld_begin.2.1 37 = .ok (.iload_n 1, 1) := by decide +kernel
theorem d_MWorld_begin_38 : decode y_MWorld_begin.2.1 38 = .ok (.sipush 256, 3) := by decide +kernel
theorem d_MWorld_begin_41 : decode y_MWorld_begin.2.1 41 = .ok (.if_icmp .ge 30, 3) := by decide +kernel
theorem d_MWorld_begin_44 : decode y_MWorld_begin.2.1 44 = .ok (.aload_n 0, 1) := by decide +kernel
theorem d_MWorld_begin_45 : decode y_MWorld_begin.2.1 45 = .ok (.getfield 9, 3) := by decide +kernel
theorem d_MWorld_begin_48 : decode y_MWorld_begin.2.1 48 = .ok (.iload_n 1, 1) := by decide +kernel
theorem d_MWorld_begin_49 : decode y_MWorld_begin.2.1 49 = .ok (.iconst 0, 1) := by decide +kernel
theorem d_MWorld_begin_50 : decode y_MWorld_begin.2.1 50 = .ok (.iastore, 1) := by decide +kernel
theorem d_MWorld_begin_51 : decode y_MWorld_begin.2.1 51 = .ok (.aload_n 0, 1) := by decide +kernel
theorem d_MWorld_begin_52 : decode y_MWorld_begin.2.1 52 = .ok (.getfield 15, 3) := by decide +kernel
theorem d_MWorld_begin_55 : decode y_MWorld_begin.2.1 55 = .ok (.iload_n 1, 1) := by decide +kernel
theorem d_MWorld_begin_56 : decode y_MWorld_begin.2.1 56 = .ok (.iconst 0, 1) := by decide +kernel
theorem d_MWorld_begin_57 : decode y_MWorld_begin.2.1 57 = .ok (.bastore, 1) := by decide +kernel
theorem d_MWorld_begin_58 : decode y_MWorld_begin.2.1 58 = .ok (.aload_n 0, 1) := by decide +kernel
theorem d_MWorld_begin_59 : decode y_MWorld_begin.2.1 59 = .ok (.getfield 19, 3) := by decide +kernel
theorem d_MWorld_begin_62 : decode y_MWorld_begin.2.1 62 = .ok (.iload_n 1, 1) := by decide +kernel
theorem d_MWorld_begin_63 : decode y_MWorld_begin.2.1 63 = .ok (.iconst 0, 1) := by decide +kernel
theorem d_MWorld_begin_64 : decode y_MWorld_begin.2.1 64 = .ok (.iastore, 1) := by decide +kernel
theorem d_MWorld_begin_65 : decode y_MWorld_begin.2.1 65 = .ok (.iinc 1 1, 3) := by decide +kernel
theorem d_MWorld_begin_68 : decode y_MWorld_begin.2.1 68 = .ok (.goto (-31), 3) := by decide +kernel
theorem d_MWorld_begin_71 : decode y_MWorld_begin.2.1 71 = .ok (.return_, 1) := by decide +kernel
theorem s_MWorld_begin : ab_Stat y_MWorld_begin 0 := ⟨(k9 86 rfl rfl), (k1 21 rfl rfl), ⟨by decide, by decide⟩, by decide +kernel⟩
theorem i_MWorld_begin : Cond.instanceMethod y_MWorld_begin.1 ∈ ab_T := (k9 84 rfl rfl)
theorem v_MWorld_begin : Cond.selects "WorldEngineModel$World" y_MWorld_begin.1 y_MWorld_begin.1 ∈ ab_T := (k9 85 rfl rfl)
def B_MWorld_begin_37 (N : Nat) (p0 : Nat) : Nat → Int32 → Hp → Option (Unit × Hp)
  | 0, _, _ => none
  | n + 1, l1, H =>
    if (256 : Int32) ≤ l1 then
    some ((), H)
    else
    ck (H.sh[p0]? = some (13, 0)) <|
    rf (H.P p0 4) fun a11 =>
    ar H 100 a11 fun n13 =>
    ck (inb l1 n13) <|
    bnd (H.sD a11 (l1).toNatClampNeg (0 : Int32)) fun H16 =>
    rf (H16.P p0 5) fun a17 =>
    ar H16 102 a17 fun n19 =>
    ck (inb l1 n19) <|
    bnd (H16.sD a17 (l1).toNatClampNeg (vp_nar .boolean (0 : Int32))) fun H22 =>
    rf (H22.P p0 6) fun a23 =>
    ar H22 100 a23 fun n25 =>
    ck (inb l1 n25) <|
    bnd (H22.sD a23 (l1).toNatClampNeg (0 : Int32)) fun H28 =>
    B_MWorld_begin_37 N p0 n (l1 + 1) H28
termination_by structural n => n
set_option maxRecDepth 20000 in
set_option maxHeartbeats 2000000 in
theorem mB_MWorld_begin_37 {N : Nat} {p0 : Nat} : ∀ (n : Nat) (l1 : Int32) (H : Hp) (r : Unit × Hp), B_MWorld_begin_37 N p0 n l1 H = some r → Sa H r.2 := by
  intro n
  induction n with
  | zero => intro l1 H r hF; rw [B_MWorld_begin_37] at hF; cases hF
  | succ n ih =>
    intro l1 H r hF
    rw [B_MWorld_begin_37] at hF
    have hm := Sa.rf H
    rcases ite_s hF with ⟨q_11, hG⟩ | ⟨q_11, hG⟩
    · clear hF
      have hr := Option.some.inj hG; subst hr
      exact hm
    · clear hF
      obtain ⟨q30, hF⟩ := ck_s hG; clear hG
      obtain ⟨a31, e32, hG⟩ := rf_s hF; clear hF
      obtain ⟨n33, q34, hF⟩ := ar_s hG; clear hG
      obtain ⟨q35, hG⟩ := ck_s hF; clear hF
      obtain ⟨H36, eH36, hF⟩ := bnd_g hG; clear hG
      replace hm : Sa H H36 := by rw [eH36]; exact hm
      obtain ⟨a37, e38, hG⟩ := rf_s hF; clear hF
      obtain ⟨n39, q40, hF⟩ := ar_s hG; clear hG
      obtain ⟨q41, hG⟩ := ck_s hF; clear hF
      obtain ⟨H42, eH42, hF⟩ := bnd_g hG; clear hG
      replace hm : Sa H H42 := by rw [eH42]; exact hm
      obtain ⟨a43, e44, hG⟩ := rf_s hF; clear hF
      obtain ⟨n45, q46, hF⟩ := ar_s hG; clear hG
      obtain ⟨q47, hG⟩ := ck_s hF; clear hF
      obtain ⟨H48, eH48, hF⟩ := bnd_g hG; clear hG
      replace hm : Sa H H48 := by rw [eH48]; exact hm
      exact hm.tr (ih (l1 + 1) H48 r hF)
set_option maxRecDepth 20000 in
set_option maxHeartbeats 2000000 in
theorem kB_MWorld_begin_37 {N : Nat} {p0 : Nat} : ∀ (n : Nat) (l1 : Int32) (H : Hp) (r : Unit × Hp), B_MWorld_begin_37 N p0 n l1 H = some r → ab_V y_MWorld_begin { frames := 0, cells := 0, slots := 0, locals := 0 } (po (.returned none) r.2) 0 0 0 0 37 [some (.ref p0), some (.int l1)] [] (hpw H) := by
  intro n
  induction n with
  | zero => intro l1 H r hF; rw [B_MWorld_begin_37] at hF; cases hF
  | succ n ih =>
    intro l1 H r hF
    rw [B_MWorld_begin_37] at hF
    refine ab_iload_n d_MWorld_begin_37 rfl rfl ?_
    refine ab_sipush (v := 256) d_MWorld_begin_38 (by decide) ?_
    refine ab_icmp_ge (tgt := 71) d_MWorld_begin_41 (by decide) (fun q9 => ?_) (fun q9 => ?_)
    · rw [if_pos q9] at hF
      exact ab_vret d_MWorld_begin_71 rfl (Nat.le_refl _) (Nat.le_refl _) (by have hr := Option.some.inj hF; subst hr; exact ⟨rfl, rfl⟩)
    · rw [if_neg q9] at hF
      refine ab_aload_n d_MWorld_begin_44 rfl rfl rfl ?_
      obtain ⟨q10, hG⟩ := ck_s hF; clear hF
      obtain ⟨a11, e12, hF⟩ := rf_s hG; clear hG
      refine hp_getR (f := 4) d_MWorld_begin_45 q10 (by decide) rfl (by decide) (k9 98 rfl rfl) rfl e12 ?_
      refine ab_iload_n d_MWorld_begin_48 rfl rfl ?_
      refine ab_iconst (v := 0) d_MWorld_begin_49 (by decide) ?_
      obtain ⟨n13, q14, hG⟩ := ar_s hF; clear hF
      obtain ⟨q15, hF⟩ := ck_s hG; clear hG
      refine hp_iast d_MWorld_begin_50 tI q14 q15 ?_
      refine hp_gen (fun H16 eH16 => ?_)
      replace hF := bnd_s eH16 hF
      have s_8 : Sa H H16 := by rw [eH16]; exact Sa.rf _
      refine ab_aload_n d_MWorld_begin_51 rfl rfl rfl ?_
      obtain ⟨a17, e18, hG⟩ := rf_s hF; clear hF
      refine hp_getR (f := 5) d_MWorld_begin_52 (by rw [(s_8).1]; exact q10) (by decide) rfl (by decide) (k9 100 rfl rfl) rfl e18 ?_
      refine ab_iload_n d_MWorld_begin_55 rfl rfl ?_
      refine ab_iconst (v := 0) d_MWorld_begin_56 (by decide) ?_
      obtain ⟨n19, q20, hF⟩ := ar_s hG; clear hG
      rw [(s_8).1] at q20
      obtain ⟨q21, hG⟩ := ck_s hF; clear hF
      refine hp_zast d_MWorld_begin_57 tZ (by rw [(s_8).1]; exact q20) q21 ?_
      refine hp_gen (fun H22 eH22 => ?_)
      replace hG := bnd_s eH22 hG
      have s_9 : Sa H H22 := by rw [eH22]; exact s_8
      refine ab_aload_n d_MWorld_begin_58 rfl rfl rfl ?_
      obtain ⟨a23, e24, hF⟩ := rf_s hG; clear hG
      refine hp_getR (f := 6) d_MWorld_begin_59 (by rw [(s_9).1]; exact q10) (by decide) rfl (by decide) (k9 104 rfl rfl) rfl e24 ?_
      refine ab_iload_n d_MWorld_begin_62 rfl rfl ?_
      refine ab_iconst (v := 0) d_MWorld_begin_63 (by decide) ?_
      obtain ⟨n25, q26, hG⟩ := ar_s hF; clear hF
      rw [(s_9).1] at q26
      obtain ⟨q27, hF⟩ := ck_s hG; clear hG
      refine hp_iast d_MWorld_begin_64 tI (by rw [(s_9).1]; exact q26) q27 ?_
      refine hp_gen (fun H28 eH28 => ?_)
      replace hF := bnd_s eH28 hF
      have s_10 : Sa H H28 := by rw [eH28]; exact s_9
      refine ab_iinc (v := l1 + 1) (lv' := [some (.ref p0), some (.int (l1 + 1))]) d_MWorld_begin_65 rfl rfl (by decide) rfl ?_
      refine ab_goto (tgt := 37) d_MWorld_begin_68 (by decide) ?_
      exact ih (l1 + 1) H28 r hF
def F_MWorld_begin (N : Nat) (p0 : Nat) (H : Hp) : Option (Unit × Hp) :=
    ck (H.sh[p0]? = some (13, 0)) <|
    bnd (H.sD p0 0 (0 : Int32)) fun H2 =>
    bnd (H2.sD p0 1 (0 : Int32)) fun H3 =>
    bnd (H3.sD p0 2 (0 : Int32)) fun H4 =>
    bnd (H4.sD p0 3 (0 : Int32)) fun H5 =>
    bnd (H5.sD p0 8 (0 : Int32)) fun H6 =>
    bnd (H6.sD p0 13 ((-1) : Int32)) fun H7 =>
    bnd (H7.sD p0 16 (0 : Int32)) fun H8 =>
    B_MWorld_begin_37 N p0 N 0 H8
set_option maxRecDepth 20000 in
set_option maxHeartbeats 2000000 in
theorem m_MWorld_begin {N : Nat} {p0 : Nat} {H : Hp} {r : Unit × Hp} (hF : F_MWorld_begin N p0 H = some r) : Sa H r.2 := by
  unfold F_MWorld_begin at hF
  have hm := Sa.rf H
  obtain ⟨q49, hG⟩ := ck_s hF; clear hF
  obtain ⟨H50, eH50, hF⟩ := bnd_g hG; clear hG
  replace hm : Sa H H50 := by rw [eH50]; exact hm
  obtain ⟨H51, eH51, hG⟩ := bnd_g hF; clear hF
  replace hm : Sa H H51 := by rw [eH51]; exact hm
  obtain ⟨H52, eH52, hF⟩ := bnd_g hG; clear hG
  replace hm : Sa H H52 := by rw [eH52]; exact hm
  obtain ⟨H53, eH53, hG⟩ := bnd_g hF; clear hF
  replace hm : Sa H H53 := by rw [eH53]; exact hm
  obtain ⟨H54, eH54, hF⟩ := bnd_g hG; clear hG
  replace hm : Sa H H54 := by rw [eH54]; exact hm
  obtain ⟨H55, eH55, hG⟩ := bnd_g hF; clear hF
  replace hm : Sa H H55 := by rw [eH55]; exact hm
  obtain ⟨H56, eH56, hF⟩ := bnd_g hG; clear hG
  replace hm : Sa H H56 := by rw [eH56]; exact hm
  exact hm.tr (mB_MWorld_begin_37 N 0 H56 r hF)
set_option maxRecDepth 20000 in
set_option maxHeartbeats 2000000 in
theorem k_MWorld_begin {N : Nat} {p0 : Nat} {H : Hp} {r : Unit × Hp} (hF : F_MWorld_begin N p0 H = some r) : ab_M y_MWorld_begin { frames := 0, cells := 0, slots := 0, locals := 0 } [.ref p0] (hpw H) (po (.returned none) r.2) := by
  unfold F_MWorld_begin at hF
  refine ab_of2 (lv := [some (.ref p0), none]) 1 rfl rfl (Nat.le_of_ble_eq_true rfl) ?_
  refine ab_aload_n d_MWorld_begin_0 rfl rfl rfl ?_
  refine ab_iconst (v := 0) d_MWorld_begin_1 (by decide) ?_
  obtain ⟨q1, hG⟩ := ck_s hF; clear hF
  refine hp_putI (v := 0) (f := 0) d_MWorld_begin_2 q1 (by decide) rfl (by decide) (k9 87 rfl rfl) rfl rfl (fun _ => rfl) (fun _ => rfl) rfl ?_
  refine hp_gen (fun H2 eH2 => ?_)
  replace hG := bnd_s eH2 hG
  have s_1 : Sa H H2 := by rw [eH2]; exact Sa.rf _
  refine ab_aload_n d_MWorld_begin_5 rfl rfl rfl ?_
  refine ab_iconst (v := 0) d_MWorld_begin_6 (by decide) ?_
  refine hp_putI (v := 0) (f := 1) d_MWorld_begin_7 (by rw [(s_1).1]; exact q1) (by decide) rfl (by decide) (k9 90 rfl rfl) rfl rfl (fun _ => rfl) (fun _ => rfl) rfl ?_
  refine hp_gen (fun H3 eH3 => ?_)
  replace hG := bnd_s eH3 hG
  have s_2 : Sa H H3 := by rw [eH3]; exact s_1
  refine ab_aload_n d_MWorld_begin_10 rfl rfl rfl ?_
  refine ab_iconst (v := 0) d_MWorld_begin_11 (by decide) ?_
  refine hp_putI (v := 0) (f := 2) d_MWorld_begin_12 (by rw [(s_2).1]; exact q1) (by decide) rfl (by decide) (k9 93 rfl rfl) rfl rfl (fun _ => rfl) (fun _ => rfl) rfl ?_
  refine hp_gen (fun H4 eH4 => ?_)
  replace hG := bnd_s eH4 hG
  have s_3 : Sa H H4 := by rw [eH4]; exact s_2
  refine ab_aload_n d_MWorld_begin_15 rfl rfl rfl ?_
  refine ab_iconst (v := 0) d_MWorld_begin_16 (by decide) ?_
  refine hp_putI (v := 0) (f := 3) d_MWorld_begin_17 (by rw [(s_3).1]; exact q1) (by decide) rfl (by decide) (k9 95 rfl rfl) rfl rfl (fun _ => rfl) (fun _ => rfl) rfl ?_
  refine hp_gen (fun H5 eH5 => ?_)
  replace hG := bnd_s eH5 hG
  have s_4 : Sa H H5 := by rw [eH5]; exact s_3
  refine ab_aload_n d_MWorld_begin_20 rfl rfl rfl ?_
  refine ab_iconst (v := 0) d_MWorld_begin_21 (by decide) ?_
  refine hp_putI (v := 0) (f := 8) d_MWorld_begin_22 (by rw [(s_4).1]; exact q1) (by decide) rfl (by decide) (k9 111 rfl rfl) rfl rfl (fun _ => rfl) (fun _ => rfl) rfl ?_
  refine hp_gen (fun H6 eH6 => ?_)
  replace hG := bnd_s eH6 hG
  have s_5 : Sa H H6 := by rw [eH6]; exact s_4
  refine ab_aload_n d_MWorld_begin_25 rfl rfl rfl ?_
  refine ab_iconst (v := (-1)) d_MWorld_begin_26 (by decide) ?_
  refine hp_putI (v := (-1)) (f := 13) d_MWorld_begin_27 (by rw [(s_5).1]; exact q1) (by decide) rfl (by decide) (k9 126 rfl rfl) rfl rfl (fun _ => rfl) (fun _ => rfl) rfl ?_
  refine hp_gen (fun H7 eH7 => ?_)
  replace hG := bnd_s eH7 hG
  have s_6 : Sa H H7 := by rw [eH7]; exact s_5
  refine ab_aload_n d_MWorld_begin_30 rfl rfl rfl ?_
  refine ab_iconst (v := 0) d_MWorld_begin_31 (by decide) ?_
  refine hp_putI (v := 0) (f := 16) d_MWorld_begin_32 (by rw [(s_6).1]; exact q1) (by decide) rfl (by decide) (k9 133 rfl rfl) rfl rfl (fun _ => rfl) (fun _ => rfl) rfl ?_
  refine hp_gen (fun H8 eH8 => ?_)
  replace hG := bnd_s eH8 hG
  have s_7 : Sa H H8 := by rw [eH8]; exact s_6
  refine ab_iconst (v := 0) d_MWorld_begin_35 (by decide) ?_
  refine ab_istore_n (lv' := [some (.ref p0), some (.int 0)]) d_MWorld_begin_36 rfl (by decide) rfl ?_
  exact kB_MWorld_begin_37 N 0 H8 r hG
