def y_Row_value : ab_Y := (⟨"WorldEngine$Row", "value", "(I)V"⟩, prog_8_method_14_code, 4, none, [])
theorem d_Row_value_0 : decode y_Row_value.2.1 0 = .ok (.iload_n 1, 1) := by decide +kernel
theorem d_Row_value_1 : decode y_Row_value.2.1 1 = .ok (.tableswitch 349 30 42 #[67, 78, 96, 110, 126, 142, 164, 186, 222, 240, 275, 286, 312], 67) := by decide +kernel
theorem d_Row_value_68 : decode y_Row_value.2.1 68 = .ok (.aload_n 0, 1) := by decide +kernel
theorem d_Row_value_69 : decode y_Row_value.2.1 69 = .ok (.aload_n 0, 1) := by decide +kernel
theorem d_Row_value_70 : decode y_Row_value.2.1 70 = .ok (.invokevirtual 88, 3) := by decide +kernel
theorem d_Row_value_73 : decode y_Row_value.2.1 73 = .ok (.invokevirtual 129, 3) := by decide +kernel
theorem d_Row_value_76 : decode y_Row_value.2.1 76 = .ok (.goto 292, 3) := by decide +kernel
theorem d_Row_value_79 : decode y_Row_value.2.1 79 = .ok (.aload_n 0, 1) := by decide +kernel
theorem d_Row_value_80 : decode y_Row_value.2.1 80 = .ok (.aload_n 0, 1) := by decide +kernel
theorem d_Row_value_81 : decode y_Row_value.2.1 81 = .ok (.getfield 39, 3) := by decide +kernel
theorem d_Row_value_84 : decode y_Row_value.2.1 84 = .ok (.aload_n 0, 1) := by decide +kernel
theorem d_Row_value_85 : decode y_Row_value.2.1 85 = .ok (.getfield 50, 3) := by decide +kernel
theorem d_Row_value_88 : decode y_Row_value.2.1 88 = .ok (.invokevirtual 112, 3) := by decide +kernel
theorem d_Row_value_91 : decode y_Row_value.2.1 91 = .ok (.invokevirtual 129, 3) := by decide +kernel
theorem d_Row_value_94 : decode y_Row_value.2.1 94 = .ok (.goto 274, 3) := by decide +kernel
theorem d_Row_value_97 : decode y_Row_value.2.1 97 = .ok (.aload_n 0, 1) := by decide +kernel
theorem d_Row_value_98 : decode y_Row_value.2.1 98 = .ok (.aload_n 0, 1) := by decide +kernel
theorem d_Row_value_99 : decode y_Row_value.2.1 99 = .ok (.getfield 39, 3) := by decide +kernel
theorem d_Row_value_102 : decode y_Row_value.2.1 102 = .ok (.getfield 171, 3) := by decide +kernel
theorem d_Row_value_105 : decode y_Row_value.2.1 105 = .ok (.invokevirtual 129, 3) := by decide +kernel
theorem d_Row_value_108 : decode y_Row_value.2.1 108 = .ok (.goto 260, 3) := by decide +kernel
theorem d_Row_value_111 : decode y_Row_value.2.1 111 = .ok (.aload_n 0, 1) := by decide +kernel
theorem d_Row_value_112 : decode y_Row_value.2.1 112 = .ok (.aload_n 0, 1) := by decide +kernel
theorem d_Row_value_113 : decode y_Row_value.2.1 113 = .ok (.getfield 18, 3) := by decide +kernel
theorem d_Row_value_116 : decode y_Row_value.2.1 116 = .ok (.aload_n 0, 1) := by decide +kernel
theorem d_Row_value_117 : decode y_Row_value.2.1 117 = .ok (.invokevirtual 88, 3) := by decide +kernel
theorem d_Row_value_120 : decode y_Row_value.2.1 120 = .ok (.iaload, 1) := by decide +kernel
theorem d_Row_value_121 : decode y_Row_value.2.1 121 = .ok (.invokevirtual 129, 3) := by decide +kernel
theorem d_Row_value_124 : decode y_Row_value.2.1 124 = .ok (.goto 244, 3) := by decide +kernel
theorem d_Row_value_127 : decode y_Row_value.2.1 127 = .ok (.aload_n 0, 1) := by decide +kernel
theorem d_Row_value_128 : decode y_Row_value.2.1 128 = .ok (.getfield 18, 3) := by decide +kernel
theorem d_Row_value_131 : decode y_Row_value.2.1 131 = .ok (.aload_n 0, 1) := by decide +kernel
theorem d_Row_value_132 : decode y_Row_value.2.1 132 = .ok (.invokevirtual 88, 3) := by decide +kernel
theorem d_Row_value_135 : decode y_Row_value.2.1 135 = .ok (.aload_n 0, 1) := by decide +kernel
theorem d_Row_value_136 : decode y_Row_value.2.1 136 = .ok (.invokevirtual 126, 3) := by decide +kernel
theorem d_Row_value_139 : decode y_Row_value.2.1 139 = .ok (.iastore, 1) := by decide +kernel
theorem d_Row_value_140 : decode y_Row_value.2.1 140 = .ok (.goto 228, 3) := by decide +kernel
theorem d_Row_value_143 : decode y_Row_value.2.1 143 = .ok (.aload_n 0, 1) := by decide +kernel
theorem d_Row_value_144 : decode y_Row_value.2.1 144 = .ok (.aload_n 0, 1) := by decide +kernel
theorem d_Row_value_145 : decode y_Row_value.2.1 145 = .ok (.getfield 39, 3) := by decide +kernel
theorem d_Row_value_148 : decode y_Row_value.2.1 148 = .ok (.aload_n 0, 1) := by decide +kernel
theorem d_Row_value_149 : decode y_Row_value.2.1 149 = .ok (.getfield 50, 3) := by decide +kernel
theorem d_Row_value_152 : decode y_Row_value.2.1 152 = .ok (.aload_n 0, 1) := by decide +kernel
theorem d_Row_value_153 : decode y_Row_value.2.1 153 = .ok (.invokevirtual 88, 3) := by decide +kernel
theorem d_Row_value_156 : decode y_Row_value.2.1 156 = .ok (.invokevirtual 199, 3) := by decide +kernel
theorem d_Row_value_159 : decode y_Row_value.2.1 159 = .ok (.invokevirtual 129, 3) := by decide +kernel
theorem d_Row_value_162 : decode y_Row_value.2.1 162 = .ok (.goto 206, 3) := by decide +kernel
theorem d_Row_value_165 : decode y_Row_value.2.1 165 = .ok (.aload_n 0, 1) := by decide +kernel
theorem d_Row_value_166 : decode y_Row_value.2.1 166 = .ok (.getfield 39, 3) := by decide +kernel
theorem d_Row_value_169 : decode y_Row_value.2.1 169 = .ok (.aload_n 0, 1) := by decide +kernel
theorem d_Row_value_170 : decode y_Row_value.2.1 170 = .ok (.getfield 50, 3) := by decide +kernel
theorem d_Row_value_173 : decode y_Row_value.2.1 173 = .ok (.aload_n 0, 1) := by decide +kernel
theorem d_Row_value_174 : decode y_Row_value.2.1 174 = .ok (.invokevirtual 88, 3) := by decide +kernel
theorem d_Row_value_177 : decode y_Row_value.2.1 177 = .ok (.aload_n 0, 1) := by decide +kernel
theorem d_Row_value_178 : decode y_Row_value.2.1 178 = .ok (.invokevirtual 126, 3) := by decide +kernel
theorem d_Row_value_181 : decode y_Row_value.2.1 181 = .ok (.invokevirtual 202, 3) := by decide +kernel
theorem d_Row_value_184 : decode y_Row_value.2.1 184 = .ok (.goto 184, 3) := by decide +kernel
theorem d_Row_value_187 : decode y_Row_value.2.1 187 = .ok (.aload_n 0, 1) := by decide +kernel
theorem d_Row_value_188 : decode y_Row_value.2.1 188 = .ok (.getfield 21, 3) := by decide +kernel
theorem d_Row_value_191 : decode y_Row_value.2.1 191 = .ok (.aload_n 0, 1) := by decide +kernel
theorem d_Row_value_192 : decode y_Row_value.2.1 192 = .ok (.invokevirtual 88, 3) := by decide +kernel
theorem d_Row_value_195 : decode y_Row_value.2.1 195 = .ok (.iaload, 1) := by decide +kernel
theorem d_Row_value_196 : decode y_Row_value.2.1 196 = .ok (.bipush 7, 2) := by decide +kernel
theorem d_Row_value_198 : decode y_Row_value.2.1 198 = .ok (.imul, 1) := by decide +kernel
theorem d_Row_value_199 : decode y_Row_value.2.1 199 = .ok (.istore_n 2, 1) := by decide +kernel
theorem d_Row_value_200 : decode y_Row_value.2.1 200 = .ok (.aload_n 0, 1) := by decide +kernel
theorem d_Row_value_201 : decode y_Row_value.2.1 201 = .ok (.aload_n 0, 1) := by decide +kernel
theorem d_Row_value_202 : decode y_Row_value.2.1 202 = .ok (.getfield 39, 3) := by decide +kernel
theorem d_Row_value_205 : decode y_Row_value.2.1 205 = .ok (.getfield 168, 3) := by decide +kernel
theorem d_Row_value_208 : decode y_Row_value.2.1 208 = .ok (.iload_n 2, 1) := by decide +kernel
theorem d_Row_value_209 : decode y_Row_value.2.1 209 = .ok (.iconst 3, 1) := by decide +kernel
theorem d_Row_value_210 : decode y_Row_value.2.1 210 = .ok (.iadd, 1) := by decide +kernel
theorem d_Row_value_211 : decode y_Row_value.2.1 211 = .ok (.aload_n 0, 1) := by decide +kernel
theorem d_Row_value_212 : decode y_Row_value.2.1 212 = .ok (.invokevirtual 88, 3) := by decide +kernel
theorem d_Row_value_215 : decode y_Row_value.2.1 215 = .ok (.iadd, 1) := by decide +kernel
theorem d_Row_value_216 : decode y_Row_value.2.1 216 = .ok (.iaload, 1) := by decide +kernel
theorem d_Row_value_217 : decode y_Row_value.2.1 217 = .ok (.invokevirtual 129, 3) := by decide +kernel
theorem d_Row_value_220 : decode y_Row_value.2.1 220 = .ok (.goto 148, 3) := by decide +kernel
theorem d_Row_value_223 : decode y_Row_value.2.1 223 = .ok (.aload_n 0, 1) := by decide +kernel
theorem d_Row_value_224 : decode y_Row_value.2.1 224 = .ok (.aload_n 0, 1) := by decide +kernel
theorem d_Row_value_225 : decode y_Row_value.2.1 225 = .ok (.getfield 39, 3) := by decide +kernel
theorem d_Row_value_228 : decode y_Row_value.2.1 228 = .ok (.aload_n 0, 1) := by decide +kernel
theorem d_Row_value_229 : decode y_Row_value.2.1 229 = .ok (.invokevirtual 126, 3) := by decide +kernel
theorem d_Row_value_232 : decode y_Row_value.2.1 232 = .ok (.invokevirtual 205, 3) := by decide +kernel
theorem d_Row_value_235 : decode y_Row_value.2.1 235 = .ok (.invokevirtual 208, 3) := by decide +kernel
theorem d_Row_value_238 : decode y_Row_value.2.1 238 = .ok (.goto 130, 3) := by decide +kernel
theorem d_Row_value_241 : decode y_Row_value.2.1 241 = .ok (.aload_n 0, 1) := by decide +kernel
theorem d_Row_value_242 : decode y_Row_value.2.1 242 = .ok (.invokevirtual 126, 3) := by decide +kernel
theorem d_Row_value_245 : decode y_Row_value.2.1 245 = .ok (.istore_n 3, 1) := by decide +kernel
theorem d_Row_value_246 : decode y_Row_value.2.1 246 = .ok (.aload_n 0, 1) := by decide +kernel
theorem d_Row_value_247 : decode y_Row_value.2.1 247 = .ok (.iload_n 3, 1) := by decide +kernel
theorem d_Row_value_248 : decode y_Row_value.2.1 248 = .ok (.ifCond .lt 21, 3) := by decide +kernel
theorem d_Row_value_251 : decode y_Row_value.2.1 251 = .ok (.iload_n 3, 1) := by decide +kernel
theorem d_Row_value_252 : decode y_Row_value.2.1 252 = .ok (.aload_n 0, 1) := by decide +kernel
theorem d_Row_value_253 : decode y_Row_value.2.1 253 = .ok (.getfield 43, 3) := by decide +kernel
theorem d_Row_value_256 : decode y_Row_value.2.1 256 = .ok (.arraylength, 1) := by decide +kernel
theorem d_Row_value_257 : decode y_Row_value.2.1 257 = .ok (.if_icmp .ge 12, 3) := by decide +kernel
theorem d_Row_value_260 : decode y_Row_value.2.1 260 = .ok (.aload_n 0, 1) := by decide +kernel
theorem d_Row_value_261 : decode y_Row_value.2.1 261 = .ok (.getfield 43, 3) := by decide +kernel
theorem d_Row_value_264 : decode y_Row_value.2.1 264 = .ok (.iload_n 3, 1) := by decide +kernel
theorem d_Row_value_265 : decode y_Row_value.2.1 265 = .ok (.iaload, 1) := by decide +kernel
theorem d_Row_value_266 : decode y_Row_value.2.1 266 = .ok (.goto 4, 3) := by decide +kernel
theorem d_Row_value_269 : decode y_Row_value.2.1 269 = .ok (.iconst 0, 1) := by decide +kernel
theorem d_Row_value_270 : decode y_Row_value.2.1 270 = .ok (.invokevirtual 129, 3) := by decide +kernel
theorem d_Row_value_273 : decode y_Row_value.2.1 273 = .ok (.goto 95, 3) := by decide +kernel
theorem d_Row_value_276 : decode y_Row_value.2.1 276 = .ok (.aload_n 0, 1) := by decide +kernel
theorem d_Row_value_277 : decode y_Row_value.2.1 277 = .ok (.aload_n 0, 1) := by decide +kernel
theorem d_Row_value_278 : decode y_Row_value.2.1 278 = .ok (.invokevirtual 126, 3) := by decide +kernel
theorem d_Row_value_281 : decode y_Row_value.2.1 281 = .ok (.invokevirtual 211, 3) := by decide +kernel
theorem d_Row_value_284 : decode y_Row_value.2.1 284 = .ok (.goto 84, 3) := by decide +kernel
theorem d_Row_value_287 : decode y_Row_value.2.1 287 = .ok (.aload_n 0, 1) := by decide +kernel
theorem d_Row_value_288 : decode y_Row_value.2.1 288 = .ok (.aload_n 0, 1) := by decide +kernel
theorem d_Row_value_289 : decode y_Row_value.2.1 289 = .ok (.getfield 39, 3) := by decide +kernel
theorem d_Row_value_292 : decode y_Row_value.2.1 292 = .ok (.aload_n 0, 1) := by decide +kernel
theorem d_Row_value_293 : decode y_Row_value.2.1 293 = .ok (.invokevirtual 126, 3) := by decide +kernel
theorem d_Row_value_296 : decode y_Row_value.2.1 296 = .ok (.invokevirtual 205, 3) := by decide +kernel
theorem d_Row_value_299 : decode y_Row_value.2.1 299 = .ok (.ifCond .lt 7, 3) := by decide +kernel
theorem d_Row_value_302 : decode y_Row_value.2.1 302 = .ok (.iconst 1, 1) := by decide +kernel
theorem d_Row_value_303 : decode y_Row_value.2.1 303 = .ok (.goto 4, 3) := by decide +kernel
theorem d_Row_value_306 : decode y_Row_value.2.1 306 = .ok (.iconst 0, 1) := by decide +kernel
theorem d_Row_value_307 : decode y_Row_value.2.1 307 = .ok (.invokevirtual 129, 3) := by decide +kernel
theorem d_Row_value_310 : decode y_Row_value.2.1 310 = .ok (.goto 58, 3) := by decide +kernel
theorem d_Row_value_313 : decode y_Row_value.2.1 313 = .ok (.aload_n 0, 1) := by decide +kernel
theorem d_Row_value_314 : decode y_Row_value.2.1 314 = .ok (.aload_n 0, 1) := by decide +kernel
theorem d_Row_value_315 : decode y_Row_value.2.1 315 = .ok (.getfield 39, 3) := by decide +kernel
theorem d_Row_value_318 : decode y_Row_value.2.1 318 = .ok (.aload_n 0, 1) := by decide +kernel
theorem d_Row_value_319 : decode y_Row_value.2.1 319 = .ok (.getfield 39, 3) := by decide +kernel
theorem d_Row_value_322 : decode y_Row_value.2.1 322 = .ok (.aload_n 0, 1) := by decide +kernel
theorem d_Row_value_323 : decode y_Row_value.2.1 323 = .ok (.invokevirtual 126, 3) := by decide +kernel
theorem d_Row_value_326 : decode y_Row_value.2.1 326 = .ok (.invokevirtual 205, 3) := by decide +kernel
theorem d_Row_value_329 : decode y_Row_value.2.1 329 = .ok (.aload_n 0, 1) := by decide +kernel
theorem d_Row_value_330 : decode y_Row_value.2.1 330 = .ok (.invokevirtual 88, 3) := by decide +kernel
theorem d_Row_value_333 : decode y_Row_value.2.1 333 = .ok (.invokevirtual 151, 3) := by decide +kernel
theorem d_Row_value_336 : decode y_Row_value.2.1 336 = .ok (.ifCond .eq 7, 3) := by decide +kernel
theorem d_Row_value_339 : decode y_Row_value.2.1 339 = .ok (.iconst 1, 1) := by decide +kernel
theorem d_Row_value_340 : decode y_Row_value.2.1 340 = .ok (.goto 4, 3) := by decide +kernel
theorem d_Row_value_343 : decode y_Row_value.2.1 343 = .ok (.iconst 0, 1) := by decide +kernel
theorem d_Row_value_344 : decode y_Row_value.2.1 344 = .ok (.invokevirtual 129, 3) := by decide +kernel
theorem d_Row_value_347 : decode y_Row_value.2.1 347 = .ok (.goto 21, 3) := by decide +kernel
theorem d_Row_value_350 : decode y_Row_value.2.1 350 = .ok (.aload_n 0, 1) := by decide +kernel
theorem d_Row_value_351 : decode y_Row_value.2.1 351 = .ok (.bipush (-128), 2) := by decide +kernel
theorem d_Row_value_353 : decode y_Row_value.2.1 353 = .ok (.bipush 127, 2) := by decide +kernel
theorem d_Row_value_355 : decode y_Row_value.2.1 355 = .ok (.aload_n 0, 1) := by decide +kernel
theorem d_Row_value_356 : decode y_Row_value.2.1 356 = .ok (.invokevirtual 126, 3) := by decide +kernel
theorem d_Row_value_359 : decode y_Row_value.2.1 359 = .ok (.invokestatic 183, 3) := by decide +kernel
theorem d_Row_value_362 : decode y_Row_value.2.1 362 = .ok (.invokestatic 214, 3) := by decide +kernel
theorem d_Row_value_365 : decode y_Row_value.2.1 365 = .ok (.invokevirtual 129, 3) := by decide +kernel
theorem d_Row_value_368 : decode y_Row_value.2.1 368 = .ok (.return_, 1) := by decide +kernel
theorem s_Row_value : ab_Stat y_Row_value 1 := ⟨(k7 32 rfl rfl), (k1 13 rfl rfl), ⟨by decide, by decide⟩, by decide +kernel⟩
theorem i_Row_value : Cond.instanceMethod y_Row_value.1 ∈ ab_T := (k7 31 rfl rfl)
theorem v_Row_value : Cond.selects "WorldEngine$Row" y_Row_value.1 y_Row_value.1 ∈ ab_T := ab_s (List.mem_of_getElem? (i := 78) rfl) rfl
def B_Row_value_270 (N : Nat) (p0 : Nat) (p1 : Int32) (w0 : Nat) (w1 : Int32) (H : Hp) : Option (Unit × Hp) :=
    ck (H.sh[w0]? = some (8, 0)) <|
    bC (F_Row_push N w0 w1 H) fun v137 H138 =>
    some ((), H138)
set_option maxRecDepth 20000 in
set_option maxHeartbeats 2000000 in
theorem mB_Row_value_270 {N : Nat} {p0 : Nat} {p1 : Int32} {w0 : Nat} {w1 : Int32} {H : Hp} {r : Unit × Hp} (hF : B_Row_value_270 N p0 p1 w0 w1 H = some r) : Sa H r.2 := by
  unfold B_Row_value_270 at hF
  have hm := Sa.rf H
  obtain ⟨q139, hG⟩ := ck_s hF; clear hF
  obtain ⟨v141, H142, z140, hF⟩ := bC_s hG; clear hG
  replace hm : Sa H H142 := hm.tr (m_Row_push z140)
  have hr := Option.some.inj hF; subst hr
  exact hm
set_option maxRecDepth 20000 in
set_option maxHeartbeats 2000000 in
theorem kB_Row_value_270 {N : Nat} {p0 : Nat} {p1 : Int32} {w0 : Nat} {w1 : Int32} {H : Hp} {r : Unit × Hp} (hF : B_Row_value_270 N p0 p1 w0 w1 H = some r) : ab_V y_Row_value { frames := 2, cells := 0, slots := 0, locals := 46 } (po (.returned none) r.2) 0 0 0 0 270 [some (.ref p0), some (.int p1), none, none] [.int w1, .ref w0] (hpw H) := by
  unfold B_Row_value_270 at hF
  obtain ⟨q135, hG⟩ := ck_s hF; clear hF
  obtain ⟨v137, H138, z136, hF⟩ := bC_s hG; clear hG
  refine hp_callV_v (H1 := H138) (As := [.int w1]) (rest := []) d_Row_value_270 (k_Row_push z136) (ab_mkC s_Row_push (Nat.le_of_ble_eq_true rfl) (Nat.le_of_ble_eq_true rfl) (Nat.le_refl 0) (Nat.le_refl 0)) (k6 218 rfl rfl) i_Row_push v_Row_push q135 (by decide) rfl rfl (Nat.le_of_ble_eq_true rfl) ?_
  have s_24 : Sa H H138 := (m_Row_push z136)
  refine ab_goto (tgt := 368) d_Row_value_273 (by decide) ?_
  exact ab_vret d_Row_value_368 rfl (Nat.le_refl _) (Nat.le_refl _) (by have hr := Option.some.inj hF; subst hr; exact ⟨rfl, rfl⟩)
def B_Row_value_269 (N : Nat) (p0 : Nat) (p1 : Int32) (w0 : Nat) (H : Hp) : Option (Unit × Hp) :=
    B_Row_value_270 N p0 p1 w0 0 H
set_option maxRecDepth 20000 in
set_option maxHeartbeats 2000000 in
theorem mB_Row_value_269 {N : Nat} {p0 : Nat} {p1 : Int32} {w0 : Nat} {H : Hp} {r : Unit × Hp} (hF : B_Row_value_269 N p0 p1 w0 H = some r) : Sa H r.2 := by
  unfold B_Row_value_269 at hF
  have hm := Sa.rf H
  exact hm.tr (mB_Row_value_270 hF)
set_option maxRecDepth 20000 in
set_option maxHeartbeats 2000000 in
theorem kB_Row_value_269 {N : Nat} {p0 : Nat} {p1 : Int32} {w0 : Nat} {H : Hp} {r : Unit × Hp} (hF : B_Row_value_269 N p0 p1 w0 H = some r) : ab_V y_Row_value { frames := 2, cells := 0, slots := 0, locals := 46 } (po (.returned none) r.2) 0 0 0 0 269 [some (.ref p0), some (.int p1), none, none] [.ref w0] (hpw H) := by
  unfold B_Row_value_269 at hF
  refine ab_iconst (v := 0) d_Row_value_269 (by decide) ?_
  exact kB_Row_value_270 hF
def B_Row_value_307 (N : Nat) (p0 : Nat) (p1 : Int32) (w0 : Nat) (w1 : Int32) (H : Hp) : Option (Unit × Hp) :=
    ck (H.sh[w0]? = some (8, 0)) <|
    bC (F_Row_push N w0 w1 H) fun v176 H177 =>
    some ((), H177)
set_option maxRecDepth 20000 in
set_option maxHeartbeats 2000000 in
theorem mB_Row_value_307 {N : Nat} {p0 : Nat} {p1 : Int32} {w0 : Nat} {w1 : Int32} {H : Hp} {r : Unit × Hp} (hF : B_Row_value_307 N p0 p1 w0 w1 H = some r) : Sa H r.2 := by
  unfold B_Row_value_307 at hF
  have hm := Sa.rf H
  obtain ⟨q178, hG⟩ := ck_s hF; clear hF
  obtain ⟨v180, H181, z179, hF⟩ := bC_s hG; clear hG
  replace hm : Sa H H181 := hm.tr (m_Row_push z179)
  have hr := Option.some.inj hF; subst hr
  exact hm
set_option maxRecDepth 20000 in
set_option maxHeartbeats 2000000 in
theorem kB_Row_value_307 {N : Nat} {p0 : Nat} {p1 : Int32} {w0 : Nat} {w1 : Int32} {H : Hp} {r : Unit × Hp} (hF : B_Row_value_307 N p0 p1 w0 w1 H = some r) : ab_V y_Row_value { frames := 2, cells := 0, slots := 0, locals := 46 } (po (.returned none) r.2) 0 0 0 0 307 [some (.ref p0), some (.int p1), none, none] [.int w1, .ref w0] (hpw H) := by
  unfold B_Row_value_307 at hF
  obtain ⟨q174, hG⟩ := ck_s hF; clear hF
  obtain ⟨v176, H177, z175, hF⟩ := bC_s hG; clear hG
  refine hp_callV_v (H1 := H177) (As := [.int w1]) (rest := []) d_Row_value_307 (k_Row_push z175) (ab_mkC s_Row_push (Nat.le_of_ble_eq_true rfl) (Nat.le_of_ble_eq_true rfl) (Nat.le_refl 0) (Nat.le_refl 0)) (k6 218 rfl rfl) i_Row_push v_Row_push q174 (by decide) rfl rfl (Nat.le_of_ble_eq_true rfl) ?_
  have s_30 : Sa H H177 := (m_Row_push z175)
  refine ab_goto (tgt := 368) d_Row_value_310 (by decide) ?_
  exact ab_vret d_Row_value_368 rfl (Nat.le_refl _) (Nat.le_refl _) (by have hr := Option.some.inj hF; subst hr; exact ⟨rfl, rfl⟩)
def B_Row_value_344 (N : Nat) (p0 : Nat) (p1 : Int32) (w0 : Nat) (w1 : Int32) (H : Hp) : Option (Unit × Hp) :=
    ck (H.sh[w0]? = some (8, 0)) <|
    bC (F_Row_push N w0 w1 H) fun v205 H206 =>
    some ((), H206)
set_option maxRecDepth 20000 in
set_option maxHeartbeats 2000000 in
theorem mB_Row_value_344 {N : Nat} {p0 : Nat} {p1 : Int32} {w0 : Nat} {w1 : Int32} {H : Hp} {r : Unit × Hp} (hF : B_Row_value_344 N p0 p1 w0 w1 H = some r) : Sa H r.2 := by
  unfold B_Row_value_344 at hF
  have hm := Sa.rf H
  obtain ⟨q207, hG⟩ := ck_s hF; clear hF
  obtain ⟨v209, H210, z208, hF⟩ := bC_s hG; clear hG
  replace hm : Sa H H210 := hm.tr (m_Row_push z208)
  have hr := Option.some.inj hF; subst hr
  exact hm
set_option maxRecDepth 20000 in
set_option maxHeartbeats 2000000 in
theorem kB_Row_value_344 {N : Nat} {p0 : Nat} {p1 : Int32} {w0 : Nat} {w1 : Int32} {H : Hp} {r : Unit × Hp} (hF : B_Row_value_344 N p0 p1 w0 w1 H = some r) : ab_V y_Row_value { frames := 2, cells := 0, slots := 0, locals := 46 } (po (.returned none) r.2) 0 0 0 0 344 [some (.ref p0), some (.int p1), none, none] [.int w1, .ref w0] (hpw H) := by
  unfold B_Row_value_344 at hF
  obtain ⟨q203, hG⟩ := ck_s hF; clear hF
  obtain ⟨v205, H206, z204, hF⟩ := bC_s hG; clear hG
  refine hp_callV_v (H1 := H206) (As := [.int w1]) (rest := []) d_Row_value_344 (k_Row_push z204) (ab_mkC s_Row_push (Nat.le_of_ble_eq_true rfl) (Nat.le_of_ble_eq_true rfl) (Nat.le_refl 0) (Nat.le_refl 0)) (k6 218 rfl rfl) i_Row_push v_Row_push q203 (by decide) rfl rfl (Nat.le_of_ble_eq_true rfl) ?_
  have s_36 : Sa H H206 := (m_Row_push z204)
  refine ab_goto (tgt := 368) d_Row_value_347 (by decide) ?_
  exact ab_vret d_Row_value_368 rfl (Nat.le_refl _) (Nat.le_refl _) (by have hr := Option.some.inj hF; subst hr; exact ⟨rfl, rfl⟩)
def F_Row_value (N : Nat) (p0 : Nat) (p1 : Int32) (H : Hp) : Option (Unit × Hp) :=
    if p1 = 30 then
    ck (H.sh[p0]? = some (8, 0)) <|
    bC (F_Row_nextCode N p0 H) fun v4 H5 =>
    bC (F_Row_push N p0 v4 H5) fun v7 H8 =>
    some ((), H8)
    else if p1 = 31 then
    ck (H.sh[p0]? = some (8, 0)) <|
    rf (H.P p0 3) fun a11 =>
    bnd ((H.D p0 18)) fun x13 =>
    ck (H.sh[a11]? = some (7, 0)) <|
    bC (F_World_numberAt N a11 x13 H) fun v16 H17 =>
    bC (F_Row_push N p0 v16 H17) fun v19 H20 =>
    some ((), H20)
    else if p1 = 32 then
    ck (H.sh[p0]? = some (8, 0)) <|
    rf (H.P p0 3) fun a23 =>
    ck (H.sh[a23]? = some (7, 0)) <|
    bnd ((H.D a23 0)) fun x26 =>
    bC (F_Row_push N p0 x26 H) fun v28 H29 =>
    some ((), H29)
    else if p1 = 33 then
    ck (H.sh[p0]? = some (8, 0)) <|
    rf (H.P p0 7) fun a32 =>
    bC (F_Row_nextCode N p0 H) fun v35 H36 =>
    ar H36 100 a32 fun n37 =>
    ck (inb v35 n37) <|
    bnd ((H36.D a32 (v35).toNatClampNeg)) fun x40 =>
    bC (F_Row_push N p0 x40 H36) fun v42 H43 =>
    some ((), H43)
    else if p1 = 34 then
    ck (H.sh[p0]? = some (8, 0)) <|
    rf (H.P p0 7) fun a46 =>
    bC (F_Row_nextCode N p0 H) fun v49 H50 =>
    bC (F_Row_pop N p0 H50) fun v52 H53 =>
    ar H53 100 a46 fun n54 =>
    ck (inb v49 n54) <|
    bnd (H53.sD a46 (v49).toNatClampNeg v52) fun H57 =>
    some ((), H57)
    else if p1 = 35 then
    ck (H.sh[p0]? = some (8, 0)) <|
    rf (H.P p0 3) fun a60 =>
    bnd ((H.D p0 18)) fun x62 =>
    bC (F_Row_nextCode N p0 H) fun v64 H65 =>
    ck (H65.sh[a60]? = some (7, 0)) <|
    bC (F_World_read N a60 x62 v64 H65) fun v68 H69 =>
    bC (F_Row_push N p0 v68 H69) fun v71 H72 =>
    some ((), H72)
    else if p1 = 36 then
    ck (H.sh[p0]? = some (8, 0)) <|
    rf (H.P p0 3) fun a75 =>
    bnd ((H.D p0 18)) fun x77 =>
    bC (F_Row_nextCode N p0 H) fun v79 H80 =>
    bC (F_Row_pop N p0 H80) fun v82 H83 =>
    ck (H83.sh[a75]? = some (7, 0)) <|
    bC (F_World_write N a75 x77 v79 v82 H83) fun v86 H87 =>
    some ((), H87)
    else if p1 = 37 then
    ck (H.sh[p0]? = some (8, 0)) <|
    rf (H.P p0 8) fun a90 =>
    bC (F_Row_nextCode N p0 H) fun v93 H94 =>
    ar H94 100 a90 fun n95 =>
    ck (inb v93 n95) <|
    bnd ((H94.D a90 (v93).toNatClampNeg)) fun x98 =>
    bnd ((x98 * (7 : Int32))) fun x99 =>
    rf (H94.P p0 3) fun a100 =>
    ck (H94.sh[a100]? = some (7, 0)) <|
    rf (H94.P a100 12) fun a103 =>
    bC (F_Row_nextCode N p0 H94) fun v106 H107 =>
    ar H107 100 a103 fun n108 =>
    ck (inb ((x99 + (3 : Int32)) + v106) n108) <|
    bnd ((H107.D a103 (((x99 + (3 : Int32)) + v106)).toNatClampNeg)) fun x111 =>
    bC (F_Row_push N p0 x111 H107) fun v113 H114 =>
    some ((), H114)
    else if p1 = 38 then
    ck (H.sh[p0]? = some (8, 0)) <|
    rf (H.P p0 3) fun a117 =>
    bC (F_Row_pop N p0 H) fun v120 H121 =>
    ck (H121.sh[a117]? = some (7, 0)) <|
    bC (F_World_placeOf N a117 v120 H121) fun v124 H125 =>
    bC (F_Row_far N p0 v124 H125) fun v127 H128 =>
    some ((), H128)
    else if p1 = 39 then
    ck (H.sh[p0]? = some (8, 0)) <|
    bC (F_Row_pop N p0 H) fun v132 H133 =>
    if v132 < (0 : Int32) then
    B_Row_value_269 N p0 p1 p0 H133
    else
    rf (H133.P p0 4) fun a143 =>
    ar H133 100 a143 fun n145 =>
    if (Int32.ofNat n145) ≤ v132 then
    B_Row_value_269 N p0 p1 p0 H133
    else
    rf (H133.P p0 4) fun a148 =>
    ar H133 100 a148 fun n150 =>
    ck (inb v132 n150) <|
    bnd ((H133.D a148 (v132).toNatClampNeg)) fun x153 =>
    B_Row_value_270 N p0 p1 p0 x153 H133
    else if p1 = 40 then
    ck (H.sh[p0]? = some (8, 0)) <|
    bC (F_Row_pop N p0 H) fun v157 H158 =>
    bC (F_Row_draw N p0 v157 H158) fun v160 H161 =>
    some ((), H161)
    else if p1 = 41 then
    ck (H.sh[p0]? = some (8, 0)) <|
    rf (H.P p0 3) fun a164 =>
    bC (F_Row_pop N p0 H) fun v167 H168 =>
    ck (H168.sh[a164]? = some (7, 0)) <|
    bC (F_World_placeOf N a164 v167 H168) fun v171 H172 =>
    if v171 < (0 : Int32) then
    B_Row_value_307 N p0 p1 p0 0 H172
    else
    B_Row_value_307 N p0 p1 p0 1 H172
    else if p1 = 42 then
    ck (H.sh[p0]? = some (8, 0)) <|
    rf (H.P p0 3) fun a184 =>
    rf (H.P p0 3) fun a186 =>
    bC (F_Row_pop N p0 H) fun v189 H190 =>
    ck (H190.sh[a186]? = some (7, 0)) <|
    bC (F_World_placeOf N a186 v189 H190) fun v193 H194 =>
    bC (F_Row_nextCode N p0 H194) fun v196 H197 =>
    ck (H197.sh[a184]? = some (7, 0)) <|
    bC (F_World_owns N a184 v193 v196 H197) fun v200 H201 =>
    if v200 = (0 : Int32) then
    B_Row_value_344 N p0 p1 p0 0 H201
    else
    B_Row_value_344 N p0 p1 p0 1 H201
    else ck (H.sh[p0]? = some (8, 0)) <|
    bC (F_Row_pop N p0 H) fun v213 H214 =>
    bC (F_Math_min N (127 : Int32) v213 H214) fun v216 H217 =>
    bC (F_Math_max N ((-128) : Int32) v216 H217) fun v219 H220 =>
    bC (F_Row_push N p0 v219 H220) fun v222 H223 =>
    some ((), H223)
set_option maxRecDepth 20000 in
set_option maxHeartbeats 2000000 in
theorem m_Row_value {N : Nat} {p0 : Nat} {p1 : Int32} {H : Hp} {r : Unit × Hp} (hF : F_Row_value N p0 p1 H = some r) : Sa H r.2 := by
  unfold F_Row_value at hF
  have hm := Sa.rf H
  rcases ite_s hF with ⟨q_42, hG⟩ | ⟨q_42, hG⟩
  · clear hF
    obtain ⟨q225, hF⟩ := ck_s hG; clear hG
    obtain ⟨v227, H228, z226, hG⟩ := bC_s hF; clear hF
    replace hm : Sa H H228 := hm.tr (m_Row_nextCode z226)
    obtain ⟨v230, H231, z229, hF⟩ := bC_s hG; clear hG
    replace hm : Sa H H231 := hm.tr (m_Row_push z229)
    have hr := Option.some.inj hF; subst hr
    exact hm
  clear hF
  rcases ite_s hG with ⟨q_45, hF⟩ | ⟨q_45, hF⟩
  · clear hG
    obtain ⟨q233, hG⟩ := ck_s hF; clear hF
    obtain ⟨a234, e235, hF⟩ := rf_s hG; clear hG
    obtain ⟨x236, -, hG⟩ := bnd_g hF; clear hF
    obtain ⟨q237, hF⟩ := ck_s hG; clear hG
    obtain ⟨v239, H240, z238, hG⟩ := bC_s hF; clear hF
    replace hm : Sa H H240 := hm.tr (m_World_numberAt z238)
    obtain ⟨v242, H243, z241, hF⟩ := bC_s hG; clear hG
    replace hm : Sa H H243 := hm.tr (m_Row_push z241)
    have hr := Option.some.inj hF; subst hr
    exact hm
  clear hG
  rcases ite_s hF with ⟨q_48, hG⟩ | ⟨q_48, hG⟩
  · clear hF
    obtain ⟨q245, hF⟩ := ck_s hG; clear hG
    obtain ⟨a246, e247, hG⟩ := rf_s hF; clear hF
    obtain ⟨q248, hF⟩ := ck_s hG; clear hG
    obtain ⟨x249, -, hG⟩ := bnd_g hF; clear hF
    obtain ⟨v251, H252, z250, hF⟩ := bC_s hG; clear hG
    replace hm : Sa H H252 := hm.tr (m_Row_push z250)
    have hr := Option.some.inj hF; subst hr
    exact hm
  clear hF
  rcases ite_s hG with ⟨q_50, hF⟩ | ⟨q_50, hF⟩
  · clear hG
    obtain ⟨q254, hG⟩ := ck_s hF; clear hF
    obtain ⟨a255, e256, hF⟩ := rf_s hG; clear hG
    obtain ⟨v258, H259, z257, hG⟩ := bC_s hF; clear hF
    replace hm : Sa H H259 := hm.tr (m_Row_nextCode z257)
    obtain ⟨n260, q261, hF⟩ := ar_s hG; clear hG
    obtain ⟨q262, hG⟩ := ck_s hF; clear hF
    obtain ⟨x263, -, hF⟩ := bnd_g hG; clear hG
    obtain ⟨v265, H266, z264, hG⟩ := bC_s hF; clear hF
    replace hm : Sa H H266 := hm.tr (m_Row_push z264)
    have hr := Option.some.inj hG; subst hr
    exact hm
  clear hG
  rcases ite_s hF with ⟨q_53, hG⟩ | ⟨q_53, hG⟩
  · clear hF
    obtain ⟨q268, hF⟩ := ck_s hG; clear hG
    obtain ⟨a269, e270, hG⟩ := rf_s hF; clear hF
    obtain ⟨v272, H273, z271, hF⟩ := bC_s hG; clear hG
    replace hm : Sa H H273 := hm.tr (m_Row_nextCode z271)
    obtain ⟨v275, H276, z274, hG⟩ := bC_s hF; clear hF
    replace hm : Sa H H276 := hm.tr (m_Row_pop z274)
    obtain ⟨n277, q278, hF⟩ := ar_s hG; clear hG
    obtain ⟨q279, hG⟩ := ck_s hF; clear hF
    obtain ⟨H280, eH280, hF⟩ := bnd_g hG; clear hG
    replace hm : Sa H H280 := by rw [eH280]; exact hm
    have hr := Option.some.inj hF; subst hr
    exact hm
  clear hF
  rcases ite_s hG with ⟨q_57, hF⟩ | ⟨q_57, hF⟩
  · clear hG
    obtain ⟨q282, hG⟩ := ck_s hF; clear hF
    obtain ⟨a283, e284, hF⟩ := rf_s hG; clear hG
    obtain ⟨x285, -, hG⟩ := bnd_g hF; clear hF
    obtain ⟨v287, H288, z286, hF⟩ := bC_s hG; clear hG
    replace hm : Sa H H288 := hm.tr (m_Row_nextCode z286)
    obtain ⟨q289, hG⟩ := ck_s hF; clear hF
    obtain ⟨v291, H292, z290, hF⟩ := bC_s hG; clear hG
    replace hm : Sa H H292 := hm.tr (m_World_read z290)
    obtain ⟨v294, H295, z293, hG⟩ := bC_s hF; clear hF
    replace hm : Sa H H295 := hm.tr (m_Row_push z293)
    have hr := Option.some.inj hG; subst hr
    exact hm
  clear hG
  rcases ite_s hF with ⟨q_61, hG⟩ | ⟨q_61, hG⟩
  · clear hF
    obtain ⟨q297, hF⟩ := ck_s hG; clear hG
    obtain ⟨a298, e299, hG⟩ := rf_s hF; clear hF
    obtain ⟨x300, -, hF⟩ := bnd_g hG; clear hG
    obtain ⟨v302, H303, z301, hG⟩ := bC_s hF; clear hF
    replace hm : Sa H H303 := hm.tr (m_Row_nextCode z301)
    obtain ⟨v305, H306, z304, hF⟩ := bC_s hG; clear hG
    replace hm : Sa H H306 := hm.tr (m_Row_pop z304)
    obtain ⟨q307, hG⟩ := ck_s hF; clear hF
    obtain ⟨v309, H310, z308, hF⟩ := bC_s hG; clear hG
    replace hm : Sa H H310 := hm.tr (m_World_write z308)
    have hr := Option.some.inj hF; subst hr
    exact hm
  clear hF
  rcases ite_s hG with ⟨q_65, hF⟩ | ⟨q_65, hF⟩
  · clear hG
    obtain ⟨q312, hG⟩ := ck_s hF; clear hF
    obtain ⟨a313, e314, hF⟩ := rf_s hG; clear hG
    obtain ⟨v316, H317, z315, hG⟩ := bC_s hF; clear hF
    replace hm : Sa H H317 := hm.tr (m_Row_nextCode z315)
    obtain ⟨n318, q319, hF⟩ := ar_s hG; clear hG
    obtain ⟨q320, hG⟩ := ck_s hF; clear hF
    obtain ⟨x321, -, hF⟩ := bnd_g hG; clear hG
    obtain ⟨x322, -, hG⟩ := bnd_g hF; clear hF
    obtain ⟨a323, e324, hF⟩ := rf_s hG; clear hG
    obtain ⟨q325, hG⟩ := ck_s hF; clear hF
    obtain ⟨a326, e327, hF⟩ := rf_s hG; clear hG
    obtain ⟨v329, H330, z328, hG⟩ := bC_s hF; clear hF
    replace hm : Sa H H330 := hm.tr (m_Row_nextCode z328)
    obtain ⟨n331, q332, hF⟩ := ar_s hG; clear hG
    obtain ⟨q333, hG⟩ := ck_s hF; clear hF
    obtain ⟨x334, -, hF⟩ := bnd_g hG; clear hG
    obtain ⟨v336, H337, z335, hG⟩ := bC_s hF; clear hF
    replace hm : Sa H H337 := hm.tr (m_Row_push z335)
    have hr := Option.some.inj hG; subst hr
    exact hm
  clear hG
  rcases ite_s hF with ⟨q_69, hG⟩ | ⟨q_69, hG⟩
  · clear hF
    obtain ⟨q339, hF⟩ := ck_s hG; clear hG
    obtain ⟨a340, e341, hG⟩ := rf_s hF; clear hF
    obtain ⟨v343, H344, z342, hF⟩ := bC_s hG; clear hG
    replace hm : Sa H H344 := hm.tr (m_Row_pop z342)
    obtain ⟨q345, hG⟩ := ck_s hF; clear hF
    obtain ⟨v347, H348, z346, hF⟩ := bC_s hG; clear hG
    replace hm : Sa H H348 := hm.tr (m_World_placeOf z346)
    obtain ⟨v350, H351, z349, hG⟩ := bC_s hF; clear hF
    replace hm : Sa H H351 := hm.tr (m_Row_far z349)
    have hr := Option.some.inj hG; subst hr
    exact hm
  clear hF
  rcases ite_s hG with ⟨q_73, hF⟩ | ⟨q_73, hF⟩
  · clear hG
    obtain ⟨q353, hG⟩ := ck_s hF; clear hF
    obtain ⟨v355, H356, z354, hF⟩ := bC_s hG; clear hG
    replace hm : Sa H H356 := hm.tr (m_Row_pop z354)
    rcases ite_s hF with ⟨q_75, hG⟩ | ⟨q_75, hG⟩
    · clear hF
      exact hm.tr (mB_Row_value_269 hG)
    · clear hF
      obtain ⟨a358, e359, hF⟩ := rf_s hG; clear hG
      obtain ⟨n360, q361, hG⟩ := ar_s hF; clear hF
      rcases ite_s hG with ⟨q_76, hF⟩ | ⟨q_76, hF⟩
      · clear hG
        exact hm.tr (mB_Row_value_269 hF)
      · clear hG
        obtain ⟨a363, e364, hG⟩ := rf_s hF; clear hF
        obtain ⟨n365, q366, hF⟩ := ar_s hG; clear hG
        obtain ⟨q367, hG⟩ := ck_s hF; clear hF
        obtain ⟨x368, -, hF⟩ := bnd_g hG; clear hG
        exact hm.tr (mB_Row_value_270 hF)
  clear hG
  rcases ite_s hF with ⟨q_77, hG⟩ | ⟨q_77, hG⟩
  · clear hF
    obtain ⟨q370, hF⟩ := ck_s hG; clear hG
    obtain ⟨v372, H373, z371, hG⟩ := bC_s hF; clear hF
    replace hm : Sa H H373 := hm.tr (m_Row_pop z371)
    obtain ⟨v375, H376, z374, hF⟩ := bC_s hG; clear hG
    replace hm : Sa H H376 := hm.tr (m_Row_draw z374)
    have hr := Option.some.inj hF; subst hr
    exact hm
  clear hF
  rcases ite_s hG with ⟨q_80, hF⟩ | ⟨q_80, hF⟩
  · clear hG
    obtain ⟨q378, hG⟩ := ck_s hF; clear hF
    obtain ⟨a379, e380, hF⟩ := rf_s hG; clear hG
    obtain ⟨v382, H383, z381, hG⟩ := bC_s hF; clear hF
    replace hm : Sa H H383 := hm.tr (m_Row_pop z381)
    obtain ⟨q384, hF⟩ := ck_s hG; clear hG
    obtain ⟨v386, H387, z385, hG⟩ := bC_s hF; clear hF
    replace hm : Sa H H387 := hm.tr (m_World_placeOf z385)
    rcases ite_s hG with ⟨q_83, hF⟩ | ⟨q_83, hF⟩
    · clear hG
      exact hm.tr (mB_Row_value_307 hF)
    · clear hG
      exact hm.tr (mB_Row_value_307 hF)
  clear hG
  rcases ite_s hF with ⟨q_84, hG⟩ | ⟨q_84, hG⟩
  · clear hF
    obtain ⟨q390, hF⟩ := ck_s hG; clear hG
    obtain ⟨a391, e392, hG⟩ := rf_s hF; clear hF
    obtain ⟨a393, e394, hF⟩ := rf_s hG; clear hG
    obtain ⟨v396, H397, z395, hG⟩ := bC_s hF; clear hF
    replace hm : Sa H H397 := hm.tr (m_Row_pop z395)
    obtain ⟨q398, hF⟩ := ck_s hG; clear hG
    obtain ⟨v400, H401, z399, hG⟩ := bC_s hF; clear hF
    replace hm : Sa H H401 := hm.tr (m_World_placeOf z399)
    obtain ⟨v403, H404, z402, hF⟩ := bC_s hG; clear hG
    replace hm : Sa H H404 := hm.tr (m_Row_nextCode z402)
    obtain ⟨q405, hG⟩ := ck_s hF; clear hF
    obtain ⟨v407, H408, z406, hF⟩ := bC_s hG; clear hG
    replace hm : Sa H H408 := hm.tr (m_World_owns z406)
    rcases ite_s hF with ⟨q_89, hG⟩ | ⟨q_89, hG⟩
    · clear hF
      exact hm.tr (mB_Row_value_344 hG)
    · clear hF
      exact hm.tr (mB_Row_value_344 hG)
  clear hF
  obtain ⟨q410, hF⟩ := ck_s hG; clear hG
  obtain ⟨v412, H413, z411, hG⟩ := bC_s hF; clear hF
  replace hm : Sa H H413 := hm.tr (m_Row_pop z411)
  obtain ⟨v415, H416, z414, hF⟩ := bC_s hG; clear hG
  replace hm : Sa H H416 := hm.tr (m_Math_min z414)
  obtain ⟨v418, H419, z417, hG⟩ := bC_s hF; clear hF
  replace hm : Sa H H419 := hm.tr (m_Math_max z417)
  obtain ⟨v421, H422, z420, hF⟩ := bC_s hG; clear hG
  replace hm : Sa H H422 := hm.tr (m_Row_push z420)
  have hr := Option.some.inj hF; subst hr
  exact hm
set_option maxRecDepth 20000 in
set_option maxHeartbeats 2000000 in
theorem k_Row_value {N : Nat} {p0 : Nat} {p1 : Int32} {H : Hp} {r : Unit × Hp} (hF : F_Row_value N p0 p1 H = some r) : ab_M y_Row_value { frames := 2, cells := 0, slots := 0, locals := 46 } [.ref p0, .int p1] (hpw H) (po (.returned none) r.2) := by
  unfold F_Row_value at hF
  refine ab_of2 (lv := [some (.ref p0), some (.int p1), none, none]) 2 rfl rfl (Nat.le_of_ble_eq_true rfl) ?_
  refine ab_iload_n d_Row_value_0 rfl rfl ?_
  by_cases t1 : p1 = 30
  · rw [if_pos t1] at hF
    refine ab_tableIn (off := 67) (tgt := 68) d_Row_value_1 (by rw [t1]; decide) (by rw [t1]; decide) (by rw [t1]; decide) (by decide) ?_
    refine ab_aload_n d_Row_value_68 rfl rfl rfl ?_
    refine ab_aload_n d_Row_value_69 rfl rfl rfl ?_
    obtain ⟨q2, hG⟩ := ck_s hF; clear hF
    obtain ⟨v4, H5, z3, hF⟩ := bC_s hG; clear hG
    refine hp_callV_a (v := .int v4) (H1 := H5) (As := []) (rest := [.ref p0]) d_Row_value_70 (k_Row_nextCode z3) (ab_mkC s_Row_nextCode (Nat.le_of_ble_eq_true rfl) (Nat.le_of_ble_eq_true rfl) (Nat.le_refl 0) (Nat.le_refl 0)) (k6 205 rfl rfl) i_Row_nextCode v_Row_nextCode q2 (by decide) rfl rfl (Nat.le_of_ble_eq_true rfl) ?_
    have s_1 : Sa H H5 := (m_Row_nextCode z3)
    obtain ⟨v7, H8, z6, hG⟩ := bC_s hF; clear hF
    refine hp_callV_v (H1 := H8) (As := [.int v4]) (rest := []) d_Row_value_73 (k_Row_push z6) (ab_mkC s_Row_push (Nat.le_of_ble_eq_true rfl) (Nat.le_of_ble_eq_true rfl) (Nat.le_refl 0) (Nat.le_refl 0)) (k6 218 rfl rfl) i_Row_push v_Row_push (by rw [(s_1).1]; exact q2) (by decide) rfl rfl (Nat.le_of_ble_eq_true rfl) ?_
    have s_2 : Sa H H8 := (s_1).tr (m_Row_push z6)
    refine ab_goto (tgt := 368) d_Row_value_76 (by decide) ?_
    exact ab_vret d_Row_value_368 rfl (Nat.le_refl _) (Nat.le_refl _) (by have hr := Option.some.inj hG; subst hr; exact ⟨rfl, rfl⟩)
  rw [if_neg t1] at hF
  have ut1 : ¬ (30 : Int) = (p1).toInt := fun z => t1 (Int32.toInt_inj.mp (z.symm.trans (by decide)))
  by_cases t9 : p1 = 31
  · rw [if_pos t9] at hF
    refine ab_tableIn (off := 78) (tgt := 79) d_Row_value_1 (by rw [t9]; decide) (by rw [t9]; decide) (by rw [t9]; decide) (by decide) ?_
    refine ab_aload_n d_Row_value_79 rfl rfl rfl ?_
    refine ab_aload_n d_Row_value_80 rfl rfl rfl ?_
    obtain ⟨q10, hG⟩ := ck_s hF; clear hF
    obtain ⟨a11, e12, hF⟩ := rf_s hG; clear hG
    refine hp_getR (f := 3) d_Row_value_81 q10 (by decide) rfl (by decide) (k2 65 rfl rfl) rfl e12 ?_
    refine ab_aload_n d_Row_value_84 rfl rfl rfl ?_
    refine hp_getI (f := 18) d_Row_value_85 q10 (by decide) rfl (by decide) (k2 80 rfl rfl) rfl ?_
    refine ab_topi (fun x13 ex13 => ?_)
    replace hF := bnd_s ex13 hF
    obtain ⟨q14, hG⟩ := ck_s hF; clear hF
    obtain ⟨v16, H17, z15, hF⟩ := bC_s hG; clear hG
    refine hp_callV_a (v := .int v16) (H1 := H17) (As := [.int x13]) (rest := [.ref p0]) d_Row_value_88 (k_World_numberAt z15) (ab_mkC s_World_numberAt (Nat.le_of_ble_eq_true rfl) (Nat.le_of_ble_eq_true rfl) (Nat.le_refl 0) (Nat.le_refl 0)) (k6 231 rfl rfl) i_World_numberAt v_World_numberAt q14 (by decide) rfl rfl (Nat.le_of_ble_eq_true rfl) ?_
    have s_3 : Sa H H17 := (m_World_numberAt z15)
    obtain ⟨v19, H20, z18, hG⟩ := bC_s hF; clear hF
    refine hp_callV_v (H1 := H20) (As := [.int v16]) (rest := []) d_Row_value_91 (k_Row_push z18) (ab_mkC s_Row_push (Nat.le_of_ble_eq_true rfl) (Nat.le_of_ble_eq_true rfl) (Nat.le_refl 0) (Nat.le_refl 0)) (k6 218 rfl rfl) i_Row_push v_Row_push (by rw [(s_3).1]; exact q10) (by decide) rfl rfl (Nat.le_of_ble_eq_true rfl) ?_
    have s_4 : Sa H H20 := (s_3).tr (m_Row_push z18)
    refine ab_goto (tgt := 368) d_Row_value_94 (by decide) ?_
    exact ab_vret d_Row_value_368 rfl (Nat.le_refl _) (Nat.le_refl _) (by have hr := Option.some.inj hG; subst hr; exact ⟨rfl, rfl⟩)
  rw [if_neg t9] at hF
  have ut9 : ¬ (31 : Int) = (p1).toInt := fun z => t9 (Int32.toInt_inj.mp (z.symm.trans (by decide)))
  by_cases t21 : p1 = 32
  · rw [if_pos t21] at hF
    refine ab_tableIn (off := 96) (tgt := 97) d_Row_value_1 (by rw [t21]; decide) (by rw [t21]; decide) (by rw [t21]; decide) (by decide) ?_
    refine ab_aload_n d_Row_value_97 rfl rfl rfl ?_
    refine ab_aload_n d_Row_value_98 rfl rfl rfl ?_
    obtain ⟨q22, hG⟩ := ck_s hF; clear hF
    obtain ⟨a23, e24, hF⟩ := rf_s hG; clear hG
    refine hp_getR (f := 3) d_Row_value_99 q22 (by decide) rfl (by decide) (k2 65 rfl rfl) rfl e24 ?_
    obtain ⟨q25, hG⟩ := ck_s hF; clear hF
    refine hp_getI (f := 0) d_Row_value_102 q25 (by decide) rfl (by decide) (k1 209 rfl rfl) rfl ?_
    refine ab_topi (fun x26 ex26 => ?_)
    replace hG := bnd_s ex26 hG
    obtain ⟨v28, H29, z27, hF⟩ := bC_s hG; clear hG
    refine hp_callV_v (H1 := H29) (As := [.int x26]) (rest := []) d_Row_value_105 (k_Row_push z27) (ab_mkC s_Row_push (Nat.le_of_ble_eq_true rfl) (Nat.le_of_ble_eq_true rfl) (Nat.le_refl 0) (Nat.le_refl 0)) (k6 218 rfl rfl) i_Row_push v_Row_push q22 (by decide) rfl rfl (Nat.le_of_ble_eq_true rfl) ?_
    have s_5 : Sa H H29 := (m_Row_push z27)
    refine ab_goto (tgt := 368) d_Row_value_108 (by decide) ?_
    exact ab_vret d_Row_value_368 rfl (Nat.le_refl _) (Nat.le_refl _) (by have hr := Option.some.inj hF; subst hr; exact ⟨rfl, rfl⟩)
  rw [if_neg t21] at hF
  have ut21 : ¬ (32 : Int) = (p1).toInt := fun z => t21 (Int32.toInt_inj.mp (z.symm.trans (by decide)))
  by_cases t30 : p1 = 33
  · rw [if_pos t30] at hF
    refine ab_tableIn (off := 110) (tgt := 111) d_Row_value_1 (by rw [t30]; decide) (by rw [t30]; decide) (by rw [t30]; decide) (by decide) ?_
    refine ab_aload_n d_Row_value_111 rfl rfl rfl ?_
    refine ab_aload_n d_Row_value_112 rfl rfl rfl ?_
    obtain ⟨q31, hG⟩ := ck_s hF; clear hF
    obtain ⟨a32, e33, hF⟩ := rf_s hG; clear hG
    refine hp_getR (f := 7) d_Row_value_113 q31 (by decide) rfl (by decide) (k2 69 rfl rfl) rfl e33 ?_
    refine ab_aload_n d_Row_value_116 rfl rfl rfl ?_
    obtain ⟨v35, H36, z34, hG⟩ := bC_s hF; clear hF
    refine hp_callV_a (v := .int v35) (H1 := H36) (As := []) (rest := [.ref a32, .ref p0]) d_Row_value_117 (k_Row_nextCode z34) (ab_mkC s_Row_nextCode (Nat.le_of_ble_eq_true rfl) (Nat.le_of_ble_eq_true rfl) (Nat.le_refl 0) (Nat.le_refl 0)) (k6 205 rfl rfl) i_Row_nextCode v_Row_nextCode q31 (by decide) rfl rfl (Nat.le_of_ble_eq_true rfl) ?_
    have s_6 : Sa H H36 := (m_Row_nextCode z34)
    obtain ⟨n37, q38, hF⟩ := ar_s hG; clear hG
    rw [(s_6).1] at q38
    obtain ⟨q39, hG⟩ := ck_s hF; clear hF
    refine hp_iald d_Row_value_120 tI (by rw [(s_6).1]; exact q38) q39 ?_
    refine ab_topi (fun x40 ex40 => ?_)
    replace hG := bnd_s ex40 hG
    obtain ⟨v42, H43, z41, hF⟩ := bC_s hG; clear hG
    refine hp_callV_v (H1 := H43) (As := [.int x40]) (rest := []) d_Row_value_121 (k_Row_push z41) (ab_mkC s_Row_push (Nat.le_of_ble_eq_true rfl) (Nat.le_of_ble_eq_true rfl) (Nat.le_refl 0) (Nat.le_refl 0)) (k6 218 rfl rfl) i_Row_push v_Row_push (by rw [(s_6).1]; exact q31) (by decide) rfl rfl (Nat.le_of_ble_eq_true rfl) ?_
    have s_7 : Sa H H43 := (s_6).tr (m_Row_push z41)
    refine ab_goto (tgt := 368) d_Row_value_124 (by decide) ?_
    exact ab_vret d_Row_value_368 rfl (Nat.le_refl _) (Nat.le_refl _) (by have hr := Option.some.inj hF; subst hr; exact ⟨rfl, rfl⟩)
  rw [if_neg t30] at hF
  have ut30 : ¬ (33 : Int) = (p1).toInt := fun z => t30 (Int32.toInt_inj.mp (z.symm.trans (by decide)))
  by_cases t44 : p1 = 34
  · rw [if_pos t44] at hF
    refine ab_tableIn (off := 126) (tgt := 127) d_Row_value_1 (by rw [t44]; decide) (by rw [t44]; decide) (by rw [t44]; decide) (by decide) ?_
    refine ab_aload_n d_Row_value_127 rfl rfl rfl ?_
    obtain ⟨q45, hG⟩ := ck_s hF; clear hF
    obtain ⟨a46, e47, hF⟩ := rf_s hG; clear hG
    refine hp_getR (f := 7) d_Row_value_128 q45 (by decide) rfl (by decide) (k2 69 rfl rfl) rfl e47 ?_
    refine ab_aload_n d_Row_value_131 rfl rfl rfl ?_
    obtain ⟨v49, H50, z48, hG⟩ := bC_s hF; clear hF
    refine hp_callV_a (v := .int v49) (H1 := H50) (As := []) (rest := [.ref a46]) d_Row_value_132 (k_Row_nextCode z48) (ab_mkC s_Row_nextCode (Nat.le_of_ble_eq_true rfl) (Nat.le_of_ble_eq_true rfl) (Nat.le_refl 0) (Nat.le_refl 0)) (k6 205 rfl rfl) i_Row_nextCode v_Row_nextCode q45 (by decide) rfl rfl (Nat.le_of_ble_eq_true rfl) ?_
    have s_8 : Sa H H50 := (m_Row_nextCode z48)
    refine ab_aload_n d_Row_value_135 rfl rfl rfl ?_
    obtain ⟨v52, H53, z51, hF⟩ := bC_s hG; clear hG
    refine hp_callV_a (v := .int v52) (H1 := H53) (As := []) (rest := [.int v49, .ref a46]) d_Row_value_136 (k_Row_pop z51) (ab_mkC s_Row_pop (Nat.le_of_ble_eq_true rfl) (Nat.le_of_ble_eq_true rfl) (Nat.le_refl 0) (Nat.le_refl 0)) (k6 214 rfl rfl) i_Row_pop v_Row_pop (by rw [(s_8).1]; exact q45) (by decide) rfl rfl (Nat.le_of_ble_eq_true rfl) ?_
    have s_9 : Sa H H53 := (s_8).tr (m_Row_pop z51)
    obtain ⟨n54, q55, hG⟩ := ar_s hF; clear hF
    rw [(s_9).1] at q55
    obtain ⟨q56, hF⟩ := ck_s hG; clear hG
    refine hp_iast d_Row_value_139 tI (by rw [(s_9).1]; exact q55) q56 ?_
    refine hp_gen (fun H57 eH57 => ?_)
    replace hF := bnd_s eH57 hF
    have s_10 : Sa H H57 := by rw [eH57]; exact s_9
    refine ab_goto (tgt := 368) d_Row_value_140 (by decide) ?_
    exact ab_vret d_Row_value_368 rfl (Nat.le_refl _) (Nat.le_refl _) (by have hr := Option.some.inj hF; subst hr; exact ⟨rfl, rfl⟩)
  rw [if_neg t44] at hF
  have ut44 : ¬ (34 : Int) = (p1).toInt := fun z => t44 (Int32.toInt_inj.mp (z.symm.trans (by decide)))
  by_cases t58 : p1 = 35
  · rw [if_pos t58] at hF
    refine ab_tableIn (off := 142) (tgt := 143) d_Row_value_1 (by rw [t58]; decide) (by rw [t58]; decide) (by rw [t58]; decide) (by decide) ?_
    refine ab_aload_n d_Row_value_143 rfl rfl rfl ?_
    refine ab_aload_n d_Row_value_144 rfl rfl rfl ?_
    obtain ⟨q59, hG⟩ := ck_s hF; clear hF
    obtain ⟨a60, e61, hF⟩ := rf_s hG; clear hG
    refine hp_getR (f := 3) d_Row_value_145 q59 (by decide) rfl (by decide) (k2 65 rfl rfl) rfl e61 ?_
    refine ab_aload_n d_Row_value_148 rfl rfl rfl ?_
    refine hp_getI (f := 18) d_Row_value_149 q59 (by decide) rfl (by decide) (k2 80 rfl rfl) rfl ?_
    refine ab_topi (fun x62 ex62 => ?_)
    replace hF := bnd_s ex62 hF
    refine ab_aload_n d_Row_value_152 rfl rfl rfl ?_
    obtain ⟨v64, H65, z63, hG⟩ := bC_s hF; clear hF
    refine hp_callV_a (v := .int v64) (H1 := H65) (As := []) (rest := [.int x62, .ref a60, .ref p0]) d_Row_value_153 (k_Row_nextCode z63) (ab_mkC s_Row_nextCode (Nat.le_of_ble_eq_true rfl) (Nat.le_of_ble_eq_true rfl) (Nat.le_refl 0) (Nat.le_refl 0)) (k6 205 rfl rfl) i_Row_nextCode v_Row_nextCode q59 (by decide) rfl rfl (Nat.le_of_ble_eq_true rfl) ?_
    have s_11 : Sa H H65 := (m_Row_nextCode z63)
    obtain ⟨q66, hF⟩ := ck_s hG; clear hG
    rw [(s_11).1] at q66
    obtain ⟨v68, H69, z67, hG⟩ := bC_s hF; clear hF
    refine hp_callV_a (v := .int v68) (H1 := H69) (As := [.int x62, .int v64]) (rest := [.ref p0]) d_Row_value_156 (k_World_read z67) (ab_mkC s_World_read (Nat.le_of_ble_eq_true rfl) (Nat.le_of_ble_eq_true rfl) (Nat.le_refl 0) (Nat.le_refl 0)) (k7 33 rfl rfl) i_World_read v_World_read (by rw [(s_11).1]; exact q66) (by decide) rfl rfl (Nat.le_of_ble_eq_true rfl) ?_
    have s_12 : Sa H H69 := (s_11).tr (m_World_read z67)
    obtain ⟨v71, H72, z70, hF⟩ := bC_s hG; clear hG
    refine hp_callV_v (H1 := H72) (As := [.int v68]) (rest := []) d_Row_value_159 (k_Row_push z70) (ab_mkC s_Row_push (Nat.le_of_ble_eq_true rfl) (Nat.le_of_ble_eq_true rfl) (Nat.le_refl 0) (Nat.le_refl 0)) (k6 218 rfl rfl) i_Row_push v_Row_push (by rw [(s_12).1]; exact q59) (by decide) rfl rfl (Nat.le_of_ble_eq_true rfl) ?_
    have s_13 : Sa H H72 := (s_12).tr (m_Row_push z70)
    refine ab_goto (tgt := 368) d_Row_value_162 (by decide) ?_
    exact ab_vret d_Row_value_368 rfl (Nat.le_refl _) (Nat.le_refl _) (by have hr := Option.some.inj hF; subst hr; exact ⟨rfl, rfl⟩)
  rw [if_neg t58] at hF
  have ut58 : ¬ (35 : Int) = (p1).toInt := fun z => t58 (Int32.toInt_inj.mp (z.symm.trans (by decide)))
  by_cases t73 : p1 = 36
  · rw [if_pos t73] at hF
    refine ab_tableIn (off := 164) (tgt := 165) d_Row_value_1 (by rw [t73]; decide) (by rw [t73]; decide) (by rw [t73]; decide) (by decide) ?_
    refine ab_aload_n d_Row_value_165 rfl rfl rfl ?_
    obtain ⟨q74, hG⟩ := ck_s hF; clear hF
    obtain ⟨a75, e76, hF⟩ := rf_s hG; clear hG
    refine hp_getR (f := 3) d_Row_value_166 q74 (by decide) rfl (by decide) (k2 65 rfl rfl) rfl e76 ?_
    refine ab_aload_n d_Row_value_169 rfl rfl rfl ?_
    refine hp_getI (f := 18) d_Row_value_170 q74 (by decide) rfl (by decide) (k2 80 rfl rfl) rfl ?_
    refine ab_topi (fun x77 ex77 => ?_)
    replace hF := bnd_s ex77 hF
    refine ab_aload_n d_Row_value_173 rfl rfl rfl ?_
    obtain ⟨v79, H80, z78, hG⟩ := bC_s hF; clear hF
    refine hp_callV_a (v := .int v79) (H1 := H80) (As := []) (rest := [.int x77, .ref a75]) d_Row_value_174 (k_Row_nextCode z78) (ab_mkC s_Row_nextCode (Nat.le_of_ble_eq_true rfl) (Nat.le_of_ble_eq_true rfl) (Nat.le_refl 0) (Nat.le_refl 0)) (k6 205 rfl rfl) i_Row_nextCode v_Row_nextCode q74 (by decide) rfl rfl (Nat.le_of_ble_eq_true rfl) ?_
    have s_14 : Sa H H80 := (m_Row_nextCode z78)
    refine ab_aload_n d_Row_value_177 rfl rfl rfl ?_
    obtain ⟨v82, H83, z81, hF⟩ := bC_s hG; clear hG
    refine hp_callV_a (v := .int v82) (H1 := H83) (As := []) (rest := [.int v79, .int x77, .ref a75]) d_Row_value_178 (k_Row_pop z81) (ab_mkC s_Row_pop (Nat.le_of_ble_eq_true rfl) (Nat.le_of_ble_eq_true rfl) (Nat.le_refl 0) (Nat.le_refl 0)) (k6 214 rfl rfl) i_Row_pop v_Row_pop (by rw [(s_14).1]; exact q74) (by decide) rfl rfl (Nat.le_of_ble_eq_true rfl) ?_
    have s_15 : Sa H H83 := (s_14).tr (m_Row_pop z81)
    obtain ⟨q84, hG⟩ := ck_s hF; clear hF
    rw [(s_15).1] at q84
    obtain ⟨v86, H87, z85, hF⟩ := bC_s hG; clear hG
    refine hp_callV_v (H1 := H87) (As := [.int x77, .int v79, .int v82]) (rest := []) d_Row_value_181 (k_World_write z85) (ab_mkC s_World_write (Nat.le_of_ble_eq_true rfl) (Nat.le_of_ble_eq_true rfl) (Nat.le_refl 0) (Nat.le_refl 0)) (k7 34 rfl rfl) i_World_write v_World_write (by rw [(s_15).1]; exact q84) (by decide) rfl rfl (Nat.le_of_ble_eq_true rfl) ?_
    have s_16 : Sa H H87 := (s_15).tr (m_World_write z85)
    refine ab_goto (tgt := 368) d_Row_value_184 (by decide) ?_
    exact ab_vret d_Row_value_368 rfl (Nat.le_refl _) (Nat.le_refl _) (by have hr := Option.some.inj hF; subst hr; exact ⟨rfl, rfl⟩)
  rw [if_neg t73] at hF
  have ut73 : ¬ (36 : Int) = (p1).toInt := fun z => t73 (Int32.toInt_inj.mp (z.symm.trans (by decide)))
  by_cases t88 : p1 = 37
  · rw [if_pos t88] at hF
    refine ab_tableIn (off := 186) (tgt := 187) d_Row_value_1 (by rw [t88]; decide) (by rw [t88]; decide) (by rw [t88]; decide) (by decide) ?_
    refine ab_aload_n d_Row_value_187 rfl rfl rfl ?_
    obtain ⟨q89, hG⟩ := ck_s hF; clear hF
    obtain ⟨a90, e91, hF⟩ := rf_s hG; clear hG
    refine hp_getR (f := 8) d_Row_value_188 q89 (by decide) rfl (by decide) (k2 70 rfl rfl) rfl e91 ?_
    refine ab_aload_n d_Row_value_191 rfl rfl rfl ?_
    obtain ⟨v93, H94, z92, hG⟩ := bC_s hF; clear hF
    refine hp_callV_a (v := .int v93) (H1 := H94) (As := []) (rest := [.ref a90]) d_Row_value_192 (k_Row_nextCode z92) (ab_mkC s_Row_nextCode (Nat.le_of_ble_eq_true rfl) (Nat.le_of_ble_eq_true rfl) (Nat.le_refl 0) (Nat.le_refl 0)) (k6 205 rfl rfl) i_Row_nextCode v_Row_nextCode q89 (by decide) rfl rfl (Nat.le_of_ble_eq_true rfl) ?_
    have s_17 : Sa H H94 := (m_Row_nextCode z92)
    obtain ⟨n95, q96, hF⟩ := ar_s hG; clear hG
    rw [(s_17).1] at q96
    obtain ⟨q97, hG⟩ := ck_s hF; clear hF
    refine hp_iald d_Row_value_195 tI (by rw [(s_17).1]; exact q96) q97 ?_
    refine ab_topi (fun x98 ex98 => ?_)
    replace hG := bnd_s ex98 hG
    refine ab_bipush (v := 7) d_Row_value_196 (by decide) ?_
    refine ab_imul d_Row_value_198 ?_
    refine ab_topi (fun x99 ex99 => ?_)
    replace hG := bnd_s ex99 hG
    refine ab_istore_n (lv' := [some (.ref p0), some (.int p1), some (.int x99), none]) d_Row_value_199 rfl (by decide) rfl ?_
    refine ab_aload_n d_Row_value_200 rfl rfl rfl ?_
    refine ab_aload_n d_Row_value_201 rfl rfl rfl ?_
    obtain ⟨a100, e101, hF⟩ := rf_s hG; clear hG
    refine hp_getR (f := 3) d_Row_value_202 (by rw [(s_17).1]; exact q89) (by decide) rfl (by decide) (k2 65 rfl rfl) rfl e101 ?_
    obtain ⟨q102, hG⟩ := ck_s hF; clear hF
    rw [(s_17).1] at q102
    obtain ⟨a103, e104, hF⟩ := rf_s hG; clear hG
    refine hp_getR (f := 12) d_Row_value_205 (by rw [(s_17).1]; exact q102) (by decide) rfl (by decide) (k2 1 rfl rfl) rfl e104 ?_
    refine ab_iload_n d_Row_value_208 rfl rfl ?_
    refine ab_iconst (v := 3) d_Row_value_209 (by decide) ?_
    refine ab_iadd d_Row_value_210 ?_
    refine ab_aload_n d_Row_value_211 rfl rfl rfl ?_
    obtain ⟨v106, H107, z105, hG⟩ := bC_s hF; clear hF
    refine hp_callV_a (v := .int v106) (H1 := H107) (As := []) (rest := [.int (x99 + (3 : Int32)), .ref a103, .ref p0]) d_Row_value_212 (k_Row_nextCode z105) (ab_mkC s_Row_nextCode (Nat.le_of_ble_eq_true rfl) (Nat.le_of_ble_eq_true rfl) (Nat.le_refl 0) (Nat.le_refl 0)) (k6 205 rfl rfl) i_Row_nextCode v_Row_nextCode (by rw [(s_17).1]; exact q89) (by decide) rfl rfl (Nat.le_of_ble_eq_true rfl) ?_
    have s_18 : Sa H H107 := (s_17).tr (m_Row_nextCode z105)
    refine ab_iadd d_Row_value_215 ?_
    obtain ⟨n108, q109, hF⟩ := ar_s hG; clear hG
    rw [(s_18).1] at q109
    obtain ⟨q110, hG⟩ := ck_s hF; clear hF
    refine hp_iald d_Row_value_216 tI (by rw [(s_18).1]; exact q109) q110 ?_
    refine ab_topi (fun x111 ex111 => ?_)
    replace hG := bnd_s ex111 hG
    obtain ⟨v113, H114, z112, hF⟩ := bC_s hG; clear hG
    refine hp_callV_v (H1 := H114) (As := [.int x111]) (rest := []) d_Row_value_217 (k_Row_push z112) (ab_mkC s_Row_push (Nat.le_of_ble_eq_true rfl) (Nat.le_of_ble_eq_true rfl) (Nat.le_refl 0) (Nat.le_refl 0)) (k6 218 rfl rfl) i_Row_push v_Row_push (by rw [(s_18).1]; exact q89) (by decide) rfl rfl (Nat.le_of_ble_eq_true rfl) ?_
    have s_19 : Sa H H114 := (s_18).tr (m_Row_push z112)
    refine ab_goto (tgt := 368) d_Row_value_220 (by decide) ?_
    exact ab_vret d_Row_value_368 rfl (Nat.le_refl _) (Nat.le_refl _) (by have hr := Option.some.inj hF; subst hr; exact ⟨rfl, rfl⟩)
  rw [if_neg t88] at hF
  have ut88 : ¬ (37 : Int) = (p1).toInt := fun z => t88 (Int32.toInt_inj.mp (z.symm.trans (by decide)))
  by_cases t115 : p1 = 38
  · rw [if_pos t115] at hF
    refine ab_tableIn (off := 222) (tgt := 223) d_Row_value_1 (by rw [t115]; decide) (by rw [t115]; decide) (by rw [t115]; decide) (by decide) ?_
    refine ab_aload_n d_Row_value_223 rfl rfl rfl ?_
    refine ab_aload_n d_Row_value_224 rfl rfl rfl ?_
    obtain ⟨q116, hG⟩ := ck_s hF; clear hF
    obtain ⟨a117, e118, hF⟩ := rf_s hG; clear hG
    refine hp_getR (f := 3) d_Row_value_225 q116 (by decide) rfl (by decide) (k2 65 rfl rfl) rfl e118 ?_
    refine ab_aload_n d_Row_value_228 rfl rfl rfl ?_
    obtain ⟨v120, H121, z119, hG⟩ := bC_s hF; clear hF
    refine hp_callV_a (v := .int v120) (H1 := H121) (As := []) (rest := [.ref a117, .ref p0]) d_Row_value_229 (k_Row_pop z119) (ab_mkC s_Row_pop (Nat.le_of_ble_eq_true rfl) (Nat.le_of_ble_eq_true rfl) (Nat.le_refl 0) (Nat.le_refl 0)) (k6 214 rfl rfl) i_Row_pop v_Row_pop q116 (by decide) rfl rfl (Nat.le_of_ble_eq_true rfl) ?_
    have s_20 : Sa H H121 := (m_Row_pop z119)
    obtain ⟨q122, hF⟩ := ck_s hG; clear hG
    rw [(s_20).1] at q122
    obtain ⟨v124, H125, z123, hG⟩ := bC_s hF; clear hF
    refine hp_callV_a (v := .int v124) (H1 := H125) (As := [.int v120]) (rest := [.ref p0]) d_Row_value_232 (k_World_placeOf z123) (ab_mkC s_World_placeOf (Nat.le_of_ble_eq_true rfl) (Nat.le_of_ble_eq_true rfl) (Nat.le_refl 0) (Nat.le_refl 0)) (k7 35 rfl rfl) i_World_placeOf v_World_placeOf (by rw [(s_20).1]; exact q122) (by decide) rfl rfl (Nat.le_of_ble_eq_true rfl) ?_
    have s_21 : Sa H H125 := (s_20).tr (m_World_placeOf z123)
    obtain ⟨v127, H128, z126, hF⟩ := bC_s hG; clear hG
    refine hp_callV_v (H1 := H128) (As := [.int v124]) (rest := []) d_Row_value_235 (k_Row_far z126) (ab_mkC s_Row_far (Nat.le_of_ble_eq_true rfl) (Nat.le_of_ble_eq_true rfl) (Nat.le_refl 0) (Nat.le_refl 0)) (k7 39 rfl rfl) i_Row_far v_Row_far (by rw [(s_21).1]; exact q116) (by decide) rfl rfl (Nat.le_of_ble_eq_true rfl) ?_
    have s_22 : Sa H H128 := (s_21).tr (m_Row_far z126)
    refine ab_goto (tgt := 368) d_Row_value_238 (by decide) ?_
    exact ab_vret d_Row_value_368 rfl (Nat.le_refl _) (Nat.le_refl _) (by have hr := Option.some.inj hF; subst hr; exact ⟨rfl, rfl⟩)
  rw [if_neg t115] at hF
  have ut115 : ¬ (38 : Int) = (p1).toInt := fun z => t115 (Int32.toInt_inj.mp (z.symm.trans (by decide)))
  by_cases t129 : p1 = 39
  · rw [if_pos t129] at hF
    refine ab_tableIn (off := 240) (tgt := 241) d_Row_value_1 (by rw [t129]; decide) (by rw [t129]; decide) (by rw [t129]; decide) (by decide) ?_
    refine ab_aload_n d_Row_value_241 rfl rfl rfl ?_
    obtain ⟨q130, hG⟩ := ck_s hF; clear hF
    obtain ⟨v132, H133, z131, hF⟩ := bC_s hG; clear hG
    refine hp_callV_a (v := .int v132) (H1 := H133) (As := []) (rest := []) d_Row_value_242 (k_Row_pop z131) (ab_mkC s_Row_pop (Nat.le_of_ble_eq_true rfl) (Nat.le_of_ble_eq_true rfl) (Nat.le_refl 0) (Nat.le_refl 0)) (k6 214 rfl rfl) i_Row_pop v_Row_pop q130 (by decide) rfl rfl (Nat.le_of_ble_eq_true rfl) ?_
    have s_23 : Sa H H133 := (m_Row_pop z131)
    refine ab_istore_n (lv' := [some (.ref p0), some (.int p1), none, some (.int v132)]) d_Row_value_245 rfl (by decide) rfl ?_
    refine ab_aload_n d_Row_value_246 rfl rfl rfl ?_
    refine ab_iload_n d_Row_value_247 rfl rfl ?_
    refine ab_if_lt (tgt := 269) d_Row_value_248 (by decide) (fun q134 => ?_) (fun q134 => ?_)
    · rw [if_pos q134] at hF
      refine ab_le (lv' := [some (.ref p0), some (.int p1), none, none]) ⟨rfl, ⟨rfl, trivial⟩⟩ ?_
      exact kB_Row_value_269 hF
    · rw [if_neg q134] at hF
      refine ab_iload_n d_Row_value_251 rfl rfl ?_
      refine ab_aload_n d_Row_value_252 rfl rfl rfl ?_
      obtain ⟨a143, e144, hG⟩ := rf_s hF; clear hF
      refine hp_getR (f := 4) d_Row_value_253 (by rw [(s_23).1]; exact q130) (by decide) rfl (by decide) (k2 66 rfl rfl) rfl e144 ?_
      obtain ⟨n145, q146, hF⟩ := ar_s hG; clear hG
      rw [(s_23).1] at q146
      refine hp_alen (q := 100) d_Row_value_256 (by rw [(s_23).1]; exact q146) (Or.inl ⟨by decide, by decide, rfl⟩) tI ?_
      refine ab_icmp_ge (tgt := 269) d_Row_value_257 (by decide) (fun q147 => ?_) (fun q147 => ?_)
      · rw [if_pos q147] at hF
        refine ab_le (lv' := [some (.ref p0), some (.int p1), none, none]) ⟨rfl, ⟨rfl, trivial⟩⟩ ?_
        exact kB_Row_value_269 hF
      · rw [if_neg q147] at hF
        refine ab_aload_n d_Row_value_260 rfl rfl rfl ?_
        obtain ⟨a148, e149, hG⟩ := rf_s hF; clear hF
        refine hp_getR (f := 4) d_Row_value_261 (by rw [(s_23).1]; exact q130) (by decide) rfl (by decide) (k2 66 rfl rfl) rfl e149 ?_
        refine ab_iload_n d_Row_value_264 rfl rfl ?_
        obtain ⟨n150, q151, hF⟩ := ar_s hG; clear hG
        rw [(s_23).1] at q151
        obtain ⟨q152, hG⟩ := ck_s hF; clear hF
        refine hp_iald d_Row_value_265 tI (by rw [(s_23).1]; exact q151) q152 ?_
        refine ab_topi (fun x153 ex153 => ?_)
        replace hG := bnd_s ex153 hG
        refine ab_goto (tgt := 270) d_Row_value_266 (by decide) ?_
        refine ab_le (lv' := [some (.ref p0), some (.int p1), none, none]) ⟨rfl, ⟨rfl, trivial⟩⟩ ?_
        exact kB_Row_value_270 hG
  rw [if_neg t129] at hF
  have ut129 : ¬ (39 : Int) = (p1).toInt := fun z => t129 (Int32.toInt_inj.mp (z.symm.trans (by decide)))
  by_cases t154 : p1 = 40
  · rw [if_pos t154] at hF
    refine ab_tableIn (off := 275) (tgt := 276) d_Row_value_1 (by rw [t154]; decide) (by rw [t154]; decide) (by rw [t154]; decide) (by decide) ?_
    refine ab_aload_n d_Row_value_276 rfl rfl rfl ?_
    refine ab_aload_n d_Row_value_277 rfl rfl rfl ?_
    obtain ⟨q155, hG⟩ := ck_s hF; clear hF
    obtain ⟨v157, H158, z156, hF⟩ := bC_s hG; clear hG
    refine hp_callV_a (v := .int v157) (H1 := H158) (As := []) (rest := [.ref p0]) d_Row_value_278 (k_Row_pop z156) (ab_mkC s_Row_pop (Nat.le_of_ble_eq_true rfl) (Nat.le_of_ble_eq_true rfl) (Nat.le_refl 0) (Nat.le_refl 0)) (k6 214 rfl rfl) i_Row_pop v_Row_pop q155 (by decide) rfl rfl (Nat.le_of_ble_eq_true rfl) ?_
    have s_26 : Sa H H158 := (m_Row_pop z156)
    obtain ⟨v160, H161, z159, hG⟩ := bC_s hF; clear hF
    refine hp_callV_v (H1 := H161) (As := [.int v157]) (rest := []) d_Row_value_281 (k_Row_draw z159) (ab_mkC s_Row_draw (Nat.le_of_ble_eq_true rfl) (Nat.le_of_ble_eq_true rfl) (Nat.le_refl 0) (Nat.le_refl 0)) (k7 43 rfl rfl) i_Row_draw v_Row_draw (by rw [(s_26).1]; exact q155) (by decide) rfl rfl (Nat.le_of_ble_eq_true rfl) ?_
    have s_27 : Sa H H161 := (s_26).tr (m_Row_draw z159)
    refine ab_goto (tgt := 368) d_Row_value_284 (by decide) ?_
    exact ab_vret d_Row_value_368 rfl (Nat.le_refl _) (Nat.le_refl _) (by have hr := Option.some.inj hG; subst hr; exact ⟨rfl, rfl⟩)
  rw [if_neg t154] at hF
  have ut154 : ¬ (40 : Int) = (p1).toInt := fun z => t154 (Int32.toInt_inj.mp (z.symm.trans (by decide)))
  by_cases t162 : p1 = 41
  · rw [if_pos t162] at hF
    refine ab_tableIn (off := 286) (tgt := 287) d_Row_value_1 (by rw [t162]; decide) (by rw [t162]; decide) (by rw [t162]; decide) (by decide) ?_
    refine ab_aload_n d_Row_value_287 rfl rfl rfl ?_
    refine ab_aload_n d_Row_value_288 rfl rfl rfl ?_
    obtain ⟨q163, hG⟩ := ck_s hF; clear hF
    obtain ⟨a164, e165, hF⟩ := rf_s hG; clear hG
    refine hp_getR (f := 3) d_Row_value_289 q163 (by decide) rfl (by decide) (k2 65 rfl rfl) rfl e165 ?_
    refine ab_aload_n d_Row_value_292 rfl rfl rfl ?_
    obtain ⟨v167, H168, z166, hG⟩ := bC_s hF; clear hF
    refine hp_callV_a (v := .int v167) (H1 := H168) (As := []) (rest := [.ref a164, .ref p0]) d_Row_value_293 (k_Row_pop z166) (ab_mkC s_Row_pop (Nat.le_of_ble_eq_true rfl) (Nat.le_of_ble_eq_true rfl) (Nat.le_refl 0) (Nat.le_refl 0)) (k6 214 rfl rfl) i_Row_pop v_Row_pop q163 (by decide) rfl rfl (Nat.le_of_ble_eq_true rfl) ?_
    have s_28 : Sa H H168 := (m_Row_pop z166)
    obtain ⟨q169, hF⟩ := ck_s hG; clear hG
    rw [(s_28).1] at q169
    obtain ⟨v171, H172, z170, hG⟩ := bC_s hF; clear hF
    refine hp_callV_a (v := .int v171) (H1 := H172) (As := [.int v167]) (rest := [.ref p0]) d_Row_value_296 (k_World_placeOf z170) (ab_mkC s_World_placeOf (Nat.le_of_ble_eq_true rfl) (Nat.le_of_ble_eq_true rfl) (Nat.le_refl 0) (Nat.le_refl 0)) (k7 35 rfl rfl) i_World_placeOf v_World_placeOf (by rw [(s_28).1]; exact q169) (by decide) rfl rfl (Nat.le_of_ble_eq_true rfl) ?_
    have s_29 : Sa H H172 := (s_28).tr (m_World_placeOf z170)
    refine ab_if_lt (tgt := 306) d_Row_value_299 (by decide) (fun q173 => ?_) (fun q173 => ?_)
    · rw [if_pos q173] at hG
      refine ab_iconst (v := 0) d_Row_value_306 (by decide) ?_
      exact kB_Row_value_307 hG
    · rw [if_neg q173] at hG
      refine ab_iconst (v := 1) d_Row_value_302 (by decide) ?_
      refine ab_goto (tgt := 307) d_Row_value_303 (by decide) ?_
      exact kB_Row_value_307 hG
  rw [if_neg t162] at hF
  have ut162 : ¬ (41 : Int) = (p1).toInt := fun z => t162 (Int32.toInt_inj.mp (z.symm.trans (by decide)))
  by_cases t182 : p1 = 42
  · rw [if_pos t182] at hF
    refine ab_tableIn (off := 312) (tgt := 313) d_Row_value_1 (by rw [t182]; decide) (by rw [t182]; decide) (by rw [t182]; decide) (by decide) ?_
    refine ab_aload_n d_Row_value_313 rfl rfl rfl ?_
    refine ab_aload_n d_Row_value_314 rfl rfl rfl ?_
    obtain ⟨q183, hG⟩ := ck_s hF; clear hF
    obtain ⟨a184, e185, hF⟩ := rf_s hG; clear hG
    refine hp_getR (f := 3) d_Row_value_315 q183 (by decide) rfl (by decide) (k2 65 rfl rfl) rfl e185 ?_
    refine ab_aload_n d_Row_value_318 rfl rfl rfl ?_
    obtain ⟨a186, e187, hG⟩ := rf_s hF; clear hF
    refine hp_getR (f := 3) d_Row_value_319 q183 (by decide) rfl (by decide) (k2 65 rfl rfl) rfl e187 ?_
    refine ab_aload_n d_Row_value_322 rfl rfl rfl ?_
    obtain ⟨v189, H190, z188, hF⟩ := bC_s hG; clear hG
    refine hp_callV_a (v := .int v189) (H1 := H190) (As := []) (rest := [.ref a186, .ref a184, .ref p0]) d_Row_value_323 (k_Row_pop z188) (ab_mkC s_Row_pop (Nat.le_of_ble_eq_true rfl) (Nat.le_of_ble_eq_true rfl) (Nat.le_refl 0) (Nat.le_refl 0)) (k6 214 rfl rfl) i_Row_pop v_Row_pop q183 (by decide) rfl rfl (Nat.le_of_ble_eq_true rfl) ?_
    have s_32 : Sa H H190 := (m_Row_pop z188)
    obtain ⟨q191, hG⟩ := ck_s hF; clear hF
    rw [(s_32).1] at q191
    obtain ⟨v193, H194, z192, hF⟩ := bC_s hG; clear hG
    refine hp_callV_a (v := .int v193) (H1 := H194) (As := [.int v189]) (rest := [.ref a184, .ref p0]) d_Row_value_326 (k_World_placeOf z192) (ab_mkC s_World_placeOf (Nat.le_of_ble_eq_true rfl) (Nat.le_of_ble_eq_true rfl) (Nat.le_refl 0) (Nat.le_refl 0)) (k7 35 rfl rfl) i_World_placeOf v_World_placeOf (by rw [(s_32).1]; exact q191) (by decide) rfl rfl (Nat.le_of_ble_eq_true rfl) ?_
    have s_33 : Sa H H194 := (s_32).tr (m_World_placeOf z192)
    refine ab_aload_n d_Row_value_329 rfl rfl rfl ?_
    obtain ⟨v196, H197, z195, hG⟩ := bC_s hF; clear hF
    refine hp_callV_a (v := .int v196) (H1 := H197) (As := []) (rest := [.int v193, .ref a184, .ref p0]) d_Row_value_330 (k_Row_nextCode z195) (ab_mkC s_Row_nextCode (Nat.le_of_ble_eq_true rfl) (Nat.le_of_ble_eq_true rfl) (Nat.le_refl 0) (Nat.le_refl 0)) (k6 205 rfl rfl) i_Row_nextCode v_Row_nextCode (by rw [(s_33).1]; exact q183) (by decide) rfl rfl (Nat.le_of_ble_eq_true rfl) ?_
    have s_34 : Sa H H197 := (s_33).tr (m_Row_nextCode z195)
    obtain ⟨q198, hF⟩ := ck_s hG; clear hG
    rw [(s_34).1] at q198
    obtain ⟨v200, H201, z199, hG⟩ := bC_s hF; clear hF
    refine hp_callV_a (v := .int v200) (H1 := H201) (As := [.int v193, .int v196]) (rest := [.ref p0]) d_Row_value_333 (k_World_owns z199) (ab_mkC s_World_owns (Nat.le_of_ble_eq_true rfl) (Nat.le_of_ble_eq_true rfl) (Nat.le_refl 0) (Nat.le_refl 0)) (k6 226 rfl rfl) i_World_owns v_World_owns (by rw [(s_34).1]; exact q198) (by decide) rfl rfl (Nat.le_of_ble_eq_true rfl) ?_
    have s_35 : Sa H H201 := (s_34).tr (m_World_owns z199)
    refine ab_if_eq (tgt := 343) d_Row_value_336 (by decide) (fun q202 => ?_) (fun q202 => ?_)
    · rw [if_pos q202] at hG
      refine ab_iconst (v := 0) d_Row_value_343 (by decide) ?_
      exact kB_Row_value_344 hG
    · rw [if_neg q202] at hG
      refine ab_iconst (v := 1) d_Row_value_339 (by decide) ?_
      refine ab_goto (tgt := 344) d_Row_value_340 (by decide) ?_
      exact kB_Row_value_344 hG
  rw [if_neg t182] at hF
  have ut182 : ¬ (42 : Int) = (p1).toInt := fun z => t182 (Int32.toInt_inj.mp (z.symm.trans (by decide)))
  refine ab_tableOut (tgt := 350) d_Row_value_1 (by omega) (by decide) ?_
  refine ab_aload_n d_Row_value_350 rfl rfl rfl ?_
  refine ab_bipush (v := (-128)) d_Row_value_351 (by decide) ?_
  refine ab_bipush (v := 127) d_Row_value_353 (by decide) ?_
  refine ab_aload_n d_Row_value_355 rfl rfl rfl ?_
  obtain ⟨q211, hG⟩ := ck_s hF; clear hF
  obtain ⟨v213, H214, z212, hF⟩ := bC_s hG; clear hG
  refine hp_callV_a (v := .int v213) (H1 := H214) (As := []) (rest := [.int 127, .int (-128), .ref p0]) d_Row_value_356 (k_Row_pop z212) (ab_mkC s_Row_pop (Nat.le_of_ble_eq_true rfl) (Nat.le_of_ble_eq_true rfl) (Nat.le_refl 0) (Nat.le_refl 0)) (k6 214 rfl rfl) i_Row_pop v_Row_pop q211 (by decide) rfl rfl (Nat.le_of_ble_eq_true rfl) ?_
  have s_38 : Sa H H214 := (m_Row_pop z212)
  obtain ⟨v216, H217, z215, hG⟩ := bC_s hF; clear hF
  refine hp_callS_a (v := .int v216) (H1 := H217) (As := [.int 127, .int v213]) (rest := [.int (-128), .ref p0]) d_Row_value_359 (k_Math_min z215) (ab_mkC s_Math_min (Nat.le_of_ble_eq_true rfl) (Nat.le_of_ble_eq_true rfl) (Nat.le_refl 0) (Nat.le_refl 0)) (k7 7 rfl rfl) t_Math_min rfl (Nat.le_of_ble_eq_true rfl) ?_
  have s_39 : Sa H H217 := (s_38).tr (m_Math_min z215)
  obtain ⟨v219, H220, z218, hF⟩ := bC_s hG; clear hG
  refine hp_callS_a (v := .int v219) (H1 := H220) (As := [.int (-128), .int v216]) (rest := [.ref p0]) d_Row_value_362 (k_Math_max z218) (ab_mkC s_Math_max (Nat.le_of_ble_eq_true rfl) (Nat.le_of_ble_eq_true rfl) (Nat.le_refl 0) (Nat.le_refl 0)) (k7 52 rfl rfl) t_Math_max rfl (Nat.le_of_ble_eq_true rfl) ?_
  have s_40 : Sa H H220 := (s_39).tr (m_Math_max z218)
  obtain ⟨v222, H223, z221, hG⟩ := bC_s hF; clear hF
  refine hp_callV_v (H1 := H223) (As := [.int v219]) (rest := []) d_Row_value_365 (k_Row_push z221) (ab_mkC s_Row_push (Nat.le_of_ble_eq_true rfl) (Nat.le_of_ble_eq_true rfl) (Nat.le_refl 0) (Nat.le_refl 0)) (k6 218 rfl rfl) i_Row_push v_Row_push (by rw [(s_40).1]; exact q211) (by decide) rfl rfl (Nat.le_of_ble_eq_true rfl) ?_
  have s_41 : Sa H H223 := (s_40).tr (m_Row_push z221)
  exact ab_vret d_Row_value_368 rfl (Nat.le_refl _) (Nat.le_refl _) (by have hr := Option.some.inj hG; subst hr; exact ⟨rfl, rfl⟩)
def y_Row_compared : ab_Y := (⟨"WorldEngine$Row", "compared", "(III)Z"⟩, prog_8_method_19_code, 3, (some FieldType.boolean), [])
theorem d_Row_compared_0 : decode y_Row_compared.2.1 0 = .ok (.iload_n 0, 1) := by decide +kernel
theorem d_Row_compared_1 : decode y_Row_compared.2.1 1 = .ok (.tableswitch 90 57 61 #[35, 46, 57, 68, 79], 35) := by decide +kernel
theorem d_Row_compared_36 : decode y_Row_compared.2.1 36 = .ok (.iload_n 1, 1) := by decide +kernel
theorem d_Row_compared_37 : decode y_Row_compared.2.1 37 = .ok (.iload_n 2, 1) := by decide +kernel
theorem d_Row_compared_38 : decode y_Row_compared.2.1 38 = .ok (.if_icmp .ge 7, 3) := by decide +kernel
theorem d_Row_compared_41 : decode y_Row_compared.2.1 41 = .ok (.iconst 1, 1) := by decide +kernel
theorem d_Row_compared_42 : decode y_Row_compared.2.1 42 = .ok (.goto 4, 3) := by decide +kernel
theorem d_Row_compared_45 : decode y_Row_compared.2.1 45 = .ok (.iconst 0, 1) := by decide +kernel
theorem d_Row_compared_46 : decode y_Row_compared.2.1 46 = .ok (.ireturn, 1) := by decide +kernel
theorem d_Row_compared_47 : decode y_Row_compared.2.1 47 = .ok (.iload_n 1, 1) := by decide +kernel
theorem d_Row_compared_48 : decode y_Row_compared.2.1 48 = .ok (.iload_n 2, 1) := by decide +kernel
theorem d_Row_compared_49 : decode y_Row_compared.2.1 49 = .ok (.if_icmp .gt 7, 3) := by decide +kernel
theorem d_Row_compared_52 : decode y_Row_compared.2.1 52 = .ok (.iconst 1, 1) := by decide +kernel
theorem d_Row_compared_53 : decode y_Row_compared.2.1 53 = .ok (.goto 4, 3) := by decide +kernel
theorem d_Row_compared_56 : decode y_Row_compared.2.1 56 = .ok (.iconst 0, 1) := by decide +kernel
theorem d_Row_compared_57 : decode y_Row_compared.2.1 57 = .ok (.ireturn, 1) := by decide +kernel
theorem d_Row_compared_58 : decode y_Row_compared.2.1 58 = .ok (.iload_n 1, 1) := by decide +kernel
theorem d_Row_compared_59 : decode y_Row_compared.2.1 59 = .ok (.iload_n 2, 1) := by decide +kernel
theorem d_Row_compared_60 : decode y_Row_compared.2.1 60 = .ok (.if_icmp .le 7, 3) := by decide +kernel
theorem d_Row_compared_63 : decode y_Row_compared.2.1 63 = .ok (.iconst 1, 1) := by decide +kernel
theorem d_Row_compared_64 : decode y_Row_compared.2.1 64 = .ok (.goto 4, 3) := by decide +kernel
theorem d_Row_compared_67 : decode y_Row_compared.2.1 67 = .ok (.iconst 0, 1) := by decide +kernel
theorem d_Row_compared_68 : decode y_Row_compared.2.1 68 = .ok (.ireturn, 1) := by decide +kernel
theorem d_Row_compared_69 : decode y_Row_compared.2.1 69 = .ok (.iload_n 1, 1) := by decide +kernel
theorem d_Row_compared_70 : decode y_Row_compared.2.1 70 = .ok (.iload_n 2, 1) := by decide +kernel
theorem d_Row_compared_71 : decode y_Row_compared.2.1 71 = .ok (.if_icmp .lt 7, 3) := by decide +kernel
theorem d_Row_compared_74 : decode y_Row_compared.2.1 74 = .ok (.iconst 1, 1) := by decide +kernel
theorem d_Row_compared_75 : decode y_Row_compared.2.1 75 = .ok (.goto 4, 3) := by decide +kernel
theorem d_Row_compared_78 : decode y_Row_compared.2.1 78 = .ok (.iconst 0, 1) := by decide +kernel
theorem d_Row_compared_79 : decode y_Row_compared.2.1 79 = .ok (.ireturn, 1) := by decide +kernel
theorem d_Row_compared_80 : decode y_Row_compared.2.1 80 = .ok (.iload_n 1, 1) := by decide +kernel
theorem d_Row_compared_81 : decode y_Row_compared.2.1 81 = .ok (.iload_n 2, 1) := by decide +kernel
theorem d_Row_compared_82 : decode y_Row_compared.2.1 82 = .ok (.if_icmp .ne 7, 3) := by decide +kernel
theorem d_Row_compared_85 : decode y_Row_compared.2.1 85 = .ok (.iconst 1, 1) := by decide +kernel
theorem d_Row_compared_86 : decode y_Row_compared.2.1 86 = .ok (.goto 4, 3) := by decide +kernel
theorem d_Row_compared_89 : decode y_Row_compared.2.1 89 = .ok (.iconst 0, 1) := by decide +kernel
theorem d_Row_compared_90 : decode y_Row_compared.2.1 90 = .ok (.ireturn, 1) := by decide +kernel
theorem d_Row_compared_91 : decode y_Row_compared.2.1 91 = .ok (.iload_n 1, 1) := by decide +kernel
theorem d_Row_compared_92 : decode y_Row_compared.2.1 92 = .ok (.iload_n 2, 1) := by decide +kernel
theorem d_Row_compared_93 : decode y_Row_compared.2.1 93 = .ok (.if_icmp .eq 7, 3) := by decide +kernel
theorem d_Row_compared_96 : decode y_Row_compared.2.1 96 = .ok (.iconst 1, 1) := by decide +kernel
theorem d_Row_compared_97 : decode y_Row_compared.2.1 97 = .ok (.goto 4, 3) := by decide +kernel
theorem d_Row_compared_100 : decode y_Row_compared.2.1 100 = .ok (.iconst 0, 1) := by decide +kernel
theorem d_Row_compared_101 : decode y_Row_compared.2.1 101 = .ok (.ireturn, 1) := by decide +kernel
theorem s_Row_compared : ab_Stat y_Row_compared 3 := ⟨(k7 59 rfl rfl), (k1 13 rfl rfl), ⟨by decide, by decide⟩, by decide +kernel⟩
theorem t_Row_compared : Cond.static y_Row_compared.1 ∈ ab_T := (k7 58 rfl rfl)
def F_Row_compared (N : Nat) (p0 : Int32) (p1 : Int32) (p2 : Int32) (H : Hp) : Option (Int32 × Hp) :=
    if p0 = 57 then
    if p2 ≤ p1 then
    some (0, H)
    else
    some (1, H)
    else if p0 = 58 then
    if p2 < p1 then
    some (0, H)
    else
    some (1, H)
    else if p0 = 59 then
    if p1 ≤ p2 then
    some (0, H)
    else
    some (1, H)
    else if p0 = 60 then
    if p1 < p2 then
    some (0, H)
    else
    some (1, H)
    else if p0 = 61 then
    if p1 = p2 then
    some (1, H)
    else
    some (0, H)
    else if p1 = p2 then
    some (0, H)
    else
    some (1, H)
set_option maxRecDepth 20000 in
set_option maxHeartbeats 2000000 in
theorem m_Row_compared {N : Nat} {p0 : Int32} {p1 : Int32} {p2 : Int32} {H : Hp} {r : Int32 × Hp} (hF : F_Row_compared N p0 p1 p2 H = some r) : Sa H r.2 := by
  unfold F_Row_compared at hF
  have hm := Sa.rf H
  rcases ite_s hF with ⟨q_1, hG⟩ | ⟨q_1, hG⟩
  · clear hF
    rcases ite_s hG with ⟨q_2, hF⟩ | ⟨q_2, hF⟩
    · clear hG
      have hr := Option.some.inj hF; subst hr
      exact hm
    · clear hG
      have hr := Option.some.inj hF; subst hr
      exact hm
  clear hF
  rcases ite_s hG with ⟨q_3, hF⟩ | ⟨q_3, hF⟩
  · clear hG
    rcases ite_s hF with ⟨q_4, hG⟩ | ⟨q_4, hG⟩
    · clear hF
      have hr := Option.some.inj hG; subst hr
      exact hm
    · clear hF
      have hr := Option.some.inj hG; subst hr
      exact hm
  clear hG
  rcases ite_s hF with ⟨q_5, hG⟩ | ⟨q_5, hG⟩
  · clear hF
    rcases ite_s hG with ⟨q_6, hF⟩ | ⟨q_6, hF⟩
    · clear hG
      have hr := Option.some.inj hF; subst hr
      exact hm
    · clear hG
      have hr := Option.some.inj hF; subst hr
      exact hm
  clear hF
  rcases ite_s hG with ⟨q_7, hF⟩ | ⟨q_7, hF⟩
  · clear hG
    rcases ite_s hF with ⟨q_8, hG⟩ | ⟨q_8, hG⟩
    · clear hF
      have hr := Option.some.inj hG; subst hr
      exact hm
    · clear hF
      have hr := Option.some.inj hG; subst hr
      exact hm
  clear hG
  rcases ite_s hF with ⟨q_9, hG⟩ | ⟨q_9, hG⟩
  · clear hF
    rcases ite_s hG with ⟨q_10, hF⟩ | ⟨q_10, hF⟩
    · clear hG
      have hr := Option.some.inj hF; subst hr
      exact hm
    · clear hG
      have hr := Option.some.inj hF; subst hr
      exact hm
  clear hF
  rcases ite_s hG with ⟨q_11, hF⟩ | ⟨q_11, hF⟩
  · clear hG
    have hr := Option.some.inj hF; subst hr
    exact hm
  · clear hG
    have hr := Option.some.inj hF; subst hr
    exact hm
set_option maxRecDepth 20000 in
set_option maxHeartbeats 2000000 in
theorem k_Row_compared {N : Nat} {p0 : Int32} {p1 : Int32} {p2 : Int32} {H : Hp} {r : Int32 × Hp} (hF : F_Row_compared N p0 p1 p2 H = some r) : ab_M y_Row_compared { frames := 0, cells := 0, slots := 0, locals := 0 } [.int p0, .int p1, .int p2] (hpw H) (po (.returned (some (.int r.1))) r.2) := by
  unfold F_Row_compared at hF
  refine ab_of2 (lv := [some (.int p0), some (.int p1), some (.int p2)]) 0 rfl rfl (Nat.le_of_ble_eq_true rfl) ?_
  refine ab_iload_n d_Row_compared_0 rfl rfl ?_
  by_cases t1 : p0 = 57
  · rw [if_pos t1] at hF
    refine ab_tableIn (off := 35) (tgt := 36) d_Row_compared_1 (by rw [t1]; decide) (by rw [t1]; decide) (by rw [t1]; decide) (by decide) ?_
    refine ab_iload_n d_Row_compared_36 rfl rfl ?_
    refine ab_iload_n d_Row_compared_37 rfl rfl ?_
    refine ab_icmp_ge (tgt := 45) d_Row_compared_38 (by decide) (fun q2 => ?_) (fun q2 => ?_)
    · rw [if_pos q2] at hF
      refine ab_iconst (v := 0) d_Row_compared_45 (by decide) ?_
      exact ab_zret d_Row_compared_46 rfl rfl (Nat.le_refl _) (Nat.le_refl _) (by have hr := Option.some.inj hF; subst hr; exact ⟨rfl, rfl⟩)
    · rw [if_neg q2] at hF
      refine ab_iconst (v := 1) d_Row_compared_41 (by decide) ?_
      refine ab_goto (tgt := 46) d_Row_compared_42 (by decide) ?_
      exact ab_zret d_Row_compared_46 rfl rfl (Nat.le_refl _) (Nat.le_refl _) (by have hr := Option.some.inj hF; subst hr; exact ⟨rfl, rfl⟩)
  rw [if_neg t1] at hF
  have ut1 : ¬ (57 : Int) = (p0).toInt := fun z => t1 (Int32.toInt_inj.mp (z.symm.trans (by decide)))
  by_cases t3 : p0 = 58
  · rw [if_pos t3] at hF
    refine ab_tableIn (off := 46) (tgt := 47) d_Row_compared_1 (by rw [t3]; decide) (by rw [t3]; decide) (by rw [t3]; decide) (by decide) ?_
    refine ab_iload_n d_Row_compared_47 rfl rfl ?_
    refine ab_iload_n d_Row_compared_48 rfl rfl ?_
    refine ab_icmp_gt (tgt := 56) d_Row_compared_49 (by decide) (fun q4 => ?_) (fun q4 => ?_)
    · rw [if_pos q4] at hF
      refine ab_iconst (v := 0) d_Row_compared_56 (by decide) ?_
      exact ab_zret d_Row_compared_57 rfl rfl (Nat.le_refl _) (Nat.le_refl _) (by have hr := Option.some.inj hF; subst hr; exact ⟨rfl, rfl⟩)
    · rw [if_neg q4] at hF
      refine ab_iconst (v := 1) d_Row_compared_52 (by decide) ?_
      refine ab_goto (tgt := 57) d_Row_compared_53 (by decide) ?_
      exact ab_zret d_Row_compared_57 rfl rfl (Nat.le_refl _) (Nat.le_refl _) (by have hr := Option.some.inj hF; subst hr; exact ⟨rfl, rfl⟩)
  rw [if_neg t3] at hF
  have ut3 : ¬ (58 : Int) = (p0).toInt := fun z => t3 (Int32.toInt_inj.mp (z.symm.trans (by decide)))
  by_cases t5 : p0 = 59
  · rw [if_pos t5] at hF
    refine ab_tableIn (off := 57) (tgt := 58) d_Row_compared_1 (by rw [t5]; decide) (by rw [t5]; decide) (by rw [t5]; decide) (by decide) ?_
    refine ab_iload_n d_Row_compared_58 rfl rfl ?_
    refine ab_iload_n d_Row_compared_59 rfl rfl ?_
    refine ab_icmp_le (tgt := 67) d_Row_compared_60 (by decide) (fun q6 => ?_) (fun q6 => ?_)
    · rw [if_pos q6] at hF
      refine ab_iconst (v := 0) d_Row_compared_67 (by decide) ?_
      exact ab_zret d_Row_compared_68 rfl rfl (Nat.le_refl _) (Nat.le_refl _) (by have hr := Option.some.inj hF; subst hr; exact ⟨rfl, rfl⟩)
    · rw [if_neg q6] at hF
      refine ab_iconst (v := 1) d_Row_compared_63 (by decide) ?_
      refine ab_goto (tgt := 68) d_Row_compared_64 (by decide) ?_
      exact ab_zret d_Row_compared_68 rfl rfl (Nat.le_refl _) (Nat.le_refl _) (by have hr := Option.some.inj hF; subst hr; exact ⟨rfl, rfl⟩)
  rw [if_neg t5] at hF
  have ut5 : ¬ (59 : Int) = (p0).toInt := fun z => t5 (Int32.toInt_inj.mp (z.symm.trans (by decide)))
  by_cases t7 : p0 = 60
  · rw [if_pos t7] at hF
    refine ab_tableIn (off := 68) (tgt := 69) d_Row_compared_1 (by rw [t7]; decide) (by rw [t7]; decide) (by rw [t7]; decide) (by decide) ?_
    refine ab_iload_n d_Row_compared_69 rfl rfl ?_
    refine ab_iload_n d_Row_compared_70 rfl rfl ?_
    refine ab_icmp_lt (tgt := 78) d_Row_compared_71 (by decide) (fun q8 => ?_) (fun q8 => ?_)
    · rw [if_pos q8] at hF
      refine ab_iconst (v := 0) d_Row_compared_78 (by decide) ?_
      exact ab_zret d_Row_compared_79 rfl rfl (Nat.le_refl _) (Nat.le_refl _) (by have hr := Option.some.inj hF; subst hr; exact ⟨rfl, rfl⟩)
    · rw [if_neg q8] at hF
      refine ab_iconst (v := 1) d_Row_compared_74 (by decide) ?_
      refine ab_goto (tgt := 79) d_Row_compared_75 (by decide) ?_
      exact ab_zret d_Row_compared_79 rfl rfl (Nat.le_refl _) (Nat.le_refl _) (by have hr := Option.some.inj hF; subst hr; exact ⟨rfl, rfl⟩)
  rw [if_neg t7] at hF
  have ut7 : ¬ (60 : Int) = (p0).toInt := fun z => t7 (Int32.toInt_inj.mp (z.symm.trans (by decide)))
  by_cases t9 : p0 = 61
  · rw [if_pos t9] at hF
    refine ab_tableIn (off := 79) (tgt := 80) d_Row_compared_1 (by rw [t9]; decide) (by rw [t9]; decide) (by rw [t9]; decide) (by decide) ?_
    refine ab_iload_n d_Row_compared_80 rfl rfl ?_
    refine ab_iload_n d_Row_compared_81 rfl rfl ?_
    refine ab_icmp_ne (tgt := 89) d_Row_compared_82 (by decide) (fun q10 => ?_) (fun q10 => ?_)
    · rw [if_neg q10] at hF
      refine ab_iconst (v := 0) d_Row_compared_89 (by decide) ?_
      exact ab_zret d_Row_compared_90 rfl rfl (Nat.le_refl _) (Nat.le_refl _) (by have hr := Option.some.inj hF; subst hr; exact ⟨rfl, rfl⟩)
    · rw [if_pos q10] at hF
      refine ab_iconst (v := 1) d_Row_compared_85 (by decide) ?_
      refine ab_goto (tgt := 90) d_Row_compared_86 (by decide) ?_
      exact ab_zret d_Row_compared_90 rfl rfl (Nat.le_refl _) (Nat.le_refl _) (by have hr := Option.some.inj hF; subst hr; exact ⟨rfl, rfl⟩)
  rw [if_neg t9] at hF
  have ut9 : ¬ (61 : Int) = (p0).toInt := fun z => t9 (Int32.toInt_inj.mp (z.symm.trans (by decide)))
  refine ab_tableOut (tgt := 91) d_Row_compared_1 (by omega) (by decide) ?_
  refine ab_iload_n d_Row_compared_91 rfl rfl ?_
  refine ab_iload_n d_Row_compared_92 rfl rfl ?_
  refine ab_icmp_eq (tgt := 100) d_Row_compared_93 (by decide) (fun q11 => ?_) (fun q11 => ?_)
  · rw [if_pos q11] at hF
    refine ab_iconst (v := 0) d_Row_compared_100 (by decide) ?_
    exact ab_zret d_Row_compared_101 rfl rfl (Nat.le_refl _) (Nat.le_refl _) (by have hr := Option.some.inj hF; subst hr; exact ⟨rfl, rfl⟩)
  · rw [if_neg q11] at hF
    refine ab_iconst (v := 1) d_Row_compared_96 (by decide) ?_
    refine ab_goto (tgt := 101) d_Row_compared_97 (by decide) ?_
    exact ab_zret d_Row_compared_101 rfl rfl (Nat.le_refl _) (Nat.le_refl _) (by have hr := Option.some.inj hF; subst hr; exact ⟨rfl, rfl⟩)
def y_Row_ints : ab_Y := (⟨"WorldEngine$Row", "ints", "(I)V"⟩, prog_8_method_18_code, 4, none, [])
theorem d_Row_ints_0 : decode y_Row_ints.2.1 0 = .ok (.aload_n 0, 1) := by decide +kernel
theorem d_Row_ints_1 : decode y_Row_ints.2.1 1 = .ok (.invokevirtual 126, 3) := by decide +kernel
theorem d_Row_ints_4 : decode y_Row_ints.2.1 4 = .ok (.istore_n 2, 1) := by decide +kernel
theorem d_Row_ints_5 : decode y_Row_ints.2.1 5 = .ok (.iload_n 1, 1) := by decide +kernel
theorem d_Row_ints_6 : decode y_Row_ints.2.1 6 = .ok (.bipush 50, 2) := by decide +kernel
theorem d_Row_ints_8 : decode y_Row_ints.2.1 8 = .ok (.if_icmp .eq 9, 3) := by decide +kernel
theorem d_Row_ints_11 : decode y_Row_ints.2.1 11 = .ok (.iload_n 1, 1) := by decide +kernel
theorem d_Row_ints_12 : decode y_Row_ints.2.1 12 = .ok (.bipush 51, 2) := by decide +kernel
theorem d_Row_ints_14 : decode y_Row_ints.2.1 14 = .ok (.if_icmp .ne 22, 3) := by decide +kernel
theorem d_Row_ints_17 : decode y_Row_ints.2.1 17 = .ok (.aload_n 0, 1) := by decide +kernel
theorem d_Row_ints_18 : decode y_Row_ints.2.1 18 = .ok (.iload_n 1, 1) := by decide +kernel
theorem d_Row_ints_19 : decode y_Row_ints.2.1 19 = .ok (.bipush 50, 2) := by decide +kernel
theorem d_Row_ints_21 : decode y_Row_ints.2.1 21 = .ok (.if_icmp .ne 8, 3) := by decide +kernel
theorem d_Row_ints_24 : decode y_Row_ints.2.1 24 = .ok (.iload_n 2, 1) := by decide +kernel
theorem d_Row_ints_25 : decode y_Row_ints.2.1 25 = .ok (.ineg, 1) := by decide +kernel
theorem d_Row_ints_26 : decode y_Row_ints.2.1 26 = .ok (.goto 6, 3) := by decide +kernel
theorem d_Row_ints_29 : decode y_Row_ints.2.1 29 = .ok (.iconst 1, 1) := by decide +kernel
theorem d_Row_ints_30 : decode y_Row_ints.2.1 30 = .ok (.iload_n 2, 1) := by decide +kernel
theorem d_Row_ints_31 : decode y_Row_ints.2.1 31 = .ok (.isub, 1) := by decide +kernel
theorem d_Row_ints_32 : decode y_Row_ints.2.1 32 = .ok (.invokevirtual 129, 3) := by decide +kernel
theorem d_Row_ints_35 : decode y_Row_ints.2.1 35 = .ok (.return_, 1) := by decide +kernel
theorem d_Row_ints_36 : decode y_Row_ints.2.1 36 = .ok (.aload_n 0, 1) := by decide +kernel
theorem d_Row_ints_37 : decode y_Row_ints.2.1 37 = .ok (.invokevirtual 126, 3) := by decide +kernel
theorem d_Row_ints_40 : decode y_Row_ints.2.1 40 = .ok (.istore_n 3, 1) := by decide +kernel
theorem d_Row_ints_41 : decode y_Row_ints.2.1 41 = .ok (.iload_n 1, 1) := by decide +kernel
theorem d_Row_ints_42 : decode y_Row_ints.2.1 42 = .ok (.bipush 57, 2) := by decide +kernel
theorem d_Row_ints_44 : decode y_Row_ints.2.1 44 = .ok (.if_icmp .lt 22, 3) := by decide +kernel
theorem d_Row_ints_47 : decode y_Row_ints.2.1 47 = .ok (.aload_n 0, 1) := by decide +kernel
theorem d_Row_ints_48 : decode y_Row_ints.2.1 48 = .ok (.iload_n 1, 1) := by decide +kernel
theorem d_Row_ints_49 : decode y_Row_ints.2.1 49 = .ok (.iload_n 3, 1) := by decide +kernel
theorem d_Row_ints_50 : decode y_Row_ints.2.1 50 = .ok (.iload_n 2, 1) := by decide +kernel
theorem d_Row_ints_51 : decode y_Row_ints.2.1 51 = .ok (.invokestatic 226, 3) := by decide +kernel
theorem d_Row_ints_54 : decode y_Row_ints.2.1 54 = .ok (.ifCond .eq 7, 3) := by decide +kernel
theorem d_Row_ints_57 : decode y_Row_ints.2.1 57 = .ok (.iconst 1, 1) := by decide +kernel
theorem d_Row_ints_58 : decode y_Row_ints.2.1 58 = .ok (.goto 4, 3) := by decide +kernel
theorem d_Row_ints_61 : decode y_Row_ints.2.1 61 = .ok (.iconst 0, 1) := by decide +kernel
theorem d_Row_ints_62 : decode y_Row_ints.2.1 62 = .ok (.invokevirtual 129, 3) := by decide +kernel
theorem d_Row_ints_65 : decode y_Row_ints.2.1 65 = .ok (.return_, 1) := by decide +kernel
theorem d_Row_ints_66 : decode y_Row_ints.2.1 66 = .ok (.iload_n 2, 1) := by decide +kernel
theorem d_Row_ints_67 : decode y_Row_ints.2.1 67 = .ok (.ifCond .ne 21, 3) := by decide +kernel
theorem d_Row_ints_70 : decode y_Row_ints.2.1 70 = .ok (.iload_n 1, 1) := by decide +kernel
theorem d_Row_ints_71 : decode y_Row_ints.2.1 71 = .ok (.bipush 55, 2) := by decide +kernel
theorem d_Row_ints_73 : decode y_Row_ints.2.1 73 = .ok (.if_icmp .eq 9, 3) := by decide +kernel
theorem d_Row_ints_76 : decode y_Row_ints.2.1 76 = .ok (.iload_n 1, 1) := by decide +kernel
theorem d_Row_ints_77 : decode y_Row_ints.2.1 77 = .ok (.bipush 56, 2) := by decide +kernel
theorem d_Row_ints_79 : decode y_Row_ints.2.1 79 = .ok (.if_icmp .ne 9, 3) := by decide +kernel
theorem d_Row_ints_82 : decode y_Row_ints.2.1 82 = .ok (.aload_n 0, 1) := by decide +kernel
theorem d_Row_ints_83 : decode y_Row_ints.2.1 83 = .ok (.iconst 1, 1) := by decide +kernel
theorem d_Row_ints_84 : decode y_Row_ints.2.1 84 = .ok (.putfield 71, 3) := by decide +kernel
theorem d_Row_ints_87 : decode y_Row_ints.2.1 87 = .ok (.return_, 1) := by decide +kernel
theorem d_Row_ints_88 : decode y_Row_ints.2.1 88 = .ok (.iload_n 1, 1) := by decide +kernel
theorem d_Row_ints_89 : decode y_Row_ints.2.1 89 = .ok (.tableswitch 71 52 55 #[31, 41, 51, 61], 31) := by decide +kernel
theorem d_Row_ints_120 : decode y_Row_ints.2.1 120 = .ok (.aload_n 0, 1) := by decide +kernel
theorem d_Row_ints_121 : decode y_Row_ints.2.1 121 = .ok (.iload_n 3, 1) := by decide +kernel
theorem d_Row_ints_122 : decode y_Row_ints.2.1 122 = .ok (.iload_n 2, 1) := by decide +kernel
theorem d_Row_ints_123 : decode y_Row_ints.2.1 123 = .ok (.iadd, 1) := by decide +kernel
theorem d_Row_ints_124 : decode y_Row_ints.2.1 124 = .ok (.invokevirtual 129, 3) := by decide +kernel
theorem d_Row_ints_127 : decode y_Row_ints.2.1 127 = .ok (.goto 40, 3) := by decide +kernel
theorem d_Row_ints_130 : decode y_Row_ints.2.1 130 = .ok (.aload_n 0, 1) := by decide +kernel
theorem d_Row_ints_131 : decode y_Row_ints.2.1 131 = .ok (.iload_n 3, 1) := by decide +kernel
theorem d_Row_ints_132 : decode y_Row_ints.2.1 132 = .ok (.iload_n 2, 1) := by decide +kernel
theorem d_Row_ints_133 : decode y_Row_ints.2.1 133 = .ok (.isub, 1) := by decide +kernel
theorem d_Row_ints_134 : decode y_Row_ints.2.1 134 = .ok (.invokevirtual 129, 3) := by decide +kernel
theorem d_Row_ints_137 : decode y_Row_ints.2.1 137 = .ok (.goto 30, 3) := by decide +kernel
theorem d_Row_ints_140 : decode y_Row_ints.2.1 140 = .ok (.aload_n 0, 1) := by decide +kernel
theorem d_Row_ints_141 : decode y_Row_ints.2.1 141 = .ok (.iload_n 3, 1) := by decide +kernel
theorem d_Row_ints_142 : decode y_Row_ints.2.1 142 = .ok (.iload_n 2, 1) := by decide +kernel
theorem d_Row_ints_143 : decode y_Row_ints.2.1 143 = .ok (.imul, 1) := by decide +kernel
theorem d_Row_ints_144 : decode y_Row_ints.2.1 144 = .ok (.invokevirtual 129, 3) := by decide +kernel
theorem d_Row_ints_147 : decode y_Row_ints.2.1 147 = .ok (.goto 20, 3) := by decide +kernel
theorem d_Row_ints_150 : decode y_Row_ints.2.1 150 = .ok (.aload_n 0, 1) := by decide +kernel
theorem d_Row_ints_151 : decode y_Row_ints.2.1 151 = .ok (.iload_n 3, 1) := by decide +kernel
theorem d_Row_ints_152 : decode y_Row_ints.2.1 152 = .ok (.iload_n 2, 1) := by decide +kernel
theorem d_Row_ints_153 : decode y_Row_ints.2.1 153 = .ok (.idiv, 1) := by decide +kernel
theorem d_Row_ints_154 : decode y_Row_ints.2.1 154 = .ok (.invokevirtual 129, 3) := by decide +kernel
theorem d_Row_ints_157 : decode y_Row_ints.2.1 157 = .ok (.goto 10, 3) := by decide +kernel
theorem d_Row_ints_160 : decode y_Row_ints.2.1 160 = .ok (.aload_n 0, 1) := by decide +kernel
theorem d_Row_ints_161 : decode y_Row_ints.2.1 161 = .ok (.iload_n 3, 1) := by decide +kernel
theorem d_Row_ints_162 : decode y_Row_ints.2.1 162 = .ok (.iload_n 2, 1) := by decide +kernel
theorem d_Row_ints_163 : decode y_Row_ints.2.1 163 = .ok (.irem, 1) := by decide +kernel
theorem d_Row_ints_164 : decode y_Row_ints.2.1 164 = .ok (.invokevirtual 129, 3) := by decide +kernel
theorem d_Row_ints_167 : decode y_Row_ints.2.1 167 = .ok (.return_, 1) := by decide +kernel
theorem s_Row_ints : ab_Stat y_Row_ints 1 := ⟨(k7 56 rfl rfl), (k1 13 rfl rfl), ⟨by decide, by decide⟩, by decide +kernel⟩
theorem i_Row_ints : Cond.instanceMethod y_Row_ints.1 ∈ ab_T := (k7 55 rfl rfl)
theorem v_Row_ints : Cond.selects "WorldEngine$Row" y_Row_ints.1 y_Row_ints.1 ∈ ab_T := ab_s (List.mem_of_getElem? (i := 81) rfl) rfl
def B_Row_ints_32 (N : Nat) (p0 : Nat) (p1 : Int32) (w0 : Nat) (w1 : Int32) (H : Hp) : Option (Unit × Hp) :=
    ck (H.sh[w0]? = some (8, 0)) <|
    bC (F_Row_push N w0 w1 H) fun v9 H10 =>
    some ((), H10)
set_option maxRecDepth 20000 in
set_option maxHeartbeats 2000000 in
theorem mB_Row_ints_32 {N : Nat} {p0 : Nat} {p1 : Int32} {w0 : Nat} {w1 : Int32} {H : Hp} {r : Unit × Hp} (hF : B_Row_ints_32 N p0 p1 w0 w1 H = some r) : Sa H r.2 := by
  unfold B_Row_ints_32 at hF
  have hm := Sa.rf H
  obtain ⟨q11, hG⟩ := ck_s hF; clear hF
  obtain ⟨v13, H14, z12, hF⟩ := bC_s hG; clear hG
  replace hm : Sa H H14 := hm.tr (m_Row_push z12)
  have hr := Option.some.inj hF; subst hr
  exact hm
set_option maxRecDepth 20000 in
set_option maxHeartbeats 2000000 in
theorem kB_Row_ints_32 {N : Nat} {p0 : Nat} {p1 : Int32} {w0 : Nat} {w1 : Int32} {H : Hp} {r : Unit × Hp} (hF : B_Row_ints_32 N p0 p1 w0 w1 H = some r) : ab_V y_Row_ints { frames := 1, cells := 0, slots := 0, locals := 22 } (po (.returned none) r.2) 0 0 0 0 32 [some (.ref p0), some (.int p1), none, none] [.int w1, .ref w0] (hpw H) := by
  unfold B_Row_ints_32 at hF
  obtain ⟨q7, hG⟩ := ck_s hF; clear hF
  obtain ⟨v9, H10, z8, hF⟩ := bC_s hG; clear hG
  refine hp_callV_v (H1 := H10) (As := [.int w1]) (rest := []) d_Row_ints_32 (k_Row_push z8) (ab_mkC s_Row_push (Nat.le_of_ble_eq_true rfl) (Nat.le_of_ble_eq_true rfl) (Nat.le_refl 0) (Nat.le_refl 0)) (k6 218 rfl rfl) i_Row_push v_Row_push q7 (by decide) rfl rfl (Nat.le_of_ble_eq_true rfl) ?_
  have s_2 : Sa H H10 := (m_Row_push z8)
  exact ab_vret d_Row_ints_35 rfl (Nat.le_refl _) (Nat.le_refl _) (by have hr := Option.some.inj hF; subst hr; exact ⟨rfl, rfl⟩)
def B_Row_ints_17 (N : Nat) (p0 : Nat) (p1 : Int32) (l2 : Int32) (H : Hp) : Option (Unit × Hp) :=
    if p1 = (50 : Int32) then
    B_Row_ints_32 N p0 p1 p0 (-l2) H
    else
    B_Row_ints_32 N p0 p1 p0 ((1 : Int32) - l2) H
set_option maxRecDepth 20000 in
set_option maxHeartbeats 2000000 in
theorem mB_Row_ints_17 {N : Nat} {p0 : Nat} {p1 : Int32} {l2 : Int32} {H : Hp} {r : Unit × Hp} (hF : B_Row_ints_17 N p0 p1 l2 H = some r) : Sa H r.2 := by
  unfold B_Row_ints_17 at hF
  have hm := Sa.rf H
  rcases ite_s hF with ⟨q_4, hG⟩ | ⟨q_4, hG⟩
  · clear hF
    exact hm.tr (mB_Row_ints_32 hG)
  · clear hF
    exact hm.tr (mB_Row_ints_32 hG)
set_option maxRecDepth 20000 in
set_option maxHeartbeats 2000000 in
theorem kB_Row_ints_17 {N : Nat} {p0 : Nat} {p1 : Int32} {l2 : Int32} {H : Hp} {r : Unit × Hp} (hF : B_Row_ints_17 N p0 p1 l2 H = some r) : ab_V y_Row_ints { frames := 1, cells := 0, slots := 0, locals := 22 } (po (.returned none) r.2) 0 0 0 0 17 [some (.ref p0), some (.int p1), some (.int l2), none] [] (hpw H) := by
  unfold B_Row_ints_17 at hF
  refine ab_aload_n d_Row_ints_17 rfl rfl rfl ?_
  refine ab_iload_n d_Row_ints_18 rfl rfl ?_
  refine ab_bipush (v := 50) d_Row_ints_19 (by decide) ?_
  refine ab_icmp_ne (tgt := 29) d_Row_ints_21 (by decide) (fun q6 => ?_) (fun q6 => ?_)
  · rw [if_neg q6] at hF
    refine ab_iconst (v := 1) d_Row_ints_29 (by decide) ?_
    refine ab_iload_n d_Row_ints_30 rfl rfl ?_
    refine ab_isub d_Row_ints_31 ?_
    refine ab_le (lv' := [some (.ref p0), some (.int p1), none, none]) ⟨rfl, ⟨rfl, trivial⟩⟩ ?_
    exact kB_Row_ints_32 hF
  · rw [if_pos q6] at hF
    refine ab_iload_n d_Row_ints_24 rfl rfl ?_
    refine ab_ineg d_Row_ints_25 ?_
    refine ab_goto (tgt := 32) d_Row_ints_26 (by decide) ?_
    refine ab_le (lv' := [some (.ref p0), some (.int p1), none, none]) ⟨rfl, ⟨rfl, trivial⟩⟩ ?_
    exact kB_Row_ints_32 hF
def B_Row_ints_88 (N : Nat) (p0 : Nat) (p1 : Int32) (l2 : Int32) (l3 : Int32) (H : Hp) : Option (Unit × Hp) :=
    if p1 = 52 then
    ck (H.sh[p0]? = some (8, 0)) <|
    bC (F_Row_push N p0 (l3 + l2) H) fun v25 H26 =>
    some ((), H26)
    else if p1 = 53 then
    ck (H.sh[p0]? = some (8, 0)) <|
    bC (F_Row_push N p0 (l3 - l2) H) fun v30 H31 =>
    some ((), H31)
    else if p1 = 54 then
    ck (H.sh[p0]? = some (8, 0)) <|
    bC (F_Row_push N p0 (l3 * l2) H) fun v35 H36 =>
    some ((), H36)
    else if p1 = 55 then
    ck (¬ l2 = 0) <|
    ck (H.sh[p0]? = some (8, 0)) <|
    bC (F_Row_push N p0 (l3 / l2) H) fun v41 H42 =>
    some ((), H42)
    else ck (¬ l2 = 0) <|
    ck (H.sh[p0]? = some (8, 0)) <|
    bC (F_Row_push N p0 (l3 - l3 / l2 * l2) H) fun v46 H47 =>
    some ((), H47)
set_option maxRecDepth 20000 in
set_option maxHeartbeats 2000000 in
theorem mB_Row_ints_88 {N : Nat} {p0 : Nat} {p1 : Int32} {l2 : Int32} {l3 : Int32} {H : Hp} {r : Unit × Hp} (hF : B_Row_ints_88 N p0 p1 l2 l3 H = some r) : Sa H r.2 := by
  unfold B_Row_ints_88 at hF
  have hm := Sa.rf H
  rcases ite_s hF with ⟨q_11, hG⟩ | ⟨q_11, hG⟩
  · clear hF
    obtain ⟨q49, hF⟩ := ck_s hG; clear hG
    obtain ⟨v51, H52, z50, hG⟩ := bC_s hF; clear hF
    replace hm : Sa H H52 := hm.tr (m_Row_push z50)
    have hr := Option.some.inj hG; subst hr
    exact hm
  clear hF
  rcases ite_s hG with ⟨q_13, hF⟩ | ⟨q_13, hF⟩
  · clear hG
    obtain ⟨q54, hG⟩ := ck_s hF; clear hF
    obtain ⟨v56, H57, z55, hF⟩ := bC_s hG; clear hG
    replace hm : Sa H H57 := hm.tr (m_Row_push z55)
    have hr := Option.some.inj hF; subst hr
    exact hm
  clear hG
  rcases ite_s hF with ⟨q_15, hG⟩ | ⟨q_15, hG⟩
  · clear hF
    obtain ⟨q59, hF⟩ := ck_s hG; clear hG
    obtain ⟨v61, H62, z60, hG⟩ := bC_s hF; clear hF
    replace hm : Sa H H62 := hm.tr (m_Row_push z60)
    have hr := Option.some.inj hG; subst hr
    exact hm
  clear hF
  rcases ite_s hG with ⟨q_17, hF⟩ | ⟨q_17, hF⟩
  · clear hG
    obtain ⟨q64, hG⟩ := ck_s hF; clear hF
    obtain ⟨q65, hF⟩ := ck_s hG; clear hG
    obtain ⟨v67, H68, z66, hG⟩ := bC_s hF; clear hF
    replace hm : Sa H H68 := hm.tr (m_Row_push z66)
    have hr := Option.some.inj hG; subst hr
    exact hm
  clear hG
  obtain ⟨q69, hG⟩ := ck_s hF; clear hF
  obtain ⟨q70, hF⟩ := ck_s hG; clear hG
  obtain ⟨v72, H73, z71, hG⟩ := bC_s hF; clear hF
  replace hm : Sa H H73 := hm.tr (m_Row_push z71)
  have hr := Option.some.inj hG; subst hr
  exact hm
set_option maxRecDepth 20000 in
set_option maxHeartbeats 2000000 in
theorem kB_Row_ints_88 {N : Nat} {p0 : Nat} {p1 : Int32} {l2 : Int32} {l3 : Int32} {H : Hp} {r : Unit × Hp} (hF : B_Row_ints_88 N p0 p1 l2 l3 H = some r) : ab_V y_Row_ints { frames := 1, cells := 0, slots := 0, locals := 22 } (po (.returned none) r.2) 0 0 0 0 88 [some (.ref p0), some (.int p1), some (.int l2), some (.int l3)] [] (hpw H) := by
  unfold B_Row_ints_88 at hF
  refine ab_iload_n d_Row_ints_88 rfl rfl ?_
  by_cases t22 : p1 = 52
  · rw [if_pos t22] at hF
    refine ab_tableIn (off := 31) (tgt := 120) d_Row_ints_89 (by rw [t22]; decide) (by rw [t22]; decide) (by rw [t22]; decide) (by decide) ?_
    refine ab_aload_n d_Row_ints_120 rfl rfl rfl ?_
    refine ab_iload_n d_Row_ints_121 rfl rfl ?_
    refine ab_iload_n d_Row_ints_122 rfl rfl ?_
    refine ab_iadd d_Row_ints_123 ?_
    obtain ⟨q23, hG⟩ := ck_s hF; clear hF
    obtain ⟨v25, H26, z24, hF⟩ := bC_s hG; clear hG
    refine hp_callV_v (H1 := H26) (As := [.int (l3 + l2)]) (rest := []) d_Row_ints_124 (k_Row_push z24) (ab_mkC s_Row_push (Nat.le_of_ble_eq_true rfl) (Nat.le_of_ble_eq_true rfl) (Nat.le_refl 0) (Nat.le_refl 0)) (k6 218 rfl rfl) i_Row_push v_Row_push q23 (by decide) rfl rfl (Nat.le_of_ble_eq_true rfl) ?_
    have s_6 : Sa H H26 := (m_Row_push z24)
    refine ab_goto (tgt := 167) d_Row_ints_127 (by decide) ?_
    exact ab_vret d_Row_ints_167 rfl (Nat.le_refl _) (Nat.le_refl _) (by have hr := Option.some.inj hF; subst hr; exact ⟨rfl, rfl⟩)
  rw [if_neg t22] at hF
  have ut22 : ¬ (52 : Int) = (p1).toInt := fun z => t22 (Int32.toInt_inj.mp (z.symm.trans (by decide)))
  by_cases t27 : p1 = 53
  · rw [if_pos t27] at hF
    refine ab_tableIn (off := 41) (tgt := 130) d_Row_ints_89 (by rw [t27]; decide) (by rw [t27]; decide) (by rw [t27]; decide) (by decide) ?_
    refine ab_aload_n d_Row_ints_130 rfl rfl rfl ?_
    refine ab_iload_n d_Row_ints_131 rfl rfl ?_
    refine ab_iload_n d_Row_ints_132 rfl rfl ?_
    refine ab_isub d_Row_ints_133 ?_
    obtain ⟨q28, hG⟩ := ck_s hF; clear hF
    obtain ⟨v30, H31, z29, hF⟩ := bC_s hG; clear hG
    refine hp_callV_v (H1 := H31) (As := [.int (l3 - l2)]) (rest := []) d_Row_ints_134 (k_Row_push z29) (ab_mkC s_Row_push (Nat.le_of_ble_eq_true rfl) (Nat.le_of_ble_eq_true rfl) (Nat.le_refl 0) (Nat.le_refl 0)) (k6 218 rfl rfl) i_Row_push v_Row_push q28 (by decide) rfl rfl (Nat.le_of_ble_eq_true rfl) ?_
    have s_7 : Sa H H31 := (m_Row_push z29)
    refine ab_goto (tgt := 167) d_Row_ints_137 (by decide) ?_
    exact ab_vret d_Row_ints_167 rfl (Nat.le_refl _) (Nat.le_refl _) (by have hr := Option.some.inj hF; subst hr; exact ⟨rfl, rfl⟩)
  rw [if_neg t27] at hF
  have ut27 : ¬ (53 : Int) = (p1).toInt := fun z => t27 (Int32.toInt_inj.mp (z.symm.trans (by decide)))
  by_cases t32 : p1 = 54
  · rw [if_pos t32] at hF
    refine ab_tableIn (off := 51) (tgt := 140) d_Row_ints_89 (by rw [t32]; decide) (by rw [t32]; decide) (by rw [t32]; decide) (by decide) ?_
    refine ab_aload_n d_Row_ints_140 rfl rfl rfl ?_
    refine ab_iload_n d_Row_ints_141 rfl rfl ?_
    refine ab_iload_n d_Row_ints_142 rfl rfl ?_
    refine ab_imul d_Row_ints_143 ?_
    obtain ⟨q33, hG⟩ := ck_s hF; clear hF
    obtain ⟨v35, H36, z34, hF⟩ := bC_s hG; clear hG
    refine hp_callV_v (H1 := H36) (As := [.int (l3 * l2)]) (rest := []) d_Row_ints_144 (k_Row_push z34) (ab_mkC s_Row_push (Nat.le_of_ble_eq_true rfl) (Nat.le_of_ble_eq_true rfl) (Nat.le_refl 0) (Nat.le_refl 0)) (k6 218 rfl rfl) i_Row_push v_Row_push q33 (by decide) rfl rfl (Nat.le_of_ble_eq_true rfl) ?_
    have s_8 : Sa H H36 := (m_Row_push z34)
    refine ab_goto (tgt := 167) d_Row_ints_147 (by decide) ?_
    exact ab_vret d_Row_ints_167 rfl (Nat.le_refl _) (Nat.le_refl _) (by have hr := Option.some.inj hF; subst hr; exact ⟨rfl, rfl⟩)
  rw [if_neg t32] at hF
  have ut32 : ¬ (54 : Int) = (p1).toInt := fun z => t32 (Int32.toInt_inj.mp (z.symm.trans (by decide)))
  by_cases t37 : p1 = 55
  · rw [if_pos t37] at hF
    refine ab_tableIn (off := 61) (tgt := 150) d_Row_ints_89 (by rw [t37]; decide) (by rw [t37]; decide) (by rw [t37]; decide) (by decide) ?_
    refine ab_aload_n d_Row_ints_150 rfl rfl rfl ?_
    refine ab_iload_n d_Row_ints_151 rfl rfl ?_
    refine ab_iload_n d_Row_ints_152 rfl rfl ?_
    obtain ⟨q38, hG⟩ := ck_s hF; clear hF
    refine ab_idiv d_Row_ints_153 q38 ?_
    obtain ⟨q39, hF⟩ := ck_s hG; clear hG
    obtain ⟨v41, H42, z40, hG⟩ := bC_s hF; clear hF
    refine hp_callV_v (H1 := H42) (As := [.int (l3 / l2)]) (rest := []) d_Row_ints_154 (k_Row_push z40) (ab_mkC s_Row_push (Nat.le_of_ble_eq_true rfl) (Nat.le_of_ble_eq_true rfl) (Nat.le_refl 0) (Nat.le_refl 0)) (k6 218 rfl rfl) i_Row_push v_Row_push q39 (by decide) rfl rfl (Nat.le_of_ble_eq_true rfl) ?_
    have s_9 : Sa H H42 := (m_Row_push z40)
    refine ab_goto (tgt := 167) d_Row_ints_157 (by decide) ?_
    exact ab_vret d_Row_ints_167 rfl (Nat.le_refl _) (Nat.le_refl _) (by have hr := Option.some.inj hG; subst hr; exact ⟨rfl, rfl⟩)
  rw [if_neg t37] at hF
  have ut37 : ¬ (55 : Int) = (p1).toInt := fun z => t37 (Int32.toInt_inj.mp (z.symm.trans (by decide)))
  refine ab_tableOut (tgt := 160) d_Row_ints_89 (by omega) (by decide) ?_
  refine ab_aload_n d_Row_ints_160 rfl rfl rfl ?_
  refine ab_iload_n d_Row_ints_161 rfl rfl ?_
  refine ab_iload_n d_Row_ints_162 rfl rfl ?_
  obtain ⟨q43, hG⟩ := ck_s hF; clear hF
  refine ab_irem d_Row_ints_163 q43 ?_
  obtain ⟨q44, hF⟩ := ck_s hG; clear hG
  obtain ⟨v46, H47, z45, hG⟩ := bC_s hF; clear hF
  refine hp_callV_v (H1 := H47) (As := [.int (l3 - l3 / l2 * l2)]) (rest := []) d_Row_ints_164 (k_Row_push z45) (ab_mkC s_Row_push (Nat.le_of_ble_eq_true rfl) (Nat.le_of_ble_eq_true rfl) (Nat.le_refl 0) (Nat.le_refl 0)) (k6 218 rfl rfl) i_Row_push v_Row_push q44 (by decide) rfl rfl (Nat.le_of_ble_eq_true rfl) ?_
  have s_10 : Sa H H47 := (m_Row_push z45)
  exact ab_vret d_Row_ints_167 rfl (Nat.le_refl _) (Nat.le_refl _) (by have hr := Option.some.inj hG; subst hr; exact ⟨rfl, rfl⟩)
def B_Row_ints_62 (N : Nat) (p0 : Nat) (p1 : Int32) (w0 : Nat) (w1 : Int32) (H : Hp) : Option (Unit × Hp) :=
    ck (H.sh[w0]? = some (8, 0)) <|
    bC (F_Row_push N w0 w1 H) fun v84 H85 =>
    some ((), H85)
set_option maxRecDepth 20000 in
set_option maxHeartbeats 2000000 in
theorem mB_Row_ints_62 {N : Nat} {p0 : Nat} {p1 : Int32} {w0 : Nat} {w1 : Int32} {H : Hp} {r : Unit × Hp} (hF : B_Row_ints_62 N p0 p1 w0 w1 H = some r) : Sa H r.2 := by
  unfold B_Row_ints_62 at hF
  have hm := Sa.rf H
  obtain ⟨q86, hG⟩ := ck_s hF; clear hF
  obtain ⟨v88, H89, z87, hF⟩ := bC_s hG; clear hG
  replace hm : Sa H H89 := hm.tr (m_Row_push z87)
  have hr := Option.some.inj hF; subst hr
  exact hm
set_option maxRecDepth 20000 in
set_option maxHeartbeats 2000000 in
theorem kB_Row_ints_62 {N : Nat} {p0 : Nat} {p1 : Int32} {w0 : Nat} {w1 : Int32} {H : Hp} {r : Unit × Hp} (hF : B_Row_ints_62 N p0 p1 w0 w1 H = some r) : ab_V y_Row_ints { frames := 1, cells := 0, slots := 0, locals := 22 } (po (.returned none) r.2) 0 0 0 0 62 [some (.ref p0), some (.int p1), none, none] [.int w1, .ref w0] (hpw H) := by
  unfold B_Row_ints_62 at hF
  obtain ⟨q82, hG⟩ := ck_s hF; clear hF
  obtain ⟨v84, H85, z83, hF⟩ := bC_s hG; clear hG
  refine hp_callV_v (H1 := H85) (As := [.int w1]) (rest := []) d_Row_ints_62 (k_Row_push z83) (ab_mkC s_Row_push (Nat.le_of_ble_eq_true rfl) (Nat.le_of_ble_eq_true rfl) (Nat.le_refl 0) (Nat.le_refl 0)) (k6 218 rfl rfl) i_Row_push v_Row_push q82 (by decide) rfl rfl (Nat.le_of_ble_eq_true rfl) ?_
  have s_23 : Sa H H85 := (m_Row_push z83)
  exact ab_vret d_Row_ints_65 rfl (Nat.le_refl _) (Nat.le_refl _) (by have hr := Option.some.inj hF; subst hr; exact ⟨rfl, rfl⟩)
def F_Row_ints (N : Nat) (p0 : Nat) (p1 : Int32) (H : Hp) : Option (Unit × Hp) :=
    ck (H.sh[p0]? = some (8, 0)) <|
    bC (F_Row_pop N p0 H) fun v3 H4 =>
    if p1 = (50 : Int32) then
    B_Row_ints_17 N p0 p1 v3 H4
    else
    if p1 = (51 : Int32) then
    B_Row_ints_17 N p0 p1 v3 H4
    else
    bC (F_Row_pop N p0 H4) fun v18 H19 =>
    if p1 < (57 : Int32) then
    if v3 = (0 : Int32) then
    if p1 = (55 : Int32) then
    bnd (H19.sD p0 16 (1 : Int32)) fun H75 =>
    some ((), H75)
    else
    if p1 = (56 : Int32) then
    bnd (H19.sD p0 16 (1 : Int32)) fun H77 =>
    some ((), H77)
    else
    B_Row_ints_88 N p0 p1 v3 v18 H19
    else
    B_Row_ints_88 N p0 p1 v3 v18 H19
    else
    bC (F_Row_compared N p1 v18 v3 H19) fun v79 H80 =>
    if v79 = (0 : Int32) then
    B_Row_ints_62 N p0 p1 p0 0 H80
    else
    B_Row_ints_62 N p0 p1 p0 1 H80
set_option maxRecDepth 20000 in
set_option maxHeartbeats 2000000 in
theorem m_Row_ints {N : Nat} {p0 : Nat} {p1 : Int32} {H : Hp} {r : Unit × Hp} (hF : F_Row_ints N p0 p1 H = some r) : Sa H r.2 := by
  unfold F_Row_ints at hF
  have hm := Sa.rf H
  obtain ⟨q90, hG⟩ := ck_s hF; clear hF
  obtain ⟨v92, H93, z91, hF⟩ := bC_s hG; clear hG
  replace hm : Sa H H93 := hm.tr (m_Row_pop z91)
  rcases ite_s hF with ⟨q_26, hG⟩ | ⟨q_26, hG⟩
  · clear hF
    exact hm.tr (mB_Row_ints_17 hG)
  · clear hF
    rcases ite_s hG with ⟨q_27, hF⟩ | ⟨q_27, hF⟩
    · clear hG
      exact hm.tr (mB_Row_ints_17 hF)
    · clear hG
      obtain ⟨v97, H98, z96, hG⟩ := bC_s hF; clear hF
      replace hm : Sa H H98 := hm.tr (m_Row_pop z96)
      rcases ite_s hG with ⟨q_29, hF⟩ | ⟨q_29, hF⟩
      · clear hG
        rcases ite_s hF with ⟨q_30, hG⟩ | ⟨q_30, hG⟩
        · clear hF
          rcases ite_s hG with ⟨q_31, hF⟩ | ⟨q_31, hF⟩
          · clear hG
            obtain ⟨H102, eH102, hG⟩ := bnd_g hF; clear hF
            replace hm : Sa H H102 := by rw [eH102]; exact hm
            have hr := Option.some.inj hG; subst hr
            exact hm
          · clear hG
            rcases ite_s hF with ⟨q_33, hG⟩ | ⟨q_33, hG⟩
            · clear hF
              obtain ⟨H104, eH104, hF⟩ := bnd_g hG; clear hG
              replace hm : Sa H H104 := by rw [eH104]; exact hm
              have hr := Option.some.inj hF; subst hr
              exact hm
            · clear hF
              exact hm.tr (mB_Row_ints_88 hG)
        · clear hF
          exact hm.tr (mB_Row_ints_88 hG)
      · clear hG
        obtain ⟨v106, H107, z105, hG⟩ := bC_s hF; clear hF
        replace hm : Sa H H107 := hm.tr (m_Row_compared z105)
        rcases ite_s hG with ⟨q_36, hF⟩ | ⟨q_36, hF⟩
        · clear hG
          exact hm.tr (mB_Row_ints_62 hF)
        · clear hG
          exact hm.tr (mB_Row_ints_62 hF)
set_option maxRecDepth 20000 in
set_option maxHeartbeats 2000000 in
theorem k_Row_ints {N : Nat} {p0 : Nat} {p1 : Int32} {H : Hp} {r : Unit × Hp} (hF : F_Row_ints N p0 p1 H = some r) : ab_M y_Row_ints { frames := 1, cells := 0, slots := 0, locals := 22 } [.ref p0, .int p1] (hpw H) (po (.returned none) r.2) := by
  unfold F_Row_ints at hF
  refine ab_of2 (lv := [some (.ref p0), some (.int p1), none, none]) 2 rfl rfl (Nat.le_of_ble_eq_true rfl) ?_
  refine ab_aload_n d_Row_ints_0 rfl rfl rfl ?_
  obtain ⟨q1, hG⟩ := ck_s hF; clear hF
  obtain ⟨v3, H4, z2, hF⟩ := bC_s hG; clear hG
  refine hp_callV_a (v := .int v3) (H1 := H4) (As := []) (rest := []) d_Row_ints_1 (k_Row_pop z2) (ab_mkC s_Row_pop (Nat.le_of_ble_eq_true rfl) (Nat.le_of_ble_eq_true rfl) (Nat.le_refl 0) (Nat.le_refl 0)) (k6 214 rfl rfl) i_Row_pop v_Row_pop q1 (by decide) rfl rfl (Nat.le_of_ble_eq_true rfl) ?_
  have s_1 : Sa H H4 := (m_Row_pop z2)
  refine ab_istore_n (lv' := [some (.ref p0), some (.int p1), some (.int v3), none]) d_Row_ints_4 rfl (by decide) rfl ?_
  refine ab_iload_n d_Row_ints_5 rfl rfl ?_
  refine ab_bipush (v := 50) d_Row_ints_6 (by decide) ?_
  refine ab_icmp_eq (tgt := 17) d_Row_ints_8 (by decide) (fun q5 => ?_) (fun q5 => ?_)
  · rw [if_pos q5] at hF
    exact kB_Row_ints_17 hF
  · rw [if_neg q5] at hF
    refine ab_iload_n d_Row_ints_11 rfl rfl ?_
    refine ab_bipush (v := 51) d_Row_ints_12 (by decide) ?_
    refine ab_icmp_ne (tgt := 36) d_Row_ints_14 (by decide) (fun q16 => ?_) (fun q16 => ?_)
    · rw [if_neg q16] at hF
      refine ab_aload_n d_Row_ints_36 rfl rfl rfl ?_
      obtain ⟨v18, H19, z17, hG⟩ := bC_s hF; clear hF
      refine hp_callV_a (v := .int v18) (H1 := H19) (As := []) (rest := []) d_Row_ints_37 (k_Row_pop z17) (ab_mkC s_Row_pop (Nat.le_of_ble_eq_true rfl) (Nat.le_of_ble_eq_true rfl) (Nat.le_refl 0) (Nat.le_refl 0)) (k6 214 rfl rfl) i_Row_pop v_Row_pop (by rw [(s_1).1]; exact q1) (by decide) rfl rfl (Nat.le_of_ble_eq_true rfl) ?_
      have s_5 : Sa H H19 := (s_1).tr (m_Row_pop z17)
      refine ab_istore_n (lv' := [some (.ref p0), some (.int p1), some (.int v3), some (.int v18)]) d_Row_ints_40 rfl (by decide) rfl ?_
      refine ab_iload_n d_Row_ints_41 rfl rfl ?_
      refine ab_bipush (v := 57) d_Row_ints_42 (by decide) ?_
      refine ab_icmp_lt (tgt := 66) d_Row_ints_44 (by decide) (fun q20 => ?_) (fun q20 => ?_)
      · rw [if_pos q20] at hG
        refine ab_iload_n d_Row_ints_66 rfl rfl ?_
        refine ab_if_ne (tgt := 88) d_Row_ints_67 (by decide) (fun q21 => ?_) (fun q21 => ?_)
        · rw [if_neg q21] at hG
          exact kB_Row_ints_88 hG
        · rw [if_pos q21] at hG
          refine ab_iload_n d_Row_ints_70 rfl rfl ?_
          refine ab_bipush (v := 55) d_Row_ints_71 (by decide) ?_
          refine ab_icmp_eq (tgt := 82) d_Row_ints_73 (by decide) (fun q74 => ?_) (fun q74 => ?_)
          · rw [if_pos q74] at hG
            refine ab_aload_n d_Row_ints_82 rfl rfl rfl ?_
            refine ab_iconst (v := 1) d_Row_ints_83 (by decide) ?_
            refine hp_putI (v := 1) (f := 16) d_Row_ints_84 (by rw [(s_5).1]; exact q1) (by decide) rfl (by decide) (k2 78 rfl rfl) rfl rfl (fun _ => rfl) (fun _ => rfl) rfl ?_
            refine hp_gen (fun H75 eH75 => ?_)
            replace hG := bnd_s eH75 hG
            have s_20 : Sa H H75 := by rw [eH75]; exact s_5
            exact ab_vret d_Row_ints_87 rfl (Nat.le_refl _) (Nat.le_refl _) (by have hr := Option.some.inj hG; subst hr; exact ⟨rfl, rfl⟩)
          · rw [if_neg q74] at hG
            refine ab_iload_n d_Row_ints_76 rfl rfl ?_
            refine ab_bipush (v := 56) d_Row_ints_77 (by decide) ?_
            refine ab_icmp_ne (tgt := 88) d_Row_ints_79 (by decide) (fun q76 => ?_) (fun q76 => ?_)
            · rw [if_neg q76] at hG
              exact kB_Row_ints_88 hG
            · rw [if_pos q76] at hG
              refine ab_aload_n d_Row_ints_82 rfl rfl rfl ?_
              refine ab_iconst (v := 1) d_Row_ints_83 (by decide) ?_
              refine hp_putI (v := 1) (f := 16) d_Row_ints_84 (by rw [(s_5).1]; exact q1) (by decide) rfl (by decide) (k2 78 rfl rfl) rfl rfl (fun _ => rfl) (fun _ => rfl) rfl ?_
              refine hp_gen (fun H77 eH77 => ?_)
              replace hG := bnd_s eH77 hG
              have s_21 : Sa H H77 := by rw [eH77]; exact s_5
              exact ab_vret d_Row_ints_87 rfl (Nat.le_refl _) (Nat.le_refl _) (by have hr := Option.some.inj hG; subst hr; exact ⟨rfl, rfl⟩)
      · rw [if_neg q20] at hG
        refine ab_aload_n d_Row_ints_47 rfl rfl rfl ?_
        refine ab_iload_n d_Row_ints_48 rfl rfl ?_
        refine ab_iload_n d_Row_ints_49 rfl rfl ?_
        refine ab_iload_n d_Row_ints_50 rfl rfl ?_
        obtain ⟨v79, H80, z78, hF⟩ := bC_s hG; clear hG
        refine hp_callS_a (v := .int v79) (H1 := H80) (As := [.int p1, .int v18, .int v3]) (rest := [.ref p0]) d_Row_ints_51 (k_Row_compared z78) (ab_mkC s_Row_compared (Nat.le_of_ble_eq_true rfl) (Nat.le_of_ble_eq_true rfl) (Nat.le_refl 0) (Nat.le_refl 0)) (k7 57 rfl rfl) t_Row_compared rfl (Nat.le_of_ble_eq_true rfl) ?_
        have s_22 : Sa H H80 := (s_5).tr (m_Row_compared z78)
        refine ab_if_eq (tgt := 61) d_Row_ints_54 (by decide) (fun q81 => ?_) (fun q81 => ?_)
        · rw [if_pos q81] at hF
          refine ab_iconst (v := 0) d_Row_ints_61 (by decide) ?_
          refine ab_le (lv' := [some (.ref p0), some (.int p1), none, none]) ⟨rfl, ⟨rfl, trivial⟩⟩ ?_
          exact kB_Row_ints_62 hF
        · rw [if_neg q81] at hF
          refine ab_iconst (v := 1) d_Row_ints_57 (by decide) ?_
          refine ab_goto (tgt := 62) d_Row_ints_58 (by decide) ?_
          refine ab_le (lv' := [some (.ref p0), some (.int p1), none, none]) ⟨rfl, ⟨rfl, trivial⟩⟩ ?_
          exact kB_Row_ints_62 hF
    · rw [if_pos q16] at hF
      exact kB_Row_ints_17 hF
def y_Math_floorDiv : ab_Y := (⟨"java/lang/Math", "floorDiv", "(JJ)J"⟩, prog_23_method_49_code, 6, (some FieldType.long), [])
theorem d_Math_floorDiv_0 : decode y_Math_floorDiv.2.1 0 = .ok (.lload_n 0, 1) := by decide +kernel
theorem d_Math_floorDiv_1 : decode y_Math_floorDiv.2.1 1 = .ok (.lload_n 2, 1) := by decide +kernel
theorem d_Math_floorDiv_2 : decode y_Math_floorDiv.2.1 2 = .ok (.ldiv, 1) := by decide +kernel
theorem d_Math_floorDiv_3 : decode y_Math_floorDiv.2.1 3 = .ok (.lstore 4, 2) := by decide +kernel
theorem d_Math_floorDiv_5 : decode y_Math_floorDiv.2.1 5 = .ok (.lload_n 0, 1) := by decide +kernel
theorem d_Math_floorDiv_6 : decode y_Math_floorDiv.2.1 6 = .ok (.lload_n 2, 1) := by decide +kernel
theorem d_Math_floorDiv_7 : decode y_Math_floorDiv.2.1 7 = .ok (.lxor, 1) := by decide +kernel
theorem d_Math_floorDiv_8 : decode y_Math_floorDiv.2.1 8 = .ok (.lconst 0, 1) := by decide +kernel
theorem d_Math_floorDiv_9 : decode y_Math_floorDiv.2.1 9 = .ok (.lcmp, 1) := by decide +kernel
theorem d_Math_floorDiv_10 : decode y_Math_floorDiv.2.1 10 = .ok (.ifCond .ge 17, 3) := by decide +kernel
theorem d_Math_floorDiv_13 : decode y_Math_floorDiv.2.1 13 = .ok (.lload 4, 2) := by decide +kernel
theorem d_Math_floorDiv_15 : decode y_Math_floorDiv.2.1 15 = .ok (.lload_n 2, 1) := by decide +kernel
theorem d_Math_floorDiv_16 : decode y_Math_floorDiv.2.1 16 = .ok (.lmul, 1) := by decide +kernel
theorem d_Math_floorDiv_17 : decode y_Math_floorDiv.2.1 17 = .ok (.lload_n 0, 1) := by decide +kernel
theorem d_Math_floorDiv_18 : decode y_Math_floorDiv.2.1 18 = .ok (.lcmp, 1) := by decide +kernel
theorem d_Math_floorDiv_19 : decode y_Math_floorDiv.2.1 19 = .ok (.ifCond .eq 8, 3) := by decide +kernel
theorem d_Math_floorDiv_22 : decode y_Math_floorDiv.2.1 22 = .ok (.lload 4, 2) := by decide +kernel
theorem d_Math_floorDiv_24 : decode y_Math_floorDiv.2.1 24 = .ok (.lconst 1, 1) := by decide +kernel
theorem d_Math_floorDiv_25 : decode y_Math_floorDiv.2.1 25 = .ok (.lsub, 1) := by decide +kernel
theorem d_Math_floorDiv_26 : decode y_Math_floorDiv.2.1 26 = .ok (.lreturn, 1) := by decide +kernel
theorem d_Math_floorDiv_27 : decode y_Math_floorDiv.2.1 27 = .ok (.lload 4, 2) := by decide +kernel
theorem d_Math_floorDiv_29 : decode y_Math_floorDiv.2.1 29 = .ok (.lreturn, 1) := by decide +kernel
theorem s_Math_floorDiv : ab_Stat y_Math_floorDiv 2 := ⟨(k7 70 rfl rfl), (k1 17 rfl rfl), ⟨by decide, by decide⟩, by decide +kernel⟩
theorem t_Math_floorDiv : Cond.static y_Math_floorDiv.1 ∈ ab_T := (k7 69 rfl rfl)
def F_Math_floorDiv (N : Nat) (p0 : Int64) (p2 : Int64) (H : Hp) : Option (Int64 × Hp) :=
    ck (¬ p2 = 0) <|
    if (0 : Int32) ≤ (lg_cmp (p0 ^^^ p2) (0 : Int64)) then
    some (p0 / p2, H)
    else
    if (lg_cmp ((p0 / p2) * p2) p0) = (0 : Int32) then
    some (p0 / p2, H)
    else
    some ((p0 / p2) - (1 : Int64), H)
set_option maxRecDepth 20000 in
set_option maxHeartbeats 2000000 in
theorem m_Math_floorDiv {N : Nat} {p0 : Int64} {p2 : Int64} {H : Hp} {r : Int64 × Hp} (hF : F_Math_floorDiv N p0 p2 H = some r) : Sa H r.2 := by
  unfold F_Math_floorDiv at hF
  have hm := Sa.rf H
  obtain ⟨q4, hG⟩ := ck_s hF; clear hF
  rcases ite_s hG with ⟨q_1, hF⟩ | ⟨q_1, hF⟩
  · clear hG
    have hr := Option.some.inj hF; subst hr
    exact hm
  · clear hG
    rcases ite_s hF with ⟨q_2, hG⟩ | ⟨q_2, hG⟩
    · clear hF
      have hr := Option.some.inj hG; subst hr
      exact hm
    · clear hF
      have hr := Option.some.inj hG; subst hr
      exact hm
set_option maxRecDepth 20000 in
set_option maxHeartbeats 2000000 in
theorem k_Math_floorDiv {N : Nat} {p0 : Int64} {p2 : Int64} {H : Hp} {r : Int64 × Hp} (hF : F_Math_floorDiv N p0 p2 H = some r) : ab_M y_Math_floorDiv { frames := 0, cells := 0, slots := 0, locals := 0 } [.long p0, .long p2] (hpw H) (po (.returned (some (.long r.1))) r.2) := by
  unfold F_Math_floorDiv at hF
  refine ab_of2 (lv := [some (.long p0), none, some (.long p2), none, none, none]) 2 rfl (by decide +kernel) (Nat.le_of_ble_eq_true rfl) ?_
  refine ab_lload_n d_Math_floorDiv_0 rfl rfl ?_
  refine ab_lload_n d_Math_floorDiv_1 rfl rfl ?_
  obtain ⟨q1, hG⟩ := ck_s hF; clear hF
  refine ab_ldiv d_Math_floorDiv_2 q1 ?_
  refine ab_lstore (lv' := [some (.long p0), none, some (.long p2), none, some (.long (p0 / p2)), none]) d_Math_floorDiv_3 (by decide) rfl ?_
  refine ab_lload_n d_Math_floorDiv_5 rfl rfl ?_
  refine ab_lload_n d_Math_floorDiv_6 rfl rfl ?_
  refine ab_lxor d_Math_floorDiv_7 ?_
  refine ab_lconst (v := 0) d_Math_floorDiv_8 (by decide) ?_
  refine ab_lcmp d_Math_floorDiv_9 ?_
  refine ab_if_ge (tgt := 27) d_Math_floorDiv_10 (by decide) (fun q2 => ?_) (fun q2 => ?_)
  · rw [if_pos q2] at hG
    refine ab_lload d_Math_floorDiv_27 rfl ?_
    exact ab_lret d_Math_floorDiv_29 rfl (Nat.le_refl _) (Nat.le_refl _) (by have hr := Option.some.inj hG; subst hr; exact ⟨rfl, rfl⟩)
  · rw [if_neg q2] at hG
    refine ab_lload d_Math_floorDiv_13 rfl ?_
    refine ab_lload_n d_Math_floorDiv_15 rfl rfl ?_
    refine ab_lmul d_Math_floorDiv_16 ?_
    refine ab_lload_n d_Math_floorDiv_17 rfl rfl ?_
    refine ab_lcmp d_Math_floorDiv_18 ?_
    refine ab_if_eq (tgt := 27) d_Math_floorDiv_19 (by decide) (fun q3 => ?_) (fun q3 => ?_)
    · rw [if_pos q3] at hG
      refine ab_lload d_Math_floorDiv_27 rfl ?_
      exact ab_lret d_Math_floorDiv_29 rfl (Nat.le_refl _) (Nat.le_refl _) (by have hr := Option.some.inj hG; subst hr; exact ⟨rfl, rfl⟩)
    · rw [if_neg q3] at hG
      refine ab_lload d_Math_floorDiv_22 rfl ?_
      refine ab_lconst (v := 1) d_Math_floorDiv_24 (by decide) ?_
      refine ab_lsub d_Math_floorDiv_25 ?_
      exact ab_lret d_Math_floorDiv_26 rfl (Nat.le_refl _) (Nat.le_refl _) (by have hr := Option.some.inj hG; subst hr; exact ⟨rfl, rfl⟩)
