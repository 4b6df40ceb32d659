/-! ===== the cases of the law (gen_law.py) ===== -/
/-- the law's locals -/
def lvL (i : Nat) : List (Option Value) := [some (.float 300), some (.ref 0), some (.ref 517), some (.ref 625), some (.int (nI i)), none, none]
theorem lg_self {x : Int64} : lg_cmp x x = 0 := Int32.le_antisymm (Int32.not_lt.mp fun y => absurd (lg_pos.mp y) (Int64.lt_irrefl)) (Int32.not_lt.mp fun y => absurd (lg_lt.mp y) (Int64.lt_irrefl))
section Par
variable {p : Program} {l : Launch} {e : Env} {s : State} {m : MethodId} {args : Array Value} {below : List Frame} {meth : Method} {c : Code} {G : ab_G} {sL : Nat} {sxs : Nat → Int32} {s0 i k : Nat} {H : Hp}
set_option maxRecDepth 20000 in
set_option maxHeartbeats 4000000 in
theorem lc_0 (hX : ab_X y_Law p l s m args meth c) (hK : pw_K G sL sxs s) (hi : i + 5 < sL) (hL : sL < 2 ^ 31) (hk : k ≤ 511) (hs0 : s0 ≤ 1000000) (hR : RR 2000000 s0 k H H) (next : ∀ H2, RR 2000000 s0 (k + 1) H2 H2 → pw_V p l e s m args below meth c G y_Law room_1 (fun o _ => o = .returned (some (.int 1))) room_1.cells room_1.slots H2.sh.length H2.sl 1137 (lvL i) [] (hpw H2)) : pw_V p l e s m args below meth c G y_Law room_1 (fun o _ => o = .returned (some (.int 1))) room_1.cells room_1.slots H.sh.length H.sl 180 (lvL i) [] (hpw H) := by
  have hG := hR.gr.1
  have b0 := hR.room
  obtain ⟨r, A2, B2, e1, e2, hR2, g1, g2, -, -⟩ := (jc_feed (N := 2000000) (s0 := s0) (k := k) (x1 := sxs (i + 1)) (x2 := sxs (i + 2)) (x3 := sxs (i + 3)) (x4 := sxs (i + 4)) (x5 := sxs (i + 5)) (Nat.le_refl _) (by omega)).one H hR
  have e1 : F_W_feed 2000000 0 (sxs (i + 1)) (sxs (i + 2)) (sxs (i + 3)) (sxs (i + 4)) (sxs (i + 5)) H = some (r, A2) := e1
  have e2 : F_M_feed 2000000 517 (sxs (i + 1)) (sxs (i + 2)) (sxs (i + 3)) (sxs (i + 4)) (sxs (i + 5)) A2 = some (r, B2) := e2
  have mo : Mo H A2 := (m_W_feed e1).mo
  have mo2 : Sa A2 B2 := m_M_feed e2
  have l1 := mo.len
  have l2 := mo.2
  have b2 := hR2.room
  have c1 : B2.sh.length = A2.sh.length := by rw [mo2.1]
  have c2 : B2.sl = A2.sl := mo2.2
  refine pw_aload_n hX d_Law_180 rfl rfl rfl ?_
  refine pw_arg hX hK (k := 1) d_Law_181 d_Law_182 d_Law_184 d_Law_185 d_Law_186 rfl rfl (by decide) (by omega) hL ?_
  refine pw_arg hX hK (k := 2) d_Law_187 d_Law_188 d_Law_190 d_Law_191 d_Law_192 rfl rfl (by decide) (by omega) hL ?_
  refine pw_arg hX hK (k := 3) d_Law_193 d_Law_194 d_Law_196 d_Law_197 d_Law_198 rfl rfl (by decide) (by omega) hL ?_
  refine pw_arg hX hK (k := 4) d_Law_199 d_Law_200 d_Law_202 d_Law_203 d_Law_204 rfl rfl (by decide) (by omega) hL ?_
  refine pw_arg hX hK (k := 5) d_Law_205 d_Law_206 d_Law_208 d_Law_209 d_Law_210 rfl rfl (by decide) (by omega) hL ?_
  refine hw_callV_a hX (v := .int r) (H1 := A2) (As := [.int (sxs (i + 1)), .int (sxs (i + 2)), .int (sxs (i + 3)), .int (sxs (i + 4)), .int (sxs (i + 5))]) (rest := []) d_Law_211 hK (k_W_feed e1) (ab_mkC s_W_feed (Nat.le_of_ble_eq_true rfl) (Nat.le_of_ble_eq_true rfl) (by show H.sh.length + 0 ≤ 601024; omega) (by show H.sl + 0 ≤ 7292999; omega)) (k3 185 rfl rfl) i_W_feed v_W_feed (rS_0 hG) (by decide) rfl rfl (Nat.le_of_ble_eq_true rfl) ?_
  refine pw_aload_n hX d_Law_214 rfl rfl rfl ?_
  refine pw_arg hX hK (k := 1) d_Law_215 d_Law_216 d_Law_218 d_Law_219 d_Law_220 rfl rfl (by decide) (by omega) hL ?_
  refine pw_arg hX hK (k := 2) d_Law_221 d_Law_222 d_Law_224 d_Law_225 d_Law_226 rfl rfl (by decide) (by omega) hL ?_
  refine pw_arg hX hK (k := 3) d_Law_227 d_Law_228 d_Law_230 d_Law_231 d_Law_232 rfl rfl (by decide) (by omega) hL ?_
  refine pw_arg hX hK (k := 4) d_Law_233 d_Law_234 d_Law_236 d_Law_237 d_Law_238 rfl rfl (by decide) (by omega) hL ?_
  refine pw_arg hX hK (k := 5) d_Law_239 d_Law_240 d_Law_242 d_Law_243 d_Law_244 rfl rfl (by decide) (by omega) hL ?_
  refine hw_callV_a hX (v := .int r) (H1 := B2) (As := [.int (sxs (i + 1)), .int (sxs (i + 2)), .int (sxs (i + 3)), .int (sxs (i + 4)), .int (sxs (i + 5))]) (rest := [.int r]) d_Law_245 hK (k_M_feed e2) (ab_mkC s_M_feed (Nat.le_of_ble_eq_true rfl) (Nat.le_of_ble_eq_true rfl) (by show H.sh.length + 0 + 0 ≤ 601024; omega) (by show H.sl + 0 + 0 ≤ 7292999; omega)) (k10 85 rfl rfl) i_M_feed v_M_feed (mo.get (rS_517 hG)) (by decide) rfl rfl (Nat.le_of_ble_eq_true rfl) ?_
  refine pw_icmp_eq hX (tgt := 1137) d_Law_248 (by decide) (fun _ => ?_) (fun q => absurd rfl q)
  exact pw_widen hX (cells' := B2.sh.length) (slots' := B2.sl) (by show H.sh.length + 0 + 0 ≤ _; omega) (by show H.sl + 0 + 0 ≤ _; omega) (next B2 hR2)
set_option maxRecDepth 20000 in
set_option maxHeartbeats 4000000 in
theorem lc_1 (hX : ab_X y_Law p l s m args meth c) (hK : pw_K G sL sxs s) (hi : i + 5 < sL) (hL : sL < 2 ^ 31) (hk : k ≤ 511) (hs0 : s0 ≤ 1000000) (hR : RR 2000000 s0 k H H) (next : ∀ H2, RR 2000000 s0 (k + 1) H2 H2 → pw_V p l e s m args below meth c G y_Law room_1 (fun o _ => o = .returned (some (.int 1))) room_1.cells room_1.slots H2.sh.length H2.sl 1137 (lvL i) [] (hpw H2)) : pw_V p l e s m args below meth c G y_Law room_1 (fun o _ => o = .returned (some (.int 1))) room_1.cells room_1.slots H.sh.length H.sl 253 (lvL i) [] (hpw H) := by
  have hG := hR.gr.1
  have b0 := hR.room
  obtain ⟨r, A2, B2, e1, e2, hR2, g1, g2, -, -⟩ := (jc_end (N := 2000000) (s0 := s0) (k := k) (x1 := sxs (i + 1)) (Nat.le_refl _) (by omega)).one H hR
  have e1 : F_W_end 2000000 0 (sxs (i + 1)) H = some (r, A2) := e1
  have e2 : F_M_end 2000000 517 (sxs (i + 1)) A2 = some (r, B2) := e2
  have mo : Mo H A2 := (m_W_end e1).mo
  have mo2 : Sa A2 B2 := m_M_end e2
  have l1 := mo.len
  have l2 := mo.2
  have b2 := hR2.room
  have c1 : B2.sh.length = A2.sh.length := by rw [mo2.1]
  have c2 : B2.sl = A2.sl := mo2.2
  refine pw_aload_n hX d_Law_253 rfl rfl rfl ?_
  refine pw_arg hX hK (k := 1) d_Law_254 d_Law_255 d_Law_257 d_Law_258 d_Law_259 rfl rfl (by decide) (by omega) hL ?_
  refine hw_callV_a hX (v := .int r) (H1 := A2) (As := [.int (sxs (i + 1))]) (rest := []) d_Law_260 hK (k_W_end e1) (ab_mkC s_W_end (Nat.le_of_ble_eq_true rfl) (Nat.le_of_ble_eq_true rfl) (by show H.sh.length + 0 ≤ 601024; omega) (by show H.sl + 0 ≤ 7292999; omega)) (k3 197 rfl rfl) i_W_end v_W_end (rS_0 hG) (by decide) rfl rfl (Nat.le_of_ble_eq_true rfl) ?_
  refine pw_aload_n hX d_Law_263 rfl rfl rfl ?_
  refine pw_arg hX hK (k := 1) d_Law_264 d_Law_265 d_Law_267 d_Law_268 d_Law_269 rfl rfl (by decide) (by omega) hL ?_
  refine hw_callV_a hX (v := .int r) (H1 := B2) (As := [.int (sxs (i + 1))]) (rest := [.int r]) d_Law_270 hK (k_M_end e2) (ab_mkC s_M_end (Nat.le_of_ble_eq_true rfl) (Nat.le_of_ble_eq_true rfl) (by show H.sh.length + 0 + 0 ≤ 601024; omega) (by show H.sl + 0 + 0 ≤ 7292999; omega)) (k10 89 rfl rfl) i_M_end v_M_end (mo.get (rS_517 hG)) (by decide) rfl rfl (Nat.le_of_ble_eq_true rfl) ?_
  refine pw_icmp_eq hX (tgt := 1137) d_Law_273 (by decide) (fun _ => ?_) (fun q => absurd rfl q)
  exact pw_widen hX (cells' := B2.sh.length) (slots' := B2.sl) (by show H.sh.length + 0 + 0 ≤ _; omega) (by show H.sl + 0 + 0 ≤ _; omega) (next B2 hR2)
set_option maxRecDepth 20000 in
set_option maxHeartbeats 4000000 in
theorem lc_2 (hX : ab_X y_Law p l s m args meth c) (hK : pw_K G sL sxs s) (hi : i + 5 < sL) (hL : sL < 2 ^ 31) (hk : k ≤ 511) (hs0 : s0 ≤ 1000000) (hR : RR 2000000 s0 k H H) (next : ∀ H2, RR 2000000 s0 (k + 1) H2 H2 → pw_V p l e s m args below meth c G y_Law room_1 (fun o _ => o = .returned (some (.int 1))) room_1.cells room_1.slots H2.sh.length H2.sl 1137 (lvL i) [] (hpw H2)) : pw_V p l e s m args below meth c G y_Law room_1 (fun o _ => o = .returned (some (.int 1))) room_1.cells room_1.slots H.sh.length H.sl 278 (lvL i) [] (hpw H) := by
  have hG := hR.gr.1
  have b0 := hR.room
  obtain ⟨r, A2, B2, e1, e2, hR2, g1, g2, -, -⟩ := (jc_text (N := 2000000) (s0 := s0) (k := k) (x1 := sxs (i + 1)) (Nat.le_refl _) (by omega)).one H hR
  have e1 : F_W_text 2000000 0 (sxs (i + 1)) H = some (r, A2) := e1
  have e2 : F_M_text 2000000 517 (sxs (i + 1)) A2 = some (r, B2) := e2
  have mo : Mo H A2 := m_W_text e1
  have mo2 : Sa A2 B2 := m_M_text e2
  have l1 := mo.len
  have l2 := mo.2
  have b2 := hR2.room
  have c1 : B2.sh.length = A2.sh.length := by rw [mo2.1]
  have c2 : B2.sl = A2.sl := mo2.2
  refine pw_aload_n hX d_Law_278 rfl rfl rfl ?_
  refine pw_arg hX hK (k := 1) d_Law_279 d_Law_280 d_Law_282 d_Law_283 d_Law_284 rfl rfl (by decide) (by omega) hL ?_
  refine hw_callV_a hX (v := .int r) (H1 := A2) (As := [.int (sxs (i + 1))]) (rest := []) d_Law_285 hK (k_W_text (C := (A2.sh.length - H.sh.length)) (Sl := (A2.sl - H.sl)) e1 (by show A2.sh.length ≤ H.sh.length + _; omega) (by show A2.sl ≤ H.sl + _; omega)) (ab_mkC s_W_text (Nat.le_of_ble_eq_true rfl) (Nat.le_of_ble_eq_true rfl) (by show H.sh.length + (A2.sh.length - H.sh.length) ≤ 601024; omega) (by show H.sl + (A2.sl - H.sl) ≤ 7292999; omega)) (k3 201 rfl rfl) i_W_text v_W_text (rS_0 hG) (by decide) rfl rfl (Nat.le_of_ble_eq_true rfl) ?_
  refine pw_aload_n hX d_Law_288 rfl rfl rfl ?_
  refine pw_arg hX hK (k := 1) d_Law_289 d_Law_290 d_Law_292 d_Law_293 d_Law_294 rfl rfl (by decide) (by omega) hL ?_
  refine hw_callV_a hX (v := .int r) (H1 := B2) (As := [.int (sxs (i + 1))]) (rest := [.int r]) d_Law_295 hK (k_M_text e2) (ab_mkC s_M_text (Nat.le_of_ble_eq_true rfl) (Nat.le_of_ble_eq_true rfl) (by show H.sh.length + (A2.sh.length - H.sh.length) + 0 ≤ 601024; omega) (by show H.sl + (A2.sl - H.sl) + 0 ≤ 7292999; omega)) (k10 96 rfl rfl) i_M_text v_M_text (mo.get (rS_517 hG)) (by decide) rfl rfl (Nat.le_of_ble_eq_true rfl) ?_
  refine pw_icmp_eq hX (tgt := 1137) d_Law_298 (by decide) (fun _ => ?_) (fun q => absurd rfl q)
  exact pw_widen hX (cells' := B2.sh.length) (slots' := B2.sl) (by show H.sh.length + (A2.sh.length - H.sh.length) + 0 ≤ _; omega) (by show H.sl + (A2.sl - H.sl) + 0 ≤ _; omega) (next B2 hR2)
set_option maxRecDepth 20000 in
set_option maxHeartbeats 4000000 in
theorem lc_3 (hX : ab_X y_Law p l s m args meth c) (hK : pw_K G sL sxs s) (hi : i + 5 < sL) (hL : sL < 2 ^ 31) (hk : k ≤ 511) (hs0 : s0 ≤ 1000000) (hR : RR 2000000 s0 k H H) (next : ∀ H2, RR 2000000 s0 (k + 1) H2 H2 → pw_V p l e s m args below meth c G y_Law room_1 (fun o _ => o = .returned (some (.int 1))) room_1.cells room_1.slots H2.sh.length H2.sl 1137 (lvL i) [] (hpw H2)) : pw_V p l e s m args below meth c G y_Law room_1 (fun o _ => o = .returned (some (.int 1))) room_1.cells room_1.slots H.sh.length H.sl 303 (lvL i) [] (hpw H) := by
  have hG := hR.gr.1
  have b0 := hR.room
  obtain ⟨r, A2, B2, e1, e2, hR2, g1, g2⟩ := oc_fault (N := 2000000) (s0 := s0) (k := k) (x1 := sxs (i + 1)) H hR
  have e1 : F_W_fault 2000000 0 (sxs (i + 1)) H = some (r, A2) := e1
  have e2 : F_M_fault 2000000 517 (sxs (i + 1)) A2 = some (r, B2) := e2
  have mo : Mo H A2 := (m_W_fault e1).mo
  have mo2 : Sa A2 B2 := m_M_fault e2
  have l1 := mo.len
  have l2 := mo.2
  have b2 := hR2.room
  have c1 : B2.sh.length = A2.sh.length := by rw [mo2.1]
  have c2 : B2.sl = A2.sl := mo2.2
  refine pw_aload_n hX d_Law_303 rfl rfl rfl ?_
  refine pw_arg hX hK (k := 1) d_Law_304 d_Law_305 d_Law_307 d_Law_308 d_Law_309 rfl rfl (by decide) (by omega) hL ?_
  refine hw_callV_a hX (v := .int r) (H1 := A2) (As := [.int (sxs (i + 1))]) (rest := []) d_Law_310 hK (k_W_fault e1) (ab_mkC s_W_fault (Nat.le_of_ble_eq_true rfl) (Nat.le_of_ble_eq_true rfl) (by show H.sh.length + 0 ≤ 601024; omega) (by show H.sl + 0 ≤ 7292999; omega)) (k6 87 rfl rfl) i_W_fault v_W_fault (rS_0 hG) (by decide) rfl rfl (Nat.le_of_ble_eq_true rfl) ?_
  refine pw_aload_n hX d_Law_313 rfl rfl rfl ?_
  refine pw_arg hX hK (k := 1) d_Law_314 d_Law_315 d_Law_317 d_Law_318 d_Law_319 rfl rfl (by decide) (by omega) hL ?_
  refine hw_callV_a hX (v := .int r) (H1 := B2) (As := [.int (sxs (i + 1))]) (rest := [.int r]) d_Law_320 hK (k_M_fault e2) (ab_mkC s_M_fault (Nat.le_of_ble_eq_true rfl) (Nat.le_of_ble_eq_true rfl) (by show H.sh.length + 0 + 0 ≤ 601024; omega) (by show H.sl + 0 + 0 ≤ 7292999; omega)) (k11 158 rfl rfl) i_M_fault v_M_fault (mo.get (rS_517 hG)) (by decide) rfl rfl (Nat.le_of_ble_eq_true rfl) ?_
  refine pw_icmp_eq hX (tgt := 1137) d_Law_323 (by decide) (fun _ => ?_) (fun q => absurd rfl q)
  exact pw_widen hX (cells' := B2.sh.length) (slots' := B2.sl) (by show H.sh.length + 0 + 0 ≤ _; omega) (by show H.sl + 0 + 0 ≤ _; omega) (next B2 hR2)
set_option maxRecDepth 20000 in
set_option maxHeartbeats 4000000 in
theorem lc_4 (hX : ab_X y_Law p l s m args meth c) (hK : pw_K G sL sxs s) (hi : i + 5 < sL) (hL : sL < 2 ^ 31) (hk : k ≤ 511) (hs0 : s0 ≤ 1000000) (hR : RR 2000000 s0 k H H) (next : ∀ H2, RR 2000000 s0 (k + 1) H2 H2 → pw_V p l e s m args below meth c G y_Law room_1 (fun o _ => o = .returned (some (.int 1))) room_1.cells room_1.slots H2.sh.length H2.sl 1137 (lvL i) [] (hpw H2)) : pw_V p l e s m args below meth c G y_Law room_1 (fun o _ => o = .returned (some (.int 1))) room_1.cells room_1.slots H.sh.length H.sl 328 (lvL i) [] (hpw H) := by
  have hG := hR.gr.1
  have b0 := hR.room
  obtain ⟨r, A2, B2, e1, e2, hR2, g1, g2, -, -⟩ := (jc_swap (N := 2000000) (s0 := s0) (k := k)  (Nat.le_refl _) (by omega)).one H hR
  have e1 : F_W_swap 2000000 0  H = some (r, A2) := e1
  have e2 : F_M_swap 2000000 517  A2 = some (r, B2) := e2
  have mo : Mo H A2 := m_W_swap e1
  have mo2 : Sa A2 B2 := m_M_swap e2
  have l1 := mo.len
  have l2 := mo.2
  have b2 := hR2.room
  have c1 : B2.sh.length = A2.sh.length := by rw [mo2.1]
  have c2 : B2.sl = A2.sl := mo2.2
  refine pw_aload_n hX d_Law_328 rfl rfl rfl ?_
  refine hw_callV_a hX (v := .int r) (H1 := A2) (As := []) (rest := []) d_Law_329 hK (k_W_swap (C := (A2.sh.length - H.sh.length)) (Sl := (A2.sl - H.sl)) e1 (by show A2.sh.length ≤ H.sh.length + _; omega) (by show A2.sl ≤ H.sl + _; omega)) (ab_mkC s_W_swap (Nat.le_of_ble_eq_true rfl) (Nat.le_of_ble_eq_true rfl) (by show H.sh.length + (A2.sh.length - H.sh.length) ≤ 601024; omega) (by show H.sl + (A2.sl - H.sl) ≤ 7292999; omega)) (k6 91 rfl rfl) i_W_swap v_W_swap (rS_0 hG) (by decide) rfl rfl (Nat.le_of_ble_eq_true rfl) ?_
  refine pw_aload_n hX d_Law_332 rfl rfl rfl ?_
  refine hw_callV_a hX (v := .int r) (H1 := B2) (As := []) (rest := [.int r]) d_Law_333 hK (k_M_swap e2) (ab_mkC s_M_swap (Nat.le_of_ble_eq_true rfl) (Nat.le_of_ble_eq_true rfl) (by show H.sh.length + (A2.sh.length - H.sh.length) + 0 ≤ 601024; omega) (by show H.sl + (A2.sl - H.sl) + 0 ≤ 7292999; omega)) (k11 162 rfl rfl) i_M_swap v_M_swap (mo.get (rS_517 hG)) (by decide) rfl rfl (Nat.le_of_ble_eq_true rfl) ?_
  refine pw_icmp_eq hX (tgt := 1137) d_Law_336 (by decide) (fun _ => ?_) (fun q => absurd rfl q)
  exact pw_widen hX (cells' := B2.sh.length) (slots' := B2.sl) (by show H.sh.length + (A2.sh.length - H.sh.length) + 0 ≤ _; omega) (by show H.sl + (A2.sl - H.sl) + 0 ≤ _; omega) (next B2 hR2)
set_option maxRecDepth 20000 in
set_option maxHeartbeats 4000000 in
theorem lc_5 (hX : ab_X y_Law p l s m args meth c) (hK : pw_K G sL sxs s) (hi : i + 5 < sL) (hL : sL < 2 ^ 31) (hk : k ≤ 511) (hs0 : s0 ≤ 1000000) (hR : RR 2000000 s0 k H H) (next : ∀ H2, RR 2000000 s0 (k + 1) H2 H2 → pw_V p l e s m args below meth c G y_Law room_1 (fun o _ => o = .returned (some (.int 1))) room_1.cells room_1.slots H2.sh.length H2.sl 1137 (lvL i) [] (hpw H2)) : pw_V p l e s m args below meth c G y_Law room_1 (fun o _ => o = .returned (some (.int 1))) room_1.cells room_1.slots H.sh.length H.sl 341 (lvL i) [] (hpw H) := by
  have hG := hR.gr.1
  have b0 := hR.room
  obtain ⟨r, A2, B2, e1, e2, hR2, g1, g2, -, -⟩ := (jc_step (N := 2000000) (s0 := s0) (k := k)  (Nat.le_refl _) (by omega)).one H hR
  have e1 : F_W_step 2000000 0  H = some (r, A2) := e1
  have e2 : F_M_step 2000000 517  A2 = some (r, B2) := e2
  have mo : Mo H A2 := m_W_step e1
  have mo2 : Sa A2 B2 := m_M_step e2
  have l1 := mo.len
  have l2 := mo.2
  have b2 := hR2.room
  have c1 : B2.sh.length = A2.sh.length := by rw [mo2.1]
  have c2 : B2.sl = A2.sl := mo2.2
  refine pw_aload_n hX d_Law_341 rfl rfl rfl ?_
  refine hw_callV_a hX (v := .int r) (H1 := A2) (As := []) (rest := []) d_Law_342 hK (k_W_step (C := (A2.sh.length - H.sh.length)) (Sl := (A2.sl - H.sl)) e1 (by show A2.sh.length ≤ H.sh.length + _; omega) (by show A2.sl ≤ H.sl + _; omega)) (ab_mkC s_W_step (Nat.le_of_ble_eq_true rfl) (Nat.le_of_ble_eq_true rfl) (by show H.sh.length + (A2.sh.length - H.sh.length) ≤ 601024; omega) (by show H.sl + (A2.sl - H.sl) ≤ 7292999; omega)) (k6 160 rfl rfl) i_W_step v_W_step (rS_0 hG) (by decide) rfl rfl (Nat.le_of_ble_eq_true rfl) ?_
  refine pw_aload_n hX d_Law_345 rfl rfl rfl ?_
  refine hw_callV_a hX (v := .int r) (H1 := B2) (As := []) (rest := [.int r]) d_Law_346 hK (k_M_step e2) (ab_mkC s_M_step (Nat.le_of_ble_eq_true rfl) (Nat.le_of_ble_eq_true rfl) (by show H.sh.length + (A2.sh.length - H.sh.length) + 0 ≤ 601024; omega) (by show H.sl + (A2.sl - H.sl) + 0 ≤ 7292999; omega)) (k11 193 rfl rfl) i_M_step v_M_step (mo.get (rS_517 hG)) (by decide) rfl rfl (Nat.le_of_ble_eq_true rfl) ?_
  refine pw_icmp_eq hX (tgt := 1137) d_Law_349 (by decide) (fun _ => ?_) (fun q => absurd rfl q)
  exact pw_widen hX (cells' := B2.sh.length) (slots' := B2.sl) (by show H.sh.length + (A2.sh.length - H.sh.length) + 0 ≤ _; omega) (by show H.sl + (A2.sl - H.sl) + 0 ≤ _; omega) (next B2 hR2)
set_option maxRecDepth 20000 in
set_option maxHeartbeats 4000000 in
theorem lc_6 (hX : ab_X y_Law p l s m args meth c) (hK : pw_K G sL sxs s) (hi : i + 5 < sL) (hL : sL < 2 ^ 31) (hk : k ≤ 511) (hs0 : s0 ≤ 1000000) (hR : RR 2000000 s0 k H H) (next : ∀ H2, RR 2000000 s0 (k + 1) H2 H2 → pw_V p l e s m args below meth c G y_Law room_1 (fun o _ => o = .returned (some (.int 1))) room_1.cells room_1.slots H2.sh.length H2.sl 1137 (lvL i) [] (hpw H2)) : pw_V p l e s m args below meth c G y_Law room_1 (fun o _ => o = .returned (some (.int 1))) room_1.cells room_1.slots H.sh.length H.sl 354 (lvL i) [] (hpw H) := by
  have hG := hR.gr.1
  have b0 := hR.room
  obtain ⟨r, A2, B2, e1, e2, hR2, g1, g2, -, -⟩ := (jc_input (N := 2000000) (s0 := s0) (k := k) (x1 := sxs (i + 1)) (x2 := sxs (i + 2)) (x3 := sxs (i + 3)) (Nat.le_refl _) (by omega)).one H hR
  have e1 : F_W_input 2000000 0 (sxs (i + 1)) (sxs (i + 2)) (sxs (i + 3)) H = some (r, A2) := e1
  have e2 : F_M_input 2000000 517 (sxs (i + 1)) (sxs (i + 2)) (sxs (i + 3)) A2 = some (r, B2) := e2
  have mo : Mo H A2 := m_W_input e1
  have mo2 : Sa A2 B2 := m_M_input e2
  have l1 := mo.len
  have l2 := mo.2
  have b2 := hR2.room
  have c1 : B2.sh.length = A2.sh.length := by rw [mo2.1]
  have c2 : B2.sl = A2.sl := mo2.2
  refine pw_aload_n hX d_Law_354 rfl rfl rfl ?_
  refine pw_arg hX hK (k := 1) d_Law_355 d_Law_356 d_Law_358 d_Law_359 d_Law_360 rfl rfl (by decide) (by omega) hL ?_
  refine pw_arg hX hK (k := 2) d_Law_361 d_Law_362 d_Law_364 d_Law_365 d_Law_366 rfl rfl (by decide) (by omega) hL ?_
  refine pw_arg hX hK (k := 3) d_Law_367 d_Law_368 d_Law_370 d_Law_371 d_Law_372 rfl rfl (by decide) (by omega) hL ?_
  refine hw_callV_a hX (v := .int r) (H1 := A2) (As := [.int (sxs (i + 1)), .int (sxs (i + 2)), .int (sxs (i + 3))]) (rest := []) d_Law_373 hK (k_W_input (C := (A2.sh.length - H.sh.length)) (Sl := (A2.sl - H.sl)) e1 (by show A2.sh.length ≤ H.sh.length + _; omega) (by show A2.sl ≤ H.sl + _; omega)) (ab_mkC s_W_input (Nat.le_of_ble_eq_true rfl) (Nat.le_of_ble_eq_true rfl) (by show H.sh.length + (A2.sh.length - H.sh.length) ≤ 601024; omega) (by show H.sl + (A2.sl - H.sl) ≤ 7292999; omega)) (k7 142 rfl rfl) i_W_input v_W_input (rS_0 hG) (by decide) rfl rfl (Nat.le_of_ble_eq_true rfl) ?_
  refine pw_aload_n hX d_Law_376 rfl rfl rfl ?_
  refine pw_arg hX hK (k := 1) d_Law_377 d_Law_378 d_Law_380 d_Law_381 d_Law_382 rfl rfl (by decide) (by omega) hL ?_
  refine pw_arg hX hK (k := 2) d_Law_383 d_Law_384 d_Law_386 d_Law_387 d_Law_388 rfl rfl (by decide) (by omega) hL ?_
  refine pw_arg hX hK (k := 3) d_Law_389 d_Law_390 d_Law_392 d_Law_393 d_Law_394 rfl rfl (by decide) (by omega) hL ?_
  refine hw_callV_a hX (v := .int r) (H1 := B2) (As := [.int (sxs (i + 1)), .int (sxs (i + 2)), .int (sxs (i + 3))]) (rest := [.int r]) d_Law_395 hK (k_M_input e2) (ab_mkC s_M_input (Nat.le_of_ble_eq_true rfl) (Nat.le_of_ble_eq_true rfl) (by show H.sh.length + (A2.sh.length - H.sh.length) + 0 ≤ 601024; omega) (by show H.sl + (A2.sl - H.sl) + 0 ≤ 7292999; omega)) (k12 164 rfl rfl) i_M_input v_M_input (mo.get (rS_517 hG)) (by decide) rfl rfl (Nat.le_of_ble_eq_true rfl) ?_
  refine pw_icmp_eq hX (tgt := 1137) d_Law_398 (by decide) (fun _ => ?_) (fun q => absurd rfl q)
  exact pw_widen hX (cells' := B2.sh.length) (slots' := B2.sl) (by show H.sh.length + (A2.sh.length - H.sh.length) + 0 ≤ _; omega) (by show H.sl + (A2.sl - H.sl) + 0 ≤ _; omega) (next B2 hR2)
set_option maxRecDepth 20000 in
set_option maxHeartbeats 4000000 in
theorem lc_7 (hX : ab_X y_Law p l s m args meth c) (hK : pw_K G sL sxs s) (hi : i + 5 < sL) (hL : sL < 2 ^ 31) (hk : k ≤ 511) (hs0 : s0 ≤ 1000000) (hR : RR 2000000 s0 k H H) (next : ∀ H2, RR 2000000 s0 (k + 1) H2 H2 → pw_V p l e s m args below meth c G y_Law room_1 (fun o _ => o = .returned (some (.int 1))) room_1.cells room_1.slots H2.sh.length H2.sl 1137 (lvL i) [] (hpw H2)) : pw_V p l e s m args below meth c G y_Law room_1 (fun o _ => o = .returned (some (.int 1))) room_1.cells room_1.slots H.sh.length H.sl 403 (lvL i) [] (hpw H) := by
  have hG := hR.gr.1
  have b0 := hR.room
  by_cases q0 : sxs (i + 2) = 0
  · have hq : (0 : Int32) = 0 ∨ (0 : Int32) = 1 := by decide
    obtain ⟨r, A2, B2, e1, e2, hR2, g1, g2, -, -⟩ := (jc_seat (N := 2000000) (s0 := s0) (k := k) (x1 := sxs (i + 1)) (x2 := 0) (Nat.le_refl _) (by omega) hq).one H hR
    have e1 : F_W_seat 2000000 0 (sxs (i + 1)) (0) H = some (r, A2) := e1
    have e2 : F_M_seat 2000000 517 (sxs (i + 1)) (0) A2 = some (r, B2) := e2
    have mo : Mo H A2 := (m_W_seat e1).mo
    have mo2 : Sa A2 B2 := m_M_seat e2
    have l1 := mo.len
    have l2 := mo.2
    have b2 := hR2.room
    have c1 : B2.sh.length = A2.sh.length := by rw [mo2.1]
    have c2 : B2.sl = A2.sl := mo2.2
    refine pw_aload_n hX d_Law_403 rfl rfl rfl ?_
    refine pw_arg hX hK (k := 1) d_Law_404 d_Law_405 d_Law_407 d_Law_408 d_Law_409 rfl rfl (by decide) (by omega) hL ?_
    refine pw_arg hX hK (k := 2) d_Law_410 d_Law_411 d_Law_413 d_Law_414 d_Law_415 rfl rfl (by decide) (by omega) hL ?_
    refine pw_if_eq hX (tgt := 423) d_Law_416 (by decide) (fun _ => ?_) (fun q => absurd q0 q)
    refine pw_iconst hX (v := 0) d_Law_423 (by decide) ?_
    refine hw_callV_a hX (v := .int r) (H1 := A2) (As := [.int (sxs (i + 1)), .int (0)]) (rest := []) d_Law_424 hK (k_W_seat e1) (ab_mkC s_W_seat (Nat.le_of_ble_eq_true rfl) (Nat.le_of_ble_eq_true rfl) (by show H.sh.length + 0 ≤ 601024; omega) (by show H.sl + 0 ≤ 7292999; omega)) (k7 159 rfl rfl) i_W_seat v_W_seat (rS_0 hG) (by decide) rfl rfl (Nat.le_of_ble_eq_true rfl) ?_
    refine pw_aload_n hX d_Law_427 rfl rfl rfl ?_
    refine pw_arg hX hK (k := 1) d_Law_428 d_Law_429 d_Law_431 d_Law_432 d_Law_433 rfl rfl (by decide) (by omega) hL ?_
    refine pw_arg hX hK (k := 2) d_Law_434 d_Law_435 d_Law_437 d_Law_438 d_Law_439 rfl rfl (by decide) (by omega) hL ?_
    refine pw_if_eq hX (tgt := 447) d_Law_440 (by decide) (fun _ => ?_) (fun q => absurd q0 q)
    refine pw_iconst hX (v := 0) d_Law_447 (by decide) ?_
    refine hw_callV_a hX (v := .int r) (H1 := B2) (As := [.int (sxs (i + 1)), .int (0)]) (rest := [.int r]) d_Law_448 hK (k_M_seat e2) (ab_mkC s_M_seat (Nat.le_of_ble_eq_true rfl) (Nat.le_of_ble_eq_true rfl) (by show H.sh.length + 0 + 0 ≤ 601024; omega) (by show H.sl + 0 + 0 ≤ 7292999; omega)) (k12 174 rfl rfl) i_M_seat v_M_seat (mo.get (rS_517 hG)) (by decide) rfl rfl (Nat.le_of_ble_eq_true rfl) ?_
    refine pw_icmp_eq hX (tgt := 1137) d_Law_451 (by decide) (fun _ => ?_) (fun q => absurd rfl q)
    exact pw_widen hX (cells' := B2.sh.length) (slots' := B2.sl) (by show H.sh.length + 0 + 0 ≤ _; omega) (by show H.sl + 0 + 0 ≤ _; omega) (next B2 hR2)
  · have hq : (1 : Int32) = 0 ∨ (1 : Int32) = 1 := by decide
    obtain ⟨r, A2, B2, e1, e2, hR2, g1, g2, -, -⟩ := (jc_seat (N := 2000000) (s0 := s0) (k := k) (x1 := sxs (i + 1)) (x2 := 1) (Nat.le_refl _) (by omega) hq).one H hR
    have e1 : F_W_seat 2000000 0 (sxs (i + 1)) (1) H = some (r, A2) := e1
    have e2 : F_M_seat 2000000 517 (sxs (i + 1)) (1) A2 = some (r, B2) := e2
    have mo : Mo H A2 := (m_W_seat e1).mo
    have mo2 : Sa A2 B2 := m_M_seat e2
    have l1 := mo.len
    have l2 := mo.2
    have b2 := hR2.room
    have c1 : B2.sh.length = A2.sh.length := by rw [mo2.1]
    have c2 : B2.sl = A2.sl := mo2.2
    refine pw_aload_n hX d_Law_403 rfl rfl rfl ?_
    refine pw_arg hX hK (k := 1) d_Law_404 d_Law_405 d_Law_407 d_Law_408 d_Law_409 rfl rfl (by decide) (by omega) hL ?_
    refine pw_arg hX hK (k := 2) d_Law_410 d_Law_411 d_Law_413 d_Law_414 d_Law_415 rfl rfl (by decide) (by omega) hL ?_
    refine pw_if_eq hX (tgt := 423) d_Law_416 (by decide) (fun q => absurd q q0) (fun _ => ?_)
    refine pw_iconst hX (v := 1) d_Law_419 (by decide) ?_
    refine pw_goto hX (tgt := 424) d_Law_420 (by decide) ?_
    refine hw_callV_a hX (v := .int r) (H1 := A2) (As := [.int (sxs (i + 1)), .int (1)]) (rest := []) d_Law_424 hK (k_W_seat e1) (ab_mkC s_W_seat (Nat.le_of_ble_eq_true rfl) (Nat.le_of_ble_eq_true rfl) (by show H.sh.length + 0 ≤ 601024; omega) (by show H.sl + 0 ≤ 7292999; omega)) (k7 159 rfl rfl) i_W_seat v_W_seat (rS_0 hG) (by decide) rfl rfl (Nat.le_of_ble_eq_true rfl) ?_
    refine pw_aload_n hX d_Law_427 rfl rfl rfl ?_
    refine pw_arg hX hK (k := 1) d_Law_428 d_Law_429 d_Law_431 d_Law_432 d_Law_433 rfl rfl (by decide) (by omega) hL ?_
    refine pw_arg hX hK (k := 2) d_Law_434 d_Law_435 d_Law_437 d_Law_438 d_Law_439 rfl rfl (by decide) (by omega) hL ?_
    refine pw_if_eq hX (tgt := 447) d_Law_440 (by decide) (fun q => absurd q q0) (fun _ => ?_)
    refine pw_iconst hX (v := 1) d_Law_443 (by decide) ?_
    refine pw_goto hX (tgt := 448) d_Law_444 (by decide) ?_
    refine hw_callV_a hX (v := .int r) (H1 := B2) (As := [.int (sxs (i + 1)), .int (1)]) (rest := [.int r]) d_Law_448 hK (k_M_seat e2) (ab_mkC s_M_seat (Nat.le_of_ble_eq_true rfl) (Nat.le_of_ble_eq_true rfl) (by show H.sh.length + 0 + 0 ≤ 601024; omega) (by show H.sl + 0 + 0 ≤ 7292999; omega)) (k12 174 rfl rfl) i_M_seat v_M_seat (mo.get (rS_517 hG)) (by decide) rfl rfl (Nat.le_of_ble_eq_true rfl) ?_
    refine pw_icmp_eq hX (tgt := 1137) d_Law_451 (by decide) (fun _ => ?_) (fun q => absurd rfl q)
    exact pw_widen hX (cells' := B2.sh.length) (slots' := B2.sl) (by show H.sh.length + 0 + 0 ≤ _; omega) (by show H.sl + 0 + 0 ≤ _; omega) (next B2 hR2)
end Par
