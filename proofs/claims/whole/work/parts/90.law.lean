/-! ===== the law: its script, its cases ===== -/
def lwZ (X : g_X) (b Ls : Nat) (xs0 : Nat → Int32) : Prop := va_X b Ls xs0 (xs X) (xs X).heap ∧ b < (xs X).heap.size ∧ X.1.1 = (xs X).heap.size ∧ Ls ≤ 2560
section LW
variable {X : g_X} {cc : ByteArray} {nL : Nat} {own : String} {ret : Option FieldType} {d : Nat} {M : g_M} {L : g_L} {pc : Nat} {lv : List (Nat × Value)} {st : List Value} {b Ls : Nat} {xs0 : Nat → Int32}
theorem wx_sld (C : Cx X cc nL own ret d) (Z : lwZ X b Ls xs0) (j : Nat) {i : Int32} (hd : decode cc pc = .ok (.iaload, 1)) (hi : i = nI j) (hj : j < Ls) (kk : wx X M L (pc + 1) lv (.int (xs0 j) :: st)) : wx X M L pc lv (.int i :: .ref b :: st) := by
  intro H locs ls hH hS h
  obtain ⟨z1, z2, z3, z4⟩ := Z
  subst hi
  refine va_sld C.hx C.hb z1 z2 (by show ¬ X.1.1 ≤ b; omega) hS (vp_in_nI hj (by omega)) hd ?_
  rw [nI_clamp (by omega)]
  exact kk H locs ls hH hS h
theorem wx_slen (C : Cx X cc nL own ret d) (Z : lwZ X b Ls xs0) (hd : decode cc pc = .ok (.arraylength, 1)) (kk : wx X M L (pc + 1) lv (.int (nI Ls) :: st)) : wx X M L pc lv (.ref b :: st) := by
  intro H locs ls hH hS h
  obtain ⟨z1, z2, z3, z4⟩ := Z
  exact va_slen C.hx C.hb z1 z2 (by show ¬ X.1.1 ≤ b; omega) hS hd (kk H locs ls hH hS h)
end LW
set_option maxHeartbeats 4000000 in
set_option maxRecDepth 100000 in
theorem lw_dot {X : g_X} {b Ls q : Nat} {xs0 : Nat → Int32} (C : Cx X cL_law 4 RL (some .boolean) 8) (Z : lwZ X b Ls xs0) {M : g_M} {L : g_L} (hI : IvX M) (hq : q + 5 ≤ Ls) (K : ∀ M2 L2, IvX M2 → wx X M2 L2 900 [(0, .ref b), (1, .ref (X.1.1 + 0)), (2, .ref (X.1.1 + 149)), (3, .int (nI q))] []) : wx X M L 144 [(0, .ref b), (1, .ref (X.1.1 + 0)), (2, .ref (X.1.1 + 149)), (3, .int (nI q))] [] := by
  obtain ⟨n, e, nx, kp, fa, c, A, cs, Es, h⟩ := hI
  refine wx_aload_n C 1 dL_law_144 rfl rfl ?_
  refine wx_aload_n C 0 dL_law_145 rfl rfl ?_
  refine wx_iload_n C 3 dL_law_146 rfl rfl ?_
  refine wx_iconst C 1 dL_law_147 (by decide) ?_
  refine wx_iadd C dL_law_148 ?_
  refine wx_sld C Z (q + 1) dL_law_149 (nI_add q 1) (by omega) ?_
  refine wx_aload_n C 0 dL_law_150 rfl rfl ?_
  refine wx_iload_n C 3 dL_law_151 rfl rfl ?_
  refine wx_iconst C 2 dL_law_152 (by decide) ?_
  refine wx_iadd C dL_law_153 ?_
  refine wx_sld C Z (q + 2) dL_law_154 (nI_add q 2) (by omega) ?_
  refine wx_aload_n C 0 dL_law_155 rfl rfl ?_
  refine wx_iload_n C 3 dL_law_156 rfl rfl ?_
  refine wx_iconst C 3 dL_law_157 (by decide) ?_
  refine wx_iadd C dL_law_158 ?_
  refine wx_sld C Z (q + 3) dL_law_159 (nI_add q 3) (by omega) ?_
  refine wx_aload_n C 0 dL_law_160 rfl rfl ?_
  refine wx_iload_n C 3 dL_law_161 rfl rfl ?_
  refine wx_iconst C 4 dL_law_162 (by decide) ?_
  refine wx_iadd C dL_law_163 ?_
  refine wx_sld C Z (q + 4) dL_law_164 (nI_add q 4) (by omega) ?_
  refine ca_L_13 C (rest := []) (t_X10_dot X.1 M L (xs0 (q + 1)) (xs0 (q + 2)) (xs0 (q + 3)) (xs0 (q + 4)) h.1.n.1 h.1.n.2) (by decide) rfl (by decide) rfl rfl (Nat.le_of_ble_eq_true rfl) dL_law_165 (kI fun v1 M1 L1 q1 => ?_)
  have hh : hiE M M1 := h_dot (L := L) (L1 := L1) h q1
  have hm := h.m.hi hh
  refine wx_aload_n C 2 dL_law_168 rfl rfl ?_
  refine wx_aload_n C 0 dL_law_169 rfl rfl ?_
  refine wx_iload_n C 3 dL_law_170 rfl rfl ?_
  refine wx_iconst C 1 dL_law_171 (by decide) ?_
  refine wx_iadd C dL_law_172 ?_
  refine wx_sld C Z (q + 1) dL_law_173 (nI_add q 1) (by omega) ?_
  refine wx_aload_n C 0 dL_law_174 rfl rfl ?_
  refine wx_iload_n C 3 dL_law_175 rfl rfl ?_
  refine wx_iconst C 2 dL_law_176 (by decide) ?_
  refine wx_iadd C dL_law_177 ?_
  refine wx_sld C Z (q + 2) dL_law_178 (nI_add q 2) (by omega) ?_
  refine wx_aload_n C 0 dL_law_179 rfl rfl ?_
  refine wx_iload_n C 3 dL_law_180 rfl rfl ?_
  refine wx_iconst C 3 dL_law_181 (by decide) ?_
  refine wx_iadd C dL_law_182 ?_
  refine wx_sld C Z (q + 3) dL_law_183 (nI_add q 3) (by omega) ?_
  refine wx_aload_n C 0 dL_law_184 rfl rfl ?_
  refine wx_iload_n C 3 dL_law_185 rfl rfl ?_
  refine wx_iconst C 4 dL_law_186 (by decide) ?_
  refine wx_iadd C dL_law_187 ?_
  refine wx_sld C Z (q + 4) dL_law_188 (nI_add q 4) (by omega) ?_
  refine ca_L_17 C (rest := [.int v1]) (t_X11_dot X.1 M1 L1 (xs0 (q + 1)) (xs0 (q + 2)) (xs0 (q + 3)) (xs0 (q + 4)) hm.hn hm.n60) (by decide) rfl (by decide) rfl rfl (Nat.le_of_ble_eq_true rfl) dL_law_189 (kI fun v2 M2 L2 q2 => ?_)
  obtain ⟨hv, hI2⟩ := s_dot (L := L) (L1 := L1) (L2 := L2) h q1 q2
  refine wx_icmp_eq C 900 dL_law_192 (by decide) (fun c192 => ?_) (fun c192 => ?_)
  · exact K M2 L2 hI2
  · exact absurd hv c192
set_option maxHeartbeats 4000000 in
set_option maxRecDepth 100000 in
theorem lw_pace {X : g_X} {b Ls q : Nat} {xs0 : Nat → Int32} (C : Cx X cL_law 4 RL (some .boolean) 8) (Z : lwZ X b Ls xs0) {M : g_M} {L : g_L} (hI : IvX M) (hq : q + 5 ≤ Ls) (K : ∀ M2 L2, IvX M2 → wx X M2 L2 900 [(0, .ref b), (1, .ref (X.1.1 + 0)), (2, .ref (X.1.1 + 149)), (3, .int (nI q))] []) : wx X M L 197 [(0, .ref b), (1, .ref (X.1.1 + 0)), (2, .ref (X.1.1 + 149)), (3, .int (nI q))] [] := by
  obtain ⟨n, e, nx, kp, fa, c, A, cs, Es, h⟩ := hI
  refine wx_aload_n C 1 dL_law_197 rfl rfl ?_
  refine wx_aload_n C 0 dL_law_198 rfl rfl ?_
  refine wx_iload_n C 3 dL_law_199 rfl rfl ?_
  refine wx_iconst C 1 dL_law_200 (by decide) ?_
  refine wx_iadd C dL_law_201 ?_
  refine wx_sld C Z (q + 1) dL_law_202 (nI_add q 1) (by omega) ?_
  refine ca_L_18 C (rest := []) (t_X10_pace X.1 M L (xs0 (q + 1))) (by decide) rfl (by decide) rfl rfl (Nat.le_of_ble_eq_true rfl) dL_law_203 (kI fun v1 M1 L1 q1 => ?_)
  have hh : hiE M M1 := h_pace (L := L) (L1 := L1) h q1
  have hm := h.m.hi hh
  refine wx_aload_n C 2 dL_law_206 rfl rfl ?_
  refine wx_aload_n C 0 dL_law_207 rfl rfl ?_
  refine wx_iload_n C 3 dL_law_208 rfl rfl ?_
  refine wx_iconst C 1 dL_law_209 (by decide) ?_
  refine wx_iadd C dL_law_210 ?_
  refine wx_sld C Z (q + 1) dL_law_211 (nI_add q 1) (by omega) ?_
  refine ca_L_22 C (rest := [.int v1]) (t_X11_pace X.1 M1 L1 (xs0 (q + 1))) (by decide) rfl (by decide) rfl rfl (Nat.le_of_ble_eq_true rfl) dL_law_212 (kI fun v2 M2 L2 q2 => ?_)
  obtain ⟨hv, hI2⟩ := s_pace (L := L) (L1 := L1) (L2 := L2) h q1 q2
  refine wx_icmp_eq C 900 dL_law_215 (by decide) (fun c215 => ?_) (fun c215 => ?_)
  · exact K M2 L2 hI2
  · exact absurd hv c215
set_option maxHeartbeats 4000000 in
set_option maxRecDepth 100000 in
theorem lw_net {X : g_X} {b Ls q : Nat} {xs0 : Nat → Int32} (C : Cx X cL_law 4 RL (some .boolean) 8) (Z : lwZ X b Ls xs0) {M : g_M} {L : g_L} (hI : IvX M) (hq : q + 5 ≤ Ls) (K : ∀ M2 L2, IvX M2 → wx X M2 L2 900 [(0, .ref b), (1, .ref (X.1.1 + 0)), (2, .ref (X.1.1 + 149)), (3, .int (nI q))] []) : wx X M L 220 [(0, .ref b), (1, .ref (X.1.1 + 0)), (2, .ref (X.1.1 + 149)), (3, .int (nI q))] [] := by
  obtain ⟨n, e, nx, kp, fa, c, A, cs, Es, h⟩ := hI
  refine wx_aload_n C 1 dL_law_220 rfl rfl ?_
  refine wx_aload_n C 0 dL_law_221 rfl rfl ?_
  refine wx_iload_n C 3 dL_law_222 rfl rfl ?_
  refine wx_iconst C 1 dL_law_223 (by decide) ?_
  refine wx_iadd C dL_law_224 ?_
  refine wx_sld C Z (q + 1) dL_law_225 (nI_add q 1) (by omega) ?_
  refine wx_aload_n C 0 dL_law_226 rfl rfl ?_
  refine wx_iload_n C 3 dL_law_227 rfl rfl ?_
  refine wx_iconst C 2 dL_law_228 (by decide) ?_
  refine wx_iadd C dL_law_229 ?_
  refine wx_sld C Z (q + 2) dL_law_230 (nI_add q 2) (by omega) ?_
  refine ca_L_23 C (rest := []) (t_X10_net X.1 M L (xs0 (q + 1)) (xs0 (q + 2))) (by decide) rfl (by decide) rfl rfl (Nat.le_of_ble_eq_true rfl) dL_law_231 (kI fun v1 M1 L1 q1 => ?_)
  have hh : hiE M M1 := h_net (L := L) (L1 := L1) h q1
  have hm := h.m.hi hh
  refine wx_aload_n C 2 dL_law_234 rfl rfl ?_
  refine wx_aload_n C 0 dL_law_235 rfl rfl ?_
  refine wx_iload_n C 3 dL_law_236 rfl rfl ?_
  refine wx_iconst C 1 dL_law_237 (by decide) ?_
  refine wx_iadd C dL_law_238 ?_
  refine wx_sld C Z (q + 1) dL_law_239 (nI_add q 1) (by omega) ?_
  refine wx_aload_n C 0 dL_law_240 rfl rfl ?_
  refine wx_iload_n C 3 dL_law_241 rfl rfl ?_
  refine wx_iconst C 2 dL_law_242 (by decide) ?_
  refine wx_iadd C dL_law_243 ?_
  refine wx_sld C Z (q + 2) dL_law_244 (nI_add q 2) (by omega) ?_
  refine ca_L_27 C (rest := [.int v1]) (t_X11_net X.1 M1 L1 (xs0 (q + 1)) (xs0 (q + 2))) (by decide) rfl (by decide) rfl rfl (Nat.le_of_ble_eq_true rfl) dL_law_245 (kI fun v2 M2 L2 q2 => ?_)
  obtain ⟨hv, hI2⟩ := s_net (L := L) (L1 := L1) (L2 := L2) h q1 q2
  refine wx_icmp_eq C 900 dL_law_248 (by decide) (fun c248 => ?_) (fun c248 => ?_)
  · exact K M2 L2 hI2
  · exact absurd hv c248
set_option maxHeartbeats 4000000 in
set_option maxRecDepth 100000 in
theorem lw_about {X : g_X} {b Ls q : Nat} {xs0 : Nat → Int32} (C : Cx X cL_law 4 RL (some .boolean) 8) (Z : lwZ X b Ls xs0) {M : g_M} {L : g_L} (hI : IvX M) (hq : q + 5 ≤ Ls) (K : ∀ M2 L2, IvX M2 → wx X M2 L2 900 [(0, .ref b), (1, .ref (X.1.1 + 0)), (2, .ref (X.1.1 + 149)), (3, .int (nI q))] []) : wx X M L 253 [(0, .ref b), (1, .ref (X.1.1 + 0)), (2, .ref (X.1.1 + 149)), (3, .int (nI q))] [] := by
  obtain ⟨n, e, nx, kp, fa, c, A, cs, Es, h⟩ := hI
  refine wx_aload_n C 1 dL_law_253 rfl rfl ?_
  refine wx_aload_n C 0 dL_law_254 rfl rfl ?_
  refine wx_iload_n C 3 dL_law_255 rfl rfl ?_
  refine wx_iconst C 1 dL_law_256 (by decide) ?_
  refine wx_iadd C dL_law_257 ?_
  refine wx_sld C Z (q + 1) dL_law_258 (nI_add q 1) (by omega) ?_
  refine wx_aload_n C 0 dL_law_259 rfl rfl ?_
  refine wx_iload_n C 3 dL_law_260 rfl rfl ?_
  refine wx_iconst C 2 dL_law_261 (by decide) ?_
  refine wx_iadd C dL_law_262 ?_
  refine wx_sld C Z (q + 2) dL_law_263 (nI_add q 2) (by omega) ?_
  refine ca_L_28 C (rest := []) (t_X10_about X.1 M L (xs0 (q + 1)) (xs0 (q + 2)) h.1.n.1 h.1.n.2) (by decide) rfl (by decide) rfl rfl (Nat.le_of_ble_eq_true rfl) dL_law_264 (kI fun v1 M1 L1 q1 => ?_)
  have hh : hiE M M1 := (g_about (L := L) (L1 := L1) h q1).1.hi
  have hm := h.m.hi hh
  refine wx_aload_n C 2 dL_law_267 rfl rfl ?_
  refine wx_aload_n C 0 dL_law_268 rfl rfl ?_
  refine wx_iload_n C 3 dL_law_269 rfl rfl ?_
  refine wx_iconst C 1 dL_law_270 (by decide) ?_
  refine wx_iadd C dL_law_271 ?_
  refine wx_sld C Z (q + 1) dL_law_272 (nI_add q 1) (by omega) ?_
  refine wx_aload_n C 0 dL_law_273 rfl rfl ?_
  refine wx_iload_n C 3 dL_law_274 rfl rfl ?_
  refine wx_iconst C 2 dL_law_275 (by decide) ?_
  refine wx_iadd C dL_law_276 ?_
  refine wx_sld C Z (q + 2) dL_law_277 (nI_add q 2) (by omega) ?_
  refine ca_L_31 C (rest := [.int v1]) (t_X11_about X.1 M1 L1 (xs0 (q + 1)) (xs0 (q + 2)) hm.hn hm.n60) (by decide) rfl (by decide) rfl rfl (Nat.le_of_ble_eq_true rfl) dL_law_278 (kI fun v2 M2 L2 q2 => ?_)
  obtain ⟨hv, hI2⟩ := s_about (L := L) (L1 := L1) (L2 := L2) h q1 q2
  refine wx_icmp_eq C 900 dL_law_281 (by decide) (fun c281 => ?_) (fun c281 => ?_)
  · exact K M2 L2 hI2
  · exact absurd hv c281
set_option maxHeartbeats 4000000 in
set_option maxRecDepth 100000 in
theorem lw_bits {X : g_X} {b Ls q : Nat} {xs0 : Nat → Int32} (C : Cx X cL_law 4 RL (some .boolean) 8) (Z : lwZ X b Ls xs0) {M : g_M} {L : g_L} (hI : IvX M) (hq : q + 5 ≤ Ls) (K : ∀ M2 L2, IvX M2 → wx X M2 L2 900 [(0, .ref b), (1, .ref (X.1.1 + 0)), (2, .ref (X.1.1 + 149)), (3, .int (nI q))] []) : wx X M L 286 [(0, .ref b), (1, .ref (X.1.1 + 0)), (2, .ref (X.1.1 + 149)), (3, .int (nI q))] [] := by
  obtain ⟨n, e, nx, kp, fa, c, A, cs, Es, h⟩ := hI
  refine wx_aload_n C 1 dL_law_286 rfl rfl ?_
  refine ca_L_32 C (rest := []) (t_X10_bits X.1 M L h.1.n.1 h.1.n.2) (by decide) rfl (by decide) rfl rfl (Nat.le_of_ble_eq_true rfl) dL_law_287 (kI fun v1 M1 L1 q1 => ?_)
  have hh : hiE M M1 := (g_bits (L := L) (L1 := L1) h q1).1.hi
  have hm := h.m.hi hh
  refine wx_aload_n C 2 dL_law_290 rfl rfl ?_
  refine ca_L_36 C (rest := [.int v1]) (t_X11_bits X.1 M1 L1 hm) (by decide) rfl (by decide) rfl rfl (Nat.le_of_ble_eq_true rfl) dL_law_291 (kI fun v2 M2 L2 q2 => ?_)
  obtain ⟨hv, hI2⟩ := s_bits (L := L) (L1 := L1) (L2 := L2) h q1 q2
  refine wx_icmp_eq C 900 dL_law_294 (by decide) (fun c294 => ?_) (fun c294 => ?_)
  · exact K M2 L2 hI2
  · exact absurd hv c294
set_option maxHeartbeats 4000000 in
set_option maxRecDepth 100000 in
theorem lw_bit {X : g_X} {b Ls q : Nat} {xs0 : Nat → Int32} (C : Cx X cL_law 4 RL (some .boolean) 8) (Z : lwZ X b Ls xs0) {M : g_M} {L : g_L} (hI : IvX M) (hq : q + 5 ≤ Ls) (K : ∀ M2 L2, IvX M2 → wx X M2 L2 900 [(0, .ref b), (1, .ref (X.1.1 + 0)), (2, .ref (X.1.1 + 149)), (3, .int (nI q))] []) : wx X M L 299 [(0, .ref b), (1, .ref (X.1.1 + 0)), (2, .ref (X.1.1 + 149)), (3, .int (nI q))] [] := by
  obtain ⟨n, e, nx, kp, fa, c, A, cs, Es, h⟩ := hI
  refine wx_aload_n C 1 dL_law_299 rfl rfl ?_
  refine wx_aload_n C 0 dL_law_300 rfl rfl ?_
  refine wx_iload_n C 3 dL_law_301 rfl rfl ?_
  refine wx_iconst C 1 dL_law_302 (by decide) ?_
  refine wx_iadd C dL_law_303 ?_
  refine wx_sld C Z (q + 1) dL_law_304 (nI_add q 1) (by omega) ?_
  refine wx_aload_n C 0 dL_law_305 rfl rfl ?_
  refine wx_iload_n C 3 dL_law_306 rfl rfl ?_
  refine wx_iconst C 2 dL_law_307 (by decide) ?_
  refine wx_iadd C dL_law_308 ?_
  refine wx_sld C Z (q + 2) dL_law_309 (nI_add q 2) (by omega) ?_
  refine ca_L_37 C (rest := []) (t_X10_bit X.1 M L (xs0 (q + 1)) (xs0 (q + 2)) h.1.n.1 h.1.n.2) (by decide) rfl (by decide) rfl rfl (Nat.le_of_ble_eq_true rfl) dL_law_310 (kI fun v1 M1 L1 q1 => ?_)
  have hh : hiE M M1 := (g_bit (L := L) (L1 := L1) h q1).1.hi
  have hm := h.m.hi hh
  refine wx_aload_n C 2 dL_law_313 rfl rfl ?_
  refine wx_aload_n C 0 dL_law_314 rfl rfl ?_
  refine wx_iload_n C 3 dL_law_315 rfl rfl ?_
  refine wx_iconst C 1 dL_law_316 (by decide) ?_
  refine wx_iadd C dL_law_317 ?_
  refine wx_sld C Z (q + 1) dL_law_318 (nI_add q 1) (by omega) ?_
  refine wx_aload_n C 0 dL_law_319 rfl rfl ?_
  refine wx_iload_n C 3 dL_law_320 rfl rfl ?_
  refine wx_iconst C 2 dL_law_321 (by decide) ?_
  refine wx_iadd C dL_law_322 ?_
  refine wx_sld C Z (q + 2) dL_law_323 (nI_add q 2) (by omega) ?_
  refine ca_L_40 C (rest := [.int v1]) (t_X11_bit X.1 M1 L1 (xs0 (q + 1)) (xs0 (q + 2)) hm) (by decide) rfl (by decide) rfl rfl (Nat.le_of_ble_eq_true rfl) dL_law_324 (kI fun v2 M2 L2 q2 => ?_)
  obtain ⟨hv, hI2⟩ := s_bit (L := L) (L1 := L1) (L2 := L2) h q1 q2
  refine wx_icmp_eq C 900 dL_law_327 (by decide) (fun c327 => ?_) (fun c327 => ?_)
  · exact K M2 L2 hI2
  · exact absurd hv c327
set_option maxHeartbeats 4000000 in
set_option maxRecDepth 100000 in
theorem lw_pairs {X : g_X} {b Ls q : Nat} {xs0 : Nat → Int32} (C : Cx X cL_law 4 RL (some .boolean) 8) (Z : lwZ X b Ls xs0) {M : g_M} {L : g_L} (hI : IvX M) (hq : q + 5 ≤ Ls) (K : ∀ M2 L2, IvX M2 → wx X M2 L2 900 [(0, .ref b), (1, .ref (X.1.1 + 0)), (2, .ref (X.1.1 + 149)), (3, .int (nI q))] []) : wx X M L 332 [(0, .ref b), (1, .ref (X.1.1 + 0)), (2, .ref (X.1.1 + 149)), (3, .int (nI q))] [] := by
  obtain ⟨n, e, nx, kp, fa, c, A, cs, Es, h⟩ := hI
  refine wx_aload_n C 1 dL_law_332 rfl rfl ?_
  refine ca_L_41 C (rest := []) (t_X10_pairs X.1 M L h.1.n.1 h.1.n.2 h.1.g h.1.k) (by decide) rfl (by decide) rfl rfl (Nat.le_of_ble_eq_true rfl) dL_law_333 (kI fun v1 M1 L1 q1 => ?_)
  have hh : hiE M M1 := (g_pairs (L := L) (L1 := L1) h q1).1.hi
  have hm := h.m.hi hh
  refine wx_aload_n C 2 dL_law_336 rfl rfl ?_
  refine ca_L_44 C (rest := [.int v1]) (t_X11_pairs X.1 M1 L1 hm) (by decide) rfl (by decide) rfl rfl (Nat.le_of_ble_eq_true rfl) dL_law_337 (kI fun v2 M2 L2 q2 => ?_)
  obtain ⟨hv, hI2⟩ := s_pairs (L := L) (L1 := L1) (L2 := L2) h q1 q2
  refine wx_icmp_eq C 900 dL_law_340 (by decide) (fun c340 => ?_) (fun c340 => ?_)
  · exact K M2 L2 hI2
  · exact absurd hv c340
set_option maxHeartbeats 4000000 in
set_option maxRecDepth 100000 in
theorem lw_pair {X : g_X} {b Ls q : Nat} {xs0 : Nat → Int32} (C : Cx X cL_law 4 RL (some .boolean) 8) (Z : lwZ X b Ls xs0) {M : g_M} {L : g_L} (hI : IvX M) (hq : q + 5 ≤ Ls) (K : ∀ M2 L2, IvX M2 → wx X M2 L2 900 [(0, .ref b), (1, .ref (X.1.1 + 0)), (2, .ref (X.1.1 + 149)), (3, .int (nI q))] []) : wx X M L 345 [(0, .ref b), (1, .ref (X.1.1 + 0)), (2, .ref (X.1.1 + 149)), (3, .int (nI q))] [] := by
  obtain ⟨n, e, nx, kp, fa, c, A, cs, Es, h⟩ := hI
  refine wx_aload_n C 1 dL_law_345 rfl rfl ?_
  refine wx_aload_n C 0 dL_law_346 rfl rfl ?_
  refine wx_iload_n C 3 dL_law_347 rfl rfl ?_
  refine wx_iconst C 1 dL_law_348 (by decide) ?_
  refine wx_iadd C dL_law_349 ?_
  refine wx_sld C Z (q + 1) dL_law_350 (nI_add q 1) (by omega) ?_
  refine wx_aload_n C 0 dL_law_351 rfl rfl ?_
  refine wx_iload_n C 3 dL_law_352 rfl rfl ?_
  refine wx_iconst C 2 dL_law_353 (by decide) ?_
  refine wx_iadd C dL_law_354 ?_
  refine wx_sld C Z (q + 2) dL_law_355 (nI_add q 2) (by omega) ?_
  refine ca_L_45 C (rest := []) (t_X10_pair X.1 M L (xs0 (q + 1)) (xs0 (q + 2)) h.1) (by decide) rfl (by decide) rfl rfl (Nat.le_of_ble_eq_true rfl) dL_law_356 (kI fun v1 M1 L1 q1 => ?_)
  have hh : hiE M M1 := (g_pair (L := L) (L1 := L1) h q1).1.hi
  have hm := h.m.hi hh
  refine wx_aload_n C 2 dL_law_359 rfl rfl ?_
  refine wx_aload_n C 0 dL_law_360 rfl rfl ?_
  refine wx_iload_n C 3 dL_law_361 rfl rfl ?_
  refine wx_iconst C 1 dL_law_362 (by decide) ?_
  refine wx_iadd C dL_law_363 ?_
  refine wx_sld C Z (q + 1) dL_law_364 (nI_add q 1) (by omega) ?_
  refine wx_aload_n C 0 dL_law_365 rfl rfl ?_
  refine wx_iload_n C 3 dL_law_366 rfl rfl ?_
  refine wx_iconst C 2 dL_law_367 (by decide) ?_
  refine wx_iadd C dL_law_368 ?_
  refine wx_sld C Z (q + 2) dL_law_369 (nI_add q 2) (by omega) ?_
  refine ca_L_48 C (rest := [.int v1]) (t_X11_pair X.1 M1 L1 (xs0 (q + 1)) (xs0 (q + 2)) hm) (by decide) rfl (by decide) rfl rfl (Nat.le_of_ble_eq_true rfl) dL_law_370 (kI fun v2 M2 L2 q2 => ?_)
  obtain ⟨hv, hI2⟩ := s_pair (L := L) (L1 := L1) (L2 := L2) h q1 q2
  refine wx_icmp_eq C 900 dL_law_373 (by decide) (fun c373 => ?_) (fun c373 => ?_)
  · exact K M2 L2 hI2
  · exact absurd hv c373
set_option maxHeartbeats 4000000 in
set_option maxRecDepth 100000 in
theorem lw_start {X : g_X} {b Ls q : Nat} {xs0 : Nat → Int32} (C : Cx X cL_law 4 RL (some .boolean) 8) (Z : lwZ X b Ls xs0) {M : g_M} {L : g_L} (hI : IvX M) (hq : q + 5 ≤ Ls) (K : ∀ M2 L2, IvX M2 → wx X M2 L2 900 [(0, .ref b), (1, .ref (X.1.1 + 0)), (2, .ref (X.1.1 + 149)), (3, .int (nI q))] []) : wx X M L 378 [(0, .ref b), (1, .ref (X.1.1 + 0)), (2, .ref (X.1.1 + 149)), (3, .int (nI q))] [] := by
  obtain ⟨n, e, nx, kp, fa, c, A, cs, Es, h⟩ := hI
  refine wx_aload_n C 1 dL_law_378 rfl rfl ?_
  refine wx_aload_n C 0 dL_law_379 rfl rfl ?_
  refine wx_iload_n C 3 dL_law_380 rfl rfl ?_
  refine wx_iconst C 1 dL_law_381 (by decide) ?_
  refine wx_iadd C dL_law_382 ?_
  refine wx_sld C Z (q + 1) dL_law_383 (nI_add q 1) (by omega) ?_
  refine wx_aload_n C 0 dL_law_384 rfl rfl ?_
  refine wx_iload_n C 3 dL_law_385 rfl rfl ?_
  refine wx_iconst C 2 dL_law_386 (by decide) ?_
  refine wx_iadd C dL_law_387 ?_
  refine wx_sld C Z (q + 2) dL_law_388 (nI_add q 2) (by omega) ?_
  refine ca_L_49 C (rest := []) (t_X10_start X.1 M L (xs0 (q + 1)) (xs0 (q + 2)) h.1) (by decide) rfl (by decide) rfl rfl (Nat.le_of_ble_eq_true rfl) dL_law_389 (kI fun v1 M1 L1 q1 => ?_)
  have hh : hiE M M1 := h_start (L := L) (L1 := L1) h q1
  have hm := h.m.hi hh
  refine wx_aload_n C 2 dL_law_392 rfl rfl ?_
  refine wx_aload_n C 0 dL_law_393 rfl rfl ?_
  refine wx_iload_n C 3 dL_law_394 rfl rfl ?_
  refine wx_iconst C 1 dL_law_395 (by decide) ?_
  refine wx_iadd C dL_law_396 ?_
  refine wx_sld C Z (q + 1) dL_law_397 (nI_add q 1) (by omega) ?_
  refine wx_aload_n C 0 dL_law_398 rfl rfl ?_
  refine wx_iload_n C 3 dL_law_399 rfl rfl ?_
  refine wx_iconst C 2 dL_law_400 (by decide) ?_
  refine wx_iadd C dL_law_401 ?_
  refine wx_sld C Z (q + 2) dL_law_402 (nI_add q 2) (by omega) ?_
  refine ca_L_52 C (rest := [.int v1]) (t_X11_start X.1 M1 L1 (xs0 (q + 1)) (xs0 (q + 2)) hm) (by decide) rfl (by decide) rfl rfl (Nat.le_of_ble_eq_true rfl) dL_law_403 (kI fun v2 M2 L2 q2 => ?_)
  obtain ⟨hv, hI2⟩ := s_start (L := L) (L1 := L1) (L2 := L2) h q1 q2
  refine wx_icmp_eq C 900 dL_law_406 (by decide) (fun c406 => ?_) (fun c406 => ?_)
  · exact K M2 L2 hI2
  · exact absurd hv c406
set_option maxHeartbeats 4000000 in
set_option maxRecDepth 100000 in
theorem lw_single {X : g_X} {b Ls q : Nat} {xs0 : Nat → Int32} (C : Cx X cL_law 4 RL (some .boolean) 8) (Z : lwZ X b Ls xs0) {M : g_M} {L : g_L} (hI : IvX M) (hq : q + 5 ≤ Ls) (K : ∀ M2 L2, IvX M2 → wx X M2 L2 900 [(0, .ref b), (1, .ref (X.1.1 + 0)), (2, .ref (X.1.1 + 149)), (3, .int (nI q))] []) : wx X M L 411 [(0, .ref b), (1, .ref (X.1.1 + 0)), (2, .ref (X.1.1 + 149)), (3, .int (nI q))] [] := by
  obtain ⟨n, e, nx, kp, fa, c, A, cs, Es, h⟩ := hI
  refine wx_aload_n C 1 dL_law_411 rfl rfl ?_
  refine wx_aload_n C 0 dL_law_412 rfl rfl ?_
  refine wx_iload_n C 3 dL_law_413 rfl rfl ?_
  refine wx_iconst C 1 dL_law_414 (by decide) ?_
  refine wx_iadd C dL_law_415 ?_
  refine wx_sld C Z (q + 1) dL_law_416 (nI_add q 1) (by omega) ?_
  refine wx_aload_n C 0 dL_law_417 rfl rfl ?_
  refine wx_iload_n C 3 dL_law_418 rfl rfl ?_
  refine wx_iconst C 2 dL_law_419 (by decide) ?_
  refine wx_iadd C dL_law_420 ?_
  refine wx_sld C Z (q + 2) dL_law_421 (nI_add q 2) (by omega) ?_
  refine ca_L_53 C (rest := []) (t_X10_single X.1 M L (xs0 (q + 1)) (xs0 (q + 2)) h.1) (by decide) rfl (by decide) rfl rfl (Nat.le_of_ble_eq_true rfl) dL_law_422 (kI fun v1 M1 L1 q1 => ?_)
  have hh : hiE M M1 := h_single (L := L) (L1 := L1) h q1
  have hm := h.m.hi hh
  refine wx_aload_n C 2 dL_law_425 rfl rfl ?_
  refine wx_aload_n C 0 dL_law_426 rfl rfl ?_
  refine wx_iload_n C 3 dL_law_427 rfl rfl ?_
  refine wx_iconst C 1 dL_law_428 (by decide) ?_
  refine wx_iadd C dL_law_429 ?_
  refine wx_sld C Z (q + 1) dL_law_430 (nI_add q 1) (by omega) ?_
  refine wx_aload_n C 0 dL_law_431 rfl rfl ?_
  refine wx_iload_n C 3 dL_law_432 rfl rfl ?_
  refine wx_iconst C 2 dL_law_433 (by decide) ?_
  refine wx_iadd C dL_law_434 ?_
  refine wx_sld C Z (q + 2) dL_law_435 (nI_add q 2) (by omega) ?_
  refine ca_L_56 C (rest := [.int v1]) (t_X11_single X.1 M1 L1 (xs0 (q + 1)) (xs0 (q + 2)) hm) (by decide) rfl (by decide) rfl rfl (Nat.le_of_ble_eq_true rfl) dL_law_436 (kI fun v2 M2 L2 q2 => ?_)
  obtain ⟨hv, hI2⟩ := s_single (L := L) (L1 := L1) (L2 := L2) h q1 q2
  refine wx_icmp_eq C 900 dL_law_439 (by decide) (fun c439 => ?_) (fun c439 => ?_)
  · exact K M2 L2 hI2
  · exact absurd hv c439
set_option maxHeartbeats 4000000 in
set_option maxRecDepth 100000 in
theorem lw_join {X : g_X} {b Ls q : Nat} {xs0 : Nat → Int32} (C : Cx X cL_law 4 RL (some .boolean) 8) (Z : lwZ X b Ls xs0) {M : g_M} {L : g_L} (hI : IvX M) (hq : q + 5 ≤ Ls) (K : ∀ M2 L2, IvX M2 → wx X M2 L2 900 [(0, .ref b), (1, .ref (X.1.1 + 0)), (2, .ref (X.1.1 + 149)), (3, .int (nI q))] []) : wx X M L 444 [(0, .ref b), (1, .ref (X.1.1 + 0)), (2, .ref (X.1.1 + 149)), (3, .int (nI q))] [] := by
  obtain ⟨n, e, nx, kp, fa, c, A, cs, Es, h⟩ := hI
  refine wx_aload_n C 1 dL_law_444 rfl rfl ?_
  refine wx_aload_n C 0 dL_law_445 rfl rfl ?_
  refine wx_iload_n C 3 dL_law_446 rfl rfl ?_
  refine wx_iconst C 1 dL_law_447 (by decide) ?_
  refine wx_iadd C dL_law_448 ?_
  refine wx_sld C Z (q + 1) dL_law_449 (nI_add q 1) (by omega) ?_
  refine wx_aload_n C 0 dL_law_450 rfl rfl ?_
  refine wx_iload_n C 3 dL_law_451 rfl rfl ?_
  refine wx_iconst C 2 dL_law_452 (by decide) ?_
  refine wx_iadd C dL_law_453 ?_
  refine wx_sld C Z (q + 2) dL_law_454 (nI_add q 2) (by omega) ?_
  refine ca_L_57 C (rest := []) (t_X10_join X.1 M L (xs0 (q + 1)) (xs0 (q + 2)) h.1) (by decide) rfl (by decide) rfl rfl (Nat.le_of_ble_eq_true rfl) dL_law_455 (kI fun v1 M1 L1 q1 => ?_)
  have hh : hiE M M1 := h_join (L := L) (L1 := L1) h q1
  have hm := h.m.hi hh
  refine wx_aload_n C 2 dL_law_458 rfl rfl ?_
  refine wx_aload_n C 0 dL_law_459 rfl rfl ?_
  refine wx_iload_n C 3 dL_law_460 rfl rfl ?_
  refine wx_iconst C 1 dL_law_461 (by decide) ?_
  refine wx_iadd C dL_law_462 ?_
  refine wx_sld C Z (q + 1) dL_law_463 (nI_add q 1) (by omega) ?_
  refine wx_aload_n C 0 dL_law_464 rfl rfl ?_
  refine wx_iload_n C 3 dL_law_465 rfl rfl ?_
  refine wx_iconst C 2 dL_law_466 (by decide) ?_
  refine wx_iadd C dL_law_467 ?_
  refine wx_sld C Z (q + 2) dL_law_468 (nI_add q 2) (by omega) ?_
  refine ca_L_60 C (rest := [.int v1]) (t_X11_join X.1 M1 L1 (xs0 (q + 1)) (xs0 (q + 2)) hm) (by decide) rfl (by decide) rfl rfl (Nat.le_of_ble_eq_true rfl) dL_law_469 (kI fun v2 M2 L2 q2 => ?_)
  obtain ⟨hv, hI2⟩ := s_join (L := L) (L1 := L1) (L2 := L2) h q1 q2
  refine wx_icmp_eq C 900 dL_law_472 (by decide) (fun c472 => ?_) (fun c472 => ?_)
  · exact K M2 L2 hI2
  · exact absurd hv c472
set_option maxHeartbeats 4000000 in
set_option maxRecDepth 100000 in
theorem lw_joinBit {X : g_X} {b Ls q : Nat} {xs0 : Nat → Int32} (C : Cx X cL_law 4 RL (some .boolean) 8) (Z : lwZ X b Ls xs0) {M : g_M} {L : g_L} (hI : IvX M) (hq : q + 5 ≤ Ls) (K : ∀ M2 L2, IvX M2 → wx X M2 L2 900 [(0, .ref b), (1, .ref (X.1.1 + 0)), (2, .ref (X.1.1 + 149)), (3, .int (nI q))] []) : wx X M L 477 [(0, .ref b), (1, .ref (X.1.1 + 0)), (2, .ref (X.1.1 + 149)), (3, .int (nI q))] [] := by
  obtain ⟨n, e, nx, kp, fa, c, A, cs, Es, h⟩ := hI
  refine wx_aload_n C 1 dL_law_477 rfl rfl ?_
  refine wx_aload_n C 0 dL_law_478 rfl rfl ?_
  refine wx_iload_n C 3 dL_law_479 rfl rfl ?_
  refine wx_iconst C 1 dL_law_480 (by decide) ?_
  refine wx_iadd C dL_law_481 ?_
  refine wx_sld C Z (q + 1) dL_law_482 (nI_add q 1) (by omega) ?_
  refine wx_aload_n C 0 dL_law_483 rfl rfl ?_
  refine wx_iload_n C 3 dL_law_484 rfl rfl ?_
  refine wx_iconst C 2 dL_law_485 (by decide) ?_
  refine wx_iadd C dL_law_486 ?_
  refine wx_sld C Z (q + 2) dL_law_487 (nI_add q 2) (by omega) ?_
  refine ca_L_61 C (rest := []) (t_X10_joinBit X.1 M L (xs0 (q + 1)) (xs0 (q + 2)) h.1) (by decide) rfl (by decide) rfl rfl (Nat.le_of_ble_eq_true rfl) dL_law_488 (kI fun v1 M1 L1 q1 => ?_)
  have hh : hiE M M1 := h_joinBit (L := L) (L1 := L1) h q1
  have hm := h.m.hi hh
  refine wx_aload_n C 2 dL_law_491 rfl rfl ?_
  refine wx_aload_n C 0 dL_law_492 rfl rfl ?_
  refine wx_iload_n C 3 dL_law_493 rfl rfl ?_
  refine wx_iconst C 1 dL_law_494 (by decide) ?_
  refine wx_iadd C dL_law_495 ?_
  refine wx_sld C Z (q + 1) dL_law_496 (nI_add q 1) (by omega) ?_
  refine wx_aload_n C 0 dL_law_497 rfl rfl ?_
  refine wx_iload_n C 3 dL_law_498 rfl rfl ?_
  refine wx_iconst C 2 dL_law_499 (by decide) ?_
  refine wx_iadd C dL_law_500 ?_
  refine wx_sld C Z (q + 2) dL_law_501 (nI_add q 2) (by omega) ?_
  refine ca_L_64 C (rest := [.int v1]) (t_X11_joinBit X.1 M1 L1 (xs0 (q + 1)) (xs0 (q + 2)) hm) (by decide) rfl (by decide) rfl rfl (Nat.le_of_ble_eq_true rfl) dL_law_502 (kI fun v2 M2 L2 q2 => ?_)
  obtain ⟨hv, hI2⟩ := s_joinBit (L := L) (L1 := L1) (L2 := L2) h q1 q2
  refine wx_icmp_eq C 900 dL_law_505 (by decide) (fun c505 => ?_) (fun c505 => ?_)
  · exact K M2 L2 hI2
  · exact absurd hv c505
set_option maxHeartbeats 4000000 in
set_option maxRecDepth 100000 in
theorem lw_force {X : g_X} {b Ls q : Nat} {xs0 : Nat → Int32} (C : Cx X cL_law 4 RL (some .boolean) 8) (Z : lwZ X b Ls xs0) {M : g_M} {L : g_L} (hI : IvX M) (hq : q + 5 ≤ Ls) (K : ∀ M2 L2, IvX M2 → wx X M2 L2 900 [(0, .ref b), (1, .ref (X.1.1 + 0)), (2, .ref (X.1.1 + 149)), (3, .int (nI q))] []) : wx X M L 510 [(0, .ref b), (1, .ref (X.1.1 + 0)), (2, .ref (X.1.1 + 149)), (3, .int (nI q))] [] := by
  obtain ⟨n, e, nx, kp, fa, c, A, cs, Es, h⟩ := hI
  refine wx_aload_n C 1 dL_law_510 rfl rfl ?_
  refine wx_aload_n C 0 dL_law_511 rfl rfl ?_
  refine wx_iload_n C 3 dL_law_512 rfl rfl ?_
  refine wx_iconst C 1 dL_law_513 (by decide) ?_
  refine wx_iadd C dL_law_514 ?_
  refine wx_sld C Z (q + 1) dL_law_515 (nI_add q 1) (by omega) ?_
  refine wx_aload_n C 0 dL_law_516 rfl rfl ?_
  refine wx_iload_n C 3 dL_law_517 rfl rfl ?_
  refine wx_iconst C 2 dL_law_518 (by decide) ?_
  refine wx_iadd C dL_law_519 ?_
  refine wx_sld C Z (q + 2) dL_law_520 (nI_add q 2) (by omega) ?_
  refine ca_L_65 C (rest := []) (t_X10_force X.1 M L (xs0 (q + 1)) (xs0 (q + 2)) h.1) (by decide) rfl (by decide) rfl rfl (Nat.le_of_ble_eq_true rfl) dL_law_521 (kI fun v1 M1 L1 q1 => ?_)
  have hh : hiE M M1 := h_force (L := L) (L1 := L1) h q1
  have hm := h.m.hi hh
  refine wx_aload_n C 2 dL_law_524 rfl rfl ?_
  refine wx_aload_n C 0 dL_law_525 rfl rfl ?_
  refine wx_iload_n C 3 dL_law_526 rfl rfl ?_
  refine wx_iconst C 1 dL_law_527 (by decide) ?_
  refine wx_iadd C dL_law_528 ?_
  refine wx_sld C Z (q + 1) dL_law_529 (nI_add q 1) (by omega) ?_
  refine wx_aload_n C 0 dL_law_530 rfl rfl ?_
  refine wx_iload_n C 3 dL_law_531 rfl rfl ?_
  refine wx_iconst C 2 dL_law_532 (by decide) ?_
  refine wx_iadd C dL_law_533 ?_
  refine wx_sld C Z (q + 2) dL_law_534 (nI_add q 2) (by omega) ?_
  refine ca_L_68 C (rest := [.int v1]) (t_X11_force X.1 M1 L1 (xs0 (q + 1)) (xs0 (q + 2)) hm) (by decide) rfl (by decide) rfl rfl (Nat.le_of_ble_eq_true rfl) dL_law_535 (kI fun v2 M2 L2 q2 => ?_)
  obtain ⟨hv, hI2⟩ := s_force (L := L) (L1 := L1) (L2 := L2) h q1 q2
  refine wx_icmp_eq C 900 dL_law_538 (by decide) (fun c538 => ?_) (fun c538 => ?_)
  · exact K M2 L2 hI2
  · exact absurd hv c538
set_option maxHeartbeats 4000000 in
set_option maxRecDepth 100000 in
theorem lw_path {X : g_X} {b Ls q : Nat} {xs0 : Nat → Int32} (C : Cx X cL_law 4 RL (some .boolean) 8) (Z : lwZ X b Ls xs0) {M : g_M} {L : g_L} (hI : IvX M) (hq : q + 5 ≤ Ls) (K : ∀ M2 L2, IvX M2 → wx X M2 L2 900 [(0, .ref b), (1, .ref (X.1.1 + 0)), (2, .ref (X.1.1 + 149)), (3, .int (nI q))] []) : wx X M L 543 [(0, .ref b), (1, .ref (X.1.1 + 0)), (2, .ref (X.1.1 + 149)), (3, .int (nI q))] [] := by
  obtain ⟨n, e, nx, kp, fa, c, A, cs, Es, h⟩ := hI
  refine wx_aload_n C 1 dL_law_543 rfl rfl ?_
  refine wx_aload_n C 0 dL_law_544 rfl rfl ?_
  refine wx_iload_n C 3 dL_law_545 rfl rfl ?_
  refine wx_iconst C 1 dL_law_546 (by decide) ?_
  refine wx_iadd C dL_law_547 ?_
  refine wx_sld C Z (q + 1) dL_law_548 (nI_add q 1) (by omega) ?_
  refine wx_aload_n C 0 dL_law_549 rfl rfl ?_
  refine wx_iload_n C 3 dL_law_550 rfl rfl ?_
  refine wx_iconst C 2 dL_law_551 (by decide) ?_
  refine wx_iadd C dL_law_552 ?_
  refine wx_sld C Z (q + 2) dL_law_553 (nI_add q 2) (by omega) ?_
  refine ca_L_69 C (rest := []) (t_X10_path X.1 M L (xs0 (q + 1)) (xs0 (q + 2)) h.1) (by decide) rfl (by decide) rfl rfl (Nat.le_of_ble_eq_true rfl) dL_law_554 (kI fun v1 M1 L1 q1 => ?_)
  have hh : hiE M M1 := (g_path (L := L) (L1 := L1) h q1).1.hi
  have hm := h.m.hi hh
  refine wx_aload_n C 2 dL_law_557 rfl rfl ?_
  refine wx_aload_n C 0 dL_law_558 rfl rfl ?_
  refine wx_iload_n C 3 dL_law_559 rfl rfl ?_
  refine wx_iconst C 1 dL_law_560 (by decide) ?_
  refine wx_iadd C dL_law_561 ?_
  refine wx_sld C Z (q + 1) dL_law_562 (nI_add q 1) (by omega) ?_
  refine wx_aload_n C 0 dL_law_563 rfl rfl ?_
  refine wx_iload_n C 3 dL_law_564 rfl rfl ?_
  refine wx_iconst C 2 dL_law_565 (by decide) ?_
  refine wx_iadd C dL_law_566 ?_
  refine wx_sld C Z (q + 2) dL_law_567 (nI_add q 2) (by omega) ?_
  refine ca_L_72 C (rest := [.int v1]) (t_X11_path X.1 M1 L1 (xs0 (q + 1)) (xs0 (q + 2)) hm) (by decide) rfl (by decide) rfl rfl (Nat.le_of_ble_eq_true rfl) dL_law_568 (kI fun v2 M2 L2 q2 => ?_)
  obtain ⟨hv, hI2⟩ := s_path (L := L) (L1 := L1) (L2 := L2) h q1 q2
  refine wx_icmp_eq C 900 dL_law_571 (by decide) (fun c571 => ?_) (fun c571 => ?_)
  · exact K M2 L2 hI2
  · exact absurd hv c571
set_option maxHeartbeats 4000000 in
set_option maxRecDepth 100000 in
theorem lw_heap {X : g_X} {b Ls q : Nat} {xs0 : Nat → Int32} (C : Cx X cL_law 4 RL (some .boolean) 8) (Z : lwZ X b Ls xs0) {M : g_M} {L : g_L} (hI : IvX M) (hq : q + 5 ≤ Ls) (K : ∀ M2 L2, IvX M2 → wx X M2 L2 900 [(0, .ref b), (1, .ref (X.1.1 + 0)), (2, .ref (X.1.1 + 149)), (3, .int (nI q))] []) : wx X M L 576 [(0, .ref b), (1, .ref (X.1.1 + 0)), (2, .ref (X.1.1 + 149)), (3, .int (nI q))] [] := by
  obtain ⟨n, e, nx, kp, fa, c, A, cs, Es, h⟩ := hI
  refine wx_aload_n C 1 dL_law_576 rfl rfl ?_
  refine wx_aload_n C 0 dL_law_577 rfl rfl ?_
  refine wx_iload_n C 3 dL_law_578 rfl rfl ?_
  refine wx_iconst C 1 dL_law_579 (by decide) ?_
  refine wx_iadd C dL_law_580 ?_
  refine wx_sld C Z (q + 1) dL_law_581 (nI_add q 1) (by omega) ?_
  refine ca_L_73 C (rest := []) (t_X10_heap X.1 M L (xs0 (q + 1)) h.1) (by decide) rfl (by decide) rfl rfl (Nat.le_of_ble_eq_true rfl) dL_law_582 (kL fun v1 M1 L1 q1 => ?_)
  have hh : hiE M M1 := (g_heap (L := L) (L1 := L1) h q1).1.hi
  have hm := h.m.hi hh
  refine wx_aload_n C 2 dL_law_585 rfl rfl ?_
  refine wx_aload_n C 0 dL_law_586 rfl rfl ?_
  refine wx_iload_n C 3 dL_law_587 rfl rfl ?_
  refine wx_iconst C 1 dL_law_588 (by decide) ?_
  refine wx_iadd C dL_law_589 ?_
  refine wx_sld C Z (q + 1) dL_law_590 (nI_add q 1) (by omega) ?_
  refine ca_L_77 C (rest := [.long v1]) (t_X11_heap X.1 M1 L1 (xs0 (q + 1)) hm) (by decide) rfl (by decide) rfl rfl (Nat.le_of_ble_eq_true rfl) dL_law_591 (kL fun v2 M2 L2 q2 => ?_)
  obtain ⟨hv, hI2⟩ := s_heap (L := L) (L1 := L1) (L2 := L2) h q1 q2
  refine wx_lcmp C dL_law_594 ?_
  refine wx_if_eq C 900 dL_law_595 (by decide) (fun c595 => ?_) (fun c595 => ?_)
  · exact K M2 L2 hI2
  · exact absurd ((lg_cmp_eq _ _).mpr hv) c595
set_option maxHeartbeats 4000000 in
set_option maxRecDepth 100000 in
theorem lw_ahead {X : g_X} {b Ls q : Nat} {xs0 : Nat → Int32} (C : Cx X cL_law 4 RL (some .boolean) 8) (Z : lwZ X b Ls xs0) {M : g_M} {L : g_L} (hI : IvX M) (hq : q + 5 ≤ Ls) (K : ∀ M2 L2, IvX M2 → wx X M2 L2 900 [(0, .ref b), (1, .ref (X.1.1 + 0)), (2, .ref (X.1.1 + 149)), (3, .int (nI q))] []) : wx X M L 600 [(0, .ref b), (1, .ref (X.1.1 + 0)), (2, .ref (X.1.1 + 149)), (3, .int (nI q))] [] := by
  obtain ⟨n, e, nx, kp, fa, c, A, cs, Es, h⟩ := hI
  refine wx_aload_n C 1 dL_law_600 rfl rfl ?_
  refine wx_aload_n C 0 dL_law_601 rfl rfl ?_
  refine wx_iload_n C 3 dL_law_602 rfl rfl ?_
  refine wx_iconst C 1 dL_law_603 (by decide) ?_
  refine wx_iadd C dL_law_604 ?_
  refine wx_sld C Z (q + 1) dL_law_605 (nI_add q 1) (by omega) ?_
  refine wx_aload_n C 0 dL_law_606 rfl rfl ?_
  refine wx_iload_n C 3 dL_law_607 rfl rfl ?_
  refine wx_iconst C 2 dL_law_608 (by decide) ?_
  refine wx_iadd C dL_law_609 ?_
  refine wx_sld C Z (q + 2) dL_law_610 (nI_add q 2) (by omega) ?_
  refine wx_aload_n C 0 dL_law_611 rfl rfl ?_
  refine wx_iload_n C 3 dL_law_612 rfl rfl ?_
  refine wx_iconst C 3 dL_law_613 (by decide) ?_
  refine wx_iadd C dL_law_614 ?_
  refine wx_sld C Z (q + 3) dL_law_615 (nI_add q 3) (by omega) ?_
  refine ca_L_78 C (rest := []) (t_X10_ahead X.1 M L (xs0 (q + 1)) (xs0 (q + 2)) (xs0 (q + 3)) h.1) (by decide) rfl (by decide) rfl rfl (Nat.le_of_ble_eq_true rfl) dL_law_616 (kL fun v1 M1 L1 q1 => ?_)
  have hh : hiE M M1 := (g_ahead (L := L) (L1 := L1) h q1).1.hi
  have hm := h.m.hi hh
  refine wx_aload_n C 2 dL_law_619 rfl rfl ?_
  refine wx_aload_n C 0 dL_law_620 rfl rfl ?_
  refine wx_iload_n C 3 dL_law_621 rfl rfl ?_
  refine wx_iconst C 1 dL_law_622 (by decide) ?_
  refine wx_iadd C dL_law_623 ?_
  refine wx_sld C Z (q + 1) dL_law_624 (nI_add q 1) (by omega) ?_
  refine wx_aload_n C 0 dL_law_625 rfl rfl ?_
  refine wx_iload_n C 3 dL_law_626 rfl rfl ?_
  refine wx_iconst C 2 dL_law_627 (by decide) ?_
  refine wx_iadd C dL_law_628 ?_
  refine wx_sld C Z (q + 2) dL_law_629 (nI_add q 2) (by omega) ?_
  refine wx_aload_n C 0 dL_law_630 rfl rfl ?_
  refine wx_iload_n C 3 dL_law_631 rfl rfl ?_
  refine wx_iconst C 3 dL_law_632 (by decide) ?_
  refine wx_iadd C dL_law_633 ?_
  refine wx_sld C Z (q + 3) dL_law_634 (nI_add q 3) (by omega) ?_
  refine ca_L_82 C (rest := [.long v1]) (t_X11_ahead X.1 M1 L1 (xs0 (q + 1)) (xs0 (q + 2)) (xs0 (q + 3)) hm) (by decide) rfl (by decide) rfl rfl (Nat.le_of_ble_eq_true rfl) dL_law_635 (kL fun v2 M2 L2 q2 => ?_)
  obtain ⟨hv, hI2⟩ := s_ahead (L := L) (L1 := L1) (L2 := L2) h q1 q2
  refine wx_lcmp C dL_law_638 ?_
  refine wx_if_eq C 900 dL_law_639 (by decide) (fun c639 => ?_) (fun c639 => ?_)
  · exact K M2 L2 hI2
  · exact absurd ((lg_cmp_eq _ _).mpr hv) c639
set_option maxHeartbeats 4000000 in
set_option maxRecDepth 100000 in
theorem lw_tellOff {X : g_X} {b Ls q : Nat} {xs0 : Nat → Int32} (C : Cx X cL_law 4 RL (some .boolean) 8) (Z : lwZ X b Ls xs0) {M : g_M} {L : g_L} (hI : IvX M) (hq : q + 5 ≤ Ls) (K : ∀ M2 L2, IvX M2 → wx X M2 L2 900 [(0, .ref b), (1, .ref (X.1.1 + 0)), (2, .ref (X.1.1 + 149)), (3, .int (nI q))] []) : wx X M L 644 [(0, .ref b), (1, .ref (X.1.1 + 0)), (2, .ref (X.1.1 + 149)), (3, .int (nI q))] [] := by
  obtain ⟨n, e, nx, kp, fa, c, A, cs, Es, h⟩ := hI
  refine wx_aload_n C 1 dL_law_644 rfl rfl ?_
  refine wx_aload_n C 0 dL_law_645 rfl rfl ?_
  refine wx_iload_n C 3 dL_law_646 rfl rfl ?_
  refine wx_iconst C 1 dL_law_647 (by decide) ?_
  refine wx_iadd C dL_law_648 ?_
  refine wx_sld C Z (q + 1) dL_law_649 (nI_add q 1) (by omega) ?_
  refine ca_L_83 C (rest := []) (t_X10_tellOff X.1 M L (xs0 (q + 1)) h.1) (by decide) rfl (by decide) rfl rfl (Nat.le_of_ble_eq_true rfl) dL_law_650 (kI fun v1 M1 L1 q1 => ?_)
  have hh : hiE M M1 := (g_tellOff (L := L) (L1 := L1) h q1).1.hi
  have hm := h.m.hi hh
  refine wx_aload_n C 2 dL_law_653 rfl rfl ?_
  refine wx_aload_n C 0 dL_law_654 rfl rfl ?_
  refine wx_iload_n C 3 dL_law_655 rfl rfl ?_
  refine wx_iconst C 1 dL_law_656 (by decide) ?_
  refine wx_iadd C dL_law_657 ?_
  refine wx_sld C Z (q + 1) dL_law_658 (nI_add q 1) (by omega) ?_
  refine ca_L_86 C (rest := [.int v1]) (t_X11_tellOff X.1 M1 L1 (xs0 (q + 1)) hm) (by decide) rfl (by decide) rfl rfl (Nat.le_of_ble_eq_true rfl) dL_law_659 (kI fun v2 M2 L2 q2 => ?_)
  obtain ⟨hv, hI2⟩ := s_tellOff (L := L) (L1 := L1) (L2 := L2) h q1 q2
  refine wx_icmp_eq C 900 dL_law_662 (by decide) (fun c662 => ?_) (fun c662 => ?_)
  · exact K M2 L2 hI2
  · exact absurd hv c662
set_option maxHeartbeats 4000000 in
set_option maxRecDepth 100000 in
theorem lw_fit {X : g_X} {b Ls q : Nat} {xs0 : Nat → Int32} (C : Cx X cL_law 4 RL (some .boolean) 8) (Z : lwZ X b Ls xs0) {M : g_M} {L : g_L} (hI : IvX M) (hq : q + 5 ≤ Ls) (K : ∀ M2 L2, IvX M2 → wx X M2 L2 900 [(0, .ref b), (1, .ref (X.1.1 + 0)), (2, .ref (X.1.1 + 149)), (3, .int (nI q))] []) : wx X M L 667 [(0, .ref b), (1, .ref (X.1.1 + 0)), (2, .ref (X.1.1 + 149)), (3, .int (nI q))] [] := by
  obtain ⟨n, e, nx, kp, fa, c, A, cs, Es, h⟩ := hI
  refine wx_aload_n C 1 dL_law_667 rfl rfl ?_
  refine wx_aload_n C 0 dL_law_668 rfl rfl ?_
  refine wx_iload_n C 3 dL_law_669 rfl rfl ?_
  refine wx_iconst C 1 dL_law_670 (by decide) ?_
  refine wx_iadd C dL_law_671 ?_
  refine wx_sld C Z (q + 1) dL_law_672 (nI_add q 1) (by omega) ?_
  refine wx_aload_n C 0 dL_law_673 rfl rfl ?_
  refine wx_iload_n C 3 dL_law_674 rfl rfl ?_
  refine wx_iconst C 2 dL_law_675 (by decide) ?_
  refine wx_iadd C dL_law_676 ?_
  refine wx_sld C Z (q + 2) dL_law_677 (nI_add q 2) (by omega) ?_
  refine wx_aload_n C 0 dL_law_678 rfl rfl ?_
  refine wx_iload_n C 3 dL_law_679 rfl rfl ?_
  refine wx_iconst C 3 dL_law_680 (by decide) ?_
  refine wx_iadd C dL_law_681 ?_
  refine wx_sld C Z (q + 3) dL_law_682 (nI_add q 3) (by omega) ?_
  refine wx_aload_n C 0 dL_law_683 rfl rfl ?_
  refine wx_iload_n C 3 dL_law_684 rfl rfl ?_
  refine wx_iconst C 4 dL_law_685 (by decide) ?_
  refine wx_iadd C dL_law_686 ?_
  refine wx_sld C Z (q + 4) dL_law_687 (nI_add q 4) (by omega) ?_
  refine ca_L_87 C (rest := []) (t_X10_fit X.1 M L (xs0 (q + 1)) (xs0 (q + 2)) (xs0 (q + 3)) (xs0 (q + 4)) h.1) (by decide) rfl (by decide) rfl rfl (Nat.le_of_ble_eq_true rfl) dL_law_688 (kL fun v1 M1 L1 q1 => ?_)
  have hh : hiE M M1 := (g_fit (L := L) (L1 := L1) h q1).1.hi
  have hm := h.m.hi hh
  refine wx_aload_n C 2 dL_law_691 rfl rfl ?_
  refine wx_aload_n C 0 dL_law_692 rfl rfl ?_
  refine wx_iload_n C 3 dL_law_693 rfl rfl ?_
  refine wx_iconst C 1 dL_law_694 (by decide) ?_
  refine wx_iadd C dL_law_695 ?_
  refine wx_sld C Z (q + 1) dL_law_696 (nI_add q 1) (by omega) ?_
  refine wx_aload_n C 0 dL_law_697 rfl rfl ?_
  refine wx_iload_n C 3 dL_law_698 rfl rfl ?_
  refine wx_iconst C 2 dL_law_699 (by decide) ?_
  refine wx_iadd C dL_law_700 ?_
  refine wx_sld C Z (q + 2) dL_law_701 (nI_add q 2) (by omega) ?_
  refine wx_aload_n C 0 dL_law_702 rfl rfl ?_
  refine wx_iload_n C 3 dL_law_703 rfl rfl ?_
  refine wx_iconst C 3 dL_law_704 (by decide) ?_
  refine wx_iadd C dL_law_705 ?_
  refine wx_sld C Z (q + 3) dL_law_706 (nI_add q 3) (by omega) ?_
  refine wx_aload_n C 0 dL_law_707 rfl rfl ?_
  refine wx_iload_n C 3 dL_law_708 rfl rfl ?_
  refine wx_iconst C 4 dL_law_709 (by decide) ?_
  refine wx_iadd C dL_law_710 ?_
  refine wx_sld C Z (q + 4) dL_law_711 (nI_add q 4) (by omega) ?_
  refine ca_L_91 C (rest := [.long v1]) (t_X11_fit X.1 M1 L1 (xs0 (q + 1)) (xs0 (q + 2)) (xs0 (q + 3)) (xs0 (q + 4)) hm (fun p hp => (szF_le h.2.2.1 hp).2)) (by decide) rfl (by decide) rfl rfl (Nat.le_of_ble_eq_true rfl) dL_law_712 (kL fun v2 M2 L2 q2 => ?_)
  obtain ⟨hv, hI2⟩ := s_fit (L := L) (L1 := L1) (L2 := L2) h q1 q2
  refine wx_lcmp C dL_law_715 ?_
  refine wx_if_eq C 900 dL_law_716 (by decide) (fun c716 => ?_) (fun c716 => ?_)
  · exact K M2 L2 hI2
  · exact absurd ((lg_cmp_eq _ _).mpr hv) c716
set_option maxHeartbeats 4000000 in
set_option maxRecDepth 100000 in
theorem lw_miss {X : g_X} {b Ls q : Nat} {xs0 : Nat → Int32} (C : Cx X cL_law 4 RL (some .boolean) 8) (Z : lwZ X b Ls xs0) {M : g_M} {L : g_L} (hI : IvX M) (hq : q + 5 ≤ Ls) (K : ∀ M2 L2, IvX M2 → wx X M2 L2 900 [(0, .ref b), (1, .ref (X.1.1 + 0)), (2, .ref (X.1.1 + 149)), (3, .int (nI q))] []) : wx X M L 721 [(0, .ref b), (1, .ref (X.1.1 + 0)), (2, .ref (X.1.1 + 149)), (3, .int (nI q))] [] := by
  obtain ⟨n, e, nx, kp, fa, c, A, cs, Es, h⟩ := hI
  refine wx_aload_n C 1 dL_law_721 rfl rfl ?_
  refine wx_aload_n C 0 dL_law_722 rfl rfl ?_
  refine wx_iload_n C 3 dL_law_723 rfl rfl ?_
  refine wx_iconst C 1 dL_law_724 (by decide) ?_
  refine wx_iadd C dL_law_725 ?_
  refine wx_sld C Z (q + 1) dL_law_726 (nI_add q 1) (by omega) ?_
  refine wx_aload_n C 0 dL_law_727 rfl rfl ?_
  refine wx_iload_n C 3 dL_law_728 rfl rfl ?_
  refine wx_iconst C 2 dL_law_729 (by decide) ?_
  refine wx_iadd C dL_law_730 ?_
  refine wx_sld C Z (q + 2) dL_law_731 (nI_add q 2) (by omega) ?_
  refine wx_aload_n C 0 dL_law_732 rfl rfl ?_
  refine wx_iload_n C 3 dL_law_733 rfl rfl ?_
  refine wx_iconst C 3 dL_law_734 (by decide) ?_
  refine wx_iadd C dL_law_735 ?_
  refine wx_sld C Z (q + 3) dL_law_736 (nI_add q 3) (by omega) ?_
  refine wx_aload_n C 0 dL_law_737 rfl rfl ?_
  refine wx_iload_n C 3 dL_law_738 rfl rfl ?_
  refine wx_iconst C 4 dL_law_739 (by decide) ?_
  refine wx_iadd C dL_law_740 ?_
  refine wx_sld C Z (q + 4) dL_law_741 (nI_add q 4) (by omega) ?_
  refine ca_L_92 C (rest := []) (t_X10_miss X.1 M L (xs0 (q + 1)) (xs0 (q + 2)) (xs0 (q + 3)) (xs0 (q + 4)) h.1) (by decide) rfl (by decide) rfl rfl (Nat.le_of_ble_eq_true rfl) dL_law_742 (kL fun v1 M1 L1 q1 => ?_)
  have hh : hiE M M1 := (g_miss (L := L) (L1 := L1) h q1).1.hi
  have hm := h.m.hi hh
  refine wx_aload_n C 2 dL_law_745 rfl rfl ?_
  refine wx_aload_n C 0 dL_law_746 rfl rfl ?_
  refine wx_iload_n C 3 dL_law_747 rfl rfl ?_
  refine wx_iconst C 1 dL_law_748 (by decide) ?_
  refine wx_iadd C dL_law_749 ?_
  refine wx_sld C Z (q + 1) dL_law_750 (nI_add q 1) (by omega) ?_
  refine wx_aload_n C 0 dL_law_751 rfl rfl ?_
  refine wx_iload_n C 3 dL_law_752 rfl rfl ?_
  refine wx_iconst C 2 dL_law_753 (by decide) ?_
  refine wx_iadd C dL_law_754 ?_
  refine wx_sld C Z (q + 2) dL_law_755 (nI_add q 2) (by omega) ?_
  refine wx_aload_n C 0 dL_law_756 rfl rfl ?_
  refine wx_iload_n C 3 dL_law_757 rfl rfl ?_
  refine wx_iconst C 3 dL_law_758 (by decide) ?_
  refine wx_iadd C dL_law_759 ?_
  refine wx_sld C Z (q + 3) dL_law_760 (nI_add q 3) (by omega) ?_
  refine wx_aload_n C 0 dL_law_761 rfl rfl ?_
  refine wx_iload_n C 3 dL_law_762 rfl rfl ?_
  refine wx_iconst C 4 dL_law_763 (by decide) ?_
  refine wx_iadd C dL_law_764 ?_
  refine wx_sld C Z (q + 4) dL_law_765 (nI_add q 4) (by omega) ?_
  refine ca_L_95 C (rest := [.long v1]) (t_X11_miss X.1 M1 L1 (xs0 (q + 1)) (xs0 (q + 2)) (xs0 (q + 3)) (xs0 (q + 4)) hm (fun p hp => (szF_le h.2.2.1 hp).2)) (by decide) rfl (by decide) rfl rfl (Nat.le_of_ble_eq_true rfl) dL_law_766 (kL fun v2 M2 L2 q2 => ?_)
  obtain ⟨hv, hI2⟩ := s_miss (L := L) (L1 := L1) (L2 := L2) h q1 q2
  refine wx_lcmp C dL_law_769 ?_
  refine wx_if_eq C 900 dL_law_770 (by decide) (fun c770 => ?_) (fun c770 => ?_)
  · exact K M2 L2 hI2
  · exact absurd ((lg_cmp_eq _ _).mpr hv) c770
set_option maxHeartbeats 4000000 in
set_option maxRecDepth 100000 in
theorem lw_part {X : g_X} {b Ls q : Nat} {xs0 : Nat → Int32} (C : Cx X cL_law 4 RL (some .boolean) 8) (Z : lwZ X b Ls xs0) {M : g_M} {L : g_L} (hI : IvX M) (hq : q + 5 ≤ Ls) (K : ∀ M2 L2, IvX M2 → wx X M2 L2 900 [(0, .ref b), (1, .ref (X.1.1 + 0)), (2, .ref (X.1.1 + 149)), (3, .int (nI q))] []) : wx X M L 775 [(0, .ref b), (1, .ref (X.1.1 + 0)), (2, .ref (X.1.1 + 149)), (3, .int (nI q))] [] := by
  obtain ⟨n, e, nx, kp, fa, c, A, cs, Es, h⟩ := hI
  refine wx_aload_n C 1 dL_law_775 rfl rfl ?_
  refine wx_aload_n C 0 dL_law_776 rfl rfl ?_
  refine wx_iload_n C 3 dL_law_777 rfl rfl ?_
  refine wx_iconst C 1 dL_law_778 (by decide) ?_
  refine wx_iadd C dL_law_779 ?_
  refine wx_sld C Z (q + 1) dL_law_780 (nI_add q 1) (by omega) ?_
  refine ca_L_96 C (rest := []) (t_X10_part X.1 M L (xs0 (q + 1)) h.1) (by decide) rfl (by decide) rfl rfl (Nat.le_of_ble_eq_true rfl) dL_law_781 (kI fun v1 M1 L1 q1 => ?_)
  have hh : hiE M M1 := h_part (L := L) (L1 := L1) h q1
  have hm := h.m.hi hh
  refine wx_aload_n C 2 dL_law_784 rfl rfl ?_
  refine wx_aload_n C 0 dL_law_785 rfl rfl ?_
  refine wx_iload_n C 3 dL_law_786 rfl rfl ?_
  refine wx_iconst C 1 dL_law_787 (by decide) ?_
  refine wx_iadd C dL_law_788 ?_
  refine wx_sld C Z (q + 1) dL_law_789 (nI_add q 1) (by omega) ?_
  refine ca_L_99 C (rest := [.int v1]) (t_X11_part X.1 M1 L1 (xs0 (q + 1)) hm) (by decide) rfl (by decide) rfl rfl (Nat.le_of_ble_eq_true rfl) dL_law_790 (kI fun v2 M2 L2 q2 => ?_)
  obtain ⟨hv, hI2⟩ := s_part (L := L) (L1 := L1) (L2 := L2) h q1 q2
  refine wx_icmp_eq C 900 dL_law_793 (by decide) (fun c793 => ?_) (fun c793 => ?_)
  · exact K M2 L2 hI2
  · exact absurd hv c793
set_option maxHeartbeats 4000000 in
set_option maxRecDepth 100000 in
theorem lw_same {X : g_X} {b Ls q : Nat} {xs0 : Nat → Int32} (C : Cx X cL_law 4 RL (some .boolean) 8) (Z : lwZ X b Ls xs0) {M : g_M} {L : g_L} (hI : IvX M) (hq : q + 5 ≤ Ls) (K : ∀ M2 L2, IvX M2 → wx X M2 L2 900 [(0, .ref b), (1, .ref (X.1.1 + 0)), (2, .ref (X.1.1 + 149)), (3, .int (nI q))] []) : wx X M L 798 [(0, .ref b), (1, .ref (X.1.1 + 0)), (2, .ref (X.1.1 + 149)), (3, .int (nI q))] [] := by
  obtain ⟨n, e, nx, kp, fa, c, A, cs, Es, h⟩ := hI
  refine wx_aload_n C 1 dL_law_798 rfl rfl ?_
  refine wx_aload_n C 0 dL_law_799 rfl rfl ?_
  refine wx_iload_n C 3 dL_law_800 rfl rfl ?_
  refine wx_iconst C 1 dL_law_801 (by decide) ?_
  refine wx_iadd C dL_law_802 ?_
  refine wx_sld C Z (q + 1) dL_law_803 (nI_add q 1) (by omega) ?_
  refine wx_aload_n C 0 dL_law_804 rfl rfl ?_
  refine wx_iload_n C 3 dL_law_805 rfl rfl ?_
  refine wx_iconst C 2 dL_law_806 (by decide) ?_
  refine wx_iadd C dL_law_807 ?_
  refine wx_sld C Z (q + 2) dL_law_808 (nI_add q 2) (by omega) ?_
  refine ca_L_100 C (rest := []) (t_X10_same X.1 M L (xs0 (q + 1)) (xs0 (q + 2)) h.1) (by decide) rfl (by decide) rfl rfl (Nat.le_of_ble_eq_true rfl) dL_law_809 (kI fun v1 M1 L1 q1 => ?_)
  have hh : hiE M M1 := (g_same (L := L) (L1 := L1) h q1).1.hi
  have hm := h.m.hi hh
  refine wx_aload_n C 2 dL_law_812 rfl rfl ?_
  refine wx_aload_n C 0 dL_law_813 rfl rfl ?_
  refine wx_iload_n C 3 dL_law_814 rfl rfl ?_
  refine wx_iconst C 1 dL_law_815 (by decide) ?_
  refine wx_iadd C dL_law_816 ?_
  refine wx_sld C Z (q + 1) dL_law_817 (nI_add q 1) (by omega) ?_
  refine wx_aload_n C 0 dL_law_818 rfl rfl ?_
  refine wx_iload_n C 3 dL_law_819 rfl rfl ?_
  refine wx_iconst C 2 dL_law_820 (by decide) ?_
  refine wx_iadd C dL_law_821 ?_
  refine wx_sld C Z (q + 2) dL_law_822 (nI_add q 2) (by omega) ?_
  refine ca_L_103 C (rest := [.int v1]) (t_X11_same X.1 M1 L1 (xs0 (q + 1)) (xs0 (q + 2)) hm) (by decide) rfl (by decide) rfl rfl (Nat.le_of_ble_eq_true rfl) dL_law_823 (kI fun v2 M2 L2 q2 => ?_)
  obtain ⟨hv, hI2⟩ := s_same (L := L) (L1 := L1) (L2 := L2) h q1 q2
  refine wx_icmp_eq C 900 dL_law_826 (by decide) (fun c826 => ?_) (fun c826 => ?_)
  · exact K M2 L2 hI2
  · exact absurd hv c826
set_option maxHeartbeats 4000000 in
set_option maxRecDepth 100000 in
theorem lw_merge {X : g_X} {b Ls q : Nat} {xs0 : Nat → Int32} (C : Cx X cL_law 4 RL (some .boolean) 8) (Z : lwZ X b Ls xs0) {M : g_M} {L : g_L} (hI : IvX M) (hq : q + 5 ≤ Ls) (K : ∀ M2 L2, IvX M2 → wx X M2 L2 900 [(0, .ref b), (1, .ref (X.1.1 + 0)), (2, .ref (X.1.1 + 149)), (3, .int (nI q))] []) : wx X M L 831 [(0, .ref b), (1, .ref (X.1.1 + 0)), (2, .ref (X.1.1 + 149)), (3, .int (nI q))] [] := by
  obtain ⟨n, e, nx, kp, fa, c, A, cs, Es, h⟩ := hI
  refine wx_aload_n C 1 dL_law_831 rfl rfl ?_
  refine wx_aload_n C 0 dL_law_832 rfl rfl ?_
  refine wx_iload_n C 3 dL_law_833 rfl rfl ?_
  refine wx_iconst C 1 dL_law_834 (by decide) ?_
  refine wx_iadd C dL_law_835 ?_
  refine wx_sld C Z (q + 1) dL_law_836 (nI_add q 1) (by omega) ?_
  refine wx_aload_n C 0 dL_law_837 rfl rfl ?_
  refine wx_iload_n C 3 dL_law_838 rfl rfl ?_
  refine wx_iconst C 2 dL_law_839 (by decide) ?_
  refine wx_iadd C dL_law_840 ?_
  refine wx_sld C Z (q + 2) dL_law_841 (nI_add q 2) (by omega) ?_
  refine ca_L_104 C (rest := []) (t_X10_merge X.1 M L (xs0 (q + 1)) (xs0 (q + 2)) h.1) (by decide) rfl (by decide) rfl rfl (Nat.le_of_ble_eq_true rfl) dL_law_842 (kI fun v1 M1 L1 q1 => ?_)
  have hh : hiE M M1 := h_merge (L := L) (L1 := L1) h q1
  have hm := h.m.hi hh
  refine wx_aload_n C 2 dL_law_845 rfl rfl ?_
  refine wx_aload_n C 0 dL_law_846 rfl rfl ?_
  refine wx_iload_n C 3 dL_law_847 rfl rfl ?_
  refine wx_iconst C 1 dL_law_848 (by decide) ?_
  refine wx_iadd C dL_law_849 ?_
  refine wx_sld C Z (q + 1) dL_law_850 (nI_add q 1) (by omega) ?_
  refine wx_aload_n C 0 dL_law_851 rfl rfl ?_
  refine wx_iload_n C 3 dL_law_852 rfl rfl ?_
  refine wx_iconst C 2 dL_law_853 (by decide) ?_
  refine wx_iadd C dL_law_854 ?_
  refine wx_sld C Z (q + 2) dL_law_855 (nI_add q 2) (by omega) ?_
  refine ca_L_107 C (rest := [.int v1]) (t_X11_merge X.1 M1 L1 (xs0 (q + 1)) (xs0 (q + 2)) hm) (by decide) rfl (by decide) rfl rfl (Nat.le_of_ble_eq_true rfl) dL_law_856 (kI fun v2 M2 L2 q2 => ?_)
  obtain ⟨hv, hI2⟩ := s_merge (L := L) (L1 := L1) (L2 := L2) h q1 q2
  refine wx_icmp_eq C 900 dL_law_859 (by decide) (fun c859 => ?_) (fun c859 => ?_)
  · exact K M2 L2 hI2
  · exact absurd hv c859
set_option maxHeartbeats 4000000 in
set_option maxRecDepth 100000 in
theorem lw_undo {X : g_X} {b Ls q : Nat} {xs0 : Nat → Int32} (C : Cx X cL_law 4 RL (some .boolean) 8) (Z : lwZ X b Ls xs0) {M : g_M} {L : g_L} (hI : IvX M) (hq : q + 5 ≤ Ls) (K : ∀ M2 L2, IvX M2 → wx X M2 L2 900 [(0, .ref b), (1, .ref (X.1.1 + 0)), (2, .ref (X.1.1 + 149)), (3, .int (nI q))] []) : wx X M L 864 [(0, .ref b), (1, .ref (X.1.1 + 0)), (2, .ref (X.1.1 + 149)), (3, .int (nI q))] [] := by
  obtain ⟨n, e, nx, kp, fa, c, A, cs, Es, h⟩ := hI
  refine wx_aload_n C 1 dL_law_864 rfl rfl ?_
  refine ca_L_108 C (rest := []) (t_X10_undo X.1 M L h.1 rfl h.actU) (by decide) rfl (by decide) rfl rfl (Nat.le_of_ble_eq_true rfl) dL_law_865 (kI fun v1 M1 L1 q1 => ?_)
  have hh : hiE M M1 := h_undo (L := L) (L1 := L1) h q1
  have hm := h.m.hi hh
  refine wx_aload_n C 2 dL_law_868 rfl rfl ?_
  refine ca_L_111 C (rest := [.int v1]) (t_X11_undo X.1 M1 L1 hm (h.snP hh)) (by decide) rfl (by decide) rfl rfl (Nat.le_of_ble_eq_true rfl) dL_law_869 (kI fun v2 M2 L2 q2 => ?_)
  obtain ⟨hv, hI2⟩ := s_undo (L := L) (L1 := L1) (L2 := L2) h q1 q2
  refine wx_icmp_eq C 900 dL_law_872 (by decide) (fun c872 => ?_) (fun c872 => ?_)
  · exact K M2 L2 hI2
  · exact absurd hv c872
set_option maxHeartbeats 4000000 in
set_option maxRecDepth 100000 in
theorem lw_count {X : g_X} {b Ls q : Nat} {xs0 : Nat → Int32} (C : Cx X cL_law 4 RL (some .boolean) 8) (Z : lwZ X b Ls xs0) {M : g_M} {L : g_L} (hI : IvX M) (hq : q + 5 ≤ Ls) (K : ∀ M2 L2, IvX M2 → wx X M2 L2 900 [(0, .ref b), (1, .ref (X.1.1 + 0)), (2, .ref (X.1.1 + 149)), (3, .int (nI q))] []) : wx X M L 877 [(0, .ref b), (1, .ref (X.1.1 + 0)), (2, .ref (X.1.1 + 149)), (3, .int (nI q))] [] := by
  obtain ⟨n, e, nx, kp, fa, c, A, cs, Es, h⟩ := hI
  refine wx_aload_n C 1 dL_law_877 rfl rfl ?_
  refine wx_aload_n C 0 dL_law_878 rfl rfl ?_
  refine wx_iload_n C 3 dL_law_879 rfl rfl ?_
  refine wx_iconst C 1 dL_law_880 (by decide) ?_
  refine wx_iadd C dL_law_881 ?_
  refine wx_sld C Z (q + 1) dL_law_882 (nI_add q 1) (by omega) ?_
  refine ca_L_112 C (rest := []) (t_X10_count X.1 M L (xs0 (q + 1)) h.1) (by decide) rfl (by decide) rfl rfl (Nat.le_of_ble_eq_true rfl) dL_law_883 (kI fun v1 M1 L1 q1 => ?_)
  have hh : hiE M M1 := (g_count (L := L) (L1 := L1) h q1).1.hi
  have hm := h.m.hi hh
  refine wx_aload_n C 2 dL_law_886 rfl rfl ?_
  refine wx_aload_n C 0 dL_law_887 rfl rfl ?_
  refine wx_iload_n C 3 dL_law_888 rfl rfl ?_
  refine wx_iconst C 1 dL_law_889 (by decide) ?_
  refine wx_iadd C dL_law_890 ?_
  refine wx_sld C Z (q + 1) dL_law_891 (nI_add q 1) (by omega) ?_
  refine ca_L_115 C (rest := [.int v1]) (t_X11_count X.1 M1 L1 (xs0 (q + 1)) hm) (by decide) rfl (by decide) rfl rfl (Nat.le_of_ble_eq_true rfl) dL_law_892 (kI fun v2 M2 L2 q2 => ?_)
  obtain ⟨hv, hI2⟩ := s_count (L := L) (L1 := L1) (L2 := L2) h q1 q2
  refine wx_icmp_eq C 900 dL_law_895 (by decide) (fun c895 => ?_) (fun c895 => ?_)
  · exact K M2 L2 hI2
  · exact absurd hv c895
