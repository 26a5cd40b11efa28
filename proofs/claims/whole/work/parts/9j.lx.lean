/-! LAW: the loop -/
theorem lcmp_self (x : Int64) : lg_cmp x x = 0 := by unfold lg_cmp; simp
theorem and15 (x : Int32) : ∃ k, k < 16 ∧ x &&& nI 15 = nI k := ⟨_, Nat.mod_lt _ (by decide), pk_and x 4 (by decide)⟩
section LX
variable {p : Program} {l : Launch} {e : Env} {s : State} {m : MethodId} {args : Array Value} {below : List Frame} {meth : Method} {c : Code} {G : jG} {Q : State → Prop} {b L : Nat} {xs : Nat → Int32}
set_option maxHeartbeats 4000000 in
set_option maxRecDepth 100000 in
theorem lc_0 (C : jX0 p l room_1 s m args meth c G cL_law 8 RL ret) (N : jNC s) (hst : l.stackTraces = false) (hX : va_X b L xs s s.heap) (hb : b < s.heap.size) (hbG : b < G.1) (hG : G.2.1 900 = b) (hL : L ≤ 896) {d i : Nat} (hnext : ∀ (a5 a6 a7 : Option Value) (M : jMem) (er : Nat) (f : Nat → Int64) (n : Option Nat) (kc ks : Nat), lE er f n M → kc + d ≤ room_1.cells → ks + 6 * d ≤ room_1.slots → Jq p l e room_1 s m args below meth c G 8 Q 1011 [some (.ref 2900), some (.ref 0), some (.ref 1000), some (.ref 1021), some (.int (nI i)), a5, a6, a7] [] M kc ks) {er nz kc ks : Nat} {f : Nat → Int64} {M : jMem} (hE : lE er f (some nz) M) (hi : i + 14 ≤ L) (hc : kc + (d + 1) ≤ room_1.cells) (hs : ks + 6 * (d + 1) ≤ room_1.slots) : Jq p l e room_1 s m args below meth c G 8 Q 100 [some (.ref 2900), some (.ref 0), some (.ref 1000), some (.ref 1021), some (.int (nI i)), none, none, none] [] M kc ks := by
  refine Q_aload_n (pc := 100) C dL_law_100 rfl rfl ?_
  refine Q_aload_n (pc := 101) C dL_law_101 rfl rfl ?_
  refine Q_iload (pc := 102) C dL_law_102 rfl ?_
  refine Q_iconst (pc := 104) (v := nI 1) C dL_law_104 (by decide) ?_
  refine Q_iaddN (pc := 105) C dL_law_105 ?_
  refine Q_sld (pc := 106) C hX hb hbG hG (by omega) (by omega) dL_law_106 ?_
  refine Q_aload_n (pc := 107) C dL_law_107 rfl rfl ?_
  refine Q_iload (pc := 108) C dL_law_108 rfl ?_
  refine Q_iconst (pc := 110) (v := nI 2) C dL_law_110 (by decide) ?_
  refine Q_iaddN (pc := 111) C dL_law_111 ?_
  refine Q_sld (pc := 112) C hX hb hbG hG (by omega) (by omega) dL_law_112 ?_
  refine Q_aload_n (pc := 113) C dL_law_113 rfl rfl ?_
  refine Q_iload (pc := 114) C dL_law_114 rfl ?_
  refine Q_iconst (pc := 116) (v := nI 3) C dL_law_116 (by decide) ?_
  refine Q_iaddN (pc := 117) C dL_law_117 ?_
  refine Q_sld (pc := 118) C hX hb hbG hG (by omega) (by omega) dL_law_118 ?_
  refine Q_aload_n (pc := 119) C dL_law_119 rfl rfl ?_
  refine Q_iload (pc := 120) C dL_law_120 rfl ?_
  refine Q_iconst (pc := 122) (v := nI 4) C dL_law_122 (by decide) ?_
  refine Q_iaddN (pc := 123) C dL_law_123 ?_
  refine Q_sld (pc := 124) C hX hb hbG hG (by omega) (by omega) dL_law_124 ?_
  refine Q_aload_n (pc := 125) C dL_law_125 rfl rfl ?_
  refine Q_iload (pc := 126) C dL_law_126 rfl ?_
  refine Q_iconst (pc := 128) (v := nI 5) C dL_law_128 (by decide) ?_
  refine Q_iaddN (pc := 129) C dL_law_129 ?_
  refine Q_sld (pc := 130) C hX hb hbG hG (by omega) (by omega) dL_law_130 ?_
  refine Q_aload_n (pc := 131) C dL_law_131 rfl rfl ?_
  refine Q_callSw (pc := 132) (n := 7) (st := []) C N dL_law_132 hc_feed hl_feed hs_feed ii_L ⟨by decide, by decide, by decide +kernel⟩ (st_feed hst hE _ _ _ _ _) (by rintro E M9 ⟨k9, M1, M2, b9, f9, n9, h9, -⟩; cases h9) ⟨jle rfl, jle rfl⟩ rfl rfl (jle rfl) ⟨by show kc + 1 ≤ room_1.cells; omega, by show ks + 6 ≤ room_1.slots; omega⟩ (fun c1 s1 v9 M9 hc1 hs1 h9 => ?_)
  obtain ⟨k, M1, M2, b9, f9, n9, h9, hk, ⟨fs9, h1000⟩, K2, hE2, hv⟩ := h9
  cases h9
  refine Q_istore (pc := 135) C dL_law_135 (jlt rfl) rfl ?_
  dsimp only [List.set]
  refine Q_aload_n (pc := 137) C dL_law_137 rfl rfl ?_
  refine Q_aload_n (pc := 138) C dL_law_138 rfl rfl ?_
  refine Q_iload (pc := 139) C dL_law_139 rfl ?_
  refine Q_iconst (pc := 141) (v := nI 1) C dL_law_141 (by decide) ?_
  refine Q_iaddN (pc := 142) C dL_law_142 ?_
  refine Q_sld (pc := 143) C hX hb hbG hG (by omega) (by omega) dL_law_143 ?_
  refine Q_aload_n (pc := 144) C dL_law_144 rfl rfl ?_
  refine Q_iload (pc := 145) C dL_law_145 rfl ?_
  refine Q_iconst (pc := 147) (v := nI 2) C dL_law_147 (by decide) ?_
  refine Q_iaddN (pc := 148) C dL_law_148 ?_
  refine Q_sld (pc := 149) C hX hb hbG hG (by omega) (by omega) dL_law_149 ?_
  refine Q_aload_n (pc := 150) C dL_law_150 rfl rfl ?_
  refine Q_iload (pc := 151) C dL_law_151 rfl ?_
  refine Q_iconst (pc := 153) (v := nI 3) C dL_law_153 (by decide) ?_
  refine Q_iaddN (pc := 154) C dL_law_154 ?_
  refine Q_sld (pc := 155) C hX hb hbG hG (by omega) (by omega) dL_law_155 ?_
  refine Q_aload_n (pc := 156) C dL_law_156 rfl rfl ?_
  refine Q_iload (pc := 157) C dL_law_157 rfl ?_
  refine Q_iconst (pc := 159) (v := nI 4) C dL_law_159 (by decide) ?_
  refine Q_iaddN (pc := 160) C dL_law_160 ?_
  refine Q_sld (pc := 161) C hX hb hbG hG (by omega) (by omega) dL_law_161 ?_
  refine Q_aload_n (pc := 162) C dL_law_162 rfl rfl ?_
  refine Q_iload (pc := 163) C dL_law_163 rfl ?_
  refine Q_iconst (pc := 165) (v := nI 5) C dL_law_165 (by decide) ?_
  refine Q_iaddN (pc := 166) C dL_law_166 ?_
  refine Q_sld (pc := 167) C hX hb hbG hG (by omega) (by omega) dL_law_167 ?_
  refine Q_callV1 (pc := 168) C dL_law_168 m_L_59 K2 ⟨jle rfl, jle rfl⟩ h1000 rfl rfl rfl rfl (jle rfl) ⟨by show kc + c1 ≤ room_1.cells; omega, by show ks + s1 ≤ room_1.slots; omega⟩ ?_
  refine Q_istore (pc := 171) C dL_law_171 (jlt rfl) rfl ?_
  dsimp only [List.set]
  refine Q_aload_n (pc := 173) C dL_law_173 rfl rfl ?_
  obtain ⟨fs2, h2⟩ := hE2.r1000
  refine Q_callV1 (pc := 174) C dL_law_174 m_L_60 (hE2.thr (l := l) (G := G)) ⟨jle rfl, jle rfl⟩ h2 rfl rfl rfl rfl (jle rfl) ⟨by show kc + c1 ≤ room_1.cells; omega, by show ks + s1 ≤ room_1.slots; omega⟩ ?_
  refine Q_iload (pc := 177) C dL_law_177 rfl ?_
  refine Q_icmp_eqN (pc := 179) (tgt := 184) C dL_law_179 rfl (by omega) (by omega) (fun _ => ?_) (fun h => absurd rfl h)
  refine Q_iload (pc := 184) C dL_law_184 rfl ?_
  refine Q_if_neN (pc := 186) (tgt := 201) C dL_law_186 rfl (by omega) (fun _ => ?_) (fun hk0 => ?_)
  · refine Q_goto (pc := 201) (tgt := 1011) C dL_law_201 rfl ?_
    exact hnext _ _ _ M2 k f9 n9 (kc + c1) (ks + s1) hE2 (by omega) (by omega)
  have hv := hv hk0
  refine Q_aload_n (pc := 189) C dL_law_189 rfl rfl ?_
  refine Q_iconst (pc := 190) (v := nI 0) C dL_law_190 (by decide) ?_
  refine Q_laldN (pc := 191) C dL_law_191 hE2.r1021 (by omega) (by omega) ?_
  refine Q_iload (pc := 192) C dL_law_192 rfl ?_
  refine Q_i2l (pc := 194) C dL_law_194 rfl ?_
  refine Q_lcmp (pc := 195) C dL_law_195 ?_
  refine Q_if_eq (pc := 196) (tgt := 201) C dL_law_196 rfl (fun _ => ?_) (fun h => absurd (by rw [hv]; exact lcmp_self _) h)
  refine Q_goto (pc := 201) (tgt := 1011) C dL_law_201 rfl ?_
  exact hnext _ _ _ M2 k f9 n9 (kc + c1) (ks + s1) hE2 (by omega) (by omega)
set_option maxHeartbeats 4000000 in
set_option maxRecDepth 100000 in
theorem lc_1 (C : jX0 p l room_1 s m args meth c G cL_law 8 RL ret) (N : jNC s) (hst : l.stackTraces = false) (hX : va_X b L xs s s.heap) (hb : b < s.heap.size) (hbG : b < G.1) (hG : G.2.1 900 = b) (hL : L ≤ 896) {d i : Nat} (hnext : ∀ (a5 a6 a7 : Option Value) (M : jMem) (er : Nat) (f : Nat → Int64) (n : Option Nat) (kc ks : Nat), lE er f n M → kc + d ≤ room_1.cells → ks + 6 * d ≤ room_1.slots → Jq p l e room_1 s m args below meth c G 8 Q 1011 [some (.ref 2900), some (.ref 0), some (.ref 1000), some (.ref 1021), some (.int (nI i)), a5, a6, a7] [] M kc ks) {er nz kc ks : Nat} {f : Nat → Int64} {M : jMem} (hE : lE er f (some nz) M) (hi : i + 14 ≤ L) (hc : kc + (d + 1) ≤ room_1.cells) (hs : ks + 6 * (d + 1) ≤ room_1.slots) : Jq p l e room_1 s m args below meth c G 8 Q 204 [some (.ref 2900), some (.ref 0), some (.ref 1000), some (.ref 1021), some (.int (nI i)), none, none, none] [] M kc ks := by
  refine Q_aload_n (pc := 204) C dL_law_204 rfl rfl ?_
  refine Q_aload_n (pc := 205) C dL_law_205 rfl rfl ?_
  refine Q_iload (pc := 206) C dL_law_206 rfl ?_
  refine Q_iconst (pc := 208) (v := nI 1) C dL_law_208 (by decide) ?_
  refine Q_iaddN (pc := 209) C dL_law_209 ?_
  refine Q_sld (pc := 210) C hX hb hbG hG (by omega) (by omega) dL_law_210 ?_
  refine Q_aload_n (pc := 211) C dL_law_211 rfl rfl ?_
  refine Q_callSw (pc := 212) (n := 3) (st := []) C N dL_law_212 hc_describe hl_describe hs_describe ii_L ⟨by decide, by decide, by decide +kernel⟩ (st_describe hst hE _) (by rintro E M9 ⟨k9, M1, M2, b9, f9, n9, h9, -⟩; cases h9) ⟨jle rfl, jle rfl⟩ rfl rfl (jle rfl) ⟨by show kc + 1 ≤ room_1.cells; omega, by show ks + 6 ≤ room_1.slots; omega⟩ (fun c1 s1 v9 M9 hc1 hs1 h9 => ?_)
  obtain ⟨k, M1, M2, b9, f9, n9, h9, hk, ⟨fs9, h1000⟩, K2, hE2, hv⟩ := h9
  cases h9
  refine Q_istore (pc := 215) C dL_law_215 (jlt rfl) rfl ?_
  dsimp only [List.set]
  refine Q_aload_n (pc := 217) C dL_law_217 rfl rfl ?_
  refine Q_aload_n (pc := 218) C dL_law_218 rfl rfl ?_
  refine Q_iload (pc := 219) C dL_law_219 rfl ?_
  refine Q_iconst (pc := 221) (v := nI 1) C dL_law_221 (by decide) ?_
  refine Q_iaddN (pc := 222) C dL_law_222 ?_
  refine Q_sld (pc := 223) C hX hb hbG hG (by omega) (by omega) dL_law_223 ?_
  refine Q_callV1 (pc := 224) C dL_law_224 m_L_67 K2 ⟨jle rfl, jle rfl⟩ h1000 rfl rfl rfl rfl (jle rfl) ⟨by show kc + c1 ≤ room_1.cells; omega, by show ks + s1 ≤ room_1.slots; omega⟩ ?_
  refine Q_istore (pc := 227) C dL_law_227 (jlt rfl) rfl ?_
  dsimp only [List.set]
  refine Q_aload_n (pc := 229) C dL_law_229 rfl rfl ?_
  obtain ⟨fs2, h2⟩ := hE2.r1000
  refine Q_callV1 (pc := 230) C dL_law_230 m_L_60 (hE2.thr (l := l) (G := G)) ⟨jle rfl, jle rfl⟩ h2 rfl rfl rfl rfl (jle rfl) ⟨by show kc + c1 ≤ room_1.cells; omega, by show ks + s1 ≤ room_1.slots; omega⟩ ?_
  refine Q_iload (pc := 233) C dL_law_233 rfl ?_
  refine Q_icmp_eqN (pc := 235) (tgt := 240) C dL_law_235 rfl (by omega) (by omega) (fun _ => ?_) (fun h => absurd rfl h)
  refine Q_iload (pc := 240) C dL_law_240 rfl ?_
  refine Q_if_neN (pc := 242) (tgt := 257) C dL_law_242 rfl (by omega) (fun _ => ?_) (fun hk0 => ?_)
  · refine Q_goto (pc := 257) (tgt := 1011) C dL_law_257 rfl ?_
    exact hnext _ _ _ M2 k f9 n9 (kc + c1) (ks + s1) hE2 (by omega) (by omega)
  have hv := hv hk0
  refine Q_aload_n (pc := 245) C dL_law_245 rfl rfl ?_
  refine Q_iconst (pc := 246) (v := nI 0) C dL_law_246 (by decide) ?_
  refine Q_laldN (pc := 247) C dL_law_247 hE2.r1021 (by omega) (by omega) ?_
  refine Q_iload (pc := 248) C dL_law_248 rfl ?_
  refine Q_i2l (pc := 250) C dL_law_250 rfl ?_
  refine Q_lcmp (pc := 251) C dL_law_251 ?_
  refine Q_if_eq (pc := 252) (tgt := 257) C dL_law_252 rfl (fun _ => ?_) (fun h => absurd (by rw [hv]; exact lcmp_self _) h)
  refine Q_goto (pc := 257) (tgt := 1011) C dL_law_257 rfl ?_
  exact hnext _ _ _ M2 k f9 n9 (kc + c1) (ks + s1) hE2 (by omega) (by omega)
set_option maxHeartbeats 4000000 in
set_option maxRecDepth 100000 in
theorem lc_2 (C : jX0 p l room_1 s m args meth c G cL_law 8 RL ret) (N : jNC s) (hst : l.stackTraces = false) (hX : va_X b L xs s s.heap) (hb : b < s.heap.size) (hbG : b < G.1) (hG : G.2.1 900 = b) (hL : L ≤ 896) {d i : Nat} (hnext : ∀ (a5 a6 a7 : Option Value) (M : jMem) (er : Nat) (f : Nat → Int64) (n : Option Nat) (kc ks : Nat), lE er f n M → kc + d ≤ room_1.cells → ks + 6 * d ≤ room_1.slots → Jq p l e room_1 s m args below meth c G 8 Q 1011 [some (.ref 2900), some (.ref 0), some (.ref 1000), some (.ref 1021), some (.int (nI i)), a5, a6, a7] [] M kc ks) {er nz kc ks : Nat} {f : Nat → Int64} {M : jMem} (hE : lE er f (some nz) M) (hi : i + 14 ≤ L) (hc : kc + (d + 1) ≤ room_1.cells) (hs : ks + 6 * (d + 1) ≤ room_1.slots) : Jq p l e room_1 s m args below meth c G 8 Q 260 [some (.ref 2900), some (.ref 0), some (.ref 1000), some (.ref 1021), some (.int (nI i)), none, none, none] [] M kc ks := by
  refine Q_aload_n (pc := 260) C dL_law_260 rfl rfl ?_
  refine Q_aload_n (pc := 261) C dL_law_261 rfl rfl ?_
  refine Q_iload (pc := 262) C dL_law_262 rfl ?_
  refine Q_iconst (pc := 264) (v := nI 1) C dL_law_264 (by decide) ?_
  refine Q_iaddN (pc := 265) C dL_law_265 ?_
  refine Q_sld (pc := 266) C hX hb hbG hG (by omega) (by omega) dL_law_266 ?_
  refine Q_aload_n (pc := 267) C dL_law_267 rfl rfl ?_
  refine Q_callSw (pc := 268) (n := 3) (st := []) C N dL_law_268 hc_assemble hl_assemble hs_assemble ii_L ⟨by decide, by decide, by decide +kernel⟩ (st_assemble hst hE _) (by rintro E M9 ⟨k9, M1, M2, b9, f9, n9, h9, -⟩; cases h9) ⟨jle rfl, jle rfl⟩ rfl rfl (jle rfl) ⟨by show kc + 1 ≤ room_1.cells; omega, by show ks + 6 ≤ room_1.slots; omega⟩ (fun c1 s1 v9 M9 hc1 hs1 h9 => ?_)
  obtain ⟨k, M1, M2, b9, f9, n9, h9, hk, ⟨fs9, h1000⟩, K2, hE2, hv⟩ := h9
  cases h9
  refine Q_istore (pc := 271) C dL_law_271 (jlt rfl) rfl ?_
  dsimp only [List.set]
  refine Q_aload_n (pc := 273) C dL_law_273 rfl rfl ?_
  refine Q_aload_n (pc := 274) C dL_law_274 rfl rfl ?_
  refine Q_iload (pc := 275) C dL_law_275 rfl ?_
  refine Q_iconst (pc := 277) (v := nI 1) C dL_law_277 (by decide) ?_
  refine Q_iaddN (pc := 278) C dL_law_278 ?_
  refine Q_sld (pc := 279) C hX hb hbG hG (by omega) (by omega) dL_law_279 ?_
  refine Q_callV1 (pc := 280) C dL_law_280 m_L_70 K2 ⟨jle rfl, jle rfl⟩ h1000 rfl rfl rfl rfl (jle rfl) ⟨by show kc + c1 ≤ room_1.cells; omega, by show ks + s1 ≤ room_1.slots; omega⟩ ?_
  refine Q_istore (pc := 283) C dL_law_283 (jlt rfl) rfl ?_
  dsimp only [List.set]
  refine Q_aload_n (pc := 285) C dL_law_285 rfl rfl ?_
  obtain ⟨fs2, h2⟩ := hE2.r1000
  refine Q_callV1 (pc := 286) C dL_law_286 m_L_60 (hE2.thr (l := l) (G := G)) ⟨jle rfl, jle rfl⟩ h2 rfl rfl rfl rfl (jle rfl) ⟨by show kc + c1 ≤ room_1.cells; omega, by show ks + s1 ≤ room_1.slots; omega⟩ ?_
  refine Q_iload (pc := 289) C dL_law_289 rfl ?_
  refine Q_icmp_eqN (pc := 291) (tgt := 296) C dL_law_291 rfl (by omega) (by omega) (fun _ => ?_) (fun h => absurd rfl h)
  refine Q_iload (pc := 296) C dL_law_296 rfl ?_
  refine Q_if_neN (pc := 298) (tgt := 313) C dL_law_298 rfl (by omega) (fun _ => ?_) (fun hk0 => ?_)
  · refine Q_goto (pc := 313) (tgt := 1011) C dL_law_313 rfl ?_
    exact hnext _ _ _ M2 k f9 n9 (kc + c1) (ks + s1) hE2 (by omega) (by omega)
  have hv := hv hk0
  refine Q_aload_n (pc := 301) C dL_law_301 rfl rfl ?_
  refine Q_iconst (pc := 302) (v := nI 0) C dL_law_302 (by decide) ?_
  refine Q_laldN (pc := 303) C dL_law_303 hE2.r1021 (by omega) (by omega) ?_
  refine Q_iload (pc := 304) C dL_law_304 rfl ?_
  refine Q_i2l (pc := 306) C dL_law_306 rfl ?_
  refine Q_lcmp (pc := 307) C dL_law_307 ?_
  refine Q_if_eq (pc := 308) (tgt := 313) C dL_law_308 rfl (fun _ => ?_) (fun h => absurd (by rw [hv]; exact lcmp_self _) h)
  refine Q_goto (pc := 313) (tgt := 1011) C dL_law_313 rfl ?_
  exact hnext _ _ _ M2 k f9 n9 (kc + c1) (ks + s1) hE2 (by omega) (by omega)
set_option maxHeartbeats 4000000 in
set_option maxRecDepth 100000 in
theorem lc_3 (C : jX0 p l room_1 s m args meth c G cL_law 8 RL ret) (N : jNC s) (hst : l.stackTraces = false) (hX : va_X b L xs s s.heap) (hb : b < s.heap.size) (hbG : b < G.1) (hG : G.2.1 900 = b) (hL : L ≤ 896) {d i : Nat} (hnext : ∀ (a5 a6 a7 : Option Value) (M : jMem) (er : Nat) (f : Nat → Int64) (n : Option Nat) (kc ks : Nat), lE er f n M → kc + d ≤ room_1.cells → ks + 6 * d ≤ room_1.slots → Jq p l e room_1 s m args below meth c G 8 Q 1011 [some (.ref 2900), some (.ref 0), some (.ref 1000), some (.ref 1021), some (.int (nI i)), a5, a6, a7] [] M kc ks) {er nz kc ks : Nat} {f : Nat → Int64} {M : jMem} (hE : lE er f (some nz) M) (hi : i + 14 ≤ L) (hc : kc + (d + 1) ≤ room_1.cells) (hs : ks + 6 * (d + 1) ≤ room_1.slots) : Jq p l e room_1 s m args below meth c G 8 Q 316 [some (.ref 2900), some (.ref 0), some (.ref 1000), some (.ref 1021), some (.int (nI i)), none, none, none] [] M kc ks := by
  obtain ⟨w, M2, K1, K2, hE2⟩ := lE.wrg (l := l) (G := G) hE
  obtain ⟨fs0, h0⟩ := hE.r0
  obtain ⟨fs1, h1⟩ := hE.r1000
  refine Q_aload_n (pc := 316) C dL_law_316 rfl rfl ?_
  refine Q_callV1 (pc := 317) C dL_law_317 m_L_71 K1 ⟨jle rfl, jle rfl⟩ h0 rfl rfl rfl rfl (jle rfl) ⟨by show kc ≤ room_1.cells; omega, by show ks ≤ room_1.slots; omega⟩ ?_
  refine Q_aload_n (pc := 320) C dL_law_320 rfl rfl ?_
  refine Q_callV1 (pc := 321) C dL_law_321 m_L_74 K2 ⟨jle rfl, jle rfl⟩ h1 rfl rfl rfl rfl (jle rfl) ⟨by show kc ≤ room_1.cells; omega, by show ks ≤ room_1.slots; omega⟩ ?_
  refine Q_icmp_eq (pc := 324) (tgt := 1011) C dL_law_324 rfl (fun _ => ?_) (fun h => absurd rfl h)
  exact hnext none none none M2 0 f (some nz) kc ks hE2 (by omega) (by omega)
set_option maxHeartbeats 4000000 in
set_option maxRecDepth 100000 in
theorem lc_4 (C : jX0 p l room_1 s m args meth c G cL_law 8 RL ret) (N : jNC s) (hst : l.stackTraces = false) (hX : va_X b L xs s s.heap) (hb : b < s.heap.size) (hbG : b < G.1) (hG : G.2.1 900 = b) (hL : L ≤ 896) {d i : Nat} (hnext : ∀ (a5 a6 a7 : Option Value) (M : jMem) (er : Nat) (f : Nat → Int64) (n : Option Nat) (kc ks : Nat), lE er f n M → kc + d ≤ room_1.cells → ks + 6 * d ≤ room_1.slots → Jq p l e room_1 s m args below meth c G 8 Q 1011 [some (.ref 2900), some (.ref 0), some (.ref 1000), some (.ref 1021), some (.int (nI i)), a5, a6, a7] [] M kc ks) {er nz kc ks : Nat} {f : Nat → Int64} {M : jMem} (hE : lE er f (some nz) M) (hi : i + 14 ≤ L) (hc : kc + (d + 1) ≤ room_1.cells) (hs : ks + 6 * (d + 1) ≤ room_1.slots) : Jq p l e room_1 s m args below meth c G 8 Q 329 [some (.ref 2900), some (.ref 0), some (.ref 1000), some (.ref 1021), some (.int (nI i)), none, none, none] [] M kc ks := by
  refine Q_aload_n (pc := 329) C dL_law_329 rfl rfl ?_
  refine Q_aload_n (pc := 330) C dL_law_330 rfl rfl ?_
  refine Q_iload (pc := 331) C dL_law_331 rfl ?_
  refine Q_iconst (pc := 333) (v := nI 1) C dL_law_333 (by decide) ?_
  refine Q_iaddN (pc := 334) C dL_law_334 ?_
  refine Q_sld (pc := 335) C hX hb hbG hG (by omega) (by omega) dL_law_335 ?_
  refine Q_aload_n (pc := 336) C dL_law_336 rfl rfl ?_
  refine Q_callSw (pc := 337) (n := 3) (st := []) C N dL_law_337 hc_word hl_word hs_word ii_L ⟨by decide, by decide, by decide +kernel⟩ (st_word hst hE _) (by rintro E M9 ⟨k9, M1, M2, b9, f9, n9, h9, -⟩; cases h9) ⟨jle rfl, jle rfl⟩ rfl rfl (jle rfl) ⟨by show kc + 1 ≤ room_1.cells; omega, by show ks + 6 ≤ room_1.slots; omega⟩ (fun c1 s1 v9 M9 hc1 hs1 h9 => ?_)
  obtain ⟨k, M1, M2, b9, f9, n9, h9, hk, ⟨fs9, h1000⟩, K2, hE2, hv⟩ := h9
  cases h9
  refine Q_istore (pc := 340) C dL_law_340 (jlt rfl) rfl ?_
  dsimp only [List.set]
  refine Q_aload_n (pc := 342) C dL_law_342 rfl rfl ?_
  refine Q_aload_n (pc := 343) C dL_law_343 rfl rfl ?_
  refine Q_iload (pc := 344) C dL_law_344 rfl ?_
  refine Q_iconst (pc := 346) (v := nI 1) C dL_law_346 (by decide) ?_
  refine Q_iaddN (pc := 347) C dL_law_347 ?_
  refine Q_sld (pc := 348) C hX hb hbG hG (by omega) (by omega) dL_law_348 ?_
  refine Q_callV1 (pc := 349) C dL_law_349 m_L_77 K2 ⟨jle rfl, jle rfl⟩ h1000 rfl rfl rfl rfl (jle rfl) ⟨by show kc + c1 ≤ room_1.cells; omega, by show ks + s1 ≤ room_1.slots; omega⟩ ?_
  refine Q_istore (pc := 352) C dL_law_352 (jlt rfl) rfl ?_
  dsimp only [List.set]
  refine Q_aload_n (pc := 354) C dL_law_354 rfl rfl ?_
  obtain ⟨fs2, h2⟩ := hE2.r1000
  refine Q_callV1 (pc := 355) C dL_law_355 m_L_60 (hE2.thr (l := l) (G := G)) ⟨jle rfl, jle rfl⟩ h2 rfl rfl rfl rfl (jle rfl) ⟨by show kc + c1 ≤ room_1.cells; omega, by show ks + s1 ≤ room_1.slots; omega⟩ ?_
  refine Q_iload (pc := 358) C dL_law_358 rfl ?_
  refine Q_icmp_eqN (pc := 360) (tgt := 365) C dL_law_360 rfl (by omega) (by omega) (fun _ => ?_) (fun h => absurd rfl h)
  refine Q_iload (pc := 365) C dL_law_365 rfl ?_
  refine Q_if_neN (pc := 367) (tgt := 382) C dL_law_367 rfl (by omega) (fun _ => ?_) (fun hk0 => ?_)
  · refine Q_goto (pc := 382) (tgt := 1011) C dL_law_382 rfl ?_
    exact hnext _ _ _ M2 k f9 n9 (kc + c1) (ks + s1) hE2 (by omega) (by omega)
  have hv := hv hk0
  refine Q_aload_n (pc := 370) C dL_law_370 rfl rfl ?_
  refine Q_iconst (pc := 371) (v := nI 0) C dL_law_371 (by decide) ?_
  refine Q_laldN (pc := 372) C dL_law_372 hE2.r1021 (by omega) (by omega) ?_
  refine Q_iload (pc := 373) C dL_law_373 rfl ?_
  refine Q_i2l (pc := 375) C dL_law_375 rfl ?_
  refine Q_lcmp (pc := 376) C dL_law_376 ?_
  refine Q_if_eq (pc := 377) (tgt := 382) C dL_law_377 rfl (fun _ => ?_) (fun h => absurd (by rw [hv]; exact lcmp_self _) h)
  refine Q_goto (pc := 382) (tgt := 1011) C dL_law_382 rfl ?_
  exact hnext _ _ _ M2 k f9 n9 (kc + c1) (ks + s1) hE2 (by omega) (by omega)
set_option maxHeartbeats 4000000 in
set_option maxRecDepth 100000 in
theorem lc_5 (C : jX0 p l room_1 s m args meth c G cL_law 8 RL ret) (N : jNC s) (hst : l.stackTraces = false) (hX : va_X b L xs s s.heap) (hb : b < s.heap.size) (hbG : b < G.1) (hG : G.2.1 900 = b) (hL : L ≤ 896) {d i : Nat} (hnext : ∀ (a5 a6 a7 : Option Value) (M : jMem) (er : Nat) (f : Nat → Int64) (n : Option Nat) (kc ks : Nat), lE er f n M → kc + d ≤ room_1.cells → ks + 6 * d ≤ room_1.slots → Jq p l e room_1 s m args below meth c G 8 Q 1011 [some (.ref 2900), some (.ref 0), some (.ref 1000), some (.ref 1021), some (.int (nI i)), a5, a6, a7] [] M kc ks) {er nz kc ks : Nat} {f : Nat → Int64} {M : jMem} (hE : lE er f (some nz) M) (hi : i + 14 ≤ L) (hc : kc + (d + 1) ≤ room_1.cells) (hs : ks + 6 * (d + 1) ≤ room_1.slots) : Jq p l e room_1 s m args below meth c G 8 Q 385 [some (.ref 2900), some (.ref 0), some (.ref 1000), some (.ref 1021), some (.int (nI i)), none, none, none] [] M kc ks := by
  refine Q_aload_n (pc := 385) C dL_law_385 rfl rfl ?_
  refine Q_aload_n (pc := 386) C dL_law_386 rfl rfl ?_
  refine Q_iload (pc := 387) C dL_law_387 rfl ?_
  refine Q_iconst (pc := 389) (v := nI 1) C dL_law_389 (by decide) ?_
  refine Q_iaddN (pc := 390) C dL_law_390 ?_
  refine Q_sld (pc := 391) C hX hb hbG hG (by omega) (by omega) dL_law_391 ?_
  refine Q_aload_n (pc := 392) C dL_law_392 rfl rfl ?_
  refine Q_callSw (pc := 393) (n := 3) (st := []) C N dL_law_393 hc_op hl_op hs_op ii_L ⟨by decide, by decide, by decide +kernel⟩ (st_op hst hE _) (by rintro E M9 ⟨k9, M1, M2, b9, f9, n9, h9, -⟩; cases h9) ⟨jle rfl, jle rfl⟩ rfl rfl (jle rfl) ⟨by show kc + 1 ≤ room_1.cells; omega, by show ks + 6 ≤ room_1.slots; omega⟩ (fun c1 s1 v9 M9 hc1 hs1 h9 => ?_)
  obtain ⟨k, M1, M2, b9, f9, n9, h9, hk, ⟨fs9, h1000⟩, K2, hE2, hv⟩ := h9
  cases h9
  refine Q_istore (pc := 396) C dL_law_396 (jlt rfl) rfl ?_
  dsimp only [List.set]
  refine Q_aload_n (pc := 398) C dL_law_398 rfl rfl ?_
  refine Q_aload_n (pc := 399) C dL_law_399 rfl rfl ?_
  refine Q_iload (pc := 400) C dL_law_400 rfl ?_
  refine Q_iconst (pc := 402) (v := nI 1) C dL_law_402 (by decide) ?_
  refine Q_iaddN (pc := 403) C dL_law_403 ?_
  refine Q_sld (pc := 404) C hX hb hbG hG (by omega) (by omega) dL_law_404 ?_
  refine Q_callV1 (pc := 405) C dL_law_405 m_L_80 K2 ⟨jle rfl, jle rfl⟩ h1000 rfl rfl rfl rfl (jle rfl) ⟨by show kc + c1 ≤ room_1.cells; omega, by show ks + s1 ≤ room_1.slots; omega⟩ ?_
  refine Q_istore (pc := 408) C dL_law_408 (jlt rfl) rfl ?_
  dsimp only [List.set]
  refine Q_aload_n (pc := 410) C dL_law_410 rfl rfl ?_
  obtain ⟨fs2, h2⟩ := hE2.r1000
  refine Q_callV1 (pc := 411) C dL_law_411 m_L_60 (hE2.thr (l := l) (G := G)) ⟨jle rfl, jle rfl⟩ h2 rfl rfl rfl rfl (jle rfl) ⟨by show kc + c1 ≤ room_1.cells; omega, by show ks + s1 ≤ room_1.slots; omega⟩ ?_
  refine Q_iload (pc := 414) C dL_law_414 rfl ?_
  refine Q_icmp_eqN (pc := 416) (tgt := 421) C dL_law_416 rfl (by omega) (by omega) (fun _ => ?_) (fun h => absurd rfl h)
  refine Q_iload (pc := 421) C dL_law_421 rfl ?_
  refine Q_if_neN (pc := 423) (tgt := 438) C dL_law_423 rfl (by omega) (fun _ => ?_) (fun hk0 => ?_)
  · refine Q_goto (pc := 438) (tgt := 1011) C dL_law_438 rfl ?_
    exact hnext _ _ _ M2 k f9 n9 (kc + c1) (ks + s1) hE2 (by omega) (by omega)
  have hv := hv hk0
  refine Q_aload_n (pc := 426) C dL_law_426 rfl rfl ?_
  refine Q_iconst (pc := 427) (v := nI 0) C dL_law_427 (by decide) ?_
  refine Q_laldN (pc := 428) C dL_law_428 hE2.r1021 (by omega) (by omega) ?_
  refine Q_iload (pc := 429) C dL_law_429 rfl ?_
  refine Q_i2l (pc := 431) C dL_law_431 rfl ?_
  refine Q_lcmp (pc := 432) C dL_law_432 ?_
  refine Q_if_eq (pc := 433) (tgt := 438) C dL_law_433 rfl (fun _ => ?_) (fun h => absurd (by rw [hv]; exact lcmp_self _) h)
  refine Q_goto (pc := 438) (tgt := 1011) C dL_law_438 rfl ?_
  exact hnext _ _ _ M2 k f9 n9 (kc + c1) (ks + s1) hE2 (by omega) (by omega)
set_option maxHeartbeats 4000000 in
set_option maxRecDepth 100000 in
theorem lc_6 (C : jX0 p l room_1 s m args meth c G cL_law 8 RL ret) (N : jNC s) (hst : l.stackTraces = false) (hX : va_X b L xs s s.heap) (hb : b < s.heap.size) (hbG : b < G.1) (hG : G.2.1 900 = b) (hL : L ≤ 896) {d i : Nat} (hnext : ∀ (a5 a6 a7 : Option Value) (M : jMem) (er : Nat) (f : Nat → Int64) (n : Option Nat) (kc ks : Nat), lE er f n M → kc + d ≤ room_1.cells → ks + 6 * d ≤ room_1.slots → Jq p l e room_1 s m args below meth c G 8 Q 1011 [some (.ref 2900), some (.ref 0), some (.ref 1000), some (.ref 1021), some (.int (nI i)), a5, a6, a7] [] M kc ks) {er nz kc ks : Nat} {f : Nat → Int64} {M : jMem} (hE : lE er f (some nz) M) (hi : i + 14 ≤ L) (hc : kc + (d + 1) ≤ room_1.cells) (hs : ks + 6 * (d + 1) ≤ room_1.slots) : Jq p l e room_1 s m args below meth c G 8 Q 441 [some (.ref 2900), some (.ref 0), some (.ref 1000), some (.ref 1021), some (.int (nI i)), none, none, none] [] M kc ks := by
  refine Q_aload_n (pc := 441) C dL_law_441 rfl rfl ?_
  refine Q_aload_n (pc := 442) C dL_law_442 rfl rfl ?_
  refine Q_iload (pc := 443) C dL_law_443 rfl ?_
  refine Q_iconst (pc := 445) (v := nI 1) C dL_law_445 (by decide) ?_
  refine Q_iaddN (pc := 446) C dL_law_446 ?_
  refine Q_sld (pc := 447) C hX hb hbG hG (by omega) (by omega) dL_law_447 ?_
  refine Q_aload_n (pc := 448) C dL_law_448 rfl rfl ?_
  refine Q_iload (pc := 449) C dL_law_449 rfl ?_
  refine Q_iconst (pc := 451) (v := nI 2) C dL_law_451 (by decide) ?_
  refine Q_iaddN (pc := 452) C dL_law_452 ?_
  refine Q_sld (pc := 453) C hX hb hbG hG (by omega) (by omega) dL_law_453 ?_
  refine Q_aload_n (pc := 454) C dL_law_454 rfl rfl ?_
  refine Q_callSw (pc := 455) (n := 4) (st := []) C N dL_law_455 hc_operand hl_operand hs_operand ii_L ⟨by decide, by decide, by decide +kernel⟩ (st_operand hst hE _ _) (by rintro E M9 ⟨k9, M1, M2, b9, f9, n9, h9, -⟩; cases h9) ⟨jle rfl, jle rfl⟩ rfl rfl (jle rfl) ⟨by show kc + 1 ≤ room_1.cells; omega, by show ks + 6 ≤ room_1.slots; omega⟩ (fun c1 s1 v9 M9 hc1 hs1 h9 => ?_)
  obtain ⟨k, M1, M2, b9, f9, n9, h9, hk, ⟨fs9, h1000⟩, K2, hE2, hv⟩ := h9
  cases h9
  refine Q_istore (pc := 458) C dL_law_458 (jlt rfl) rfl ?_
  dsimp only [List.set]
  refine Q_aload_n (pc := 460) C dL_law_460 rfl rfl ?_
  refine Q_aload_n (pc := 461) C dL_law_461 rfl rfl ?_
  refine Q_iload (pc := 462) C dL_law_462 rfl ?_
  refine Q_iconst (pc := 464) (v := nI 1) C dL_law_464 (by decide) ?_
  refine Q_iaddN (pc := 465) C dL_law_465 ?_
  refine Q_sld (pc := 466) C hX hb hbG hG (by omega) (by omega) dL_law_466 ?_
  refine Q_aload_n (pc := 467) C dL_law_467 rfl rfl ?_
  refine Q_iload (pc := 468) C dL_law_468 rfl ?_
  refine Q_iconst (pc := 470) (v := nI 2) C dL_law_470 (by decide) ?_
  refine Q_iaddN (pc := 471) C dL_law_471 ?_
  refine Q_sld (pc := 472) C hX hb hbG hG (by omega) (by omega) dL_law_472 ?_
  refine Q_callV1 (pc := 473) C dL_law_473 m_L_84 K2 ⟨jle rfl, jle rfl⟩ h1000 rfl rfl rfl rfl (jle rfl) ⟨by show kc + c1 ≤ room_1.cells; omega, by show ks + s1 ≤ room_1.slots; omega⟩ ?_
  refine Q_lstore (pc := 476) C dL_law_476 (jlt rfl) rfl ?_
  dsimp only [List.set]
  refine Q_aload_n (pc := 478) C dL_law_478 rfl rfl ?_
  obtain ⟨fs2, h2⟩ := hE2.r1000
  refine Q_callV1 (pc := 479) C dL_law_479 m_L_60 (hE2.thr (l := l) (G := G)) ⟨jle rfl, jle rfl⟩ h2 rfl rfl rfl rfl (jle rfl) ⟨by show kc + c1 ≤ room_1.cells; omega, by show ks + s1 ≤ room_1.slots; omega⟩ ?_
  refine Q_iload (pc := 482) C dL_law_482 rfl ?_
  refine Q_icmp_eqN (pc := 484) (tgt := 489) C dL_law_484 rfl (by omega) (by omega) (fun _ => ?_) (fun h => absurd rfl h)
  refine Q_iload (pc := 489) C dL_law_489 rfl ?_
  refine Q_if_neN (pc := 491) (tgt := 505) C dL_law_491 rfl (by omega) (fun _ => ?_) (fun hk0 => ?_)
  · refine Q_goto (pc := 505) (tgt := 1011) C dL_law_505 rfl ?_
    exact hnext _ _ _ M2 k f9 n9 (kc + c1) (ks + s1) hE2 (by omega) (by omega)
  have hv := hv hk0
  refine Q_aload_n (pc := 494) C dL_law_494 rfl rfl ?_
  refine Q_iconst (pc := 495) (v := nI 0) C dL_law_495 (by decide) ?_
  refine Q_laldN (pc := 496) C dL_law_496 hE2.r1021 (by omega) (by omega) ?_
  refine Q_lload (pc := 497) C dL_law_497 rfl ?_
  refine Q_lcmp (pc := 499) C dL_law_499 ?_
  refine Q_if_eq (pc := 500) (tgt := 505) C dL_law_500 rfl (fun _ => ?_) (fun h => absurd (by rw [hv]; exact lcmp_self _) h)
  refine Q_goto (pc := 505) (tgt := 1011) C dL_law_505 rfl ?_
  exact hnext _ _ _ M2 k f9 n9 (kc + c1) (ks + s1) hE2 (by omega) (by omega)
set_option maxHeartbeats 4000000 in
set_option maxRecDepth 100000 in
theorem lc_7 (C : jX0 p l room_1 s m args meth c G cL_law 8 RL ret) (N : jNC s) (hst : l.stackTraces = false) (hX : va_X b L xs s s.heap) (hb : b < s.heap.size) (hbG : b < G.1) (hG : G.2.1 900 = b) (hL : L ≤ 896) {d i : Nat} (hnext : ∀ (a5 a6 a7 : Option Value) (M : jMem) (er : Nat) (f : Nat → Int64) (n : Option Nat) (kc ks : Nat), lE er f n M → kc + d ≤ room_1.cells → ks + 6 * d ≤ room_1.slots → Jq p l e room_1 s m args below meth c G 8 Q 1011 [some (.ref 2900), some (.ref 0), some (.ref 1000), some (.ref 1021), some (.int (nI i)), a5, a6, a7] [] M kc ks) {er nz kc ks : Nat} {f : Nat → Int64} {M : jMem} (hE : lE er f (some nz) M) (hi : i + 14 ≤ L) (hc : kc + (d + 1) ≤ room_1.cells) (hs : ks + 6 * (d + 1) ≤ room_1.slots) : Jq p l e room_1 s m args below meth c G 8 Q 508 [some (.ref 2900), some (.ref 0), some (.ref 1000), some (.ref 1021), some (.int (nI i)), none, none, none] [] M kc ks := by
  refine Q_aload_n (pc := 508) C dL_law_508 rfl rfl ?_
  refine Q_aload_n (pc := 509) C dL_law_509 rfl rfl ?_
  refine Q_iload (pc := 510) C dL_law_510 rfl ?_
  refine Q_iconst (pc := 512) (v := nI 1) C dL_law_512 (by decide) ?_
  refine Q_iaddN (pc := 513) C dL_law_513 ?_
  refine Q_sld (pc := 514) C hX hb hbG hG (by omega) (by omega) dL_law_514 ?_
  refine Q_aload_n (pc := 515) C dL_law_515 rfl rfl ?_
  refine Q_iload (pc := 516) C dL_law_516 rfl ?_
  refine Q_iconst (pc := 518) (v := nI 2) C dL_law_518 (by decide) ?_
  refine Q_iaddN (pc := 519) C dL_law_519 ?_
  refine Q_sld (pc := 520) C hX hb hbG hG (by omega) (by omega) dL_law_520 ?_
  refine Q_i2l (pc := 521) C dL_law_521 rfl ?_
  refine Q_bipush (pc := 522) (v := nI 32) C dL_law_522 (by decide) ?_
  refine Q_lshl (pc := 524) C dL_law_524 rfl ?_
  refine Q_aload_n (pc := 525) C dL_law_525 rfl rfl ?_
  refine Q_iload (pc := 526) C dL_law_526 rfl ?_
  refine Q_iconst (pc := 528) (v := nI 3) C dL_law_528 (by decide) ?_
  refine Q_iaddN (pc := 529) C dL_law_529 ?_
  refine Q_sld (pc := 530) C hX hb hbG hG (by omega) (by omega) dL_law_530 ?_
  refine Q_i2l (pc := 531) C dL_law_531 rfl ?_
  refine Q_ldc2 (pc := 532) C dL_law_532 l_L_85 ?_
  refine Q_land (pc := 535) C dL_law_535 ?_
  refine Q_lor (pc := 536) C dL_law_536 ?_
  refine Q_aload_n (pc := 537) C dL_law_537 rfl rfl ?_
  refine Q_iload (pc := 538) C dL_law_538 rfl ?_
  refine Q_iconst (pc := 540) (v := nI 4) C dL_law_540 (by decide) ?_
  refine Q_iaddN (pc := 541) C dL_law_541 ?_
  refine Q_sld (pc := 542) C hX hb hbG hG (by omega) (by omega) dL_law_542 ?_
  refine Q_i2l (pc := 543) C dL_law_543 rfl ?_
  refine Q_bipush (pc := 544) (v := nI 32) C dL_law_544 (by decide) ?_
  refine Q_lshl (pc := 546) C dL_law_546 rfl ?_
  refine Q_aload_n (pc := 547) C dL_law_547 rfl rfl ?_
  refine Q_iload (pc := 548) C dL_law_548 rfl ?_
  refine Q_iconst (pc := 550) (v := nI 5) C dL_law_550 (by decide) ?_
  refine Q_iaddN (pc := 551) C dL_law_551 ?_
  refine Q_sld (pc := 552) C hX hb hbG hG (by omega) (by omega) dL_law_552 ?_
  refine Q_i2l (pc := 553) C dL_law_553 rfl ?_
  refine Q_ldc2 (pc := 554) C dL_law_554 l_L_85 ?_
  refine Q_land (pc := 557) C dL_law_557 ?_
  refine Q_lor (pc := 558) C dL_law_558 ?_
  refine Q_aload_n (pc := 559) C dL_law_559 rfl rfl ?_
  refine Q_iload (pc := 560) C dL_law_560 rfl ?_
  refine Q_bipush (pc := 562) (v := nI 6) C dL_law_562 (by decide) ?_
  refine Q_iaddN (pc := 564) C dL_law_564 ?_
  refine Q_sld (pc := 565) C hX hb hbG hG (by omega) (by omega) dL_law_565 ?_
  refine Q_i2l (pc := 566) C dL_law_566 rfl ?_
  refine Q_bipush (pc := 567) (v := nI 32) C dL_law_567 (by decide) ?_
  refine Q_lshl (pc := 569) C dL_law_569 rfl ?_
  refine Q_aload_n (pc := 570) C dL_law_570 rfl rfl ?_
  refine Q_iload (pc := 571) C dL_law_571 rfl ?_
  refine Q_bipush (pc := 573) (v := nI 7) C dL_law_573 (by decide) ?_
  refine Q_iaddN (pc := 575) C dL_law_575 ?_
  refine Q_sld (pc := 576) C hX hb hbG hG (by omega) (by omega) dL_law_576 ?_
  refine Q_i2l (pc := 577) C dL_law_577 rfl ?_
  refine Q_ldc2 (pc := 578) C dL_law_578 l_L_85 ?_
  refine Q_land (pc := 581) C dL_law_581 ?_
  refine Q_lor (pc := 582) C dL_law_582 ?_
  refine Q_aload_n (pc := 583) C dL_law_583 rfl rfl ?_
  refine Q_iload (pc := 584) C dL_law_584 rfl ?_
  refine Q_bipush (pc := 586) (v := nI 8) C dL_law_586 (by decide) ?_
  refine Q_iaddN (pc := 588) C dL_law_588 ?_
  refine Q_sld (pc := 589) C hX hb hbG hG (by omega) (by omega) dL_law_589 ?_
  refine Q_i2l (pc := 590) C dL_law_590 rfl ?_
  refine Q_bipush (pc := 591) (v := nI 32) C dL_law_591 (by decide) ?_
  refine Q_lshl (pc := 593) C dL_law_593 rfl ?_
  refine Q_aload_n (pc := 594) C dL_law_594 rfl rfl ?_
  refine Q_iload (pc := 595) C dL_law_595 rfl ?_
  refine Q_bipush (pc := 597) (v := nI 9) C dL_law_597 (by decide) ?_
  refine Q_iaddN (pc := 599) C dL_law_599 ?_
  refine Q_sld (pc := 600) C hX hb hbG hG (by omega) (by omega) dL_law_600 ?_
  refine Q_i2l (pc := 601) C dL_law_601 rfl ?_
  refine Q_ldc2 (pc := 602) C dL_law_602 l_L_85 ?_
  refine Q_land (pc := 605) C dL_law_605 ?_
  refine Q_lor (pc := 606) C dL_law_606 ?_
  refine Q_aload_n (pc := 607) C dL_law_607 rfl rfl ?_
  refine Q_iload (pc := 608) C dL_law_608 rfl ?_
  refine Q_bipush (pc := 610) (v := nI 10) C dL_law_610 (by decide) ?_
  refine Q_iaddN (pc := 612) C dL_law_612 ?_
  refine Q_sld (pc := 613) C hX hb hbG hG (by omega) (by omega) dL_law_613 ?_
  refine Q_i2l (pc := 614) C dL_law_614 rfl ?_
  refine Q_bipush (pc := 615) (v := nI 32) C dL_law_615 (by decide) ?_
  refine Q_lshl (pc := 617) C dL_law_617 rfl ?_
  refine Q_aload_n (pc := 618) C dL_law_618 rfl rfl ?_
  refine Q_iload (pc := 619) C dL_law_619 rfl ?_
  refine Q_bipush (pc := 621) (v := nI 11) C dL_law_621 (by decide) ?_
  refine Q_iaddN (pc := 623) C dL_law_623 ?_
  refine Q_sld (pc := 624) C hX hb hbG hG (by omega) (by omega) dL_law_624 ?_
  refine Q_i2l (pc := 625) C dL_law_625 rfl ?_
  refine Q_ldc2 (pc := 626) C dL_law_626 l_L_85 ?_
  refine Q_land (pc := 629) C dL_law_629 ?_
  refine Q_lor (pc := 630) C dL_law_630 ?_
  refine Q_aload_n (pc := 631) C dL_law_631 rfl rfl ?_
  refine Q_iload (pc := 632) C dL_law_632 rfl ?_
  refine Q_bipush (pc := 634) (v := nI 12) C dL_law_634 (by decide) ?_
  refine Q_iaddN (pc := 636) C dL_law_636 ?_
  refine Q_sld (pc := 637) C hX hb hbG hG (by omega) (by omega) dL_law_637 ?_
  refine Q_i2l (pc := 638) C dL_law_638 rfl ?_
  refine Q_bipush (pc := 639) (v := nI 32) C dL_law_639 (by decide) ?_
  refine Q_lshl (pc := 641) C dL_law_641 rfl ?_
  refine Q_aload_n (pc := 642) C dL_law_642 rfl rfl ?_
  refine Q_iload (pc := 643) C dL_law_643 rfl ?_
  refine Q_bipush (pc := 645) (v := nI 13) C dL_law_645 (by decide) ?_
  refine Q_iaddN (pc := 647) C dL_law_647 ?_
  refine Q_sld (pc := 648) C hX hb hbG hG (by omega) (by omega) dL_law_648 ?_
  refine Q_i2l (pc := 649) C dL_law_649 rfl ?_
  refine Q_ldc2 (pc := 650) C dL_law_650 l_L_85 ?_
  refine Q_land (pc := 653) C dL_law_653 ?_
  refine Q_lor (pc := 654) C dL_law_654 ?_
  refine Q_aload_n (pc := 655) C dL_law_655 rfl rfl ?_
  refine Q_callSw (pc := 656) (n := 9) (st := []) C N dL_law_656 hc_encode hl_encode hs_encode ii_L ⟨by decide, by decide, by decide +kernel⟩ (st_encode hst hE _ _ _ _ _ _ _) (by rintro E M9 ⟨k9, M1, M2, b9, f9, n9, h9, -⟩; cases h9) ⟨jle rfl, jle rfl⟩ rfl rfl (jle rfl) ⟨by show kc + 1 ≤ room_1.cells; omega, by show ks + 6 ≤ room_1.slots; omega⟩ (fun c1 s1 v9 M9 hc1 hs1 h9 => ?_)
  obtain ⟨k, M1, M2, b9, f9, n9, h9, hk, ⟨fs9, h1000⟩, K2, hE2, hv⟩ := h9
  cases h9
  refine Q_istore (pc := 659) C dL_law_659 (jlt rfl) rfl ?_
  dsimp only [List.set]
  refine Q_aload_n (pc := 661) C dL_law_661 rfl rfl ?_
  refine Q_aload_n (pc := 662) C dL_law_662 rfl rfl ?_
  refine Q_iload (pc := 663) C dL_law_663 rfl ?_
  refine Q_iconst (pc := 665) (v := nI 1) C dL_law_665 (by decide) ?_
  refine Q_iaddN (pc := 666) C dL_law_666 ?_
  refine Q_sld (pc := 667) C hX hb hbG hG (by omega) (by omega) dL_law_667 ?_
  refine Q_aload_n (pc := 668) C dL_law_668 rfl rfl ?_
  refine Q_iload (pc := 669) C dL_law_669 rfl ?_
  refine Q_iconst (pc := 671) (v := nI 2) C dL_law_671 (by decide) ?_
  refine Q_iaddN (pc := 672) C dL_law_672 ?_
  refine Q_sld (pc := 673) C hX hb hbG hG (by omega) (by omega) dL_law_673 ?_
  refine Q_i2l (pc := 674) C dL_law_674 rfl ?_
  refine Q_bipush (pc := 675) (v := nI 32) C dL_law_675 (by decide) ?_
  refine Q_lshl (pc := 677) C dL_law_677 rfl ?_
  refine Q_aload_n (pc := 678) C dL_law_678 rfl rfl ?_
  refine Q_iload (pc := 679) C dL_law_679 rfl ?_
  refine Q_iconst (pc := 681) (v := nI 3) C dL_law_681 (by decide) ?_
  refine Q_iaddN (pc := 682) C dL_law_682 ?_
  refine Q_sld (pc := 683) C hX hb hbG hG (by omega) (by omega) dL_law_683 ?_
  refine Q_i2l (pc := 684) C dL_law_684 rfl ?_
  refine Q_ldc2 (pc := 685) C dL_law_685 l_L_85 ?_
  refine Q_land (pc := 688) C dL_law_688 ?_
  refine Q_lor (pc := 689) C dL_law_689 ?_
  refine Q_aload_n (pc := 690) C dL_law_690 rfl rfl ?_
  refine Q_iload (pc := 691) C dL_law_691 rfl ?_
  refine Q_iconst (pc := 693) (v := nI 4) C dL_law_693 (by decide) ?_
  refine Q_iaddN (pc := 694) C dL_law_694 ?_
  refine Q_sld (pc := 695) C hX hb hbG hG (by omega) (by omega) dL_law_695 ?_
  refine Q_i2l (pc := 696) C dL_law_696 rfl ?_
  refine Q_bipush (pc := 697) (v := nI 32) C dL_law_697 (by decide) ?_
  refine Q_lshl (pc := 699) C dL_law_699 rfl ?_
  refine Q_aload_n (pc := 700) C dL_law_700 rfl rfl ?_
  refine Q_iload (pc := 701) C dL_law_701 rfl ?_
  refine Q_iconst (pc := 703) (v := nI 5) C dL_law_703 (by decide) ?_
  refine Q_iaddN (pc := 704) C dL_law_704 ?_
  refine Q_sld (pc := 705) C hX hb hbG hG (by omega) (by omega) dL_law_705 ?_
  refine Q_i2l (pc := 706) C dL_law_706 rfl ?_
  refine Q_ldc2 (pc := 707) C dL_law_707 l_L_85 ?_
  refine Q_land (pc := 710) C dL_law_710 ?_
  refine Q_lor (pc := 711) C dL_law_711 ?_
  refine Q_aload_n (pc := 712) C dL_law_712 rfl rfl ?_
  refine Q_iload (pc := 713) C dL_law_713 rfl ?_
  refine Q_bipush (pc := 715) (v := nI 6) C dL_law_715 (by decide) ?_
  refine Q_iaddN (pc := 717) C dL_law_717 ?_
  refine Q_sld (pc := 718) C hX hb hbG hG (by omega) (by omega) dL_law_718 ?_
  refine Q_i2l (pc := 719) C dL_law_719 rfl ?_
  refine Q_bipush (pc := 720) (v := nI 32) C dL_law_720 (by decide) ?_
  refine Q_lshl (pc := 722) C dL_law_722 rfl ?_
  refine Q_aload_n (pc := 723) C dL_law_723 rfl rfl ?_
  refine Q_iload (pc := 724) C dL_law_724 rfl ?_
  refine Q_bipush (pc := 726) (v := nI 7) C dL_law_726 (by decide) ?_
  refine Q_iaddN (pc := 728) C dL_law_728 ?_
  refine Q_sld (pc := 729) C hX hb hbG hG (by omega) (by omega) dL_law_729 ?_
  refine Q_i2l (pc := 730) C dL_law_730 rfl ?_
  refine Q_ldc2 (pc := 731) C dL_law_731 l_L_85 ?_
  refine Q_land (pc := 734) C dL_law_734 ?_
  refine Q_lor (pc := 735) C dL_law_735 ?_
  refine Q_aload_n (pc := 736) C dL_law_736 rfl rfl ?_
  refine Q_iload (pc := 737) C dL_law_737 rfl ?_
  refine Q_bipush (pc := 739) (v := nI 8) C dL_law_739 (by decide) ?_
  refine Q_iaddN (pc := 741) C dL_law_741 ?_
  refine Q_sld (pc := 742) C hX hb hbG hG (by omega) (by omega) dL_law_742 ?_
  refine Q_i2l (pc := 743) C dL_law_743 rfl ?_
  refine Q_bipush (pc := 744) (v := nI 32) C dL_law_744 (by decide) ?_
  refine Q_lshl (pc := 746) C dL_law_746 rfl ?_
  refine Q_aload_n (pc := 747) C dL_law_747 rfl rfl ?_
  refine Q_iload (pc := 748) C dL_law_748 rfl ?_
  refine Q_bipush (pc := 750) (v := nI 9) C dL_law_750 (by decide) ?_
  refine Q_iaddN (pc := 752) C dL_law_752 ?_
  refine Q_sld (pc := 753) C hX hb hbG hG (by omega) (by omega) dL_law_753 ?_
  refine Q_i2l (pc := 754) C dL_law_754 rfl ?_
  refine Q_ldc2 (pc := 755) C dL_law_755 l_L_85 ?_
  refine Q_land (pc := 758) C dL_law_758 ?_
  refine Q_lor (pc := 759) C dL_law_759 ?_
  refine Q_aload_n (pc := 760) C dL_law_760 rfl rfl ?_
  refine Q_iload (pc := 761) C dL_law_761 rfl ?_
  refine Q_bipush (pc := 763) (v := nI 10) C dL_law_763 (by decide) ?_
  refine Q_iaddN (pc := 765) C dL_law_765 ?_
  refine Q_sld (pc := 766) C hX hb hbG hG (by omega) (by omega) dL_law_766 ?_
  refine Q_i2l (pc := 767) C dL_law_767 rfl ?_
  refine Q_bipush (pc := 768) (v := nI 32) C dL_law_768 (by decide) ?_
  refine Q_lshl (pc := 770) C dL_law_770 rfl ?_
  refine Q_aload_n (pc := 771) C dL_law_771 rfl rfl ?_
  refine Q_iload (pc := 772) C dL_law_772 rfl ?_
  refine Q_bipush (pc := 774) (v := nI 11) C dL_law_774 (by decide) ?_
  refine Q_iaddN (pc := 776) C dL_law_776 ?_
  refine Q_sld (pc := 777) C hX hb hbG hG (by omega) (by omega) dL_law_777 ?_
  refine Q_i2l (pc := 778) C dL_law_778 rfl ?_
  refine Q_ldc2 (pc := 779) C dL_law_779 l_L_85 ?_
  refine Q_land (pc := 782) C dL_law_782 ?_
  refine Q_lor (pc := 783) C dL_law_783 ?_
  refine Q_aload_n (pc := 784) C dL_law_784 rfl rfl ?_
  refine Q_iload (pc := 785) C dL_law_785 rfl ?_
  refine Q_bipush (pc := 787) (v := nI 12) C dL_law_787 (by decide) ?_
  refine Q_iaddN (pc := 789) C dL_law_789 ?_
  refine Q_sld (pc := 790) C hX hb hbG hG (by omega) (by omega) dL_law_790 ?_
  refine Q_i2l (pc := 791) C dL_law_791 rfl ?_
  refine Q_bipush (pc := 792) (v := nI 32) C dL_law_792 (by decide) ?_
  refine Q_lshl (pc := 794) C dL_law_794 rfl ?_
  refine Q_aload_n (pc := 795) C dL_law_795 rfl rfl ?_
  refine Q_iload (pc := 796) C dL_law_796 rfl ?_
  refine Q_bipush (pc := 798) (v := nI 13) C dL_law_798 (by decide) ?_
  refine Q_iaddN (pc := 800) C dL_law_800 ?_
  refine Q_sld (pc := 801) C hX hb hbG hG (by omega) (by omega) dL_law_801 ?_
  refine Q_i2l (pc := 802) C dL_law_802 rfl ?_
  refine Q_ldc2 (pc := 803) C dL_law_803 l_L_85 ?_
  refine Q_land (pc := 806) C dL_law_806 ?_
  refine Q_lor (pc := 807) C dL_law_807 ?_
  refine Q_callV1 (pc := 808) C dL_law_808 m_L_90 K2 ⟨jle rfl, jle rfl⟩ h1000 rfl rfl rfl rfl (jle rfl) ⟨by show kc + c1 ≤ room_1.cells; omega, by show ks + s1 ≤ room_1.slots; omega⟩ ?_
  refine Q_istore (pc := 811) C dL_law_811 (jlt rfl) rfl ?_
  dsimp only [List.set]
  refine Q_aload_n (pc := 813) C dL_law_813 rfl rfl ?_
  obtain ⟨fs2, h2⟩ := hE2.r1000
  refine Q_callV1 (pc := 814) C dL_law_814 m_L_60 (hE2.thr (l := l) (G := G)) ⟨jle rfl, jle rfl⟩ h2 rfl rfl rfl rfl (jle rfl) ⟨by show kc + c1 ≤ room_1.cells; omega, by show ks + s1 ≤ room_1.slots; omega⟩ ?_
  refine Q_iload (pc := 817) C dL_law_817 rfl ?_
  refine Q_icmp_eqN (pc := 819) (tgt := 824) C dL_law_819 rfl (by omega) (by omega) (fun _ => ?_) (fun h => absurd rfl h)
  refine Q_iload (pc := 824) C dL_law_824 rfl ?_
  refine Q_if_neN (pc := 826) (tgt := 841) C dL_law_826 rfl (by omega) (fun _ => ?_) (fun hk0 => ?_)
  · refine Q_goto (pc := 841) (tgt := 1011) C dL_law_841 rfl ?_
    exact hnext _ _ _ M2 k f9 n9 (kc + c1) (ks + s1) hE2 (by omega) (by omega)
  have hv := hv hk0
  refine Q_aload_n (pc := 829) C dL_law_829 rfl rfl ?_
  refine Q_iconst (pc := 830) (v := nI 0) C dL_law_830 (by decide) ?_
  refine Q_laldN (pc := 831) C dL_law_831 hE2.r1021 (by omega) (by omega) ?_
  refine Q_iload (pc := 832) C dL_law_832 rfl ?_
  refine Q_i2l (pc := 834) C dL_law_834 rfl ?_
  refine Q_lcmp (pc := 835) C dL_law_835 ?_
  refine Q_if_eq (pc := 836) (tgt := 841) C dL_law_836 rfl (fun _ => ?_) (fun h => absurd (by rw [hv]; exact lcmp_self _) h)
  refine Q_goto (pc := 841) (tgt := 1011) C dL_law_841 rfl ?_
  exact hnext _ _ _ M2 k f9 n9 (kc + c1) (ks + s1) hE2 (by omega) (by omega)
set_option maxHeartbeats 4000000 in
set_option maxRecDepth 100000 in
theorem lc_8 (C : jX0 p l room_1 s m args meth c G cL_law 8 RL ret) (N : jNC s) (hst : l.stackTraces = false) (hX : va_X b L xs s s.heap) (hb : b < s.heap.size) (hbG : b < G.1) (hG : G.2.1 900 = b) (hL : L ≤ 896) {d i : Nat} (hnext : ∀ (a5 a6 a7 : Option Value) (M : jMem) (er : Nat) (f : Nat → Int64) (n : Option Nat) (kc ks : Nat), lE er f n M → kc + d ≤ room_1.cells → ks + 6 * d ≤ room_1.slots → Jq p l e room_1 s m args below meth c G 8 Q 1011 [some (.ref 2900), some (.ref 0), some (.ref 1000), some (.ref 1021), some (.int (nI i)), a5, a6, a7] [] M kc ks) {er nz kc ks : Nat} {f : Nat → Int64} {M : jMem} (hE : lE er f (some nz) M) (hi : i + 14 ≤ L) (hc : kc + (d + 1) ≤ room_1.cells) (hs : ks + 6 * (d + 1) ≤ room_1.slots) : Jq p l e room_1 s m args below meth c G 8 Q 844 [some (.ref 2900), some (.ref 0), some (.ref 1000), some (.ref 1021), some (.int (nI i)), none, none, none] [] M kc ks := by
  refine Q_aload_n (pc := 844) C dL_law_844 rfl rfl ?_
  refine Q_aload_n (pc := 845) C dL_law_845 rfl rfl ?_
  refine Q_iload (pc := 846) C dL_law_846 rfl ?_
  refine Q_iconst (pc := 848) (v := nI 1) C dL_law_848 (by decide) ?_
  refine Q_iaddN (pc := 849) C dL_law_849 ?_
  refine Q_sld (pc := 850) C hX hb hbG hG (by omega) (by omega) dL_law_850 ?_
  refine Q_aload_n (pc := 851) C dL_law_851 rfl rfl ?_
  refine Q_callSw (pc := 852) (n := 3) (st := []) C N dL_law_852 hc_text hl_text hs_text ii_L ⟨by decide, by decide, by decide +kernel⟩ (st_text hst hE _) (by rintro E M9 ⟨k9, M1, M2, b9, f9, n9, h9, -⟩; cases h9) ⟨jle rfl, jle rfl⟩ rfl rfl (jle rfl) ⟨by show kc + 1 ≤ room_1.cells; omega, by show ks + 6 ≤ room_1.slots; omega⟩ (fun c1 s1 v9 M9 hc1 hs1 h9 => ?_)
  obtain ⟨k, M1, M2, b9, f9, n9, h9, hk, ⟨fs9, h1000⟩, K2, hE2, hv⟩ := h9
  cases h9
  refine Q_istore (pc := 855) C dL_law_855 (jlt rfl) rfl ?_
  dsimp only [List.set]
  refine Q_aload_n (pc := 857) C dL_law_857 rfl rfl ?_
  refine Q_aload_n (pc := 858) C dL_law_858 rfl rfl ?_
  refine Q_iload (pc := 859) C dL_law_859 rfl ?_
  refine Q_iconst (pc := 861) (v := nI 1) C dL_law_861 (by decide) ?_
  refine Q_iaddN (pc := 862) C dL_law_862 ?_
  refine Q_sld (pc := 863) C hX hb hbG hG (by omega) (by omega) dL_law_863 ?_
  refine Q_callV1 (pc := 864) C dL_law_864 m_L_93 K2 ⟨jle rfl, jle rfl⟩ h1000 rfl rfl rfl rfl (jle rfl) ⟨by show kc + c1 ≤ room_1.cells; omega, by show ks + s1 ≤ room_1.slots; omega⟩ ?_
  refine Q_istore (pc := 867) C dL_law_867 (jlt rfl) rfl ?_
  dsimp only [List.set]
  refine Q_aload_n (pc := 869) C dL_law_869 rfl rfl ?_
  obtain ⟨fs2, h2⟩ := hE2.r1000
  refine Q_callV1 (pc := 870) C dL_law_870 m_L_60 (hE2.thr (l := l) (G := G)) ⟨jle rfl, jle rfl⟩ h2 rfl rfl rfl rfl (jle rfl) ⟨by show kc + c1 ≤ room_1.cells; omega, by show ks + s1 ≤ room_1.slots; omega⟩ ?_
  refine Q_iload (pc := 873) C dL_law_873 rfl ?_
  refine Q_icmp_eqN (pc := 875) (tgt := 880) C dL_law_875 rfl (by omega) (by omega) (fun _ => ?_) (fun h => absurd rfl h)
  refine Q_iload (pc := 880) C dL_law_880 rfl ?_
  refine Q_if_neN (pc := 882) (tgt := 897) C dL_law_882 rfl (by omega) (fun _ => ?_) (fun hk0 => ?_)
  · refine Q_goto (pc := 897) (tgt := 1011) C dL_law_897 rfl ?_
    exact hnext _ _ _ M2 k f9 n9 (kc + c1) (ks + s1) hE2 (by omega) (by omega)
  have hv := hv hk0
  refine Q_aload_n (pc := 885) C dL_law_885 rfl rfl ?_
  refine Q_iconst (pc := 886) (v := nI 0) C dL_law_886 (by decide) ?_
  refine Q_laldN (pc := 887) C dL_law_887 hE2.r1021 (by omega) (by omega) ?_
  refine Q_iload (pc := 888) C dL_law_888 rfl ?_
  refine Q_i2l (pc := 890) C dL_law_890 rfl ?_
  refine Q_lcmp (pc := 891) C dL_law_891 ?_
  refine Q_if_eq (pc := 892) (tgt := 897) C dL_law_892 rfl (fun _ => ?_) (fun h => absurd (by rw [hv]; exact lcmp_self _) h)
  refine Q_goto (pc := 897) (tgt := 1011) C dL_law_897 rfl ?_
  exact hnext _ _ _ M2 k f9 n9 (kc + c1) (ks + s1) hE2 (by omega) (by omega)
set_option maxHeartbeats 4000000 in
set_option maxRecDepth 100000 in
theorem lc_9 (C : jX0 p l room_1 s m args meth c G cL_law 8 RL ret) (N : jNC s) (hst : l.stackTraces = false) (hX : va_X b L xs s s.heap) (hb : b < s.heap.size) (hbG : b < G.1) (hG : G.2.1 900 = b) (hL : L ≤ 896) {d i : Nat} (hnext : ∀ (a5 a6 a7 : Option Value) (M : jMem) (er : Nat) (f : Nat → Int64) (n : Option Nat) (kc ks : Nat), lE er f n M → kc + d ≤ room_1.cells → ks + 6 * d ≤ room_1.slots → Jq p l e room_1 s m args below meth c G 8 Q 1011 [some (.ref 2900), some (.ref 0), some (.ref 1000), some (.ref 1021), some (.int (nI i)), a5, a6, a7] [] M kc ks) {er nz kc ks : Nat} {f : Nat → Int64} {M : jMem} (hE : lE er f (some nz) M) (hi : i + 14 ≤ L) (hc : kc + (d + 1) ≤ room_1.cells) (hs : ks + 6 * (d + 1) ≤ room_1.slots) : Jq p l e room_1 s m args below meth c G 8 Q 900 [some (.ref 2900), some (.ref 0), some (.ref 1000), some (.ref 1021), some (.int (nI i)), none, none, none] [] M kc ks := by
  refine Q_aload_n (pc := 900) C dL_law_900 rfl rfl ?_
  refine Q_aload_n (pc := 901) C dL_law_901 rfl rfl ?_
  refine Q_iload (pc := 902) C dL_law_902 rfl ?_
  refine Q_iconst (pc := 904) (v := nI 1) C dL_law_904 (by decide) ?_
  refine Q_iaddN (pc := 905) C dL_law_905 ?_
  refine Q_sld (pc := 906) C hX hb hbG hG (by omega) (by omega) dL_law_906 ?_
  refine Q_aload_n (pc := 907) C dL_law_907 rfl rfl ?_
  refine Q_callSw (pc := 908) (n := 3) (st := []) C N dL_law_908 hc_letters hl_letters hs_letters ii_L ⟨by decide, by decide, by decide +kernel⟩ (st_letters hst hE _) (by rintro E M9 ⟨k9, M1, M2, b9, f9, n9, h9, -⟩; cases h9) ⟨jle rfl, jle rfl⟩ rfl rfl (jle rfl) ⟨by show kc + 1 ≤ room_1.cells; omega, by show ks + 6 ≤ room_1.slots; omega⟩ (fun c1 s1 v9 M9 hc1 hs1 h9 => ?_)
  obtain ⟨k, M1, M2, b9, f9, n9, h9, hk, ⟨fs9, h1000⟩, K2, hE2, hv⟩ := h9
  cases h9
  refine Q_istore (pc := 911) C dL_law_911 (jlt rfl) rfl ?_
  dsimp only [List.set]
  refine Q_aload_n (pc := 913) C dL_law_913 rfl rfl ?_
  refine Q_aload_n (pc := 914) C dL_law_914 rfl rfl ?_
  refine Q_iload (pc := 915) C dL_law_915 rfl ?_
  refine Q_iconst (pc := 917) (v := nI 1) C dL_law_917 (by decide) ?_
  refine Q_iaddN (pc := 918) C dL_law_918 ?_
  refine Q_sld (pc := 919) C hX hb hbG hG (by omega) (by omega) dL_law_919 ?_
  refine Q_callV1 (pc := 920) C dL_law_920 m_L_96 K2 ⟨jle rfl, jle rfl⟩ h1000 rfl rfl rfl rfl (jle rfl) ⟨by show kc + c1 ≤ room_1.cells; omega, by show ks + s1 ≤ room_1.slots; omega⟩ ?_
  refine Q_lstore (pc := 923) C dL_law_923 (jlt rfl) rfl ?_
  dsimp only [List.set]
  refine Q_aload_n (pc := 925) C dL_law_925 rfl rfl ?_
  obtain ⟨fs2, h2⟩ := hE2.r1000
  refine Q_callV1 (pc := 926) C dL_law_926 m_L_60 (hE2.thr (l := l) (G := G)) ⟨jle rfl, jle rfl⟩ h2 rfl rfl rfl rfl (jle rfl) ⟨by show kc + c1 ≤ room_1.cells; omega, by show ks + s1 ≤ room_1.slots; omega⟩ ?_
  refine Q_iload (pc := 929) C dL_law_929 rfl ?_
  refine Q_icmp_eqN (pc := 931) (tgt := 936) C dL_law_931 rfl (by omega) (by omega) (fun _ => ?_) (fun h => absurd rfl h)
  refine Q_iload (pc := 936) C dL_law_936 rfl ?_
  refine Q_if_neN (pc := 938) (tgt := 952) C dL_law_938 rfl (by omega) (fun _ => ?_) (fun hk0 => ?_)
  · refine Q_goto (pc := 952) (tgt := 1011) C dL_law_952 rfl ?_
    exact hnext _ _ _ M2 k f9 n9 (kc + c1) (ks + s1) hE2 (by omega) (by omega)
  have hv := hv hk0
  refine Q_aload_n (pc := 941) C dL_law_941 rfl rfl ?_
  refine Q_iconst (pc := 942) (v := nI 0) C dL_law_942 (by decide) ?_
  refine Q_laldN (pc := 943) C dL_law_943 hE2.r1021 (by omega) (by omega) ?_
  refine Q_lload (pc := 944) C dL_law_944 rfl ?_
  refine Q_lcmp (pc := 946) C dL_law_946 ?_
  refine Q_if_eq (pc := 947) (tgt := 952) C dL_law_947 rfl (fun _ => ?_) (fun h => absurd (by rw [hv]; exact lcmp_self _) h)
  refine Q_goto (pc := 952) (tgt := 1011) C dL_law_952 rfl ?_
  exact hnext _ _ _ M2 k f9 n9 (kc + c1) (ks + s1) hE2 (by omega) (by omega)
set_option maxHeartbeats 4000000 in
set_option maxRecDepth 100000 in
theorem lc_10 (C : jX0 p l room_1 s m args meth c G cL_law 8 RL ret) (N : jNC s) (hst : l.stackTraces = false) (hX : va_X b L xs s s.heap) (hb : b < s.heap.size) (hbG : b < G.1) (hG : G.2.1 900 = b) (hL : L ≤ 896) {d i : Nat} (hnext : ∀ (a5 a6 a7 : Option Value) (M : jMem) (er : Nat) (f : Nat → Int64) (n : Option Nat) (kc ks : Nat), lE er f n M → kc + d ≤ room_1.cells → ks + 6 * d ≤ room_1.slots → Jq p l e room_1 s m args below meth c G 8 Q 1011 [some (.ref 2900), some (.ref 0), some (.ref 1000), some (.ref 1021), some (.int (nI i)), a5, a6, a7] [] M kc ks) {er nz kc ks : Nat} {f : Nat → Int64} {M : jMem} (hE : lE er f (some nz) M) (hi : i + 14 ≤ L) (hc : kc + (d + 1) ≤ room_1.cells) (hs : ks + 6 * (d + 1) ≤ room_1.slots) : Jq p l e room_1 s m args below meth c G 8 Q 955 [some (.ref 2900), some (.ref 0), some (.ref 1000), some (.ref 1021), some (.int (nI i)), none, none, none] [] M kc ks := by
  refine Q_aload_n (pc := 955) C dL_law_955 rfl rfl ?_
  refine Q_aload_n (pc := 956) C dL_law_956 rfl rfl ?_
  refine Q_iload (pc := 957) C dL_law_957 rfl ?_
  refine Q_iconst (pc := 959) (v := nI 1) C dL_law_959 (by decide) ?_
  refine Q_iaddN (pc := 960) C dL_law_960 ?_
  refine Q_sld (pc := 961) C hX hb hbG hG (by omega) (by omega) dL_law_961 ?_
  refine Q_aload_n (pc := 962) C dL_law_962 rfl rfl ?_
  refine Q_callSw (pc := 963) (n := 3) (st := []) C N dL_law_963 hc_count hl_count hs_count ii_L ⟨by decide, by decide, by decide +kernel⟩ (st_count hst hE _) (by rintro E M9 ⟨k9, M1, M2, b9, f9, n9, h9, -⟩; cases h9) ⟨jle rfl, jle rfl⟩ rfl rfl (jle rfl) ⟨by show kc + 1 ≤ room_1.cells; omega, by show ks + 6 ≤ room_1.slots; omega⟩ (fun c1 s1 v9 M9 hc1 hs1 h9 => ?_)
  obtain ⟨k, M1, M2, b9, f9, n9, h9, hk, ⟨fs9, h1000⟩, K2, hE2, hv⟩ := h9
  cases h9
  refine Q_istore (pc := 966) C dL_law_966 (jlt rfl) rfl ?_
  dsimp only [List.set]
  refine Q_aload_n (pc := 968) C dL_law_968 rfl rfl ?_
  refine Q_aload_n (pc := 969) C dL_law_969 rfl rfl ?_
  refine Q_iload (pc := 970) C dL_law_970 rfl ?_
  refine Q_iconst (pc := 972) (v := nI 1) C dL_law_972 (by decide) ?_
  refine Q_iaddN (pc := 973) C dL_law_973 ?_
  refine Q_sld (pc := 974) C hX hb hbG hG (by omega) (by omega) dL_law_974 ?_
  refine Q_callV1 (pc := 975) C dL_law_975 m_L_99 K2 ⟨jle rfl, jle rfl⟩ h1000 rfl rfl rfl rfl (jle rfl) ⟨by show kc + c1 ≤ room_1.cells; omega, by show ks + s1 ≤ room_1.slots; omega⟩ ?_
  refine Q_istore (pc := 978) C dL_law_978 (jlt rfl) rfl ?_
  dsimp only [List.set]
  refine Q_aload_n (pc := 980) C dL_law_980 rfl rfl ?_
  obtain ⟨fs2, h2⟩ := hE2.r1000
  refine Q_callV1 (pc := 981) C dL_law_981 m_L_60 (hE2.thr (l := l) (G := G)) ⟨jle rfl, jle rfl⟩ h2 rfl rfl rfl rfl (jle rfl) ⟨by show kc + c1 ≤ room_1.cells; omega, by show ks + s1 ≤ room_1.slots; omega⟩ ?_
  refine Q_iload (pc := 984) C dL_law_984 rfl ?_
  refine Q_icmp_eqN (pc := 986) (tgt := 991) C dL_law_986 rfl (by omega) (by omega) (fun _ => ?_) (fun h => absurd rfl h)
  refine Q_iload (pc := 991) C dL_law_991 rfl ?_
  refine Q_if_neN (pc := 993) (tgt := 1008) C dL_law_993 rfl (by omega) (fun _ => ?_) (fun hk0 => ?_)
  · refine Q_goto (pc := 1008) (tgt := 1011) C dL_law_1008 rfl ?_
    exact hnext _ _ _ M2 k f9 n9 (kc + c1) (ks + s1) hE2 (by omega) (by omega)
  have hv := hv hk0
  refine Q_aload_n (pc := 996) C dL_law_996 rfl rfl ?_
  refine Q_iconst (pc := 997) (v := nI 0) C dL_law_997 (by decide) ?_
  refine Q_laldN (pc := 998) C dL_law_998 hE2.r1021 (by omega) (by omega) ?_
  refine Q_iload (pc := 999) C dL_law_999 rfl ?_
  refine Q_i2l (pc := 1001) C dL_law_1001 rfl ?_
  refine Q_lcmp (pc := 1002) C dL_law_1002 ?_
  refine Q_if_eq (pc := 1003) (tgt := 1008) C dL_law_1003 rfl (fun _ => ?_) (fun h => absurd (by rw [hv]; exact lcmp_self _) h)
  refine Q_goto (pc := 1008) (tgt := 1011) C dL_law_1008 rfl ?_
  exact hnext _ _ _ M2 k f9 n9 (kc + c1) (ks + s1) hE2 (by omega) (by omega)
end LX
