/-! THE LAW: a call of the class, the same call of the reference -/
abbrev mLaw (nm : String) : MD := (RL, ⟨RL, nm, "([I)Z"⟩, code, 4, some .boolean)
def Scr (X : XT) (G : GG) (b SL : Nat) (xs : Nat → Int32) : Prop := va_X b SL xs X.2.2.2.2.1 X.2.2.2.2.1.heap ∧ b < X.2.2.2.2.1.heap.size ∧ b < G.1 ∧ SL ≤ 384
section LR
variable {X : XT} {G : GG} {M : MD} {lv mc ms N0 : Nat} {cs sl : Nat} {Q : State → Prop} {N : Nat} {sh : SH} {f : MM} {pc : Nat} {ls : List (Option Value)} {st : List Value}
theorem r_sld (C : Cx X G M lv mc ms N0) {b SL : Nat} {xs : Nat → Int32} (S : Scr X G b SL xs) {x : Int32} (n : Nat) (hx : x = nI n) (hn : n < SL) (hd : decode M.2.2.1 pc = .ok (.iaload, 1)) (K : Vw X G M.2.2.2.1 cs sl Q N sh f (pc + 1) ls (.int (xs n) :: st)) : Vw X G M.2.2.2.1 cs sl Q N sh f pc ls (.int x :: .ref b :: st) := by
  subst hx
  obtain ⟨s1, s2, s3, s4⟩ := S
  intro H locs arr hP hz hS hl
  refine va_sld C.1 C.2.1 s1 s2 (Nat.not_le.mpr s3) hS (vp_in_nI hn (by omega)) hd ?_
  rw [nI_clamp (by omega)]
  exact K H locs arr hP hz hS hl
theorem r_slen (C : Cx X G M lv mc ms N0) {b SL : Nat} {xs : Nat → Int32} (S : Scr X G b SL xs) (hd : decode M.2.2.1 pc = .ok (.arraylength, 1)) (K : Vw X G M.2.2.2.1 cs sl Q N sh f (pc + 1) ls (.int (nI SL) :: st)) : Vw X G M.2.2.2.1 cs sl Q N sh f pc ls (.ref b :: st) := by
  obtain ⟨s1, s2, s3, s4⟩ := S
  intro H locs arr hP hz hS hl
  exact va_slen C.1 C.2.1 s1 s2 (Nat.not_le.mpr s3) hS hd (K H locs arr hP hz hS hl)
theorem v_wid {nL k n : Nat} (h1 : cs ≤ k) (h2 : sl ≤ n) (K : Vw X G nL k n Q N sh f pc ls st) : Vw X G nL cs sl Q N sh f pc ls st := fun H locs arr hP hz hS hl => W.widen h1 h2 (K H locs arr hP hz hS hl)
end LR
theorem sz_of {f g : MM} (h : szOK f) (e : g 87 = f 87) : szOK g := fun j hj => by rw [e]; exact h j hj
theorem set87 {f : MM} {a b c : Int32} : CR_set f a b c 87 = f 87 := by
  unfold CR_set
  repeat' split
  all_goals first
    | rfl
    | (rw [u2_row (by decide)]; done)
    | (rw [u2_row (by decide), u2_row (by omega)]; done)
theorem copy87 {f : MM} {a b c d e : Int32} : CR_copy f a b c d e 87 = f 87 := by
  unfold CR_copy CR_copyF
  repeat' split
  all_goals first
    | rfl
    | (rw [u2_row (by decide)]; done)
    | (rw [u2_row (by decide), up_ne (by omega)]; done)
theorem feed85 {f : MM} {a : Int32} : CR_feed f a 85 = f 85 := by
  unfold CR_feed
  repeat' split
  all_goals first
    | rfl
    | (rw [u2_row (by decide), u2_row (by decide)]; done)
theorem way85 {f g2 : MM} {S : PR} {v : Int32} (P : PoWayC f S v g2) : g2 85 = f 85 := by
  rcases P with ⟨-, -, a, -⟩ | ⟨-, -, g, n, a, -, -, -, hn, -, rfl⟩
  · exact funext fun b => a 85 b (by omega) (by omega) (by omega) (by omega) (by omega)
  · rw [u2_row (by decide), C_wbec_ne hn.1 (by omega)]
    exact funext fun b => a 85 b (by omega) (by omega) (by omega) (by omega) (by omega)
theorem as89 {f : MM} {n : Nat} {a b : Int32} : CR_as f n a b 89 = f 89 := by
  unfold CR_as
  repeat' split
  all_goals first
    | rfl
    | (rw [u2_row (by decide)]; done)
theorem ask89 {f : MM} {n : Nat} {a b : Int32} : CR_ask f n a b 89 = f 89 := by
  unfold CR_ask
  repeat' split
  all_goals first
    | rfl
    | (rw [trC_ne _ (by decide) (by decide), u2_row (by decide)]; done)
theorem fits_e {f g2 : MM} {s : Option Int32} (h : CR_fits f s g2) : g2 89 = f 89 ∧ g2 87 = f 87 := by
  cases s with
  | none => rw [show g2 = f from h]; exact ⟨rfl, rfl⟩
  | some x =>
    obtain ⟨g3, h3, rfl⟩ := h
    rw [u2_row (by decide), u2_row (by decide)]
    exact ⟨h3 89 (by omega), h3 87 (by omega)⟩
set_option maxRecDepth 100000 in
set_option maxHeartbeats 4000000 in
theorem st_row {X : XT} {G : GG} {nm : String} {kn : Nat} {f : MM} {b SL i cs sl : Nat} {xs : Nat → Int32} {Q : State → Prop} (C : Cx X G (mLaw nm) 1311 600000 7302250 0) (S : Scr X G b SL xs) (hi : i + 6 ≤ SL) (hc : cs + 10 ≤ 600000 ∧ sl + 67 ≤ 7302250) (I : Inv kn f) (K : ∀ (kn' : Nat) (f' : MM), Inv kn' f' → Vw X G (mLaw nm).2.2.2.1 (cs + 10) (sl + 67) Q (NN kn') (shF kn') f' 995 [some (.ref b), some (.ref (G.1 + 0)), some (.ref (G.1 + 85)), some (.int (nI i))] []) : Vw X G (mLaw nm).2.2.2.1 cs sl Q (NN kn) (shF kn) f 172 [some (.ref b), some (.ref (G.1 + 0)), some (.ref (G.1 + 85)), some (.int (nI i))] [] := by
  refine r_aload_n (pc := 172) C dL_law_172 rfl ?_
  refine r_aload_n (pc := 173) C dL_law_173 rfl ?_
  refine r_iload_n (pc := 174) C dL_law_174 rfl ?_
  refine r_iconst (pc := 175) C (1) dL_law_175 (by decide) ?_
  refine r_iadd (pc := 176) C dL_law_176 ?_
  refine r_sld (pc := 177) C S (i + 1) (nI_addE rfl rfl) (by omega) dL_law_177 ?_
  refine r_aload_n (pc := 178) C dL_law_178 rfl ?_
  refine r_iload_n (pc := 179) C dL_law_179 rfl ?_
  refine r_iconst (pc := 180) C (2) dL_law_180 (by decide) ?_
  refine r_iadd (pc := 181) C dL_law_181 ?_
  refine r_sld (pc := 182) C S (i + 2) (nI_addE rfl rfl) (by omega) dL_law_182 ?_
  refine r_aload_n (pc := 183) C dL_law_183 rfl ?_
  refine r_iload_n (pc := 184) C dL_law_184 rfl ?_
  refine r_iconst (pc := 185) C (3) dL_law_185 (by decide) ?_
  refine r_iadd (pc := 186) C dL_law_186 ?_
  refine r_sld (pc := 187) C S (i + 3) (nI_addE rfl rfl) (by omega) dL_law_187 ?_
  refine q_vIf (pc := 188) C kL_13 dL_law_188 (c_X8_row) (s_0 _) rfl rfl (Nat.le_of_ble_eq_true rfl) (by decide) ⟨by omega, by omega⟩ ?_
  refine r_aload_n (pc := 191) C dL_law_191 rfl ?_
  refine r_aload_n (pc := 192) C dL_law_192 rfl ?_
  refine r_iload_n (pc := 193) C dL_law_193 rfl ?_
  refine r_iconst (pc := 194) C (1) dL_law_194 (by decide) ?_
  refine r_iadd (pc := 195) C dL_law_195 ?_
  refine r_sld (pc := 196) C S (i + 1) (nI_addE rfl rfl) (by omega) dL_law_196 ?_
  refine r_aload_n (pc := 197) C dL_law_197 rfl ?_
  refine r_iload_n (pc := 198) C dL_law_198 rfl ?_
  refine r_iconst (pc := 199) C (2) dL_law_199 (by decide) ?_
  refine r_iadd (pc := 200) C dL_law_200 ?_
  refine r_sld (pc := 201) C S (i + 2) (nI_addE rfl rfl) (by omega) dL_law_201 ?_
  refine r_aload_n (pc := 202) C dL_law_202 rfl ?_
  refine r_iload_n (pc := 203) C dL_law_203 rfl ?_
  refine r_iconst (pc := 204) C (3) dL_law_204 (by decide) ?_
  refine r_iadd (pc := 205) C dL_law_205 ?_
  refine r_sld (pc := 206) C S (i + 3) (nI_addE rfl rfl) (by omega) dL_law_206 ?_
  refine q_vIf (pc := 207) C kL_17 dL_law_207 (c_X9_row) (s_85 _) rfl rfl (Nat.le_of_ble_eq_true rfl) (by decide) ⟨by omega, by omega⟩ ?_
  refine r_icmp_eq (pc := 210) C 995 dL_law_210 (by decide) (fun _ => ?_) (fun z => absurd ((s_row I).1.symm) z)
  exact v_wid (by omega) (by omega) (K kn _ ((s_row I).2))
set_option maxRecDepth 100000 in
set_option maxHeartbeats 4000000 in
theorem st_set {X : XT} {G : GG} {nm : String} {kn : Nat} {f : MM} {b SL i cs sl : Nat} {xs : Nat → Int32} {Q : State → Prop} (C : Cx X G (mLaw nm) 1311 600000 7302250 0) (S : Scr X G b SL xs) (hi : i + 6 ≤ SL) (hc : cs + 10 ≤ 600000 ∧ sl + 67 ≤ 7302250) (I : Inv kn f) (K : ∀ (kn' : Nat) (f' : MM), Inv kn' f' → Vw X G (mLaw nm).2.2.2.1 (cs + 10) (sl + 67) Q (NN kn') (shF kn') f' 995 [some (.ref b), some (.ref (G.1 + 0)), some (.ref (G.1 + 85)), some (.int (nI i))] []) : Vw X G (mLaw nm).2.2.2.1 cs sl Q (NN kn) (shF kn) f 215 [some (.ref b), some (.ref (G.1 + 0)), some (.ref (G.1 + 85)), some (.int (nI i))] [] := by
  refine r_aload_n (pc := 215) C dL_law_215 rfl ?_
  refine r_aload_n (pc := 216) C dL_law_216 rfl ?_
  refine r_iload_n (pc := 217) C dL_law_217 rfl ?_
  refine r_iconst (pc := 218) C (1) dL_law_218 (by decide) ?_
  refine r_iadd (pc := 219) C dL_law_219 ?_
  refine r_sld (pc := 220) C S (i + 1) (nI_addE rfl rfl) (by omega) dL_law_220 ?_
  refine r_aload_n (pc := 221) C dL_law_221 rfl ?_
  refine r_iload_n (pc := 222) C dL_law_222 rfl ?_
  refine r_iconst (pc := 223) C (2) dL_law_223 (by decide) ?_
  refine r_iadd (pc := 224) C dL_law_224 ?_
  refine r_sld (pc := 225) C S (i + 2) (nI_addE rfl rfl) (by omega) dL_law_225 ?_
  refine r_aload_n (pc := 226) C dL_law_226 rfl ?_
  refine r_iload_n (pc := 227) C dL_law_227 rfl ?_
  refine r_iconst (pc := 228) C (3) dL_law_228 (by decide) ?_
  refine r_iadd (pc := 229) C dL_law_229 ?_
  refine r_sld (pc := 230) C S (i + 3) (nI_addE rfl rfl) (by omega) dL_law_230 ?_
  refine q_vIf (pc := 231) C kL_18 dL_law_231 (c_X8_set I.row) (s_0 _) rfl rfl (Nat.le_of_ble_eq_true rfl) (by decide) ⟨by omega, by omega⟩ ?_
  refine r_aload_n (pc := 234) C dL_law_234 rfl ?_
  refine r_aload_n (pc := 235) C dL_law_235 rfl ?_
  refine r_iload_n (pc := 236) C dL_law_236 rfl ?_
  refine r_iconst (pc := 237) C (1) dL_law_237 (by decide) ?_
  refine r_iadd (pc := 238) C dL_law_238 ?_
  refine r_sld (pc := 239) C S (i + 1) (nI_addE rfl rfl) (by omega) dL_law_239 ?_
  refine r_aload_n (pc := 240) C dL_law_240 rfl ?_
  refine r_iload_n (pc := 241) C dL_law_241 rfl ?_
  refine r_iconst (pc := 242) C (2) dL_law_242 (by decide) ?_
  refine r_iadd (pc := 243) C dL_law_243 ?_
  refine r_sld (pc := 244) C S (i + 2) (nI_addE rfl rfl) (by omega) dL_law_244 ?_
  refine r_aload_n (pc := 245) C dL_law_245 rfl ?_
  refine r_iload_n (pc := 246) C dL_law_246 rfl ?_
  refine r_iconst (pc := 247) C (3) dL_law_247 (by decide) ?_
  refine r_iadd (pc := 248) C dL_law_248 ?_
  refine r_sld (pc := 249) C S (i + 3) (nI_addE rfl rfl) (by omega) dL_law_249 ?_
  refine q_vIf (pc := 250) C kL_21 dL_law_250 (c_X9_set (sz_of I.row.sz set87)) (s_85 _) rfl rfl (Nat.le_of_ble_eq_true rfl) (by decide) ⟨by omega, by omega⟩ ?_
  refine r_icmp_eq (pc := 253) C 995 dL_law_253 (by decide) (fun _ => ?_) (fun z => absurd ((s_set I).1.symm) z)
  exact v_wid (by omega) (by omega) (K kn _ ((s_set I).2))
set_option maxRecDepth 100000 in
set_option maxHeartbeats 4000000 in
theorem st_copy {X : XT} {G : GG} {nm : String} {kn : Nat} {f : MM} {b SL i cs sl : Nat} {xs : Nat → Int32} {Q : State → Prop} (C : Cx X G (mLaw nm) 1311 600000 7302250 0) (S : Scr X G b SL xs) (hi : i + 6 ≤ SL) (hc : cs + 10 ≤ 600000 ∧ sl + 67 ≤ 7302250) (I : Inv kn f) (K : ∀ (kn' : Nat) (f' : MM), Inv kn' f' → Vw X G (mLaw nm).2.2.2.1 (cs + 10) (sl + 67) Q (NN kn') (shF kn') f' 995 [some (.ref b), some (.ref (G.1 + 0)), some (.ref (G.1 + 85)), some (.int (nI i))] []) : Vw X G (mLaw nm).2.2.2.1 cs sl Q (NN kn) (shF kn) f 258 [some (.ref b), some (.ref (G.1 + 0)), some (.ref (G.1 + 85)), some (.int (nI i))] [] := by
  refine r_aload_n (pc := 258) C dL_law_258 rfl ?_
  refine r_aload_n (pc := 259) C dL_law_259 rfl ?_
  refine r_iload_n (pc := 260) C dL_law_260 rfl ?_
  refine r_iconst (pc := 261) C (1) dL_law_261 (by decide) ?_
  refine r_iadd (pc := 262) C dL_law_262 ?_
  refine r_sld (pc := 263) C S (i + 1) (nI_addE rfl rfl) (by omega) dL_law_263 ?_
  refine r_aload_n (pc := 264) C dL_law_264 rfl ?_
  refine r_iload_n (pc := 265) C dL_law_265 rfl ?_
  refine r_iconst (pc := 266) C (2) dL_law_266 (by decide) ?_
  refine r_iadd (pc := 267) C dL_law_267 ?_
  refine r_sld (pc := 268) C S (i + 2) (nI_addE rfl rfl) (by omega) dL_law_268 ?_
  refine r_aload_n (pc := 269) C dL_law_269 rfl ?_
  refine r_iload_n (pc := 270) C dL_law_270 rfl ?_
  refine r_iconst (pc := 271) C (3) dL_law_271 (by decide) ?_
  refine r_iadd (pc := 272) C dL_law_272 ?_
  refine r_sld (pc := 273) C S (i + 3) (nI_addE rfl rfl) (by omega) dL_law_273 ?_
  refine r_aload_n (pc := 274) C dL_law_274 rfl ?_
  refine r_iload_n (pc := 275) C dL_law_275 rfl ?_
  refine r_iconst (pc := 276) C (4) dL_law_276 (by decide) ?_
  refine r_iadd (pc := 277) C dL_law_277 ?_
  refine r_sld (pc := 278) C S (i + 4) (nI_addE rfl rfl) (by omega) dL_law_278 ?_
  refine r_aload_n (pc := 279) C dL_law_279 rfl ?_
  refine r_iload_n (pc := 280) C dL_law_280 rfl ?_
  refine r_iconst (pc := 281) C (5) dL_law_281 (by decide) ?_
  refine r_iadd (pc := 282) C dL_law_282 ?_
  refine r_sld (pc := 283) C S (i + 5) (nI_addE rfl rfl) (by omega) dL_law_283 ?_
  refine q_vIf (pc := 284) C kL_22 dL_law_284 (c_X8_copy I.row) (s_0 _) rfl rfl (Nat.le_of_ble_eq_true rfl) (by decide) ⟨by omega, by omega⟩ ?_
  refine r_aload_n (pc := 287) C dL_law_287 rfl ?_
  refine r_aload_n (pc := 288) C dL_law_288 rfl ?_
  refine r_iload_n (pc := 289) C dL_law_289 rfl ?_
  refine r_iconst (pc := 290) C (1) dL_law_290 (by decide) ?_
  refine r_iadd (pc := 291) C dL_law_291 ?_
  refine r_sld (pc := 292) C S (i + 1) (nI_addE rfl rfl) (by omega) dL_law_292 ?_
  refine r_aload_n (pc := 293) C dL_law_293 rfl ?_
  refine r_iload_n (pc := 294) C dL_law_294 rfl ?_
  refine r_iconst (pc := 295) C (2) dL_law_295 (by decide) ?_
  refine r_iadd (pc := 296) C dL_law_296 ?_
  refine r_sld (pc := 297) C S (i + 2) (nI_addE rfl rfl) (by omega) dL_law_297 ?_
  refine r_aload_n (pc := 298) C dL_law_298 rfl ?_
  refine r_iload_n (pc := 299) C dL_law_299 rfl ?_
  refine r_iconst (pc := 300) C (3) dL_law_300 (by decide) ?_
  refine r_iadd (pc := 301) C dL_law_301 ?_
  refine r_sld (pc := 302) C S (i + 3) (nI_addE rfl rfl) (by omega) dL_law_302 ?_
  refine r_aload_n (pc := 303) C dL_law_303 rfl ?_
  refine r_iload_n (pc := 304) C dL_law_304 rfl ?_
  refine r_iconst (pc := 305) C (4) dL_law_305 (by decide) ?_
  refine r_iadd (pc := 306) C dL_law_306 ?_
  refine r_sld (pc := 307) C S (i + 4) (nI_addE rfl rfl) (by omega) dL_law_307 ?_
  refine r_aload_n (pc := 308) C dL_law_308 rfl ?_
  refine r_iload_n (pc := 309) C dL_law_309 rfl ?_
  refine r_iconst (pc := 310) C (5) dL_law_310 (by decide) ?_
  refine r_iadd (pc := 311) C dL_law_311 ?_
  refine r_sld (pc := 312) C S (i + 5) (nI_addE rfl rfl) (by omega) dL_law_312 ?_
  refine q_vIf (pc := 313) C kL_26 dL_law_313 (c_X9_copy (sz_of I.row.sz copy87)) (s_85 _) rfl rfl (Nat.le_of_ble_eq_true rfl) (by decide) ⟨by omega, by omega⟩ ?_
  refine r_icmp_eq (pc := 316) C 995 dL_law_316 (by decide) (fun _ => ?_) (fun z => absurd ((s_copy I).1.symm) z)
  exact v_wid (by omega) (by omega) (K kn _ ((s_copy I).2))
set_option maxRecDepth 100000 in
set_option maxHeartbeats 4000000 in
theorem st_drop {X : XT} {G : GG} {nm : String} {kn : Nat} {f : MM} {b SL i cs sl : Nat} {xs : Nat → Int32} {Q : State → Prop} (C : Cx X G (mLaw nm) 1311 600000 7302250 0) (S : Scr X G b SL xs) (hi : i + 6 ≤ SL) (hc : cs + 10 ≤ 600000 ∧ sl + 67 ≤ 7302250) (I : Inv kn f) (K : ∀ (kn' : Nat) (f' : MM), Inv kn' f' → Vw X G (mLaw nm).2.2.2.1 (cs + 10) (sl + 67) Q (NN kn') (shF kn') f' 995 [some (.ref b), some (.ref (G.1 + 0)), some (.ref (G.1 + 85)), some (.int (nI i))] []) : Vw X G (mLaw nm).2.2.2.1 cs sl Q (NN kn) (shF kn) f 321 [some (.ref b), some (.ref (G.1 + 0)), some (.ref (G.1 + 85)), some (.int (nI i))] [] := by
  refine r_aload_n (pc := 321) C dL_law_321 rfl ?_
  refine r_aload_n (pc := 322) C dL_law_322 rfl ?_
  refine r_iload_n (pc := 323) C dL_law_323 rfl ?_
  refine r_iconst (pc := 324) C (1) dL_law_324 (by decide) ?_
  refine r_iadd (pc := 325) C dL_law_325 ?_
  refine r_sld (pc := 326) C S (i + 1) (nI_addE rfl rfl) (by omega) dL_law_326 ?_
  refine q_vIf (pc := 327) C kL_27 dL_law_327 (c_X8_drop I.row) (s_0 _) rfl rfl (Nat.le_of_ble_eq_true rfl) (by decide) ⟨by omega, by omega⟩ ?_
  refine r_aload_n (pc := 330) C dL_law_330 rfl ?_
  refine r_aload_n (pc := 331) C dL_law_331 rfl ?_
  refine r_iload_n (pc := 332) C dL_law_332 rfl ?_
  refine r_iconst (pc := 333) C (1) dL_law_333 (by decide) ?_
  refine r_iadd (pc := 334) C dL_law_334 ?_
  refine r_sld (pc := 335) C S (i + 1) (nI_addE rfl rfl) (by omega) dL_law_335 ?_
  refine q_vIf (pc := 336) C kL_31 dL_law_336 (c_X9_drop) (s_85 _) rfl rfl (Nat.le_of_ble_eq_true rfl) (by decide) ⟨by omega, by omega⟩ ?_
  refine r_icmp_eq (pc := 339) C 995 dL_law_339 (by decide) (fun _ => ?_) (fun z => absurd ((s_drop I).1.symm) z)
  exact v_wid (by omega) (by omega) (K kn _ ((s_drop I).2))
set_option maxRecDepth 100000 in
set_option maxHeartbeats 4000000 in
theorem st_feed {X : XT} {G : GG} {nm : String} {kn : Nat} {f : MM} {b SL i cs sl : Nat} {xs : Nat → Int32} {Q : State → Prop} (C : Cx X G (mLaw nm) 1311 600000 7302250 0) (S : Scr X G b SL xs) (hi : i + 6 ≤ SL) (hc : cs + 10 ≤ 600000 ∧ sl + 67 ≤ 7302250) (I : Inv kn f) (K : ∀ (kn' : Nat) (f' : MM), Inv kn' f' → Vw X G (mLaw nm).2.2.2.1 (cs + 10) (sl + 67) Q (NN kn') (shF kn') f' 995 [some (.ref b), some (.ref (G.1 + 0)), some (.ref (G.1 + 85)), some (.int (nI i))] []) : Vw X G (mLaw nm).2.2.2.1 cs sl Q (NN kn) (shF kn) f 344 [some (.ref b), some (.ref (G.1 + 0)), some (.ref (G.1 + 85)), some (.int (nI i))] [] := by
  obtain ⟨t3, len, hlen, l1, l2⟩ := I.tap
  refine r_aload_n (pc := 344) C dL_law_344 rfl ?_
  refine r_aload_n (pc := 345) C dL_law_345 rfl ?_
  refine r_iload_n (pc := 346) C dL_law_346 rfl ?_
  refine r_iconst (pc := 347) C (1) dL_law_347 (by decide) ?_
  refine r_iadd (pc := 348) C dL_law_348 ?_
  refine r_sld (pc := 349) C S (i + 1) (nI_addE rfl rfl) (by omega) dL_law_349 ?_
  refine q_vIf (pc := 350) C kL_32 dL_law_350 (c_X8_feed I.tap) (s_0 _) rfl rfl (Nat.le_of_ble_eq_true rfl) (by decide) ⟨by omega, by omega⟩ ?_
  refine r_aload_n (pc := 353) C dL_law_353 rfl ?_
  refine r_aload_n (pc := 354) C dL_law_354 rfl ?_
  refine r_iload_n (pc := 355) C dL_law_355 rfl ?_
  refine r_iconst (pc := 356) C (1) dL_law_356 (by decide) ?_
  refine r_iadd (pc := 357) C dL_law_357 ?_
  refine r_sld (pc := 358) C S (i + 1) (nI_addE rfl rfl) (by omega) dL_law_358 ?_
  refine q_vIf (pc := 359) C kL_35 dL_law_359 (c_X9_feed hlen (by rw [feed85]; exact l2)) (s_85 _) rfl rfl (Nat.le_of_ble_eq_true rfl) (by decide) ⟨by omega, by omega⟩ ?_
  refine r_icmp_eq (pc := 362) C 995 dL_law_362 (by decide) (fun _ => ?_) (fun z => absurd ((s_feed I).1.symm) z)
  exact v_wid (by omega) (by omega) (K kn _ ((s_feed I).2))
set_option maxRecDepth 100000 in
set_option maxHeartbeats 4000000 in
theorem st_way {X : XT} {G : GG} {nm : String} {kn : Nat} {f : MM} {b SL i cs sl : Nat} {xs : Nat → Int32} {Q : State → Prop} (C : Cx X G (mLaw nm) 1311 600000 7302250 0) (S : Scr X G b SL xs) (hi : i + 6 ≤ SL) (hc : cs + 10 ≤ 600000 ∧ sl + 67 ≤ 7302250) (I : Inv kn f) (K : ∀ (kn' : Nat) (f' : MM), Inv kn' f' → Vw X G (mLaw nm).2.2.2.1 (cs + 10) (sl + 67) Q (NN kn') (shF kn') f' 995 [some (.ref b), some (.ref (G.1 + 0)), some (.ref (G.1 + 85)), some (.int (nI i))] []) : Vw X G (mLaw nm).2.2.2.1 cs sl Q (NN kn) (shF kn) f 367 [some (.ref b), some (.ref (G.1 + 0)), some (.ref (G.1 + 85)), some (.int (nI i))] [] := by
  obtain ⟨t3, len, hlen, l1, l2⟩ := I.tap
  refine r_aload_n (pc := 367) C dL_law_367 rfl ?_
  refine q_vI (pc := 368) C kL_36 dL_law_368 (c_X8_way hlen t3 l1) (s_0 _) rfl rfl (Nat.le_of_ble_eq_true rfl) (by decide) ⟨by omega, by omega⟩ ?_
  intro v1 g1 h1
  refine r_aload_n (pc := 371) C dL_law_371 rfl ?_
  refine q_vI (pc := 372) C kL_40 dL_law_372 (c_X9_way hlen (by rw [way85 h1]; exact l2)) (s_85 _) rfl rfl (Nat.le_of_ble_eq_true rfl) (by decide) ⟨by omega, by omega⟩ ?_
  intro v2 g2 h2
  have sw := s_way I h1 h2
  refine r_icmp_eq (pc := 375) C 995 dL_law_375 (by decide) (fun _ => ?_) (fun z => absurd (sw.1) z)
  exact v_wid (by omega) (by omega) (K kn _ (sw.2))
set_option maxRecDepth 100000 in
set_option maxHeartbeats 4000000 in
theorem st_fault {X : XT} {G : GG} {nm : String} {kn : Nat} {f : MM} {b SL i cs sl : Nat} {xs : Nat → Int32} {Q : State → Prop} (C : Cx X G (mLaw nm) 1311 600000 7302250 0) (S : Scr X G b SL xs) (hi : i + 6 ≤ SL) (hc : cs + 10 ≤ 600000 ∧ sl + 67 ≤ 7302250) (I : Inv kn f) (K : ∀ (kn' : Nat) (f' : MM), Inv kn' f' → Vw X G (mLaw nm).2.2.2.1 (cs + 10) (sl + 67) Q (NN kn') (shF kn') f' 995 [some (.ref b), some (.ref (G.1 + 0)), some (.ref (G.1 + 85)), some (.int (nI i))] []) : Vw X G (mLaw nm).2.2.2.1 cs sl Q (NN kn) (shF kn) f 380 [some (.ref b), some (.ref (G.1 + 0)), some (.ref (G.1 + 85)), some (.int (nI i))] [] := by
  refine r_aload_n (pc := 380) C dL_law_380 rfl ?_
  refine q_vIf (pc := 381) C kL_41 dL_law_381 (c_X8_fault) (s_0 _) rfl rfl (Nat.le_of_ble_eq_true rfl) (by decide) ⟨by omega, by omega⟩ ?_
  refine r_aload_n (pc := 384) C dL_law_384 rfl ?_
  refine q_vIf (pc := 385) C kL_44 dL_law_385 (c_X9_fault) (s_85 _) rfl rfl (Nat.le_of_ble_eq_true rfl) (by decide) ⟨by omega, by omega⟩ ?_
  refine r_icmp_eq (pc := 388) C 995 dL_law_388 (by decide) (fun _ => ?_) (fun z => absurd (I.flt) z)
  exact v_wid (by omega) (by omega) (K kn _ (I))
set_option maxRecDepth 100000 in
set_option maxHeartbeats 4000000 in
theorem st_go {X : XT} {G : GG} {nm : String} {kn : Nat} {f : MM} {b SL i cs sl : Nat} {xs : Nat → Int32} {Q : State → Prop} (C : Cx X G (mLaw nm) 1311 600000 7302250 0) (S : Scr X G b SL xs) (hi : i + 6 ≤ SL) (hc : cs + 10 ≤ 600000 ∧ sl + 67 ≤ 7302250) (I : Inv kn f) (K : ∀ (kn' : Nat) (f' : MM), Inv kn' f' → Vw X G (mLaw nm).2.2.2.1 (cs + 10) (sl + 67) Q (NN kn') (shF kn') f' 995 [some (.ref b), some (.ref (G.1 + 0)), some (.ref (G.1 + 85)), some (.int (nI i))] []) : Vw X G (mLaw nm).2.2.2.1 cs sl Q (NN kn) (shF kn) f 393 [some (.ref b), some (.ref (G.1 + 0)), some (.ref (G.1 + 85)), some (.int (nI i))] [] := by
  obtain ⟨n, L, g, W⟩ := I.now
  have hT := I.told
  obtain ⟨a, q, A⟩ := I.act
  refine r_aload_n (pc := 393) C dL_law_393 rfl ?_
  refine r_callv (pc := 394) C kL_45 dL_law_394 (c_X8_go W hT A) (s_0 _) rfl rfl (Nat.le_of_ble_eq_true rfl) (by decide) ⟨by omega, by omega⟩ (fun r0 N0 sh0 g1 h1 => ?_)
  obtain ⟨kn2, v1, rfl, rfl, rfl, h1⟩ := h1
  have sg := s_go I W A h1
  refine r_aload_n (pc := 397) C dL_law_397 rfl ?_
  refine q_vIf (pc := 398) C kL_48 dL_law_398 (c_X9_go W.1.1 W.1.2.1 W.1.2.2 A.1.1 (by rw [sg.1]; exact W.2.1.1) (by rw [sg.1]; exact W.2.1.2.1) (by rw [sg.1]; exact W.2.1.2.2) sg.2.1) (s_85 _) rfl rfl (Nat.le_of_ble_eq_true rfl) (by decide) ⟨by omega, by omega⟩ ?_
  refine r_icmp_eq (pc := 401) C 995 dL_law_401 (by decide) (fun _ => ?_) (fun z => absurd (sg.2.2.1.symm) z)
  exact v_wid (by omega) (by omega) (K kn2 _ (sg.2.2.2))
set_option maxRecDepth 100000 in
set_option maxHeartbeats 4000000 in
theorem st_rule {X : XT} {G : GG} {nm : String} {kn : Nat} {f : MM} {b SL i cs sl : Nat} {xs : Nat → Int32} {Q : State → Prop} (C : Cx X G (mLaw nm) 1311 600000 7302250 0) (S : Scr X G b SL xs) (hi : i + 6 ≤ SL) (hc : cs + 10 ≤ 600000 ∧ sl + 67 ≤ 7302250) (I : Inv kn f) (K : ∀ (kn' : Nat) (f' : MM), Inv kn' f' → Vw X G (mLaw nm).2.2.2.1 (cs + 10) (sl + 67) Q (NN kn') (shF kn') f' 995 [some (.ref b), some (.ref (G.1 + 0)), some (.ref (G.1 + 85)), some (.int (nI i))] []) : Vw X G (mLaw nm).2.2.2.1 cs sl Q (NN kn) (shF kn) f 406 [some (.ref b), some (.ref (G.1 + 0)), some (.ref (G.1 + 85)), some (.int (nI i))] [] := by
  obtain ⟨n, L, g, W⟩ := I.now
  have hT := I.told
  obtain ⟨a, q, A⟩ := I.act
  refine r_aload_n (pc := 406) C dL_law_406 rfl ?_
  refine r_aload_n (pc := 407) C dL_law_407 rfl ?_
  refine r_iload_n (pc := 408) C dL_law_408 rfl ?_
  refine r_iconst (pc := 409) C (1) dL_law_409 (by decide) ?_
  refine r_iadd (pc := 410) C dL_law_410 ?_
  refine r_sld (pc := 411) C S (i + 1) (nI_addE rfl rfl) (by omega) dL_law_411 ?_
  refine r_aload_n (pc := 412) C dL_law_412 rfl ?_
  refine r_iload_n (pc := 413) C dL_law_413 rfl ?_
  refine r_iconst (pc := 414) C (2) dL_law_414 (by decide) ?_
  refine r_iadd (pc := 415) C dL_law_415 ?_
  refine r_sld (pc := 416) C S (i + 2) (nI_addE rfl rfl) (by omega) dL_law_416 ?_
  refine r_callv (pc := 417) C kL_49 dL_law_417 (c_X8_rule W hT A) (s_0 _) rfl rfl (Nat.le_of_ble_eq_true rfl) (by decide) ⟨by omega, by omega⟩ (fun r0 N0 sh0 g1 h1 => ?_)
  obtain ⟨kn2, v1, rfl, rfl, rfl, h1⟩ := h1
  have sg := s_rule I W A h1
  refine r_aload_n (pc := 420) C dL_law_420 rfl ?_
  refine r_aload_n (pc := 421) C dL_law_421 rfl ?_
  refine r_iload_n (pc := 422) C dL_law_422 rfl ?_
  refine r_iconst (pc := 423) C (1) dL_law_423 (by decide) ?_
  refine r_iadd (pc := 424) C dL_law_424 ?_
  refine r_sld (pc := 425) C S (i + 1) (nI_addE rfl rfl) (by omega) dL_law_425 ?_
  refine r_aload_n (pc := 426) C dL_law_426 rfl ?_
  refine r_iload_n (pc := 427) C dL_law_427 rfl ?_
  refine r_iconst (pc := 428) C (2) dL_law_428 (by decide) ?_
  refine r_iadd (pc := 429) C dL_law_429 ?_
  refine r_sld (pc := 430) C S (i + 2) (nI_addE rfl rfl) (by omega) dL_law_430 ?_
  refine q_vIf (pc := 431) C kL_53 dL_law_431 (c_X9_rule A.1.1 sg.2.1) (s_85 _) rfl rfl (Nat.le_of_ble_eq_true rfl) (by decide) ⟨by omega, by omega⟩ ?_
  refine r_icmp_eq (pc := 434) C 995 dL_law_434 (by decide) (fun _ => ?_) (fun z => absurd (sg.2.2.1.symm) z)
  exact v_wid (by omega) (by omega) (K kn2 _ (sg.2.2.2))
set_option maxRecDepth 100000 in
set_option maxHeartbeats 4000000 in
theorem st_give {X : XT} {G : GG} {nm : String} {kn : Nat} {f : MM} {b SL i cs sl : Nat} {xs : Nat → Int32} {Q : State → Prop} (C : Cx X G (mLaw nm) 1311 600000 7302250 0) (S : Scr X G b SL xs) (hi : i + 6 ≤ SL) (hc : cs + 10 ≤ 600000 ∧ sl + 67 ≤ 7302250) (I : Inv kn f) (K : ∀ (kn' : Nat) (f' : MM), Inv kn' f' → Vw X G (mLaw nm).2.2.2.1 (cs + 10) (sl + 67) Q (NN kn') (shF kn') f' 995 [some (.ref b), some (.ref (G.1 + 0)), some (.ref (G.1 + 85)), some (.int (nI i))] []) : Vw X G (mLaw nm).2.2.2.1 cs sl Q (NN kn) (shF kn) f 439 [some (.ref b), some (.ref (G.1 + 0)), some (.ref (G.1 + 85)), some (.int (nI i))] [] := by
  obtain ⟨n, L, g, W⟩ := I.now
  have hT := I.told
  obtain ⟨a, q, A⟩ := I.act
  have hz : 0 < n → ¬ f 85 4 = 0 := fun z1 z2 => by
    have := I.zero z2
    rw [W.now.pt.1] at this
    have := (nIz (by have := W.1.1; omega)).mp this
    omega
  refine r_aload_n (pc := 439) C dL_law_439 rfl ?_
  refine r_aload_n (pc := 440) C dL_law_440 rfl ?_
  refine r_iload_n (pc := 441) C dL_law_441 rfl ?_
  refine r_iconst (pc := 442) C (1) dL_law_442 (by decide) ?_
  refine r_iadd (pc := 443) C dL_law_443 ?_
  refine r_sld (pc := 444) C S (i + 1) (nI_addE rfl rfl) (by omega) dL_law_444 ?_
  refine r_aload_n (pc := 445) C dL_law_445 rfl ?_
  refine r_iload_n (pc := 446) C dL_law_446 rfl ?_
  refine r_iconst (pc := 447) C (2) dL_law_447 (by decide) ?_
  refine r_iadd (pc := 448) C dL_law_448 ?_
  refine r_sld (pc := 449) C S (i + 2) (nI_addE rfl rfl) (by omega) dL_law_449 ?_
  refine r_callv (pc := 450) C kL_54 dL_law_450 (c_X8_give W hT A) (s_0 _) rfl rfl (Nat.le_of_ble_eq_true rfl) (by decide) ⟨by omega, by omega⟩ (fun r0 N0 sh0 g1 h1 => ?_)
  obtain ⟨kn2, v1, rfl, rfl, rfl, h1⟩ := h1
  have sg := s_give I W A hz h1
  refine r_aload_n (pc := 453) C dL_law_453 rfl ?_
  refine r_aload_n (pc := 454) C dL_law_454 rfl ?_
  refine r_iload_n (pc := 455) C dL_law_455 rfl ?_
  refine r_iconst (pc := 456) C (1) dL_law_456 (by decide) ?_
  refine r_iadd (pc := 457) C dL_law_457 ?_
  refine r_sld (pc := 458) C S (i + 1) (nI_addE rfl rfl) (by omega) dL_law_458 ?_
  refine r_aload_n (pc := 459) C dL_law_459 rfl ?_
  refine r_iload_n (pc := 460) C dL_law_460 rfl ?_
  refine r_iconst (pc := 461) C (2) dL_law_461 (by decide) ?_
  refine r_iadd (pc := 462) C dL_law_462 ?_
  refine r_sld (pc := 463) C S (i + 2) (nI_addE rfl rfl) (by omega) dL_law_463 ?_
  refine q_vIf (pc := 464) C kL_57 dL_law_464 (c_X9_give W.1.1 (by rw [sg.1]; exact W.2.1.1) A.1.1 sg.2.1) (s_85 _) rfl rfl (Nat.le_of_ble_eq_true rfl) (by decide) ⟨by omega, by omega⟩ ?_
  refine r_icmp_eq (pc := 467) C 995 dL_law_467 (by decide) (fun _ => ?_) (fun z => absurd (sg.2.2.1.symm) z)
  exact v_wid (by omega) (by omega) (K kn2 _ (sg.2.2.2))
set_option maxRecDepth 100000 in
set_option maxHeartbeats 4000000 in
theorem st_undo {X : XT} {G : GG} {nm : String} {kn : Nat} {f : MM} {b SL i cs sl : Nat} {xs : Nat → Int32} {Q : State → Prop} (C : Cx X G (mLaw nm) 1311 600000 7302250 0) (S : Scr X G b SL xs) (hi : i + 6 ≤ SL) (hc : cs + 10 ≤ 600000 ∧ sl + 67 ≤ 7302250) (I : Inv kn f) (K : ∀ (kn' : Nat) (f' : MM), Inv kn' f' → Vw X G (mLaw nm).2.2.2.1 (cs + 10) (sl + 67) Q (NN kn') (shF kn') f' 995 [some (.ref b), some (.ref (G.1 + 0)), some (.ref (G.1 + 85)), some (.int (nI i))] []) : Vw X G (mLaw nm).2.2.2.1 cs sl Q (NN kn) (shF kn) f 472 [some (.ref b), some (.ref (G.1 + 0)), some (.ref (G.1 + 85)), some (.int (nI i))] [] := by
  obtain ⟨a, q, A⟩ := I.act
  refine r_aload_n (pc := 472) C dL_law_472 rfl ?_
  refine q_vI (pc := 473) C kL_58 dL_law_473 (c_X8_undo A) (s_0 _) rfl rfl (Nat.le_of_ble_eq_true rfl) (by decide) ⟨by omega, by omega⟩ ?_
  intro v1 g1 h1
  have sg := s_undo I A h1.2
  refine r_aload_n (pc := 476) C dL_law_476 rfl ?_
  refine q_vIf (pc := 477) C kL_61 dL_law_477 (c_X9_undo A.1.1 sg.1) (s_85 _) rfl rfl (Nat.le_of_ble_eq_true rfl) (by decide) ⟨by omega, by omega⟩ ?_
  refine r_icmp_eq (pc := 480) C 995 dL_law_480 (by decide) (fun _ => ?_) (fun z => absurd (h1.1.trans sg.2.1.symm) z)
  exact v_wid (by omega) (by omega) (K kn _ (sg.2.2))
set_option maxRecDepth 100000 in
set_option maxHeartbeats 4000000 in
theorem st_walker {X : XT} {G : GG} {nm : String} {kn : Nat} {f : MM} {b SL i cs sl : Nat} {xs : Nat → Int32} {Q : State → Prop} (C : Cx X G (mLaw nm) 1311 600000 7302250 0) (S : Scr X G b SL xs) (hi : i + 6 ≤ SL) (hc : cs + 10 ≤ 600000 ∧ sl + 67 ≤ 7302250) (I : Inv kn f) (K : ∀ (kn' : Nat) (f' : MM), Inv kn' f' → Vw X G (mLaw nm).2.2.2.1 (cs + 10) (sl + 67) Q (NN kn') (shF kn') f' 995 [some (.ref b), some (.ref (G.1 + 0)), some (.ref (G.1 + 85)), some (.int (nI i))] []) : Vw X G (mLaw nm).2.2.2.1 cs sl Q (NN kn) (shF kn) f 485 [some (.ref b), some (.ref (G.1 + 0)), some (.ref (G.1 + 85)), some (.int (nI i))] [] := by
  obtain ⟨n, L, g, W⟩ := I.now
  have hT := I.told
  refine r_aload_n (pc := 485) C dL_law_485 rfl ?_
  refine r_aload_n (pc := 486) C dL_law_486 rfl ?_
  refine r_iload_n (pc := 487) C dL_law_487 rfl ?_
  refine r_iconst (pc := 488) C (1) dL_law_488 (by decide) ?_
  refine r_iadd (pc := 489) C dL_law_489 ?_
  refine r_sld (pc := 490) C S (i + 1) (nI_addE rfl rfl) (by omega) dL_law_490 ?_
  refine r_aload_n (pc := 491) C dL_law_491 rfl ?_
  refine r_iload_n (pc := 492) C dL_law_492 rfl ?_
  refine r_iconst (pc := 493) C (2) dL_law_493 (by decide) ?_
  refine r_iadd (pc := 494) C dL_law_494 ?_
  refine r_sld (pc := 495) C S (i + 2) (nI_addE rfl rfl) (by omega) dL_law_495 ?_
  refine q_vIf (pc := 496) C kL_62 dL_law_496 (c_X8_walker W) (s_0 _) rfl rfl (Nat.le_of_ble_eq_true rfl) (by decide) ⟨by omega, by omega⟩ ?_
  refine r_aload_n (pc := 499) C dL_law_499 rfl ?_
  refine r_aload_n (pc := 500) C dL_law_500 rfl ?_
  refine r_iload_n (pc := 501) C dL_law_501 rfl ?_
  refine r_iconst (pc := 502) C (1) dL_law_502 (by decide) ?_
  refine r_iadd (pc := 503) C dL_law_503 ?_
  refine r_sld (pc := 504) C S (i + 1) (nI_addE rfl rfl) (by omega) dL_law_504 ?_
  refine r_aload_n (pc := 505) C dL_law_505 rfl ?_
  refine r_iload_n (pc := 506) C dL_law_506 rfl ?_
  refine r_iconst (pc := 507) C (2) dL_law_507 (by decide) ?_
  refine r_iadd (pc := 508) C dL_law_508 ?_
  refine r_sld (pc := 509) C S (i + 2) (nI_addE rfl rfl) (by omega) dL_law_509 ?_
  refine q_vIf (pc := 510) C kL_65 dL_law_510 (c_X9_walker W.1.1 W.1.2.1 W.1.2.2 W.2.1.1 W.2.1.2.1 W.2.1.2.2) (s_85 _) rfl rfl (Nat.le_of_ble_eq_true rfl) (by decide) ⟨by omega, by omega⟩ ?_
  refine r_icmp_eq (pc := 513) C 995 dL_law_513 (by decide) (fun _ => ?_) (fun z => absurd (rfl) z)
  exact v_wid (by omega) (by omega) (K kn _ (I))
set_option maxRecDepth 100000 in
set_option maxHeartbeats 4000000 in
theorem st_leg {X : XT} {G : GG} {nm : String} {kn : Nat} {f : MM} {b SL i cs sl : Nat} {xs : Nat → Int32} {Q : State → Prop} (C : Cx X G (mLaw nm) 1311 600000 7302250 0) (S : Scr X G b SL xs) (hi : i + 6 ≤ SL) (hc : cs + 10 ≤ 600000 ∧ sl + 67 ≤ 7302250) (I : Inv kn f) (K : ∀ (kn' : Nat) (f' : MM), Inv kn' f' → Vw X G (mLaw nm).2.2.2.1 (cs + 10) (sl + 67) Q (NN kn') (shF kn') f' 995 [some (.ref b), some (.ref (G.1 + 0)), some (.ref (G.1 + 85)), some (.int (nI i))] []) : Vw X G (mLaw nm).2.2.2.1 cs sl Q (NN kn) (shF kn) f 518 [some (.ref b), some (.ref (G.1 + 0)), some (.ref (G.1 + 85)), some (.int (nI i))] [] := by
  obtain ⟨n, L, g, W⟩ := I.now
  have hT := I.told
  refine r_aload_n (pc := 518) C dL_law_518 rfl ?_
  refine r_aload_n (pc := 519) C dL_law_519 rfl ?_
  refine r_iload_n (pc := 520) C dL_law_520 rfl ?_
  refine r_iconst (pc := 521) C (1) dL_law_521 (by decide) ?_
  refine r_iadd (pc := 522) C dL_law_522 ?_
  refine r_sld (pc := 523) C S (i + 1) (nI_addE rfl rfl) (by omega) dL_law_523 ?_
  refine q_vIf (pc := 524) C kL_66 dL_law_524 (c_X8_leg W) (s_0 _) rfl rfl (Nat.le_of_ble_eq_true rfl) (by decide) ⟨by omega, by omega⟩ ?_
  refine r_aload_n (pc := 527) C dL_law_527 rfl ?_
  refine r_aload_n (pc := 528) C dL_law_528 rfl ?_
  refine r_iload_n (pc := 529) C dL_law_529 rfl ?_
  refine r_iconst (pc := 530) C (1) dL_law_530 (by decide) ?_
  refine r_iadd (pc := 531) C dL_law_531 ?_
  refine r_sld (pc := 532) C S (i + 1) (nI_addE rfl rfl) (by omega) dL_law_532 ?_
  refine q_vIf (pc := 533) C kL_69 dL_law_533 (c_X9_leg W.1.2.1 W.2.1.2.1) (s_85 _) rfl rfl (Nat.le_of_ble_eq_true rfl) (by decide) ⟨by omega, by omega⟩ ?_
  refine r_icmp_eq (pc := 536) C 995 dL_law_536 (by decide) (fun _ => ?_) (fun z => absurd (rfl) z)
  exact v_wid (by omega) (by omega) (K kn _ (I))
set_option maxRecDepth 100000 in
set_option maxHeartbeats 4000000 in
theorem st_mends {X : XT} {G : GG} {nm : String} {kn : Nat} {f : MM} {b SL i cs sl : Nat} {xs : Nat → Int32} {Q : State → Prop} (C : Cx X G (mLaw nm) 1311 600000 7302250 0) (S : Scr X G b SL xs) (hi : i + 6 ≤ SL) (hc : cs + 10 ≤ 600000 ∧ sl + 67 ≤ 7302250) (I : Inv kn f) (K : ∀ (kn' : Nat) (f' : MM), Inv kn' f' → Vw X G (mLaw nm).2.2.2.1 (cs + 10) (sl + 67) Q (NN kn') (shF kn') f' 995 [some (.ref b), some (.ref (G.1 + 0)), some (.ref (G.1 + 85)), some (.int (nI i))] []) : Vw X G (mLaw nm).2.2.2.1 cs sl Q (NN kn) (shF kn) f 541 [some (.ref b), some (.ref (G.1 + 0)), some (.ref (G.1 + 85)), some (.int (nI i))] [] := by
  refine r_aload_n (pc := 541) C dL_law_541 rfl ?_
  refine r_aload_n (pc := 542) C dL_law_542 rfl ?_
  refine r_iload_n (pc := 543) C dL_law_543 rfl ?_
  refine r_iconst (pc := 544) C (1) dL_law_544 (by decide) ?_
  refine r_iadd (pc := 545) C dL_law_545 ?_
  refine r_sld (pc := 546) C S (i + 1) (nI_addE rfl rfl) (by omega) dL_law_546 ?_
  refine q_vIf (pc := 547) C kL_70 dL_law_547 (c_X8_mends) (s_0 _) rfl rfl (Nat.le_of_ble_eq_true rfl) (by decide) ⟨by omega, by omega⟩ ?_
  refine r_aload_n (pc := 550) C dL_law_550 rfl ?_
  refine r_aload_n (pc := 551) C dL_law_551 rfl ?_
  refine r_iload_n (pc := 552) C dL_law_552 rfl ?_
  refine r_iconst (pc := 553) C (1) dL_law_553 (by decide) ?_
  refine r_iadd (pc := 554) C dL_law_554 ?_
  refine r_sld (pc := 555) C S (i + 1) (nI_addE rfl rfl) (by omega) dL_law_555 ?_
  refine q_vIf (pc := 556) C kL_73 dL_law_556 (c_X9_mends) (s_85 _) rfl rfl (Nat.le_of_ble_eq_true rfl) (by decide) ⟨by omega, by omega⟩ ?_
  refine r_icmp_eq (pc := 559) C 995 dL_law_559 (by decide) (fun _ => ?_) (fun z => absurd (rfl) z)
  exact v_wid (by omega) (by omega) (K kn _ (I))
set_option maxRecDepth 100000 in
set_option maxHeartbeats 4000000 in
theorem st_there {X : XT} {G : GG} {nm : String} {kn : Nat} {f : MM} {b SL i cs sl : Nat} {xs : Nat → Int32} {Q : State → Prop} (C : Cx X G (mLaw nm) 1311 600000 7302250 0) (S : Scr X G b SL xs) (hi : i + 6 ≤ SL) (hc : cs + 10 ≤ 600000 ∧ sl + 67 ≤ 7302250) (I : Inv kn f) (K : ∀ (kn' : Nat) (f' : MM), Inv kn' f' → Vw X G (mLaw nm).2.2.2.1 (cs + 10) (sl + 67) Q (NN kn') (shF kn') f' 995 [some (.ref b), some (.ref (G.1 + 0)), some (.ref (G.1 + 85)), some (.int (nI i))] []) : Vw X G (mLaw nm).2.2.2.1 cs sl Q (NN kn) (shF kn) f 564 [some (.ref b), some (.ref (G.1 + 0)), some (.ref (G.1 + 85)), some (.int (nI i))] [] := by
  obtain ⟨n, L, g, W⟩ := I.now
  have hT := I.told
  refine r_aload_n (pc := 564) C dL_law_564 rfl ?_
  refine r_aload_n (pc := 565) C dL_law_565 rfl ?_
  refine r_iload_n (pc := 566) C dL_law_566 rfl ?_
  refine r_iconst (pc := 567) C (1) dL_law_567 (by decide) ?_
  refine r_iadd (pc := 568) C dL_law_568 ?_
  refine r_sld (pc := 569) C S (i + 1) (nI_addE rfl rfl) (by omega) dL_law_569 ?_
  refine r_aload_n (pc := 570) C dL_law_570 rfl ?_
  refine r_iload_n (pc := 571) C dL_law_571 rfl ?_
  refine r_iconst (pc := 572) C (2) dL_law_572 (by decide) ?_
  refine r_iadd (pc := 573) C dL_law_573 ?_
  refine r_sld (pc := 574) C S (i + 2) (nI_addE rfl rfl) (by omega) dL_law_574 ?_
  refine q_vI (pc := 575) C kL_74 dL_law_575 (c_X8_there W) (s_0 _) rfl rfl (Nat.le_of_ble_eq_true rfl) (by decide) ⟨by omega, by omega⟩ ?_
  intro v1 g1 h1
  have e89 : g1 89 = f 89 := h1.2 89 (by omega)
  have e85 : g1 85 = f 85 := h1.2 85 (by omega)
  refine r_aload_n (pc := 578) C dL_law_578 rfl ?_
  refine r_aload_n (pc := 579) C dL_law_579 rfl ?_
  refine r_iload_n (pc := 580) C dL_law_580 rfl ?_
  refine r_iconst (pc := 581) C (1) dL_law_581 (by decide) ?_
  refine r_iadd (pc := 582) C dL_law_582 ?_
  refine r_sld (pc := 583) C S (i + 1) (nI_addE rfl rfl) (by omega) dL_law_583 ?_
  refine r_aload_n (pc := 584) C dL_law_584 rfl ?_
  refine r_iload_n (pc := 585) C dL_law_585 rfl ?_
  refine r_iconst (pc := 586) C (2) dL_law_586 (by decide) ?_
  refine r_iadd (pc := 587) C dL_law_587 ?_
  refine r_sld (pc := 588) C S (i + 2) (nI_addE rfl rfl) (by omega) dL_law_588 ?_
  refine q_vI (pc := 589) C kL_77 dL_law_589 (c_X9_there W.1.1 W.1.2.1 W.1.2.2 (by rw [e89]; exact W.2.1.1) (by rw [e89]; exact W.2.1.2.1) (by rw [e89]; exact W.2.1.2.2)) (s_85 _) rfl rfl (Nat.le_of_ble_eq_true rfl) (by decide) ⟨by omega, by omega⟩ ?_
  intro v2 g2 h2
  have er : R_there f n L g (xs (i + 1)) (xs (i + 2)) = R_there g1 n L g (xs (i + 1)) (xs (i + 2)) := by unfold R_there; rw [e89]
  refine r_icmp_eq (pc := 592) C 995 dL_law_592 (by decide) (fun _ => ?_) (fun z => absurd (h1.1.trans (er.trans h2.1.symm)) z)
  exact v_wid (by omega) (by omega) (K kn _ (I.fore h1.2 h2.2))
set_option maxRecDepth 100000 in
set_option maxHeartbeats 4000000 in
theorem st_allThere {X : XT} {G : GG} {nm : String} {kn : Nat} {f : MM} {b SL i cs sl : Nat} {xs : Nat → Int32} {Q : State → Prop} (C : Cx X G (mLaw nm) 1311 600000 7302250 0) (S : Scr X G b SL xs) (hi : i + 6 ≤ SL) (hc : cs + 10 ≤ 600000 ∧ sl + 67 ≤ 7302250) (I : Inv kn f) (K : ∀ (kn' : Nat) (f' : MM), Inv kn' f' → Vw X G (mLaw nm).2.2.2.1 (cs + 10) (sl + 67) Q (NN kn') (shF kn') f' 995 [some (.ref b), some (.ref (G.1 + 0)), some (.ref (G.1 + 85)), some (.int (nI i))] []) : Vw X G (mLaw nm).2.2.2.1 cs sl Q (NN kn) (shF kn) f 597 [some (.ref b), some (.ref (G.1 + 0)), some (.ref (G.1 + 85)), some (.int (nI i))] [] := by
  obtain ⟨n, L, g, W⟩ := I.now
  have hT := I.told
  refine r_aload_n (pc := 597) C dL_law_597 rfl ?_
  refine q_vI (pc := 598) C kL_78 dL_law_598 (c_X8_allThere W hT) (s_0 _) rfl rfl (Nat.le_of_ble_eq_true rfl) (by decide) ⟨by omega, by omega⟩ ?_
  intro v1 g1 h1
  have e89 : g1 89 = f 89 := h1.2 89 (by omega)
  have e85 : g1 85 = f 85 := h1.2 85 (by omega)
  refine r_aload_n (pc := 601) C dL_law_601 rfl ?_
  refine q_vI (pc := 602) C kL_81 dL_law_602 (c_X9_allThere W.1.1 W.1.2.1 W.1.2.2 (by rw [e89]; exact W.2.1.1) (by rw [e89]; exact W.2.1.2.1) (by rw [e89]; exact W.2.1.2.2)) (s_85 _) rfl rfl (Nat.le_of_ble_eq_true rfl) (by decide) ⟨by omega, by omega⟩ ?_
  intro v2 g2 h2
  have er : R_allThere f n L g  = R_allThere g1 n L g  := by unfold R_allThere; rw [e89, e85]
  refine r_icmp_eq (pc := 605) C 995 dL_law_605 (by decide) (fun _ => ?_) (fun z => absurd (h1.1.trans (er.trans h2.1.symm)) z)
  exact v_wid (by omega) (by omega) (K kn _ (I.fore h1.2 h2.2))
set_option maxRecDepth 100000 in
set_option maxHeartbeats 4000000 in
theorem st_soonest {X : XT} {G : GG} {nm : String} {kn : Nat} {f : MM} {b SL i cs sl : Nat} {xs : Nat → Int32} {Q : State → Prop} (C : Cx X G (mLaw nm) 1311 600000 7302250 0) (S : Scr X G b SL xs) (hi : i + 6 ≤ SL) (hc : cs + 10 ≤ 600000 ∧ sl + 67 ≤ 7302250) (I : Inv kn f) (K : ∀ (kn' : Nat) (f' : MM), Inv kn' f' → Vw X G (mLaw nm).2.2.2.1 (cs + 10) (sl + 67) Q (NN kn') (shF kn') f' 995 [some (.ref b), some (.ref (G.1 + 0)), some (.ref (G.1 + 85)), some (.int (nI i))] []) : Vw X G (mLaw nm).2.2.2.1 cs sl Q (NN kn) (shF kn) f 610 [some (.ref b), some (.ref (G.1 + 0)), some (.ref (G.1 + 85)), some (.int (nI i))] [] := by
  obtain ⟨n, L, g, W⟩ := I.now
  have hT := I.told
  refine r_aload_n (pc := 610) C dL_law_610 rfl ?_
  refine r_aload_n (pc := 611) C dL_law_611 rfl ?_
  refine r_iload_n (pc := 612) C dL_law_612 rfl ?_
  refine r_iconst (pc := 613) C (1) dL_law_613 (by decide) ?_
  refine r_iadd (pc := 614) C dL_law_614 ?_
  refine r_sld (pc := 615) C S (i + 1) (nI_addE rfl rfl) (by omega) dL_law_615 ?_
  refine q_vI (pc := 616) C kL_82 dL_law_616 (c_X8_soonest W hT) (s_0 _) rfl rfl (Nat.le_of_ble_eq_true rfl) (by decide) ⟨by omega, by omega⟩ ?_
  intro v1 g1 h1
  have e89 : g1 89 = f 89 := h1.2 89 (by omega)
  have e85 : g1 85 = f 85 := h1.2 85 (by omega)
  refine r_aload_n (pc := 619) C dL_law_619 rfl ?_
  refine r_aload_n (pc := 620) C dL_law_620 rfl ?_
  refine r_iload_n (pc := 621) C dL_law_621 rfl ?_
  refine r_iconst (pc := 622) C (1) dL_law_622 (by decide) ?_
  refine r_iadd (pc := 623) C dL_law_623 ?_
  refine r_sld (pc := 624) C S (i + 1) (nI_addE rfl rfl) (by omega) dL_law_624 ?_
  refine q_vI (pc := 625) C kL_85 dL_law_625 (c_X9_soonest W.1.1 W.1.2.1 W.1.2.2 (by rw [e89]; exact W.2.1.1) (by rw [e89]; exact W.2.1.2.1) (by rw [e89]; exact W.2.1.2.2)) (s_85 _) rfl rfl (Nat.le_of_ble_eq_true rfl) (by decide) ⟨by omega, by omega⟩ ?_
  intro v2 g2 h2
  have er : R_soonest f n L g (xs (i + 1)) = R_soonest g1 n L g (xs (i + 1)) := by unfold R_soonest; rw [e89, e85]
  refine r_icmp_eq (pc := 628) C 995 dL_law_628 (by decide) (fun _ => ?_) (fun z => absurd (h1.1.trans (er.trans h2.1.symm)) z)
  exact v_wid (by omega) (by omega) (K kn _ (I.fore h1.2 h2.2))
set_option maxRecDepth 100000 in
set_option maxHeartbeats 4000000 in
theorem st_loses {X : XT} {G : GG} {nm : String} {kn : Nat} {f : MM} {b SL i cs sl : Nat} {xs : Nat → Int32} {Q : State → Prop} (C : Cx X G (mLaw nm) 1311 600000 7302250 0) (S : Scr X G b SL xs) (hi : i + 6 ≤ SL) (hc : cs + 10 ≤ 600000 ∧ sl + 67 ≤ 7302250) (I : Inv kn f) (K : ∀ (kn' : Nat) (f' : MM), Inv kn' f' → Vw X G (mLaw nm).2.2.2.1 (cs + 10) (sl + 67) Q (NN kn') (shF kn') f' 995 [some (.ref b), some (.ref (G.1 + 0)), some (.ref (G.1 + 85)), some (.int (nI i))] []) : Vw X G (mLaw nm).2.2.2.1 cs sl Q (NN kn) (shF kn) f 633 [some (.ref b), some (.ref (G.1 + 0)), some (.ref (G.1 + 85)), some (.int (nI i))] [] := by
  obtain ⟨n, L, g, W⟩ := I.now
  have hT := I.told
  refine r_aload_n (pc := 633) C dL_law_633 rfl ?_
  refine r_aload_n (pc := 634) C dL_law_634 rfl ?_
  refine r_iload_n (pc := 635) C dL_law_635 rfl ?_
  refine r_iconst (pc := 636) C (1) dL_law_636 (by decide) ?_
  refine r_iadd (pc := 637) C dL_law_637 ?_
  refine r_sld (pc := 638) C S (i + 1) (nI_addE rfl rfl) (by omega) dL_law_638 ?_
  refine q_vI (pc := 639) C kL_86 dL_law_639 (c_X8_loses W) (s_0 _) rfl rfl (Nat.le_of_ble_eq_true rfl) (by decide) ⟨by omega, by omega⟩ ?_
  intro v1 g1 h1
  have e89 : g1 89 = f 89 := h1.2 89 (by omega)
  have e85 : g1 85 = f 85 := h1.2 85 (by omega)
  refine r_aload_n (pc := 642) C dL_law_642 rfl ?_
  refine r_aload_n (pc := 643) C dL_law_643 rfl ?_
  refine r_iload_n (pc := 644) C dL_law_644 rfl ?_
  refine r_iconst (pc := 645) C (1) dL_law_645 (by decide) ?_
  refine r_iadd (pc := 646) C dL_law_646 ?_
  refine r_sld (pc := 647) C S (i + 1) (nI_addE rfl rfl) (by omega) dL_law_647 ?_
  refine q_vI (pc := 648) C kL_89 dL_law_648 (c_X9_loses W.1.1 W.1.2.1 W.1.2.2 (by rw [e89]; exact W.2.1.1) (by rw [e89]; exact W.2.1.2.1) (by rw [e89]; exact W.2.1.2.2)) (s_85 _) rfl rfl (Nat.le_of_ble_eq_true rfl) (by decide) ⟨by omega, by omega⟩ ?_
  intro v2 g2 h2
  have er : R_loses f n L g (xs (i + 1)) = R_loses g1 n L g (xs (i + 1)) := by unfold R_loses; rw [e89]
  refine r_icmp_eq (pc := 651) C 995 dL_law_651 (by decide) (fun _ => ?_) (fun z => absurd (h1.1.trans (er.trans h2.1.symm)) z)
  exact v_wid (by omega) (by omega) (K kn _ (I.fore h1.2 h2.2))
set_option maxRecDepth 100000 in
set_option maxHeartbeats 4000000 in
theorem st_fair {X : XT} {G : GG} {nm : String} {kn : Nat} {f : MM} {b SL i cs sl : Nat} {xs : Nat → Int32} {Q : State → Prop} (C : Cx X G (mLaw nm) 1311 600000 7302250 0) (S : Scr X G b SL xs) (hi : i + 6 ≤ SL) (hc : cs + 10 ≤ 600000 ∧ sl + 67 ≤ 7302250) (I : Inv kn f) (K : ∀ (kn' : Nat) (f' : MM), Inv kn' f' → Vw X G (mLaw nm).2.2.2.1 (cs + 10) (sl + 67) Q (NN kn') (shF kn') f' 995 [some (.ref b), some (.ref (G.1 + 0)), some (.ref (G.1 + 85)), some (.int (nI i))] []) : Vw X G (mLaw nm).2.2.2.1 cs sl Q (NN kn) (shF kn) f 656 [some (.ref b), some (.ref (G.1 + 0)), some (.ref (G.1 + 85)), some (.int (nI i))] [] := by
  obtain ⟨n, L, g, W⟩ := I.now
  have hT := I.told
  refine r_aload_n (pc := 656) C dL_law_656 rfl ?_
  refine r_aload_n (pc := 657) C dL_law_657 rfl ?_
  refine r_iload_n (pc := 658) C dL_law_658 rfl ?_
  refine r_iconst (pc := 659) C (1) dL_law_659 (by decide) ?_
  refine r_iadd (pc := 660) C dL_law_660 ?_
  refine r_sld (pc := 661) C S (i + 1) (nI_addE rfl rfl) (by omega) dL_law_661 ?_
  refine q_vI (pc := 662) C kL_90 dL_law_662 (c_X8_fair W hT) (s_0 _) rfl rfl (Nat.le_of_ble_eq_true rfl) (by decide) ⟨by omega, by omega⟩ ?_
  intro v1 g1 h1
  have e89 : g1 89 = f 89 := h1.2 89 (by omega)
  have e85 : g1 85 = f 85 := h1.2 85 (by omega)
  refine r_aload_n (pc := 665) C dL_law_665 rfl ?_
  refine r_aload_n (pc := 666) C dL_law_666 rfl ?_
  refine r_iload_n (pc := 667) C dL_law_667 rfl ?_
  refine r_iconst (pc := 668) C (1) dL_law_668 (by decide) ?_
  refine r_iadd (pc := 669) C dL_law_669 ?_
  refine r_sld (pc := 670) C S (i + 1) (nI_addE rfl rfl) (by omega) dL_law_670 ?_
  refine q_vI (pc := 671) C kL_93 dL_law_671 (c_X9_fair W.1.1 W.1.2.1 W.1.2.2 (by rw [e89]; exact W.2.1.1) (by rw [e89]; exact W.2.1.2.1) (by rw [e89]; exact W.2.1.2.2)) (s_85 _) rfl rfl (Nat.le_of_ble_eq_true rfl) (by decide) ⟨by omega, by omega⟩ ?_
  intro v2 g2 h2
  have er : R_fair f n L g (xs (i + 1)) = R_fair g1 n L g (xs (i + 1)) := by unfold R_fair; rw [e89, e85]
  refine r_icmp_eq (pc := 674) C 995 dL_law_674 (by decide) (fun _ => ?_) (fun z => absurd (h1.1.trans (er.trans h2.1.symm)) z)
  exact v_wid (by omega) (by omega) (K kn _ (I.fore h1.2 h2.2))
set_option maxRecDepth 100000 in
set_option maxHeartbeats 4000000 in
theorem st_sacks {X : XT} {G : GG} {nm : String} {kn : Nat} {f : MM} {b SL i cs sl : Nat} {xs : Nat → Int32} {Q : State → Prop} (C : Cx X G (mLaw nm) 1311 600000 7302250 0) (S : Scr X G b SL xs) (hi : i + 6 ≤ SL) (hc : cs + 10 ≤ 600000 ∧ sl + 67 ≤ 7302250) (I : Inv kn f) (K : ∀ (kn' : Nat) (f' : MM), Inv kn' f' → Vw X G (mLaw nm).2.2.2.1 (cs + 10) (sl + 67) Q (NN kn') (shF kn') f' 995 [some (.ref b), some (.ref (G.1 + 0)), some (.ref (G.1 + 85)), some (.int (nI i))] []) : Vw X G (mLaw nm).2.2.2.1 cs sl Q (NN kn) (shF kn) f 679 [some (.ref b), some (.ref (G.1 + 0)), some (.ref (G.1 + 85)), some (.int (nI i))] [] := by
  obtain ⟨n, L, g, W⟩ := I.now
  have hT := I.told
  refine r_aload_n (pc := 679) C dL_law_679 rfl ?_
  refine r_aload_n (pc := 680) C dL_law_680 rfl ?_
  refine r_iload_n (pc := 681) C dL_law_681 rfl ?_
  refine r_iconst (pc := 682) C (1) dL_law_682 (by decide) ?_
  refine r_iadd (pc := 683) C dL_law_683 ?_
  refine r_sld (pc := 684) C S (i + 1) (nI_addE rfl rfl) (by omega) dL_law_684 ?_
  refine q_vI (pc := 685) C kL_94 dL_law_685 (c_X8_sacks W hT) (s_0 _) rfl rfl (Nat.le_of_ble_eq_true rfl) (by decide) ⟨by omega, by omega⟩ ?_
  intro v1 g1 h1
  have e89 : g1 89 = f 89 := h1.2 89 (by omega)
  have e85 : g1 85 = f 85 := h1.2 85 (by omega)
  refine r_aload_n (pc := 688) C dL_law_688 rfl ?_
  refine r_aload_n (pc := 689) C dL_law_689 rfl ?_
  refine r_iload_n (pc := 690) C dL_law_690 rfl ?_
  refine r_iconst (pc := 691) C (1) dL_law_691 (by decide) ?_
  refine r_iadd (pc := 692) C dL_law_692 ?_
  refine r_sld (pc := 693) C S (i + 1) (nI_addE rfl rfl) (by omega) dL_law_693 ?_
  refine q_vI (pc := 694) C kL_97 dL_law_694 (c_X9_sacks W.1.1 W.1.2.1 W.1.2.2 (by rw [e89]; exact W.2.1.1) (by rw [e89]; exact W.2.1.2.1) (by rw [e89]; exact W.2.1.2.2)) (s_85 _) rfl rfl (Nat.le_of_ble_eq_true rfl) (by decide) ⟨by omega, by omega⟩ ?_
  intro v2 g2 h2
  have er : R_sacks f n L g (xs (i + 1)) = R_sacks g1 n L g (xs (i + 1)) := by unfold R_sacks; rw [e89, e85]
  refine r_icmp_eq (pc := 697) C 995 dL_law_697 (by decide) (fun _ => ?_) (fun z => absurd (h1.1.trans (er.trans h2.1.symm)) z)
  exact v_wid (by omega) (by omega) (K kn _ (I.fore h1.2 h2.2))
set_option maxRecDepth 100000 in
set_option maxHeartbeats 4000000 in
theorem st_parties {X : XT} {G : GG} {nm : String} {kn : Nat} {f : MM} {b SL i cs sl : Nat} {xs : Nat → Int32} {Q : State → Prop} (C : Cx X G (mLaw nm) 1311 600000 7302250 0) (S : Scr X G b SL xs) (hi : i + 6 ≤ SL) (hc : cs + 10 ≤ 600000 ∧ sl + 67 ≤ 7302250) (I : Inv kn f) (K : ∀ (kn' : Nat) (f' : MM), Inv kn' f' → Vw X G (mLaw nm).2.2.2.1 (cs + 10) (sl + 67) Q (NN kn') (shF kn') f' 995 [some (.ref b), some (.ref (G.1 + 0)), some (.ref (G.1 + 85)), some (.int (nI i))] []) : Vw X G (mLaw nm).2.2.2.1 cs sl Q (NN kn) (shF kn) f 702 [some (.ref b), some (.ref (G.1 + 0)), some (.ref (G.1 + 85)), some (.int (nI i))] [] := by
  obtain ⟨n, L, g, W⟩ := I.now
  have hT := I.told
  refine r_aload_n (pc := 702) C dL_law_702 rfl ?_
  refine r_aload_n (pc := 703) C dL_law_703 rfl ?_
  refine r_iload_n (pc := 704) C dL_law_704 rfl ?_
  refine r_iconst (pc := 705) C (1) dL_law_705 (by decide) ?_
  refine r_iadd (pc := 706) C dL_law_706 ?_
  refine r_sld (pc := 707) C S (i + 1) (nI_addE rfl rfl) (by omega) dL_law_707 ?_
  refine q_vI (pc := 708) C kL_98 dL_law_708 (c_X8_parties W hT) (s_0 _) rfl rfl (Nat.le_of_ble_eq_true rfl) (by decide) ⟨by omega, by omega⟩ ?_
  intro v1 g1 h1
  have e89 : g1 89 = f 89 := h1.2 89 (by omega)
  have e85 : g1 85 = f 85 := h1.2 85 (by omega)
  refine r_aload_n (pc := 711) C dL_law_711 rfl ?_
  refine r_aload_n (pc := 712) C dL_law_712 rfl ?_
  refine r_iload_n (pc := 713) C dL_law_713 rfl ?_
  refine r_iconst (pc := 714) C (1) dL_law_714 (by decide) ?_
  refine r_iadd (pc := 715) C dL_law_715 ?_
  refine r_sld (pc := 716) C S (i + 1) (nI_addE rfl rfl) (by omega) dL_law_716 ?_
  refine q_vI (pc := 717) C kL_101 dL_law_717 (c_X9_parties W.1.1 W.1.2.1 W.1.2.2 (by rw [e89]; exact W.2.1.1) (by rw [e89]; exact W.2.1.2.1) (by rw [e89]; exact W.2.1.2.2)) (s_85 _) rfl rfl (Nat.le_of_ble_eq_true rfl) (by decide) ⟨by omega, by omega⟩ ?_
  intro v2 g2 h2
  have er : R_parties f n L g (xs (i + 1)) = R_parties g1 n L g (xs (i + 1)) := by unfold R_parties; rw [e89, e85]
  refine r_icmp_eq (pc := 720) C 995 dL_law_720 (by decide) (fun _ => ?_) (fun z => absurd (h1.1.trans (er.trans h2.1.symm)) z)
  exact v_wid (by omega) (by omega) (K kn _ (I.fore h1.2 h2.2))
set_option maxRecDepth 100000 in
set_option maxHeartbeats 4000000 in
theorem st_turn {X : XT} {G : GG} {nm : String} {kn : Nat} {f : MM} {b SL i cs sl : Nat} {xs : Nat → Int32} {Q : State → Prop} (C : Cx X G (mLaw nm) 1311 600000 7302250 0) (S : Scr X G b SL xs) (hi : i + 6 ≤ SL) (hc : cs + 10 ≤ 600000 ∧ sl + 67 ≤ 7302250) (I : Inv kn f) (K : ∀ (kn' : Nat) (f' : MM), Inv kn' f' → Vw X G (mLaw nm).2.2.2.1 (cs + 10) (sl + 67) Q (NN kn') (shF kn') f' 995 [some (.ref b), some (.ref (G.1 + 0)), some (.ref (G.1 + 85)), some (.int (nI i))] []) : Vw X G (mLaw nm).2.2.2.1 cs sl Q (NN kn) (shF kn) f 725 [some (.ref b), some (.ref (G.1 + 0)), some (.ref (G.1 + 85)), some (.int (nI i))] [] := by
  obtain ⟨n, L, g, W⟩ := I.now
  have hT := I.told
  refine r_aload_n (pc := 725) C dL_law_725 rfl ?_
  refine q_vI (pc := 726) C kL_102 dL_law_726 (c_X8_turn W hT) (s_0 _) rfl rfl (Nat.le_of_ble_eq_true rfl) (by decide) ⟨by omega, by omega⟩ ?_
  intro v1 g1 h1
  have e89 : g1 89 = f 89 := h1.2 89 (by omega)
  have e85 : g1 85 = f 85 := h1.2 85 (by omega)
  refine r_aload_n (pc := 729) C dL_law_729 rfl ?_
  refine q_vI (pc := 730) C kL_105 dL_law_730 (c_X9_turn W.1.1 W.1.2.1 W.1.2.2 (by rw [e89]; exact W.2.1.1) (by rw [e89]; exact W.2.1.2.1) (by rw [e89]; exact W.2.1.2.2)) (s_85 _) rfl rfl (Nat.le_of_ble_eq_true rfl) (by decide) ⟨by omega, by omega⟩ ?_
  intro v2 g2 h2
  have er : R_turn f n L g  = R_turn g1 n L g  := by unfold R_turn; rw [e89, e85]
  refine r_icmp_eq (pc := 733) C 995 dL_law_733 (by decide) (fun _ => ?_) (fun z => absurd (h1.1.trans (er.trans h2.1.symm)) z)
  exact v_wid (by omega) (by omega) (K kn _ (I.fore h1.2 h2.2))
set_option maxRecDepth 100000 in
set_option maxHeartbeats 4000000 in
theorem st_fits {X : XT} {G : GG} {nm : String} {kn : Nat} {f : MM} {b SL i cs sl : Nat} {xs : Nat → Int32} {Q : State → Prop} (C : Cx X G (mLaw nm) 1311 600000 7302250 0) (S : Scr X G b SL xs) (hi : i + 6 ≤ SL) (hc : cs + 10 ≤ 600000 ∧ sl + 67 ≤ 7302250) (I : Inv kn f) (K : ∀ (kn' : Nat) (f' : MM), Inv kn' f' → Vw X G (mLaw nm).2.2.2.1 (cs + 10) (sl + 67) Q (NN kn') (shF kn') f' 995 [some (.ref b), some (.ref (G.1 + 0)), some (.ref (G.1 + 85)), some (.int (nI i))] []) : Vw X G (mLaw nm).2.2.2.1 cs sl Q (NN kn) (shF kn) f 738 [some (.ref b), some (.ref (G.1 + 0)), some (.ref (G.1 + 85)), some (.int (nI i))] [] := by
  obtain ⟨n, L, g, W⟩ := I.now
  have hT := I.told
  refine r_aload_n (pc := 738) C dL_law_738 rfl ?_
  refine r_aload_n (pc := 739) C dL_law_739 rfl ?_
  refine r_iload_n (pc := 740) C dL_law_740 rfl ?_
  refine r_iconst (pc := 741) C (1) dL_law_741 (by decide) ?_
  refine r_iadd (pc := 742) C dL_law_742 ?_
  refine r_sld (pc := 743) C S (i + 1) (nI_addE rfl rfl) (by omega) dL_law_743 ?_
  refine r_aload_n (pc := 744) C dL_law_744 rfl ?_
  refine r_iload_n (pc := 745) C dL_law_745 rfl ?_
  refine r_iconst (pc := 746) C (2) dL_law_746 (by decide) ?_
  refine r_iadd (pc := 747) C dL_law_747 ?_
  refine r_sld (pc := 748) C S (i + 2) (nI_addE rfl rfl) (by omega) dL_law_748 ?_
  refine r_aload_n (pc := 749) C dL_law_749 rfl ?_
  refine r_iload_n (pc := 750) C dL_law_750 rfl ?_
  refine r_iconst (pc := 751) C (3) dL_law_751 (by decide) ?_
  refine r_iadd (pc := 752) C dL_law_752 ?_
  refine r_sld (pc := 753) C S (i + 3) (nI_addE rfl rfl) (by omega) dL_law_753 ?_
  refine r_aload_n (pc := 754) C dL_law_754 rfl ?_
  refine r_iload_n (pc := 755) C dL_law_755 rfl ?_
  refine r_iconst (pc := 756) C (4) dL_law_756 (by decide) ?_
  refine r_iadd (pc := 757) C dL_law_757 ?_
  refine r_sld (pc := 758) C S (i + 4) (nI_addE rfl rfl) (by omega) dL_law_758 ?_
  refine r_aload_n (pc := 759) C dL_law_759 rfl ?_
  refine r_iload_n (pc := 760) C dL_law_760 rfl ?_
  refine r_iconst (pc := 761) C (5) dL_law_761 (by decide) ?_
  refine r_iadd (pc := 762) C dL_law_762 ?_
  refine r_sld (pc := 763) C S (i + 5) (nI_addE rfl rfl) (by omega) dL_law_763 ?_
  refine q_vI (pc := 764) C kL_106 dL_law_764 (c_X8_fits W I.row) (s_0 _) rfl rfl (Nat.le_of_ble_eq_true rfl) (by decide) ⟨by omega, by omega⟩ ?_
  intro v1 g1 h1
  have fe := fits_e h1.2
  refine r_aload_n (pc := 767) C dL_law_767 rfl ?_
  refine r_aload_n (pc := 768) C dL_law_768 rfl ?_
  refine r_iload_n (pc := 769) C dL_law_769 rfl ?_
  refine r_iconst (pc := 770) C (1) dL_law_770 (by decide) ?_
  refine r_iadd (pc := 771) C dL_law_771 ?_
  refine r_sld (pc := 772) C S (i + 1) (nI_addE rfl rfl) (by omega) dL_law_772 ?_
  refine r_aload_n (pc := 773) C dL_law_773 rfl ?_
  refine r_iload_n (pc := 774) C dL_law_774 rfl ?_
  refine r_iconst (pc := 775) C (2) dL_law_775 (by decide) ?_
  refine r_iadd (pc := 776) C dL_law_776 ?_
  refine r_sld (pc := 777) C S (i + 2) (nI_addE rfl rfl) (by omega) dL_law_777 ?_
  refine r_aload_n (pc := 778) C dL_law_778 rfl ?_
  refine r_iload_n (pc := 779) C dL_law_779 rfl ?_
  refine r_iconst (pc := 780) C (3) dL_law_780 (by decide) ?_
  refine r_iadd (pc := 781) C dL_law_781 ?_
  refine r_sld (pc := 782) C S (i + 3) (nI_addE rfl rfl) (by omega) dL_law_782 ?_
  refine r_aload_n (pc := 783) C dL_law_783 rfl ?_
  refine r_iload_n (pc := 784) C dL_law_784 rfl ?_
  refine r_iconst (pc := 785) C (4) dL_law_785 (by decide) ?_
  refine r_iadd (pc := 786) C dL_law_786 ?_
  refine r_sld (pc := 787) C S (i + 4) (nI_addE rfl rfl) (by omega) dL_law_787 ?_
  refine r_aload_n (pc := 788) C dL_law_788 rfl ?_
  refine r_iload_n (pc := 789) C dL_law_789 rfl ?_
  refine r_iconst (pc := 790) C (5) dL_law_790 (by decide) ?_
  refine r_iadd (pc := 791) C dL_law_791 ?_
  refine r_sld (pc := 792) C S (i + 5) (nI_addE rfl rfl) (by omega) dL_law_792 ?_
  refine q_vI (pc := 793) C kL_109 dL_law_793 (c_X9_fits W.1.1 W.1.2.1 W.1.2.2 (by rw [fe.1]; exact W.2.1.1) (by rw [fe.1]; exact W.2.1.2.1) (by rw [fe.1]; exact W.2.1.2.2) (sz_of I.row.sz fe.2)) (s_85 _) rfl rfl (Nat.le_of_ble_eq_true rfl) (by decide) ⟨by omega, by omega⟩ ?_
  intro v2 g2 h2
  have sf := s_fits I h1.1 h1.2 h2.1 h2.2
  refine r_icmp_eq (pc := 796) C 995 dL_law_796 (by decide) (fun _ => ?_) (fun z => absurd (sf.1) z)
  exact v_wid (by omega) (by omega) (K kn _ (sf.2))
set_option maxRecDepth 100000 in
set_option maxHeartbeats 4000000 in
theorem st_image {X : XT} {G : GG} {nm : String} {kn : Nat} {f : MM} {b SL i cs sl : Nat} {xs : Nat → Int32} {Q : State → Prop} (C : Cx X G (mLaw nm) 1311 600000 7302250 0) (S : Scr X G b SL xs) (hi : i + 6 ≤ SL) (hc : cs + 10 ≤ 600000 ∧ sl + 67 ≤ 7302250) (I : Inv kn f) (K : ∀ (kn' : Nat) (f' : MM), Inv kn' f' → Vw X G (mLaw nm).2.2.2.1 (cs + 10) (sl + 67) Q (NN kn') (shF kn') f' 995 [some (.ref b), some (.ref (G.1 + 0)), some (.ref (G.1 + 85)), some (.int (nI i))] []) : Vw X G (mLaw nm).2.2.2.1 cs sl Q (NN kn) (shF kn) f 801 [some (.ref b), some (.ref (G.1 + 0)), some (.ref (G.1 + 85)), some (.int (nI i))] [] := by
  obtain ⟨n, L, g, W⟩ := I.now
  have hT := I.told
  refine r_aload_n (pc := 801) C dL_law_801 rfl ?_
  refine r_aload_n (pc := 802) C dL_law_802 rfl ?_
  refine r_iload_n (pc := 803) C dL_law_803 rfl ?_
  refine r_iconst (pc := 804) C (1) dL_law_804 (by decide) ?_
  refine r_iadd (pc := 805) C dL_law_805 ?_
  refine r_sld (pc := 806) C S (i + 1) (nI_addE rfl rfl) (by omega) dL_law_806 ?_
  refine q_vIf (pc := 807) C kL_110 dL_law_807 (c_X8_image W hT) (s_0 _) rfl rfl (Nat.le_of_ble_eq_true rfl) (by decide) ⟨by omega, by omega⟩ ?_
  refine r_aload_n (pc := 810) C dL_law_810 rfl ?_
  refine r_aload_n (pc := 811) C dL_law_811 rfl ?_
  refine r_iload_n (pc := 812) C dL_law_812 rfl ?_
  refine r_iconst (pc := 813) C (1) dL_law_813 (by decide) ?_
  refine r_iadd (pc := 814) C dL_law_814 ?_
  refine r_sld (pc := 815) C S (i + 1) (nI_addE rfl rfl) (by omega) dL_law_815 ?_
  refine q_vIf (pc := 816) C kL_113 dL_law_816 (c_X9_image) (s_85 _) rfl rfl (Nat.le_of_ble_eq_true rfl) (by decide) ⟨by omega, by omega⟩ ?_
  refine r_icmp_eq (pc := 819) C 995 dL_law_819 (by decide) (fun _ => ?_) (fun z => absurd ((s_image I W).1.symm) z)
  exact v_wid (by omega) (by omega) (K kn _ ((s_image I W).2))
set_option maxRecDepth 100000 in
set_option maxHeartbeats 4000000 in
theorem st_restore {X : XT} {G : GG} {nm : String} {kn : Nat} {f : MM} {b SL i cs sl : Nat} {xs : Nat → Int32} {Q : State → Prop} (C : Cx X G (mLaw nm) 1311 600000 7302250 0) (S : Scr X G b SL xs) (hi : i + 6 ≤ SL) (hc : cs + 10 ≤ 600000 ∧ sl + 67 ≤ 7302250) (I : Inv kn f) (K : ∀ (kn' : Nat) (f' : MM), Inv kn' f' → Vw X G (mLaw nm).2.2.2.1 (cs + 10) (sl + 67) Q (NN kn') (shF kn') f' 995 [some (.ref b), some (.ref (G.1 + 0)), some (.ref (G.1 + 85)), some (.int (nI i))] []) : Vw X G (mLaw nm).2.2.2.1 cs sl Q (NN kn) (shF kn) f 824 [some (.ref b), some (.ref (G.1 + 0)), some (.ref (G.1 + 85)), some (.int (nI i))] [] := by
  refine r_aload_n (pc := 824) C dL_law_824 rfl ?_
  refine r_aload_n (pc := 825) C dL_law_825 rfl ?_
  refine r_iload_n (pc := 826) C dL_law_826 rfl ?_
  refine r_iconst (pc := 827) C (1) dL_law_827 (by decide) ?_
  refine r_iadd (pc := 828) C dL_law_828 ?_
  refine r_sld (pc := 829) C S (i + 1) (nI_addE rfl rfl) (by omega) dL_law_829 ?_
  refine q_vI (pc := 830) C kL_114 dL_law_830 (c_X8_restore I.img) (s_0 _) rfl rfl (Nat.le_of_ble_eq_true rfl) (by decide) ⟨by omega, by omega⟩ ?_
  intro v1 g1 h1
  refine r_aload_n (pc := 833) C dL_law_833 rfl ?_
  refine r_aload_n (pc := 834) C dL_law_834 rfl ?_
  refine r_iload_n (pc := 835) C dL_law_835 rfl ?_
  refine r_iconst (pc := 836) C (1) dL_law_836 (by decide) ?_
  refine r_iadd (pc := 837) C dL_law_837 ?_
  refine r_sld (pc := 838) C S (i + 1) (nI_addE rfl rfl) (by omega) dL_law_838 ?_
  refine q_vIf (pc := 839) C kL_117 dL_law_839 (c_X9_restore) (s_85 _) rfl rfl (Nat.le_of_ble_eq_true rfl) (by decide) ⟨by omega, by omega⟩ ?_
  have sr := s_restore I h1.2
  refine r_icmp_eq (pc := 842) C 995 dL_law_842 (by decide) (fun _ => ?_) (fun z => absurd (h1.1.trans sr.1.symm) z)
  exact v_wid (by omega) (by omega) (K kn _ (sr.2))
set_option maxRecDepth 100000 in
set_option maxHeartbeats 4000000 in
theorem st_kind {X : XT} {G : GG} {nm : String} {kn : Nat} {f : MM} {b SL i cs sl : Nat} {xs : Nat → Int32} {Q : State → Prop} (C : Cx X G (mLaw nm) 1311 600000 7302250 0) (S : Scr X G b SL xs) (hi : i + 6 ≤ SL) (hc : cs + 10 ≤ 600000 ∧ sl + 67 ≤ 7302250) (I : Inv kn f) (K : ∀ (kn' : Nat) (f' : MM), Inv kn' f' → Vw X G (mLaw nm).2.2.2.1 (cs + 10) (sl + 67) Q (NN kn') (shF kn') f' 995 [some (.ref b), some (.ref (G.1 + 0)), some (.ref (G.1 + 85)), some (.int (nI i))] []) : Vw X G (mLaw nm).2.2.2.1 cs sl Q (NN kn) (shF kn) f 847 [some (.ref b), some (.ref (G.1 + 0)), some (.ref (G.1 + 85)), some (.int (nI i))] [] := by
  obtain ⟨n, L, g, W⟩ := I.now
  have hT := I.told
  refine r_aload_n (pc := 847) C dL_law_847 rfl ?_
  refine r_aload_n (pc := 848) C dL_law_848 rfl ?_
  refine r_iload_n (pc := 849) C dL_law_849 rfl ?_
  refine r_iconst (pc := 850) C (1) dL_law_850 (by decide) ?_
  refine r_iadd (pc := 851) C dL_law_851 ?_
  refine r_sld (pc := 852) C S (i + 1) (nI_addE rfl rfl) (by omega) dL_law_852 ?_
  refine q_vIf (pc := 853) C kL_118 dL_law_853 (c_X8_kind W) (s_0 _) rfl rfl (Nat.le_of_ble_eq_true rfl) (by decide) ⟨by omega, by omega⟩ ?_
  refine r_aload_n (pc := 856) C dL_law_856 rfl ?_
  refine r_aload_n (pc := 857) C dL_law_857 rfl ?_
  refine r_iload_n (pc := 858) C dL_law_858 rfl ?_
  refine r_iconst (pc := 859) C (1) dL_law_859 (by decide) ?_
  refine r_iadd (pc := 860) C dL_law_860 ?_
  refine r_sld (pc := 861) C S (i + 1) (nI_addE rfl rfl) (by omega) dL_law_861 ?_
  refine q_vIf (pc := 862) C kL_121 dL_law_862 (c_X9_kind W.1.1 W.2.1.1) (s_85 _) rfl rfl (Nat.le_of_ble_eq_true rfl) (by decide) ⟨by omega, by omega⟩ ?_
  refine r_icmp_eq (pc := 865) C 995 dL_law_865 (by decide) (fun _ => ?_) (fun z => absurd (rfl) z)
  exact v_wid (by omega) (by omega) (K kn _ (I))
set_option maxRecDepth 100000 in
set_option maxHeartbeats 4000000 in
theorem st_as {X : XT} {G : GG} {nm : String} {kn : Nat} {f : MM} {b SL i cs sl : Nat} {xs : Nat → Int32} {Q : State → Prop} (C : Cx X G (mLaw nm) 1311 600000 7302250 0) (S : Scr X G b SL xs) (hi : i + 6 ≤ SL) (hc : cs + 10 ≤ 600000 ∧ sl + 67 ≤ 7302250) (I : Inv kn f) (K : ∀ (kn' : Nat) (f' : MM), Inv kn' f' → Vw X G (mLaw nm).2.2.2.1 (cs + 10) (sl + 67) Q (NN kn') (shF kn') f' 995 [some (.ref b), some (.ref (G.1 + 0)), some (.ref (G.1 + 85)), some (.int (nI i))] []) : Vw X G (mLaw nm).2.2.2.1 cs sl Q (NN kn) (shF kn) f 870 [some (.ref b), some (.ref (G.1 + 0)), some (.ref (G.1 + 85)), some (.int (nI i))] [] := by
  obtain ⟨n, L, g, W⟩ := I.now
  have hT := I.told
  refine r_aload_n (pc := 870) C dL_law_870 rfl ?_
  refine r_aload_n (pc := 871) C dL_law_871 rfl ?_
  refine r_iload_n (pc := 872) C dL_law_872 rfl ?_
  refine r_iconst (pc := 873) C (1) dL_law_873 (by decide) ?_
  refine r_iadd (pc := 874) C dL_law_874 ?_
  refine r_sld (pc := 875) C S (i + 1) (nI_addE rfl rfl) (by omega) dL_law_875 ?_
  refine r_aload_n (pc := 876) C dL_law_876 rfl ?_
  refine r_iload_n (pc := 877) C dL_law_877 rfl ?_
  refine r_iconst (pc := 878) C (2) dL_law_878 (by decide) ?_
  refine r_iadd (pc := 879) C dL_law_879 ?_
  refine r_sld (pc := 880) C S (i + 2) (nI_addE rfl rfl) (by omega) dL_law_880 ?_
  refine q_vIf (pc := 881) C kL_122 dL_law_881 (c_X8_as W) (s_0 _) rfl rfl (Nat.le_of_ble_eq_true rfl) (by decide) ⟨by omega, by omega⟩ ?_
  refine r_aload_n (pc := 884) C dL_law_884 rfl ?_
  refine r_aload_n (pc := 885) C dL_law_885 rfl ?_
  refine r_iload_n (pc := 886) C dL_law_886 rfl ?_
  refine r_iconst (pc := 887) C (1) dL_law_887 (by decide) ?_
  refine r_iadd (pc := 888) C dL_law_888 ?_
  refine r_sld (pc := 889) C S (i + 1) (nI_addE rfl rfl) (by omega) dL_law_889 ?_
  refine r_aload_n (pc := 890) C dL_law_890 rfl ?_
  refine r_iload_n (pc := 891) C dL_law_891 rfl ?_
  refine r_iconst (pc := 892) C (2) dL_law_892 (by decide) ?_
  refine r_iadd (pc := 893) C dL_law_893 ?_
  refine r_sld (pc := 894) C S (i + 2) (nI_addE rfl rfl) (by omega) dL_law_894 ?_
  refine q_vIf (pc := 895) C kL_125 dL_law_895 (c_X9_as W.1.1 (by rw [as89]; exact W.2.1.1)) (s_85 _) rfl rfl (Nat.le_of_ble_eq_true rfl) (by decide) ⟨by omega, by omega⟩ ?_
  refine r_icmp_eq (pc := 898) C 995 dL_law_898 (by decide) (fun _ => ?_) (fun z => absurd ((s_as I).1.symm) z)
  exact v_wid (by omega) (by omega) (K kn _ ((s_as I).2))
set_option maxRecDepth 100000 in
set_option maxHeartbeats 4000000 in
theorem st_ask {X : XT} {G : GG} {nm : String} {kn : Nat} {f : MM} {b SL i cs sl : Nat} {xs : Nat → Int32} {Q : State → Prop} (C : Cx X G (mLaw nm) 1311 600000 7302250 0) (S : Scr X G b SL xs) (hi : i + 6 ≤ SL) (hc : cs + 10 ≤ 600000 ∧ sl + 67 ≤ 7302250) (I : Inv kn f) (K : ∀ (kn' : Nat) (f' : MM), Inv kn' f' → Vw X G (mLaw nm).2.2.2.1 (cs + 10) (sl + 67) Q (NN kn') (shF kn') f' 995 [some (.ref b), some (.ref (G.1 + 0)), some (.ref (G.1 + 85)), some (.int (nI i))] []) : Vw X G (mLaw nm).2.2.2.1 cs sl Q (NN kn) (shF kn) f 903 [some (.ref b), some (.ref (G.1 + 0)), some (.ref (G.1 + 85)), some (.int (nI i))] [] := by
  obtain ⟨n, L, g, W⟩ := I.now
  have hT := I.told
  refine r_aload_n (pc := 903) C dL_law_903 rfl ?_
  refine r_aload_n (pc := 904) C dL_law_904 rfl ?_
  refine r_iload_n (pc := 905) C dL_law_905 rfl ?_
  refine r_iconst (pc := 906) C (1) dL_law_906 (by decide) ?_
  refine r_iadd (pc := 907) C dL_law_907 ?_
  refine r_sld (pc := 908) C S (i + 1) (nI_addE rfl rfl) (by omega) dL_law_908 ?_
  refine r_aload_n (pc := 909) C dL_law_909 rfl ?_
  refine r_iload_n (pc := 910) C dL_law_910 rfl ?_
  refine r_iconst (pc := 911) C (2) dL_law_911 (by decide) ?_
  refine r_iadd (pc := 912) C dL_law_912 ?_
  refine r_sld (pc := 913) C S (i + 2) (nI_addE rfl rfl) (by omega) dL_law_913 ?_
  refine q_vIf (pc := 914) C kL_126 dL_law_914 (c_X8_ask W) (s_0 _) rfl rfl (Nat.le_of_ble_eq_true rfl) (by decide) ⟨by omega, by omega⟩ ?_
  refine r_aload_n (pc := 917) C dL_law_917 rfl ?_
  refine r_aload_n (pc := 918) C dL_law_918 rfl ?_
  refine r_iload_n (pc := 919) C dL_law_919 rfl ?_
  refine r_iconst (pc := 920) C (1) dL_law_920 (by decide) ?_
  refine r_iadd (pc := 921) C dL_law_921 ?_
  refine r_sld (pc := 922) C S (i + 1) (nI_addE rfl rfl) (by omega) dL_law_922 ?_
  refine r_aload_n (pc := 923) C dL_law_923 rfl ?_
  refine r_iload_n (pc := 924) C dL_law_924 rfl ?_
  refine r_iconst (pc := 925) C (2) dL_law_925 (by decide) ?_
  refine r_iadd (pc := 926) C dL_law_926 ?_
  refine r_sld (pc := 927) C S (i + 2) (nI_addE rfl rfl) (by omega) dL_law_927 ?_
  refine q_vIf (pc := 928) C kL_129 dL_law_928 (c_X9_ask W.1.1 (by rw [ask89]; exact W.2.1.1)) (s_85 _) rfl rfl (Nat.le_of_ble_eq_true rfl) (by decide) ⟨by omega, by omega⟩ ?_
  refine r_icmp_eq (pc := 931) C 995 dL_law_931 (by decide) (fun _ => ?_) (fun z => absurd ((s_ask I W.1.1).1.symm) z)
  exact v_wid (by omega) (by omega) (K kn _ ((s_ask I W.1.1).2))
set_option maxRecDepth 100000 in
set_option maxHeartbeats 4000000 in
theorem st_trace {X : XT} {G : GG} {nm : String} {kn : Nat} {f : MM} {b SL i cs sl : Nat} {xs : Nat → Int32} {Q : State → Prop} (C : Cx X G (mLaw nm) 1311 600000 7302250 0) (S : Scr X G b SL xs) (hi : i + 6 ≤ SL) (hc : cs + 10 ≤ 600000 ∧ sl + 67 ≤ 7302250) (I : Inv kn f) (K : ∀ (kn' : Nat) (f' : MM), Inv kn' f' → Vw X G (mLaw nm).2.2.2.1 (cs + 10) (sl + 67) Q (NN kn') (shF kn') f' 995 [some (.ref b), some (.ref (G.1 + 0)), some (.ref (G.1 + 85)), some (.int (nI i))] []) : Vw X G (mLaw nm).2.2.2.1 cs sl Q (NN kn) (shF kn) f 936 [some (.ref b), some (.ref (G.1 + 0)), some (.ref (G.1 + 85)), some (.int (nI i))] [] := by
  obtain ⟨t, ht, e47, e27, ei⟩ := I.ask
  refine r_aload_n (pc := 936) C dL_law_936 rfl ?_
  refine r_aload_n (pc := 937) C dL_law_937 rfl ?_
  refine r_iload_n (pc := 938) C dL_law_938 rfl ?_
  refine r_iconst (pc := 939) C (1) dL_law_939 (by decide) ?_
  refine r_iadd (pc := 940) C dL_law_940 ?_
  refine r_sld (pc := 941) C S (i + 1) (nI_addE rfl rfl) (by omega) dL_law_941 ?_
  refine q_vIf (pc := 942) C kL_130 dL_law_942 (c_X8_trace ht e47 ei) (s_0 _) rfl rfl (Nat.le_of_ble_eq_true rfl) (by decide) ⟨by omega, by omega⟩ ?_
  refine r_aload_n (pc := 945) C dL_law_945 rfl ?_
  refine r_aload_n (pc := 946) C dL_law_946 rfl ?_
  refine r_iload_n (pc := 947) C dL_law_947 rfl ?_
  refine r_iconst (pc := 948) C (1) dL_law_948 (by decide) ?_
  refine r_iadd (pc := 949) C dL_law_949 ?_
  refine r_sld (pc := 950) C S (i + 1) (nI_addE rfl rfl) (by omega) dL_law_950 ?_
  refine q_vIf (pc := 951) C kL_133 dL_law_951 (c_X9_trace ht e27) (s_85 _) rfl rfl (Nat.le_of_ble_eq_true rfl) (by decide) ⟨by omega, by omega⟩ ?_
  refine r_icmp_eq (pc := 954) C 995 dL_law_954 (by decide) (fun _ => ?_) (fun z => absurd (rfl) z)
  exact v_wid (by omega) (by omega) (K kn _ (I))
set_option maxRecDepth 100000 in
set_option maxHeartbeats 4000000 in
theorem st_count {X : XT} {G : GG} {nm : String} {kn : Nat} {f : MM} {b SL i cs sl : Nat} {xs : Nat → Int32} {Q : State → Prop} (C : Cx X G (mLaw nm) 1311 600000 7302250 0) (S : Scr X G b SL xs) (hi : i + 6 ≤ SL) (hc : cs + 10 ≤ 600000 ∧ sl + 67 ≤ 7302250) (I : Inv kn f) (K : ∀ (kn' : Nat) (f' : MM), Inv kn' f' → Vw X G (mLaw nm).2.2.2.1 (cs + 10) (sl + 67) Q (NN kn') (shF kn') f' 995 [some (.ref b), some (.ref (G.1 + 0)), some (.ref (G.1 + 85)), some (.int (nI i))] []) : Vw X G (mLaw nm).2.2.2.1 cs sl Q (NN kn) (shF kn) f 959 [some (.ref b), some (.ref (G.1 + 0)), some (.ref (G.1 + 85)), some (.int (nI i))] [] := by
  refine r_aload_n (pc := 959) C dL_law_959 rfl ?_
  refine r_aload_n (pc := 960) C dL_law_960 rfl ?_
  refine r_iload_n (pc := 961) C dL_law_961 rfl ?_
  refine r_iconst (pc := 962) C (1) dL_law_962 (by decide) ?_
  refine r_iadd (pc := 963) C dL_law_963 ?_
  refine r_sld (pc := 964) C S (i + 1) (nI_addE rfl rfl) (by omega) dL_law_964 ?_
  refine q_vIf (pc := 965) C kL_134 dL_law_965 (c_X8_count I) (s_0 _) rfl rfl (Nat.le_of_ble_eq_true rfl) (by decide) ⟨by omega, by omega⟩ ?_
  refine r_aload_n (pc := 968) C dL_law_968 rfl ?_
  refine r_aload_n (pc := 969) C dL_law_969 rfl ?_
  refine r_iload_n (pc := 970) C dL_law_970 rfl ?_
  refine r_iconst (pc := 971) C (1) dL_law_971 (by decide) ?_
  refine r_iadd (pc := 972) C dL_law_972 ?_
  refine r_sld (pc := 973) C S (i + 1) (nI_addE rfl rfl) (by omega) dL_law_973 ?_
  refine q_vIf (pc := 974) C kL_137 dL_law_974 (c_X9_count) (s_85 _) rfl rfl (Nat.le_of_ble_eq_true rfl) (by decide) ⟨by omega, by omega⟩ ?_
  refine r_icmp_eq (pc := 977) C 995 dL_law_977 (by decide) (fun _ => ?_) (fun z => absurd (rfl) z)
  exact v_wid (by omega) (by omega) (K kn _ (I))
set_option maxRecDepth 100000 in
set_option maxHeartbeats 4000000 in
theorem st_status {X : XT} {G : GG} {nm : String} {kn : Nat} {f : MM} {b SL i cs sl : Nat} {xs : Nat → Int32} {Q : State → Prop} (C : Cx X G (mLaw nm) 1311 600000 7302250 0) (S : Scr X G b SL xs) (hi : i + 6 ≤ SL) (hc : cs + 10 ≤ 600000 ∧ sl + 67 ≤ 7302250) (I : Inv kn f) (K : ∀ (kn' : Nat) (f' : MM), Inv kn' f' → Vw X G (mLaw nm).2.2.2.1 (cs + 10) (sl + 67) Q (NN kn') (shF kn') f' 995 [some (.ref b), some (.ref (G.1 + 0)), some (.ref (G.1 + 85)), some (.int (nI i))] []) : Vw X G (mLaw nm).2.2.2.1 cs sl Q (NN kn) (shF kn) f 982 [some (.ref b), some (.ref (G.1 + 0)), some (.ref (G.1 + 85)), some (.int (nI i))] [] := by
  refine r_aload_n (pc := 982) C dL_law_982 rfl ?_
  refine q_vIf (pc := 983) C kL_138 dL_law_983 (c_X8_status) (s_0 _) rfl rfl (Nat.le_of_ble_eq_true rfl) (by decide) ⟨by omega, by omega⟩ ?_
  refine r_aload_n (pc := 986) C dL_law_986 rfl ?_
  refine q_vIf (pc := 987) C kL_141 dL_law_987 (c_X9_status) (s_85 _) rfl rfl (Nat.le_of_ble_eq_true rfl) (by decide) ⟨by omega, by omega⟩ ?_
  refine r_icmp_eq (pc := 990) C 995 dL_law_990 (by decide) (fun _ => ?_) (fun z => absurd (I.fin) z)
  exact v_wid (by omega) (by omega) (K kn _ (I))
