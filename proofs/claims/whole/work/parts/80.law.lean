theorem law_gt {j L : Nat} (hj : j ≤ 5000) (hL : L ≤ 2048) : (nI L - nI 4 < nI j) ↔ L < j + 4 := by
  by_cases h : 4 ≤ L
  · rw [nix_sub h, nI_ltI (by omega) (by omega)]
    omega
  · refine ⟨fun _ => by omega, fun _ => ?_⟩
    refine Int32.lt_of_lt_of_le ?_ (nI_pos' (show j < 2 ^ 31 by omega))
    rcases (show L = 0 ∨ L = 1 ∨ L = 2 ∨ L = 3 by omega) with e | e | e | e <;> subst e <;> decide +kernel
theorem zr_step {G : zG} {y : zY} {E : Nat × Nat} {pc : Nat} {ls : List (Option Value)} {st : List Value} {N u : Nat} {g : zh} {r : Option Value} {N' u' : Nat} {g' : zh} (h : zR G y E pc ls st N u g r N' u' g') : ∃ g', zR G y E pc ls st N u g r N' u' g' := ⟨g', h⟩
set_option maxRecDepth 20000 in
set_option maxHeartbeats 1000000 in
theorem lp_663 {G : zG} {i : Nat} {w g2 : zh} (hz : zR G mL_law (0, 0) 18 [some (.ref 1000), some (.ref 0), some (.ref 49), some (.int (nI (4 * (i + 1))))] [] 71 2425 w (some (.int 1)) 71 2425 g2) : zR G mL_law (0, 0) 663 [some (.ref 1000), some (.ref 0), some (.ref 49), some (.int (nI (4 * i)))] [] 71 2425 w (some (.int 1)) 71 2425 g2 := by
  rw [show 4 * (i + 1) = 4 * i + 4 by omega] at hz
  refine z_iinc iL_law_663 rfl (nix_incs 4 zk_4) rfl (by decide) ?_
  refine z_goto iL_law_666 ?_
  exact hz
set_option maxRecDepth 20000 in
set_option maxHeartbeats 1000000 in
theorem lp_law (G : zG) (hL : zL G ≤ 2048) (st_barn : ∀ (G : zG) (i : Nat) (w : zh), i < 1000 → Gd i w → Oki G i mX7_barn mX8_barn [] w) : ∀ (n i : Nat) (w : zh), Gd i w → 4 * i ≤ 5000 → zL G < 4 * (i + n) + 4 → ∃ g2, zR G mL_law (0, 0) 18 [some (.ref 1000), some (.ref 0), some (.ref 49), some (.int (nI (4 * i)))] [] 71 2425 w (some (.int 1)) 71 2425 g2 := by
  have hx : ∀ (i : Nat) (w : zh), Gd i w → 4 * i ≤ 5000 → zL G < 4 * i + 4 → ∃ g2, zR G mL_law (0, 0) 18 [some (.ref 1000), some (.ref 0), some (.ref 49), some (.int (nI (4 * i)))] [] 71 2425 w (some (.int 1)) 71 2425 g2 := fun i w hg hi hl => by
    refine ⟨w, ?_⟩
    refine z_iload_n iL_law_18 rfl ?_
    refine z_aload_n iL_law_19 rfl ?_
    refine z_slen iL_law_20 rfl ?_
    refine z_iconst iL_law_21 zk_4 ?_
    refine z_isub iL_law_22 ?_
    refine z_icmp_gt iL_law_23 (fun _ => ?_) (fun q => absurd ((law_gt hi hL).mpr hl) q)
    refine z_iconst iL_law_669 zk_1 ?_
    exact z_ireturn iL_law_670 (by decide +kernel) rfl
  intro n
  induction n with
  | zero => intro i w hg hi hl; exact hx i w hg hi (by omega)
  | succ n ih =>
    intro i w hg hi hl
    by_cases hq : zL G < 4 * i + 4
    · exact hx i w hg hi hq
    · obtain ⟨f0, e0⟩ : ∃ fs, w 0 = zO 6 fs := by
        obtain ⟨pg, nw, kp, sn, ks, fo, ft, fe, gt, mx, re, m, hh, e, -⟩ := hg
        exact ⟨_, by rw [e]; exact wx⟩
      obtain ⟨t, ht, et⟩ := pk_andE (zxs G (4 * i)) (m := nI 31) 5 (by decide +kernel)
      have key : ∃ g2, zR G mL_law (0, 0) 32 [some (.ref 1000), some (.ref 0), some (.ref 49), some (.int (nI (4 * i)))] [.int (nI t)] 71 2425 w (some (.int 1)) 71 2425 g2 := by
        by_cases c0 : t = 0
        · subst c0
          obtain ⟨v, w1, w2, k1, k2, ⟨fs, e1⟩, k4⟩ := st_letter G i w hg (zxs G (4 * i + 1))
          obtain ⟨g2, hz⟩ := ih (i + 1) w2 k4 (by omega) (by omega)
          refine ⟨g2, ?_⟩
          refine z_tabIn (off := 104) (tgt := 136) iL_law_32 (by decide +kernel) (by decide +kernel) (by decide +kernel) (by decide) ?_
          refine z_aload_n iL_law_136 rfl ?_
          refine z_aload_n iL_law_137 rfl ?_
          refine z_iload_n iL_law_138 rfl ?_
          refine z_iconst iL_law_139 zk_1 ?_
          refine z_iadd iL_law_140 ?_
          refine z_top nix_add ?_
          refine z_sld iL_law_141 rfl rfl (by omega) (by omega) ?_
          refine z_cvi (y1 := mX7_letter) iL_law_142 lL_13 kX7_letter rfl k1 (e0) rfl rfl rfl (Nat.le_of_ble_eq_true rfl) (by decide) ?_
          refine z_aload_n iL_law_145 rfl ?_
          refine z_aload_n iL_law_146 rfl ?_
          refine z_iload_n iL_law_147 rfl ?_
          refine z_iconst iL_law_148 zk_1 ?_
          refine z_iadd iL_law_149 ?_
          refine z_top nix_add ?_
          refine z_sld iL_law_150 rfl rfl (by omega) (by omega) ?_
          refine z_cvi (y1 := mX8_letter) iL_law_151 lL_17 kX8_letter rfl k2 (e1) rfl rfl rfl (Nat.le_of_ble_eq_true rfl) (by decide) ?_
          refine z_icmp_eq iL_law_154 (fun _ => ?_) (fun q => absurd rfl q)
          exact lp_663 hz
        by_cases c1 : t = 1
        · subst c1
          obtain ⟨v, w1, w2, k1, k2, ⟨fs, e1⟩, k4⟩ := st_blank G i w hg 
          obtain ⟨g2, hz⟩ := ih (i + 1) w2 k4 (by omega) (by omega)
          refine ⟨g2, ?_⟩
          refine z_tabIn (off := 127) (tgt := 159) iL_law_32 (by decide +kernel) (by decide +kernel) (by decide +kernel) (by decide) ?_
          refine z_aload_n iL_law_159 rfl ?_
          refine z_cvi (y1 := mX7_blank) iL_law_160 lL_18 kX7_blank rfl k1 (e0) rfl rfl rfl (Nat.le_of_ble_eq_true rfl) (by decide) ?_
          refine z_aload_n iL_law_163 rfl ?_
          refine z_cvi (y1 := mX8_blank) iL_law_164 lL_22 kX8_blank rfl k2 (e1) rfl rfl rfl (Nat.le_of_ble_eq_true rfl) (by decide) ?_
          refine z_icmp_eq iL_law_167 (fun _ => ?_) (fun q => absurd rfl q)
          exact lp_663 hz
        by_cases c2 : t = 2
        · subst c2
          obtain ⟨v, w1, w2, k1, k2, ⟨fs, e1⟩, k4⟩ := st_fault G i w hg 
          obtain ⟨g2, hz⟩ := ih (i + 1) w2 k4 (by omega) (by omega)
          refine ⟨g2, ?_⟩
          refine z_tabIn (off := 140) (tgt := 172) iL_law_32 (by decide +kernel) (by decide +kernel) (by decide +kernel) (by decide) ?_
          refine z_aload_n iL_law_172 rfl ?_
          refine z_cvi (y1 := mX7_fault) iL_law_173 lL_23 kX7_fault rfl k1 (e0) rfl rfl rfl (Nat.le_of_ble_eq_true rfl) (by decide) ?_
          refine z_aload_n iL_law_176 rfl ?_
          refine z_cvi (y1 := mX8_fault) iL_law_177 lL_26 kX8_fault rfl k2 (e1) rfl rfl rfl (Nat.le_of_ble_eq_true rfl) (by decide) ?_
          refine z_icmp_eq iL_law_180 (fun _ => ?_) (fun q => absurd rfl q)
          exact lp_663 hz
        by_cases c3 : t = 3
        · subst c3
          obtain ⟨v, w1, w2, k1, k2, ⟨fs, e1⟩, k4⟩ := st_barn G i w (by omega) hg
          obtain ⟨g2, hz⟩ := ih (i + 1) w2 k4 (by omega) (by omega)
          refine ⟨g2, ?_⟩
          refine z_tabIn (off := 153) (tgt := 185) iL_law_32 (by decide +kernel) (by decide +kernel) (by decide +kernel) (by decide) ?_
          refine z_aload_n iL_law_185 rfl ?_
          refine z_cvi (y1 := mX7_barn) iL_law_186 lL_27 kX7_barn rfl k1 (e0) rfl rfl rfl (Nat.le_of_ble_eq_true rfl) (by decide) ?_
          refine z_aload_n iL_law_189 rfl ?_
          refine z_cvi (y1 := mX8_barn) iL_law_190 lL_30 kX8_barn rfl k2 (e1) rfl rfl rfl (Nat.le_of_ble_eq_true rfl) (by decide) ?_
          refine z_icmp_eq iL_law_193 (fun _ => ?_) (fun q => absurd rfl q)
          exact lp_663 hz
        by_cases c4 : t = 4
        · subst c4
          obtain ⟨v, w1, w2, k1, k2, ⟨fs, e1⟩, k4⟩ := st_cart G i w hg (zxs G (4 * i + 1)) (zxs G (4 * i + 2))
          obtain ⟨g2, hz⟩ := ih (i + 1) w2 k4 (by omega) (by omega)
          refine ⟨g2, ?_⟩
          refine z_tabIn (off := 166) (tgt := 198) iL_law_32 (by decide +kernel) (by decide +kernel) (by decide +kernel) (by decide) ?_
          refine z_aload_n iL_law_198 rfl ?_
          refine z_aload_n iL_law_199 rfl ?_
          refine z_iload_n iL_law_200 rfl ?_
          refine z_iconst iL_law_201 zk_1 ?_
          refine z_iadd iL_law_202 ?_
          refine z_top nix_add ?_
          refine z_sld iL_law_203 rfl rfl (by omega) (by omega) ?_
          refine z_aload_n iL_law_204 rfl ?_
          refine z_iload_n iL_law_205 rfl ?_
          refine z_iconst iL_law_206 zk_2 ?_
          refine z_iadd iL_law_207 ?_
          refine z_top nix_add ?_
          refine z_sld iL_law_208 rfl rfl (by omega) (by omega) ?_
          refine z_cvi (y1 := mX7_cart) iL_law_209 lL_31 kX7_cart rfl k1 (e0) rfl rfl rfl (Nat.le_of_ble_eq_true rfl) (by decide) ?_
          refine z_aload_n iL_law_212 rfl ?_
          refine z_aload_n iL_law_213 rfl ?_
          refine z_iload_n iL_law_214 rfl ?_
          refine z_iconst iL_law_215 zk_1 ?_
          refine z_iadd iL_law_216 ?_
          refine z_top nix_add ?_
          refine z_sld iL_law_217 rfl rfl (by omega) (by omega) ?_
          refine z_aload_n iL_law_218 rfl ?_
          refine z_iload_n iL_law_219 rfl ?_
          refine z_iconst iL_law_220 zk_2 ?_
          refine z_iadd iL_law_221 ?_
          refine z_top nix_add ?_
          refine z_sld iL_law_222 rfl rfl (by omega) (by omega) ?_
          refine z_cvi (y1 := mX8_cart) iL_law_223 lL_35 kX8_cart rfl k2 (e1) rfl rfl rfl (Nat.le_of_ble_eq_true rfl) (by decide) ?_
          refine z_icmp_eq iL_law_226 (fun _ => ?_) (fun q => absurd rfl q)
          exact lp_663 hz
        by_cases c5 : t = 5
        · subst c5
          obtain ⟨v, w1, w2, k1, k2, ⟨fs, e1⟩, k4⟩ := st_as G i w hg (zxs G (4 * i + 1)) (zxs G (4 * i + 2))
          obtain ⟨g2, hz⟩ := ih (i + 1) w2 k4 (by omega) (by omega)
          refine ⟨g2, ?_⟩
          refine z_tabIn (off := 199) (tgt := 231) iL_law_32 (by decide +kernel) (by decide +kernel) (by decide +kernel) (by decide) ?_
          refine z_aload_n iL_law_231 rfl ?_
          refine z_aload_n iL_law_232 rfl ?_
          refine z_iload_n iL_law_233 rfl ?_
          refine z_iconst iL_law_234 zk_1 ?_
          refine z_iadd iL_law_235 ?_
          refine z_top nix_add ?_
          refine z_sld iL_law_236 rfl rfl (by omega) (by omega) ?_
          refine z_aload_n iL_law_237 rfl ?_
          refine z_iload_n iL_law_238 rfl ?_
          refine z_iconst iL_law_239 zk_2 ?_
          refine z_iadd iL_law_240 ?_
          refine z_top nix_add ?_
          refine z_sld iL_law_241 rfl rfl (by omega) (by omega) ?_
          refine z_cvi (y1 := mX7_as) iL_law_242 lL_36 kX7_as rfl k1 (e0) rfl rfl rfl (Nat.le_of_ble_eq_true rfl) (by decide) ?_
          refine z_aload_n iL_law_245 rfl ?_
          refine z_aload_n iL_law_246 rfl ?_
          refine z_iload_n iL_law_247 rfl ?_
          refine z_iconst iL_law_248 zk_1 ?_
          refine z_iadd iL_law_249 ?_
          refine z_top nix_add ?_
          refine z_sld iL_law_250 rfl rfl (by omega) (by omega) ?_
          refine z_aload_n iL_law_251 rfl ?_
          refine z_iload_n iL_law_252 rfl ?_
          refine z_iconst iL_law_253 zk_2 ?_
          refine z_iadd iL_law_254 ?_
          refine z_top nix_add ?_
          refine z_sld iL_law_255 rfl rfl (by omega) (by omega) ?_
          refine z_cvi (y1 := mX8_as) iL_law_256 lL_39 kX8_as rfl k2 (e1) rfl rfl rfl (Nat.le_of_ble_eq_true rfl) (by decide) ?_
          refine z_icmp_eq iL_law_259 (fun _ => ?_) (fun q => absurd rfl q)
          exact lp_663 hz
        by_cases c6 : t = 6
        · subst c6
          obtain ⟨v, w1, w2, k1, k2, ⟨fs, e1⟩, k4⟩ := st_bay G i w hg (zxs G (4 * i + 1)) (zxs G (4 * i + 2))
          obtain ⟨g2, hz⟩ := ih (i + 1) w2 k4 (by omega) (by omega)
          refine ⟨g2, ?_⟩
          refine z_tabIn (off := 232) (tgt := 264) iL_law_32 (by decide +kernel) (by decide +kernel) (by decide +kernel) (by decide) ?_
          refine z_aload_n iL_law_264 rfl ?_
          refine z_aload_n iL_law_265 rfl ?_
          refine z_iload_n iL_law_266 rfl ?_
          refine z_iconst iL_law_267 zk_1 ?_
          refine z_iadd iL_law_268 ?_
          refine z_top nix_add ?_
          refine z_sld iL_law_269 rfl rfl (by omega) (by omega) ?_
          refine z_aload_n iL_law_270 rfl ?_
          refine z_iload_n iL_law_271 rfl ?_
          refine z_iconst iL_law_272 zk_2 ?_
          refine z_iadd iL_law_273 ?_
          refine z_top nix_add ?_
          refine z_sld iL_law_274 rfl rfl (by omega) (by omega) ?_
          refine z_cvi (y1 := mX7_bay) iL_law_275 lL_40 kX7_bay rfl k1 (e0) rfl rfl rfl (Nat.le_of_ble_eq_true rfl) (by decide) ?_
          refine z_aload_n iL_law_278 rfl ?_
          refine z_aload_n iL_law_279 rfl ?_
          refine z_iload_n iL_law_280 rfl ?_
          refine z_iconst iL_law_281 zk_1 ?_
          refine z_iadd iL_law_282 ?_
          refine z_top nix_add ?_
          refine z_sld iL_law_283 rfl rfl (by omega) (by omega) ?_
          refine z_aload_n iL_law_284 rfl ?_
          refine z_iload_n iL_law_285 rfl ?_
          refine z_iconst iL_law_286 zk_2 ?_
          refine z_iadd iL_law_287 ?_
          refine z_top nix_add ?_
          refine z_sld iL_law_288 rfl rfl (by omega) (by omega) ?_
          refine z_cvi (y1 := mX8_bay) iL_law_289 lL_43 kX8_bay rfl k2 (e1) rfl rfl rfl (Nat.le_of_ble_eq_true rfl) (by decide) ?_
          refine z_icmp_eq iL_law_292 (fun _ => ?_) (fun q => absurd rfl q)
          exact lp_663 hz
        by_cases c7 : t = 7
        · subst c7
          obtain ⟨v, w1, w2, k1, k2, ⟨fs, e1⟩, k4⟩ := st_cut G i w hg (zxs G (4 * i + 1)) (zxs G (4 * i + 2))
          obtain ⟨g2, hz⟩ := ih (i + 1) w2 k4 (by omega) (by omega)
          refine ⟨g2, ?_⟩
          refine z_tabIn (off := 265) (tgt := 297) iL_law_32 (by decide +kernel) (by decide +kernel) (by decide +kernel) (by decide) ?_
          refine z_aload_n iL_law_297 rfl ?_
          refine z_aload_n iL_law_298 rfl ?_
          refine z_iload_n iL_law_299 rfl ?_
          refine z_iconst iL_law_300 zk_1 ?_
          refine z_iadd iL_law_301 ?_
          refine z_top nix_add ?_
          refine z_sld iL_law_302 rfl rfl (by omega) (by omega) ?_
          refine z_aload_n iL_law_303 rfl ?_
          refine z_iload_n iL_law_304 rfl ?_
          refine z_iconst iL_law_305 zk_2 ?_
          refine z_iadd iL_law_306 ?_
          refine z_top nix_add ?_
          refine z_sld iL_law_307 rfl rfl (by omega) (by omega) ?_
          refine z_cvi (y1 := mX7_cut) iL_law_308 lL_44 kX7_cut rfl k1 (e0) rfl rfl rfl (Nat.le_of_ble_eq_true rfl) (by decide) ?_
          refine z_aload_n iL_law_311 rfl ?_
          refine z_aload_n iL_law_312 rfl ?_
          refine z_iload_n iL_law_313 rfl ?_
          refine z_iconst iL_law_314 zk_1 ?_
          refine z_iadd iL_law_315 ?_
          refine z_top nix_add ?_
          refine z_sld iL_law_316 rfl rfl (by omega) (by omega) ?_
          refine z_aload_n iL_law_317 rfl ?_
          refine z_iload_n iL_law_318 rfl ?_
          refine z_iconst iL_law_319 zk_2 ?_
          refine z_iadd iL_law_320 ?_
          refine z_top nix_add ?_
          refine z_sld iL_law_321 rfl rfl (by omega) (by omega) ?_
          refine z_cvi (y1 := mX8_cut) iL_law_322 lL_47 kX8_cut rfl k2 (e1) rfl rfl rfl (Nat.le_of_ble_eq_true rfl) (by decide) ?_
          refine z_icmp_eq iL_law_325 (fun _ => ?_) (fun q => absurd rfl q)
          exact lp_663 hz
        by_cases c8 : t = 8
        · subst c8
          obtain ⟨v, w1, w2, k1, k2, ⟨fs, e1⟩, k4⟩ := st_day G i w hg 
          obtain ⟨g2, hz⟩ := ih (i + 1) w2 k4 (by omega) (by omega)
          refine ⟨g2, ?_⟩
          refine z_tabIn (off := 298) (tgt := 330) iL_law_32 (by decide +kernel) (by decide +kernel) (by decide +kernel) (by decide) ?_
          refine z_aload_n iL_law_330 rfl ?_
          refine z_cvi (y1 := mX7_day) iL_law_331 lL_48 kX7_day rfl k1 (e0) rfl rfl rfl (Nat.le_of_ble_eq_true rfl) (by decide) ?_
          refine z_aload_n iL_law_334 rfl ?_
          refine z_cvi (y1 := mX8_day) iL_law_335 lL_51 kX8_day rfl k2 (e1) rfl rfl rfl (Nat.le_of_ble_eq_true rfl) (by decide) ?_
          refine z_icmp_eq iL_law_338 (fun _ => ?_) (fun q => absurd rfl q)
          exact lp_663 hz
        by_cases c9 : t = 9
        · subst c9
          obtain ⟨v, w1, w2, k1, k2, ⟨fs, e1⟩, k4⟩ := st_turn G i w hg (zxs G (4 * i + 1))
          obtain ⟨g2, hz⟩ := ih (i + 1) w2 k4 (by omega) (by omega)
          refine ⟨g2, ?_⟩
          refine z_tabIn (off := 311) (tgt := 343) iL_law_32 (by decide +kernel) (by decide +kernel) (by decide +kernel) (by decide) ?_
          refine z_aload_n iL_law_343 rfl ?_
          refine z_aload_n iL_law_344 rfl ?_
          refine z_iload_n iL_law_345 rfl ?_
          refine z_iconst iL_law_346 zk_1 ?_
          refine z_iadd iL_law_347 ?_
          refine z_top nix_add ?_
          refine z_sld iL_law_348 rfl rfl (by omega) (by omega) ?_
          refine z_cvi (y1 := mX7_turn) iL_law_349 lL_52 kX7_turn rfl k1 (e0) rfl rfl rfl (Nat.le_of_ble_eq_true rfl) (by decide) ?_
          refine z_aload_n iL_law_352 rfl ?_
          refine z_aload_n iL_law_353 rfl ?_
          refine z_iload_n iL_law_354 rfl ?_
          refine z_iconst iL_law_355 zk_1 ?_
          refine z_iadd iL_law_356 ?_
          refine z_top nix_add ?_
          refine z_sld iL_law_357 rfl rfl (by omega) (by omega) ?_
          refine z_cvi (y1 := mX8_turn) iL_law_358 lL_55 kX8_turn rfl k2 (e1) rfl rfl rfl (Nat.le_of_ble_eq_true rfl) (by decide) ?_
          refine z_icmp_eq iL_law_361 (fun _ => ?_) (fun q => absurd rfl q)
          exact lp_663 hz
        by_cases c10 : t = 10
        · subst c10
          obtain ⟨v, w1, w2, k1, k2, ⟨fs, e1⟩, k4⟩ := st_rain G i w hg (zxs G (4 * i + 1)) (zxs G (4 * i + 2))
          obtain ⟨g2, hz⟩ := ih (i + 1) w2 k4 (by omega) (by omega)
          refine ⟨g2, ?_⟩
          refine z_tabIn (off := 334) (tgt := 366) iL_law_32 (by decide +kernel) (by decide +kernel) (by decide +kernel) (by decide) ?_
          refine z_aload_n iL_law_366 rfl ?_
          refine z_aload_n iL_law_367 rfl ?_
          refine z_iload_n iL_law_368 rfl ?_
          refine z_iconst iL_law_369 zk_1 ?_
          refine z_iadd iL_law_370 ?_
          refine z_top nix_add ?_
          refine z_sld iL_law_371 rfl rfl (by omega) (by omega) ?_
          refine z_aload_n iL_law_372 rfl ?_
          refine z_iload_n iL_law_373 rfl ?_
          refine z_iconst iL_law_374 zk_2 ?_
          refine z_iadd iL_law_375 ?_
          refine z_top nix_add ?_
          refine z_sld iL_law_376 rfl rfl (by omega) (by omega) ?_
          refine z_cvi (y1 := mX7_rain) iL_law_377 lL_56 kX7_rain rfl k1 (e0) rfl rfl rfl (Nat.le_of_ble_eq_true rfl) (by decide) ?_
          refine z_aload_n iL_law_380 rfl ?_
          refine z_aload_n iL_law_381 rfl ?_
          refine z_iload_n iL_law_382 rfl ?_
          refine z_iconst iL_law_383 zk_1 ?_
          refine z_iadd iL_law_384 ?_
          refine z_top nix_add ?_
          refine z_sld iL_law_385 rfl rfl (by omega) (by omega) ?_
          refine z_aload_n iL_law_386 rfl ?_
          refine z_iload_n iL_law_387 rfl ?_
          refine z_iconst iL_law_388 zk_2 ?_
          refine z_iadd iL_law_389 ?_
          refine z_top nix_add ?_
          refine z_sld iL_law_390 rfl rfl (by omega) (by omega) ?_
          refine z_cvi (y1 := mX8_rain) iL_law_391 lL_59 kX8_rain rfl k2 (e1) rfl rfl rfl (Nat.le_of_ble_eq_true rfl) (by decide) ?_
          refine z_icmp_eq iL_law_394 (fun _ => ?_) (fun q => absurd rfl q)
          exact lp_663 hz
        by_cases c11 : t = 11
        · subst c11
          obtain ⟨v, w1, w2, k1, k2, ⟨fs, e1⟩, k4⟩ := st_lasts G i w hg (zxs G (4 * i + 1))
          obtain ⟨g2, hz⟩ := ih (i + 1) w2 k4 (by omega) (by omega)
          refine ⟨g2, ?_⟩
          refine z_tabIn (off := 367) (tgt := 399) iL_law_32 (by decide +kernel) (by decide +kernel) (by decide +kernel) (by decide) ?_
          refine z_aload_n iL_law_399 rfl ?_
          refine z_aload_n iL_law_400 rfl ?_
          refine z_iload_n iL_law_401 rfl ?_
          refine z_iconst iL_law_402 zk_1 ?_
          refine z_iadd iL_law_403 ?_
          refine z_top nix_add ?_
          refine z_sld iL_law_404 rfl rfl (by omega) (by omega) ?_
          refine z_cvi (y1 := mX7_lasts) iL_law_405 lL_60 kX7_lasts rfl k1 (e0) rfl rfl rfl (Nat.le_of_ble_eq_true rfl) (by decide) ?_
          refine z_aload_n iL_law_408 rfl ?_
          refine z_aload_n iL_law_409 rfl ?_
          refine z_iload_n iL_law_410 rfl ?_
          refine z_iconst iL_law_411 zk_1 ?_
          refine z_iadd iL_law_412 ?_
          refine z_top nix_add ?_
          refine z_sld iL_law_413 rfl rfl (by omega) (by omega) ?_
          refine z_cvi (y1 := mX8_lasts) iL_law_414 lL_63 kX8_lasts rfl k2 (e1) rfl rfl rfl (Nat.le_of_ble_eq_true rfl) (by decide) ?_
          refine z_icmp_eq iL_law_417 (fun _ => ?_) (fun q => absurd rfl q)
          exact lp_663 hz
        by_cases c12 : t = 12
        · subst c12
          obtain ⟨v, w1, w2, k1, k2, ⟨fs, e1⟩, k4⟩ := st_plan G i w hg (zxs G (4 * i + 1)) (zxs G (4 * i + 2))
          obtain ⟨g2, hz⟩ := ih (i + 1) w2 k4 (by omega) (by omega)
          refine ⟨g2, ?_⟩
          refine z_tabIn (off := 390) (tgt := 422) iL_law_32 (by decide +kernel) (by decide +kernel) (by decide +kernel) (by decide) ?_
          refine z_aload_n iL_law_422 rfl ?_
          refine z_aload_n iL_law_423 rfl ?_
          refine z_iload_n iL_law_424 rfl ?_
          refine z_iconst iL_law_425 zk_1 ?_
          refine z_iadd iL_law_426 ?_
          refine z_top nix_add ?_
          refine z_sld iL_law_427 rfl rfl (by omega) (by omega) ?_
          refine z_aload_n iL_law_428 rfl ?_
          refine z_iload_n iL_law_429 rfl ?_
          refine z_iconst iL_law_430 zk_2 ?_
          refine z_iadd iL_law_431 ?_
          refine z_top nix_add ?_
          refine z_sld iL_law_432 rfl rfl (by omega) (by omega) ?_
          refine z_cvi (y1 := mX7_plan) iL_law_433 lL_64 kX7_plan rfl k1 (e0) rfl rfl rfl (Nat.le_of_ble_eq_true rfl) (by decide) ?_
          refine z_aload_n iL_law_436 rfl ?_
          refine z_aload_n iL_law_437 rfl ?_
          refine z_iload_n iL_law_438 rfl ?_
          refine z_iconst iL_law_439 zk_1 ?_
          refine z_iadd iL_law_440 ?_
          refine z_top nix_add ?_
          refine z_sld iL_law_441 rfl rfl (by omega) (by omega) ?_
          refine z_aload_n iL_law_442 rfl ?_
          refine z_iload_n iL_law_443 rfl ?_
          refine z_iconst iL_law_444 zk_2 ?_
          refine z_iadd iL_law_445 ?_
          refine z_top nix_add ?_
          refine z_sld iL_law_446 rfl rfl (by omega) (by omega) ?_
          refine z_cvi (y1 := mX8_plan) iL_law_447 lL_67 kX8_plan rfl k2 (e1) rfl rfl rfl (Nat.le_of_ble_eq_true rfl) (by decide) ?_
          refine z_icmp_eq iL_law_450 (fun _ => ?_) (fun q => absurd rfl q)
          exact lp_663 hz
        by_cases c13 : t = 13
        · subst c13
          obtain ⟨v, w1, w2, k1, k2, ⟨fs, e1⟩, k4⟩ := st_share G i w hg (zxs G (4 * i + 1))
          obtain ⟨g2, hz⟩ := ih (i + 1) w2 k4 (by omega) (by omega)
          refine ⟨g2, ?_⟩
          refine z_tabIn (off := 423) (tgt := 455) iL_law_32 (by decide +kernel) (by decide +kernel) (by decide +kernel) (by decide) ?_
          refine z_aload_n iL_law_455 rfl ?_
          refine z_aload_n iL_law_456 rfl ?_
          refine z_iload_n iL_law_457 rfl ?_
          refine z_iconst iL_law_458 zk_1 ?_
          refine z_iadd iL_law_459 ?_
          refine z_top nix_add ?_
          refine z_sld iL_law_460 rfl rfl (by omega) (by omega) ?_
          refine z_cvi (y1 := mX7_share) iL_law_461 lL_68 kX7_share rfl k1 (e0) rfl rfl rfl (Nat.le_of_ble_eq_true rfl) (by decide) ?_
          refine z_aload_n iL_law_464 rfl ?_
          refine z_aload_n iL_law_465 rfl ?_
          refine z_iload_n iL_law_466 rfl ?_
          refine z_iconst iL_law_467 zk_1 ?_
          refine z_iadd iL_law_468 ?_
          refine z_top nix_add ?_
          refine z_sld iL_law_469 rfl rfl (by omega) (by omega) ?_
          refine z_cvi (y1 := mX8_share) iL_law_470 lL_71 kX8_share rfl k2 (e1) rfl rfl rfl (Nat.le_of_ble_eq_true rfl) (by decide) ?_
          refine z_icmp_eq iL_law_473 (fun _ => ?_) (fun q => absurd rfl q)
          exact lp_663 hz
        by_cases c14 : t = 14
        · subst c14
          obtain ⟨v, w1, w2, k1, k2, ⟨fs, e1⟩, k4⟩ := st_burnt G i w hg (zxs G (4 * i + 1))
          obtain ⟨g2, hz⟩ := ih (i + 1) w2 k4 (by omega) (by omega)
          refine ⟨g2, ?_⟩
          refine z_tabIn (off := 446) (tgt := 478) iL_law_32 (by decide +kernel) (by decide +kernel) (by decide +kernel) (by decide) ?_
          refine z_aload_n iL_law_478 rfl ?_
          refine z_aload_n iL_law_479 rfl ?_
          refine z_iload_n iL_law_480 rfl ?_
          refine z_iconst iL_law_481 zk_1 ?_
          refine z_iadd iL_law_482 ?_
          refine z_top nix_add ?_
          refine z_sld iL_law_483 rfl rfl (by omega) (by omega) ?_
          refine z_cvi (y1 := mX7_burnt) iL_law_484 lL_72 kX7_burnt rfl k1 (e0) rfl rfl rfl (Nat.le_of_ble_eq_true rfl) (by decide) ?_
          refine z_aload_n iL_law_487 rfl ?_
          refine z_aload_n iL_law_488 rfl ?_
          refine z_iload_n iL_law_489 rfl ?_
          refine z_iconst iL_law_490 zk_1 ?_
          refine z_iadd iL_law_491 ?_
          refine z_top nix_add ?_
          refine z_sld iL_law_492 rfl rfl (by omega) (by omega) ?_
          refine z_cvi (y1 := mX8_burnt) iL_law_493 lL_75 kX8_burnt rfl k2 (e1) rfl rfl rfl (Nat.le_of_ble_eq_true rfl) (by decide) ?_
          refine z_icmp_eq iL_law_496 (fun _ => ?_) (fun q => absurd rfl q)
          exact lp_663 hz
        by_cases c15 : t = 15
        · subst c15
          obtain ⟨v, w1, w2, k1, k2, ⟨fs, e1⟩, k4⟩ := st_see G i w hg (zxs G (4 * i + 1)) (zxs G (4 * i + 2)) (zxs G (4 * i + 3))
          obtain ⟨g2, hz⟩ := ih (i + 1) w2 k4 (by omega) (by omega)
          refine ⟨g2, ?_⟩
          refine z_tabIn (off := 469) (tgt := 501) iL_law_32 (by decide +kernel) (by decide +kernel) (by decide +kernel) (by decide) ?_
          refine z_aload_n iL_law_501 rfl ?_
          refine z_aload_n iL_law_502 rfl ?_
          refine z_iload_n iL_law_503 rfl ?_
          refine z_iconst iL_law_504 zk_1 ?_
          refine z_iadd iL_law_505 ?_
          refine z_top nix_add ?_
          refine z_sld iL_law_506 rfl rfl (by omega) (by omega) ?_
          refine z_aload_n iL_law_507 rfl ?_
          refine z_iload_n iL_law_508 rfl ?_
          refine z_iconst iL_law_509 zk_2 ?_
          refine z_iadd iL_law_510 ?_
          refine z_top nix_add ?_
          refine z_sld iL_law_511 rfl rfl (by omega) (by omega) ?_
          refine z_aload_n iL_law_512 rfl ?_
          refine z_iload_n iL_law_513 rfl ?_
          refine z_iconst iL_law_514 zk_3 ?_
          refine z_iadd iL_law_515 ?_
          refine z_top nix_add ?_
          refine z_sld iL_law_516 rfl rfl (by omega) (by omega) ?_
          refine z_cvi (y1 := mX7_see) iL_law_517 lL_76 kX7_see rfl k1 (e0) rfl rfl rfl (Nat.le_of_ble_eq_true rfl) (by decide) ?_
          refine z_aload_n iL_law_520 rfl ?_
          refine z_aload_n iL_law_521 rfl ?_
          refine z_iload_n iL_law_522 rfl ?_
          refine z_iconst iL_law_523 zk_1 ?_
          refine z_iadd iL_law_524 ?_
          refine z_top nix_add ?_
          refine z_sld iL_law_525 rfl rfl (by omega) (by omega) ?_
          refine z_aload_n iL_law_526 rfl ?_
          refine z_iload_n iL_law_527 rfl ?_
          refine z_iconst iL_law_528 zk_2 ?_
          refine z_iadd iL_law_529 ?_
          refine z_top nix_add ?_
          refine z_sld iL_law_530 rfl rfl (by omega) (by omega) ?_
          refine z_aload_n iL_law_531 rfl ?_
          refine z_iload_n iL_law_532 rfl ?_
          refine z_iconst iL_law_533 zk_3 ?_
          refine z_iadd iL_law_534 ?_
          refine z_top nix_add ?_
          refine z_sld iL_law_535 rfl rfl (by omega) (by omega) ?_
          refine z_cvi (y1 := mX8_see) iL_law_536 lL_80 kX8_see rfl k2 (e1) rfl rfl rfl (Nat.le_of_ble_eq_true rfl) (by decide) ?_
          refine z_icmp_eq iL_law_539 (fun _ => ?_) (fun q => absurd rfl q)
          exact lp_663 hz
        by_cases c16 : t = 16
        · subst c16
          obtain ⟨v, w1, w2, k1, k2, ⟨fs, e1⟩, k4⟩ := st_forget G i w hg 
          obtain ⟨g2, hz⟩ := ih (i + 1) w2 k4 (by omega) (by omega)
          refine ⟨g2, ?_⟩
          refine z_tabIn (off := 512) (tgt := 544) iL_law_32 (by decide +kernel) (by decide +kernel) (by decide +kernel) (by decide) ?_
          refine z_aload_n iL_law_544 rfl ?_
          refine z_cvi (y1 := mX7_forget) iL_law_545 lL_81 kX7_forget rfl k1 (e0) rfl rfl rfl (Nat.le_of_ble_eq_true rfl) (by decide) ?_
          refine z_aload_n iL_law_548 rfl ?_
          refine z_cvi (y1 := mX8_forget) iL_law_549 lL_84 kX8_forget rfl k2 (e1) rfl rfl rfl (Nat.le_of_ble_eq_true rfl) (by decide) ?_
          refine z_icmp_eq iL_law_552 (fun _ => ?_) (fun q => absurd rfl q)
          exact lp_663 hz
        by_cases c17 : t = 17
        · subst c17
          obtain ⟨v, w1, w2, k1, k2, ⟨fs, e1⟩, k4⟩ := st_winters G i w hg (zxs G (4 * i + 1)) (zxs G (4 * i + 2)) (zxs G (4 * i + 3))
          obtain ⟨g2, hz⟩ := ih (i + 1) w2 k4 (by omega) (by omega)
          refine ⟨g2, ?_⟩
          refine z_tabIn (off := 525) (tgt := 557) iL_law_32 (by decide +kernel) (by decide +kernel) (by decide +kernel) (by decide) ?_
          refine z_aload_n iL_law_557 rfl ?_
          refine z_aload_n iL_law_558 rfl ?_
          refine z_iload_n iL_law_559 rfl ?_
          refine z_iconst iL_law_560 zk_1 ?_
          refine z_iadd iL_law_561 ?_
          refine z_top nix_add ?_
          refine z_sld iL_law_562 rfl rfl (by omega) (by omega) ?_
          refine z_aload_n iL_law_563 rfl ?_
          refine z_iload_n iL_law_564 rfl ?_
          refine z_iconst iL_law_565 zk_2 ?_
          refine z_iadd iL_law_566 ?_
          refine z_top nix_add ?_
          refine z_sld iL_law_567 rfl rfl (by omega) (by omega) ?_
          refine z_aload_n iL_law_568 rfl ?_
          refine z_iload_n iL_law_569 rfl ?_
          refine z_iconst iL_law_570 zk_3 ?_
          refine z_iadd iL_law_571 ?_
          refine z_top nix_add ?_
          refine z_sld iL_law_572 rfl rfl (by omega) (by omega) ?_
          refine z_cvi (y1 := mX7_winters) iL_law_573 lL_85 kX7_winters rfl k1 (e0) rfl rfl rfl (Nat.le_of_ble_eq_true rfl) (by decide) ?_
          refine z_aload_n iL_law_576 rfl ?_
          refine z_aload_n iL_law_577 rfl ?_
          refine z_iload_n iL_law_578 rfl ?_
          refine z_iconst iL_law_579 zk_1 ?_
          refine z_iadd iL_law_580 ?_
          refine z_top nix_add ?_
          refine z_sld iL_law_581 rfl rfl (by omega) (by omega) ?_
          refine z_aload_n iL_law_582 rfl ?_
          refine z_iload_n iL_law_583 rfl ?_
          refine z_iconst iL_law_584 zk_2 ?_
          refine z_iadd iL_law_585 ?_
          refine z_top nix_add ?_
          refine z_sld iL_law_586 rfl rfl (by omega) (by omega) ?_
          refine z_aload_n iL_law_587 rfl ?_
          refine z_iload_n iL_law_588 rfl ?_
          refine z_iconst iL_law_589 zk_3 ?_
          refine z_iadd iL_law_590 ?_
          refine z_top nix_add ?_
          refine z_sld iL_law_591 rfl rfl (by omega) (by omega) ?_
          refine z_cvi (y1 := mX8_winters) iL_law_592 lL_88 kX8_winters rfl k2 (e1) rfl rfl rfl (Nat.le_of_ble_eq_true rfl) (by decide) ?_
          refine z_icmp_eq iL_law_595 (fun _ => ?_) (fun q => absurd rfl q)
          exact lp_663 hz
        by_cases c18 : t = 18
        · subst c18
          obtain ⟨v, w1, w2, k1, k2, ⟨fs, e1⟩, k4⟩ := st_image G i w hg 
          obtain ⟨g2, hz⟩ := ih (i + 1) w2 k4 (by omega) (by omega)
          refine ⟨g2, ?_⟩
          refine z_tabIn (off := 568) (tgt := 600) iL_law_32 (by decide +kernel) (by decide +kernel) (by decide +kernel) (by decide) ?_
          refine z_aload_n iL_law_600 rfl ?_
          refine z_cvi (y1 := mX7_image) iL_law_601 lL_89 kX7_image rfl k1 (e0) rfl rfl rfl (Nat.le_of_ble_eq_true rfl) (by decide) ?_
          refine z_aload_n iL_law_604 rfl ?_
          refine z_cvi (y1 := mX8_image) iL_law_605 lL_92 kX8_image rfl k2 (e1) rfl rfl rfl (Nat.le_of_ble_eq_true rfl) (by decide) ?_
          refine z_icmp_eq iL_law_608 (fun _ => ?_) (fun q => absurd rfl q)
          exact lp_663 hz
        by_cases c19 : t = 19
        · subst c19
          obtain ⟨v, w1, w2, k1, k2, ⟨fs, e1⟩, k4⟩ := st_restore G i w hg 
          obtain ⟨g2, hz⟩ := ih (i + 1) w2 k4 (by omega) (by omega)
          refine ⟨g2, ?_⟩
          refine z_tabIn (off := 581) (tgt := 613) iL_law_32 (by decide +kernel) (by decide +kernel) (by decide +kernel) (by decide) ?_
          refine z_aload_n iL_law_613 rfl ?_
          refine z_cvi (y1 := mX7_restore) iL_law_614 lL_93 kX7_restore rfl k1 (e0) rfl rfl rfl (Nat.le_of_ble_eq_true rfl) (by decide) ?_
          refine z_aload_n iL_law_617 rfl ?_
          refine z_cvi (y1 := mX8_restore) iL_law_618 lL_96 kX8_restore rfl k2 (e1) rfl rfl rfl (Nat.le_of_ble_eq_true rfl) (by decide) ?_
          refine z_icmp_eq iL_law_621 (fun _ => ?_) (fun q => absurd rfl q)
          exact lp_663 hz
        by_cases c20 : t = 20
        · subst c20
          obtain ⟨v, w1, w2, k1, k2, ⟨fs, e1⟩, k4⟩ := st_count G i w hg (zxs G (4 * i + 1))
          obtain ⟨g2, hz⟩ := ih (i + 1) w2 k4 (by omega) (by omega)
          refine ⟨g2, ?_⟩
          refine z_tabIn (off := 594) (tgt := 626) iL_law_32 (by decide +kernel) (by decide +kernel) (by decide +kernel) (by decide) ?_
          refine z_aload_n iL_law_626 rfl ?_
          refine z_aload_n iL_law_627 rfl ?_
          refine z_iload_n iL_law_628 rfl ?_
          refine z_iconst iL_law_629 zk_1 ?_
          refine z_iadd iL_law_630 ?_
          refine z_top nix_add ?_
          refine z_sld iL_law_631 rfl rfl (by omega) (by omega) ?_
          refine z_cvi (y1 := mX7_count) iL_law_632 lL_97 kX7_count rfl k1 (e0) rfl rfl rfl (Nat.le_of_ble_eq_true rfl) (by decide) ?_
          refine z_aload_n iL_law_635 rfl ?_
          refine z_aload_n iL_law_636 rfl ?_
          refine z_iload_n iL_law_637 rfl ?_
          refine z_iconst iL_law_638 zk_1 ?_
          refine z_iadd iL_law_639 ?_
          refine z_top nix_add ?_
          refine z_sld iL_law_640 rfl rfl (by omega) (by omega) ?_
          refine z_cvi (y1 := mX8_count) iL_law_641 lL_100 kX8_count rfl k2 (e1) rfl rfl rfl (Nat.le_of_ble_eq_true rfl) (by decide) ?_
          refine z_icmp_eq iL_law_644 (fun _ => ?_) (fun q => absurd rfl q)
          exact lp_663 hz
        by_cases c21 : t = 21
        · subst c21
          obtain ⟨v, w1, w2, k1, k2, ⟨fs, e1⟩, k4⟩ := st_digest G i w hg 
          obtain ⟨g2, hz⟩ := ih (i + 1) w2 k4 (by omega) (by omega)
          refine ⟨g2, ?_⟩
          refine z_tabIn (off := 617) (tgt := 649) iL_law_32 (by decide +kernel) (by decide +kernel) (by decide +kernel) (by decide) ?_
          refine z_aload_n iL_law_649 rfl ?_
          refine z_cvl (y1 := mX7_digest) iL_law_650 lL_101 kX7_digest rfl k1 (e0) rfl rfl rfl (Nat.le_of_ble_eq_true rfl) (by decide) ?_
          refine z_aload_n iL_law_653 rfl ?_
          refine z_cvl (y1 := mX8_digest) iL_law_654 lL_105 kX8_digest rfl k2 (e1) rfl rfl rfl (Nat.le_of_ble_eq_true rfl) (by decide) ?_
          refine z_lcmp iL_law_657 ?_
          refine z_if_eq iL_law_658 (fun _ => ?_) (fun q => absurd ((lg_cmp_0 _ _).mpr rfl) q)
          exact lp_663 hz
        obtain ⟨g2, hz⟩ := ih (i + 1) w (by
          obtain ⟨pg, nw, kp, sn, ks, fo, ft, fe, gt, mx, re, m, hh, e, hJ, hf⟩ := hg
          exact ⟨pg, nw, kp, sn, ks, fo, ft, fe, gt, mx, re, m, hh, e, J_s hJ, hf⟩) (by omega) (by omega)
        refine ⟨g2, ?_⟩
        refine z_tabOut (tgt := 663) iL_law_32 (by rw [nI_toInt (by omega)]; omega) (by decide) ?_
        exact lp_663 hz
      obtain ⟨g2, hz⟩ := key
      refine ⟨g2, ?_⟩
      refine z_iload_n iL_law_18 rfl ?_
      refine z_aload_n iL_law_19 rfl ?_
      refine z_slen iL_law_20 rfl ?_
      refine z_iconst iL_law_21 zk_4 ?_
      refine z_isub iL_law_22 ?_
      refine z_icmp_gt iL_law_23 (fun q => absurd ((law_gt hi hL).mp q) hq) (fun _ => ?_)
      refine z_aload_n iL_law_26 rfl ?_
      refine z_iload_n iL_law_27 rfl ?_
      refine z_sld iL_law_28 rfl rfl (by omega) (by omega) ?_
      refine z_bipush iL_law_29 zb_31 ?_
      refine z_iand iL_law_31 ?_
      refine z_top et ?_
      exact hz
theorem Gd_0 : Gd 0 (wW z0 z0 z0 z0 z0 z0 z0 z0 z0 z0 (fun _ => 0) zm0 0) := by
  refine ⟨z0, z0, z0, z0, z0, z0, z0, z0, z0, z0, fun _ => 0, zm0, 0, rfl, ?_, feOK_0⟩
  have hv : qV (fun _ => (0 : Int32)) := fun _ => ⟨0, by omega, nI_0.symm⟩
  refine ⟨⟨rfl, Nat.zero_le _, rfl⟩, ⟨⟨⟨fun _ => Nat.zero_lt_succ _, fun _ => Nat.zero_le _, fun _ => Nat.zero_lt_succ _, fun _ => Nat.zero_le _, Nat.zero_le _, Nat.zero_le _⟩, ⟨⟨fun _ => Nat.zero_lt_succ _, fun _ => Nat.zero_le _, fun _ => Nat.zero_lt_succ _, fun _ => Nat.zero_le _, Nat.zero_le _, Nat.zero_le _⟩, fun b hb => absurd hb (Nat.not_lt_zero _), fun b c hb => absurd hb (Nat.not_lt_zero _), fun c hc => absurd hc (Nat.not_lt_zero _)⟩, ⟨rfl, rfl, fun c hc => absurd hc (Nat.not_lt_zero _)⟩, hv, hv, fun b hb => absurd hb (Nat.not_lt_zero _)⟩, fun c hc => absurd hc (Nat.not_lt_zero _), fun c hc => absurd hc (Nat.not_lt_zero _), rfl, Nat.zero_le _, rfl, rfl, Iff.rfl, ⟨Nat.zero_le _, fun _ => Nat.zero_lt_succ _, fun j hj => absurd hj (Nat.not_lt_zero _), fun _ => Nat.zero_le _⟩, ⟨rfl, fun j hj => absurd hj (Nat.not_lt_zero _)⟩⟩, ⟨rfl, Nat.zero_le _⟩, ⟨rfl, Nat.zero_le _⟩, Or.inl rfl, Or.inl ⟨rfl, ?_⟩⟩
  show (-1 : Int32) ≠ nI 0
  decide +kernel
theorem zX_all : sL (sL (fun _ => zdead) 0 zX7c) 49 (mCs zm0 0) = wW z0 z0 z0 z0 z0 z0 z0 z0 z0 z0 (fun _ => 0) zm0 0 := by
  refine (sL_cat (a := 0) (k := 49) rfl rfl).trans ?_
  unfold wW
  refine congrArg (sL (fun _ => zdead) 0) ?_
  unfold wCs xFs fFs
  simp only [z0, rN, rI, rF, nI_0]
  rfl
set_option maxRecDepth 20000 in
set_option maxHeartbeats 1000000 in
theorem law_all (G : zG) (hL : zL G ≤ 2048) (st_barn : ∀ (G : zG) (i : Nat) (w : zh), i < 1000 → Gd i w → Oki G i mX7_barn mX8_barn [] w) : ∃ g2, zR G mL_law (0, 0) 0 [some (.ref 1000), none, none, none] [] 0 0 (fun _ => zdead) (some (.int 1)) 71 2425 g2 := by
  obtain ⟨g2, hz⟩ := lp_law G hL st_barn 512 0 _ Gd_0 (by omega) (by omega)
  refine ⟨g2, ?_⟩
  refine z_new iL_law_0 nL_7 rfl (by decide) ?_
  refine z_dup iL_law_3 rfl ?_
  refine z_callI (y1 := mX7_init) (N1 := 49) (u1 := 527) iL_law_4 lL_9 kX7_init rfl rfl (c_iniX7 G) rfl rfl (Nat.le_of_ble_eq_true rfl) (by decide) ?_
  refine z_astore_n iL_law_7 rfl (by decide) ?_
  refine z_new iL_law_8 nL_10 rfl (by decide) ?_
  refine z_dup iL_law_11 rfl ?_
  refine z_callI (y1 := mX8_init) (N1 := 71) (u1 := 2425) iL_law_12 lL_12 kX8_init rfl rfl (c_iniX8 G _ 566) rfl rfl (Nat.le_of_ble_eq_true rfl) (by decide) ?_
  refine z_heap zX_all ?_
  refine z_astore_n iL_law_15 rfl (by decide) ?_
  refine z_iconst iL_law_16 zk_0 ?_
  refine z_istore_n iL_law_17 rfl (by decide) ?_
  exact hz
