set_option maxRecDepth 20000 in
set_option maxHeartbeats 1000000 in
theorem lpx_n (G : zG) (pg nw kp sn ks mx : zs) (re : Nat → Int64) (m : zs) (hh : Int64) (P : zs → zs → zs → zs → Prop) (NC NB NP : Nat) (f : Nat → Int32) (x5 : rN nw 1 = NC) (x4 : rN nw 0 = NB) (x1 : rN pg 1 = NP) (x0 : rF pg 0 = f) (xo : bOK nw) (h9 : NC ≤ 9) (h3 : NB ≤ 3) (h38 : NP ≤ 38) (C : Nat → Int32) (hN : ∀ fo ft fe gt w, P fo ft fe gt → w ≤ 12 → zK G mX7_count [.ref 0, .int (nI w)] (wW pg nw kp sn ks fo ft fe gt mx re m hh) (some (.int (C w))) (wW pg nw kp sn ks fo ft fe gt mx re m hh)) : ∀ (n i : Nat) (fo ft fe gt : zs) (h : Int64), P fo ft fe gt → i + n = 13 → ∃ a b e g, P a b e g ∧ zS G mX7_digest 255 [some (.ref 0), some (.long (h)), none, some (.int (nI i)), none] [] (wW pg nw kp sn ks fo ft fe gt mx re m hh) (some (.long (zfw (dgN C) i n h))) (wW pg nw kp sn ks a b e g mx re m hh) := by
  intro n
  induction n with
  | zero =>
    intro i fo ft fe gt h hx hi
    refine ⟨fo, ft, fe, gt, hx, ?_⟩
    refine z_iload_n iX7_digest_255 rfl ?_
    refine z_bipush iX7_digest_256 zb_12 ?_
    refine zn_gt iX7_digest_258 (by omega) (by omega) (fun q258 => ?_) (fun q258 => absurd q258 (by omega))
    refine z_lload_n iX7_digest_277 rfl ?_
    exact z_lreturn iX7_digest_278 (rfl) (rfl)
  | succ n ih =>
    intro i fo ft fe gt h hx hi
    obtain ⟨a, b, e, g, ht, hz⟩ := ih (i + 1) fo ft fe gt (dgV h (C i)) hx (by omega)
    refine ⟨a, b, e, g, ht, ?_⟩
    refine z_iload_n iX7_digest_255 rfl ?_
    refine z_bipush iX7_digest_256 zb_12 ?_
    refine zn_gt iX7_digest_258 (by omega) (by omega) (fun q258 => absurd q258 (by omega)) (fun q258 => ?_)
    refine z_lload_n iX7_digest_261 rfl ?_
    refine z_aload_n iX7_digest_262 rfl ?_
    refine z_iload_n iX7_digest_263 rfl ?_
    refine z_cvi (y1 := mX7_count) iX7_digest_264 lX7_252 kX7_count rfl (hN fo ft fe gt i hx (by omega)) (wx) rfl rfl rfl (Nat.le_of_ble_eq_true rfl) (by decide) ?_
    refine z_csl (y1 := mX7_with) iX7_digest_267 lX7_242 kX7_with rfl (c_with G _ h _) rfl rfl (Nat.le_of_ble_eq_true rfl) ?_
    refine z_lstore_n iX7_digest_270 rfl (by decide) ?_
    refine z_iinc iX7_digest_271 rfl nix_inc rfl (by decide) ?_
    refine z_goto iX7_digest_274 ?_
    exact hz
set_option maxRecDepth 20000 in
set_option maxHeartbeats 1000000 in
theorem lpx_p (G : zG) (pg nw kp sn ks mx : zs) (re : Nat → Int64) (m : zs) (hh : Int64) (P : zs → zs → zs → zs → Prop) (NC NB NP : Nat) (f : Nat → Int32) (x5 : rN nw 1 = NC) (x4 : rN nw 0 = NB) (x1 : rN pg 1 = NP) (x0 : rF pg 0 = f) (xo : bOK nw) (h9 : NC ≤ 9) (h3 : NB ≤ 3) (h38 : NP ≤ 38) (C : Nat → Int32) (hN : ∀ fo ft fe gt w, P fo ft fe gt → w ≤ 12 → zK G mX7_count [.ref 0, .int (nI w)] (wW pg nw kp sn ks fo ft fe gt mx re m hh) (some (.int (C w))) (wW pg nw kp sn ks fo ft fe gt mx re m hh)) : ∀ (n i : Nat) (fo ft fe gt : zs) (h : Int64), P fo ft fe gt → i + n = NP → ∃ a b e g, P a b e g ∧ zS G mX7_digest 222 [some (.ref 0), some (.long (h)), none, some (.int (nI i)), none] [] (wW pg nw kp sn ks fo ft fe gt mx re m hh) (some (.long (zfw (dgN C) 0 13 (zfw (dgN f) i n h)))) (wW pg nw kp sn ks a b e g mx re m hh) := by
  intro n
  induction n with
  | zero =>
    intro i fo ft fe gt h hx hi
    obtain ⟨a, b, e, g, ht, hz⟩ := lpx_n G pg nw kp sn ks mx re m hh P NC NB NP f x5 x4 x1 x0 xo h9 h3 h38 C hN 13 0 fo ft fe gt h hx rfl
    refine ⟨a, b, e, g, ht, ?_⟩
    refine z_iload_n iX7_digest_222 rfl ?_
    refine z_aload_n iX7_digest_223 rfl ?_
    refine z_getf iX7_digest_224 fX7_12 (wx) (xF_0 _) (by decide) ?_
    refine z_getf iX7_digest_227 fX7_57 (w1_o) (PF_1 _ _) (by decide) ?_
    refine zn_ge iX7_digest_230 (by omega) (by omega) (fun q230 => ?_) (fun q230 => absurd q230 (by omega))
    refine z_iconst iX7_digest_253 zk_0 ?_
    refine z_istore_n iX7_digest_254 rfl (by decide) ?_
    exact hz
  | succ n ih =>
    intro i fo ft fe gt h hx hi
    obtain ⟨a, b, e, g, ht, hz⟩ := ih (i + 1) fo ft fe gt (dgV h (f i)) hx (by omega)
    refine ⟨a, b, e, g, ht, ?_⟩
    refine z_iload_n iX7_digest_222 rfl ?_
    refine z_aload_n iX7_digest_223 rfl ?_
    refine z_getf iX7_digest_224 fX7_12 (wx) (xF_0 _) (by decide) ?_
    refine z_getf iX7_digest_227 fX7_57 (w1_o) (PF_1 _ _) (by decide) ?_
    refine zn_ge iX7_digest_230 (by omega) (by omega) (fun q230 => absurd q230 (by omega)) (fun q230 => ?_)
    refine z_lload_n iX7_digest_233 rfl ?_
    refine z_aload_n iX7_digest_234 rfl ?_
    refine z_getf iX7_digest_235 fX7_12 (wx) (xF_0 _) (by decide) ?_
    refine z_getf iX7_digest_238 fX7_249 (w1_o) (PF_0 _ _) (by decide) ?_
    refine z_iload_n iX7_digest_241 rfl ?_
    refine z_iaload iX7_digest_242 (w1_0) rfl (by omega) (by decide) (by decide) ?_
    rw [x0]
    refine z_csl (y1 := mX7_with) iX7_digest_243 lX7_242 kX7_with rfl (c_with G _ h _) rfl rfl (Nat.le_of_ble_eq_true rfl) ?_
    refine z_lstore_n iX7_digest_246 rfl (by decide) ?_
    refine z_iinc iX7_digest_247 rfl nix_inc rfl (by decide) ?_
    refine z_goto iX7_digest_250 ?_
    exact hz
set_option maxRecDepth 20000 in
set_option maxHeartbeats 1000000 in
theorem lpx_s (G : zG) (pg nw kp sn ks mx : zs) (re : Nat → Int64) (m : zs) (hh : Int64) (P : zs → zs → zs → zs → Prop) (NC NB NP : Nat) (f : Nat → Int32) (x5 : rN nw 1 = NC) (x4 : rN nw 0 = NB) (x1 : rN pg 1 = NP) (x0 : rF pg 0 = f) (xo : bOK nw) (h9 : NC ≤ 9) (h3 : NB ≤ 3) (h38 : NP ≤ 38) (C : Nat → Int32) (hN : ∀ fo ft fe gt w, P fo ft fe gt → w ≤ 12 → zK G mX7_count [.ref 0, .int (nI w)] (wW pg nw kp sn ks fo ft fe gt mx re m hh) (some (.int (C w))) (wW pg nw kp sn ks fo ft fe gt mx re m hh)) (v : Nat → Int32) (hZ : NC = 0 ↔ NB = 0) (hL : ∀ fo ft fe gt, P fo ft fe gt → ¬ NB = 0 → ∃ b, P fo b fe gt ∧ zK G mX2_daysItLasts [.ref 27, .ref 3, .int (nI 2)] (wW pg nw kp sn ks fo ft fe gt mx re m hh) (some (.int (v 0))) (wW pg nw kp sn ks fo b fe gt mx re m hh)) (hM : ∀ fo ft fe gt, P fo ft fe gt → ¬ NB = 0 → ∃ a b, P a b fe gt ∧ zK G mX2_makePlan [.ref 27, .ref 3, .int (nI 2)] (wW pg nw kp sn ks fo ft fe gt mx re m hh) none (wW pg nw kp sn ks a b fe gt mx re m hh) ∧ rI a 1 = v 1 ∧ zK G mX2_plannedBay [.ref 27, .int (nI 2), .int (nI 0)] (wW pg nw kp sn ks a b fe gt mx re m hh) (some (.int (v 2))) (wW pg nw kp sn ks a b fe gt mx re m hh) ∧ zK G mX2_plannedBay [.ref 27, .int (nI 2), .int (nI 1)] (wW pg nw kp sn ks a b fe gt mx re m hh) (some (.int (v 3))) (wW pg nw kp sn ks a b fe gt mx re m hh)) (hG : ∀ fo ft fe gt, P fo ft fe gt → ¬ NB = 0 → ∃ b, P fo b fe gt ∧ zK G mX2_goneBehind [.ref 27, .ref 3, .int (nI 9)] (wW pg nw kp sn ks fo ft fe gt mx re m hh) (some (.int (v 4))) (wW pg nw kp sn ks fo b fe gt mx re m hh)) : ∀ (fo ft fe gt : zs) (h : Int64), P fo ft fe gt → ∃ a b e g, P a b e g ∧ zS G mX7_digest 126 [some (.ref 0), some (.long (h)), none, none, none] [] (wW pg nw kp sn ks fo ft fe gt mx re m hh) (some (.long (dgM f NP NB C v h))) (wW pg nw kp sn ks a b e g mx re m hh) := by
  intro fo ft fe gt h hx
  unfold dgM
  by_cases hb : NB = 0
  · rw [if_pos hb]
    obtain ⟨a, b, e, g, ht, hz⟩ := lpx_p G pg nw kp sn ks mx re m hh P NC NB NP f x5 x4 x1 x0 xo h9 h3 h38 C hN NP 0 fo ft fe gt h hx (Nat.zero_add _)
    refine ⟨a, b, e, g, ht, ?_⟩
    refine z_aload_n iX7_digest_126 rfl ?_
    refine z_cvi (y1 := mX7_isNoBarn) iX7_digest_127 lX7_168 kX7_isNoBarn rfl (c_noBarn G pg nw kp sn ks fo ft fe gt mx re m hh xo) (wx) rfl rfl rfl (Nat.le_of_ble_eq_true rfl) (by decide) ?_
    refine zb_if_ne iX7_digest_130 (fun q130 => ?_) (fun q130 => absurd (x5.trans (hZ.mpr hb)) (of_decide_eq_false q130))
    refine z_iconst iX7_digest_220 zk_0 ?_
    refine z_istore_n iX7_digest_221 rfl (by decide) ?_
    exact z_weak (zle_w (by simp [zle, zf3])) hz
  · rw [if_neg hb]
    obtain ⟨b1, p1, k1⟩ := hL fo ft fe gt hx hb
    obtain ⟨a2, b2, p2, k2, e2, k3, k4⟩ := hM fo b1 fe gt p1 hb
    obtain ⟨b5, p5, k5⟩ := hG a2 b2 fe gt p2 hb
    obtain ⟨a, b, e, g, ht, hz⟩ := lpx_p G pg nw kp sn ks mx re m hh P NC NB NP f x5 x4 x1 x0 xo h9 h3 h38 C hN NP 0 a2 b5 fe gt (dgS v h) p5 (Nat.zero_add _)
    refine ⟨a, b, e, g, ht, ?_⟩
    refine z_aload_n iX7_digest_126 rfl ?_
    refine z_cvi (y1 := mX7_isNoBarn) iX7_digest_127 lX7_168 kX7_isNoBarn rfl (c_noBarn G pg nw kp sn ks fo ft fe gt mx re m hh xo) (wx) rfl rfl rfl (Nat.le_of_ble_eq_true rfl) (by decide) ?_
    refine zb_if_ne iX7_digest_130 (fun q130 => absurd (hZ.mp (x5.symm.trans (of_decide_eq_true q130))) hb) (fun q130 => ?_)
    refine z_lload_n iX7_digest_133 rfl ?_
    refine z_aload_n iX7_digest_134 rfl ?_
    refine z_getf iX7_digest_135 fX7_39 (wx) (xF_5 _) (by decide) ?_
    refine z_aload_n iX7_digest_138 rfl ?_
    refine z_getf iX7_digest_139 fX7_19 (wx) (xF_1 _) (by decide) ?_
    refine z_iconst iX7_digest_142 zk_2 ?_
    refine z_cvi (y1 := mX2_daysItLasts) iX7_digest_143 lX7_180 kX2_daysItLasts rfl (k1) (wf) rfl rfl rfl (Nat.le_of_ble_eq_true rfl) (by decide) ?_
    refine z_csl (y1 := mX7_with) iX7_digest_146 lX7_242 kX7_with rfl (c_with G _ h _) rfl rfl (Nat.le_of_ble_eq_true rfl) ?_
    refine z_lstore_n iX7_digest_149 rfl (by decide) ?_
    refine z_aload_n iX7_digest_150 rfl ?_
    refine z_getf iX7_digest_151 fX7_39 (wx) (xF_5 _) (by decide) ?_
    refine z_aload_n iX7_digest_154 rfl ?_
    refine z_getf iX7_digest_155 fX7_19 (wx) (xF_1 _) (by decide) ?_
    refine z_iconst iX7_digest_158 zk_2 ?_
    refine z_cvv (y1 := mX2_makePlan) iX7_digest_159 lX7_183 kX2_makePlan rfl (k2) (wf) rfl rfl rfl (Nat.le_of_ble_eq_true rfl) (by decide) ?_
    refine z_lload_n iX7_digest_162 rfl ?_
    refine z_aload_n iX7_digest_163 rfl ?_
    refine z_getf iX7_digest_164 fX7_39 (wx) (xF_5 _) (by decide) ?_
    refine z_getf iX7_digest_167 fX7_187 (wf) (fF_1 _) (by decide) ?_
    rw [e2]
    refine z_csl (y1 := mX7_with) iX7_digest_170 lX7_242 kX7_with rfl (c_with G _ (dgV h (v 0)) _) rfl rfl (Nat.le_of_ble_eq_true rfl) ?_
    refine z_lstore_n iX7_digest_173 rfl (by decide) ?_
    refine z_lload_n iX7_digest_174 rfl ?_
    refine z_aload_n iX7_digest_175 rfl ?_
    refine z_getf iX7_digest_176 fX7_39 (wx) (xF_5 _) (by decide) ?_
    refine z_iconst iX7_digest_179 zk_2 ?_
    refine z_iconst iX7_digest_180 zk_0 ?_
    refine z_cvi (y1 := mX2_plannedBay) iX7_digest_181 lX7_190 kX2_plannedBay rfl (k3) (wf) rfl rfl rfl (Nat.le_of_ble_eq_true rfl) (by decide) ?_
    refine z_csl (y1 := mX7_with) iX7_digest_184 lX7_242 kX7_with rfl (c_with G _ (dgV (dgV h (v 0)) (v 1)) _) rfl rfl (Nat.le_of_ble_eq_true rfl) ?_
    refine z_lstore_n iX7_digest_187 rfl (by decide) ?_
    refine z_lload_n iX7_digest_188 rfl ?_
    refine z_aload_n iX7_digest_189 rfl ?_
    refine z_getf iX7_digest_190 fX7_39 (wx) (xF_5 _) (by decide) ?_
    refine z_iconst iX7_digest_193 zk_2 ?_
    refine z_iconst iX7_digest_194 zk_1 ?_
    refine z_cvi (y1 := mX2_plannedBay) iX7_digest_195 lX7_190 kX2_plannedBay rfl (k4) (wf) rfl rfl rfl (Nat.le_of_ble_eq_true rfl) (by decide) ?_
    refine z_csl (y1 := mX7_with) iX7_digest_198 lX7_242 kX7_with rfl (c_with G _ (dgV (dgV (dgV h (v 0)) (v 1)) (v 2)) _) rfl rfl (Nat.le_of_ble_eq_true rfl) ?_
    refine z_lstore_n iX7_digest_201 rfl (by decide) ?_
    refine z_lload_n iX7_digest_202 rfl ?_
    refine z_aload_n iX7_digest_203 rfl ?_
    refine z_getf iX7_digest_204 fX7_39 (wx) (xF_5 _) (by decide) ?_
    refine z_aload_n iX7_digest_207 rfl ?_
    refine z_getf iX7_digest_208 fX7_19 (wx) (xF_1 _) (by decide) ?_
    refine z_bipush iX7_digest_211 zb_9 ?_
    refine z_cvi (y1 := mX2_goneBehind) iX7_digest_213 lX7_203 kX2_goneBehind rfl (k5) (wf) rfl rfl rfl (Nat.le_of_ble_eq_true rfl) (by decide) ?_
    refine z_csl (y1 := mX7_with) iX7_digest_216 lX7_242 kX7_with rfl (c_with G _ (dgV (dgV (dgV (dgV h (v 0)) (v 1)) (v 2)) (v 3)) _) rfl rfl (Nat.le_of_ble_eq_true rfl) ?_
    refine z_lstore_n iX7_digest_219 rfl (by decide) ?_
    refine z_iconst iX7_digest_220 zk_0 ?_
    refine z_istore_n iX7_digest_221 rfl (by decide) ?_
    exact z_weak (zle_w (by simp [zle, zf3] <;> rfl)) hz
set_option maxRecDepth 20000 in
set_option maxHeartbeats 1000000 in
theorem lpx_bi (G : zG) (pg nw kp sn ks mx : zs) (re : Nat → Int64) (m : zs) (hh : Int64) (P : zs → zs → zs → zs → Prop) (NC NB NP : Nat) (f : Nat → Int32) (x5 : rN nw 1 = NC) (x4 : rN nw 0 = NB) (x1 : rN pg 1 = NP) (x0 : rF pg 0 = f) (xo : bOK nw) (h9 : NC ≤ 9) (h3 : NB ≤ 3) (h38 : NP ≤ 38) (B : Nat → Nat → Int32) (hB : ∀ fo ft fe gt c w, P fo ft fe gt → c < NB → w ≤ 12 → (w < 5 ∨ 9 < w) → ∃ a b e g, P a b e g ∧ zK G mX7_bay [.ref 0, .int (nI c), .int (nI w)] (wW pg nw kp sn ks fo ft fe gt mx re m hh) (some (.int (B c w))) (wW pg nw kp sn ks a b e g mx re m hh)) (c : Nat) (hc : c < NB) (R : Int64 → Int64) (K : ∀ (fo ft fe gt : zs) (h : Int64), P fo ft fe gt → ∃ a b e g, P a b e g ∧ zS G mX7_digest 120 [some (.ref 0), some (.long (h)), none, some (.int (nI c)), none] [] (wW pg nw kp sn ks fo ft fe gt mx re m hh) (some (.long (R h))) (wW pg nw kp sn ks a b e g mx re m hh)) : ∀ (n i : Nat) (fo ft fe gt : zs) (h : Int64), P fo ft fe gt → i + n = 13 → ∃ a b e g, P a b e g ∧ zS G mX7_digest 78 [some (.ref 0), some (.long (h)), none, some (.int (nI c)), some (.int (nI i))] [] (wW pg nw kp sn ks fo ft fe gt mx re m hh) (some (.long (R (zfw (dgBw B c) i n h)))) (wW pg nw kp sn ks a b e g mx re m hh) := by
  intro n
  induction n with
  | zero =>
    intro i fo ft fe gt h hx hi
    obtain ⟨a, b, e, g, ht, hz⟩ := K fo ft fe gt h hx
    refine ⟨a, b, e, g, ht, ?_⟩
    refine z_iload iX7_digest_78 rfl ?_
    refine z_bipush iX7_digest_80 zb_12 ?_
    refine zn_gt iX7_digest_82 (by omega) (by omega) (fun q82 => ?_) (fun q82 => absurd q82 (by omega))
    exact z_weak (zle_w (by simp [zle, zf3])) hz
  | succ n ih =>
    intro i fo ft fe gt h hx hi
    rcases (show i < 5 ∨ 9 < i ∨ (5 ≤ i ∧ i ≤ 9) by omega) with e0 | e0 | e0
    · skip
      obtain ⟨a1, b1, e1, g1, p1, c1⟩ := hB fo ft fe gt c i hx hc (by omega) (Or.inl e0)
      obtain ⟨a, b, e, g, ht, hz⟩ := ih (i + 1) a1 b1 e1 g1 (dgV h (B c i)) p1 (by omega)
      refine ⟨a, b, e, g, ht, ?_⟩
      rw [zfw, show dgBw B c i h = dgV h (B c i) from if_pos (Or.inl e0)]
      refine z_iload iX7_digest_78 rfl ?_
      refine z_bipush iX7_digest_80 zb_12 ?_
      refine zn_gt iX7_digest_82 (by omega) (by omega) (fun q82 => absurd q82 (by omega)) (fun q82 => ?_)
      refine z_iload iX7_digest_85 rfl ?_
      refine z_iconst iX7_digest_87 zk_4 ?_
      refine zn_le iX7_digest_88 (by omega) (by omega) (fun q88 => ?_) (fun q88 => absurd q88 (by omega))
      refine z_lload_n iX7_digest_102 rfl ?_
      refine z_aload_n iX7_digest_103 rfl ?_
      refine z_iload_n iX7_digest_104 rfl ?_
      refine z_iload iX7_digest_105 rfl ?_
      refine z_cvi (y1 := mX7_bay) iX7_digest_107 lX7_246 kX7_bay rfl (c1) (wx) rfl rfl rfl (Nat.le_of_ble_eq_true rfl) (by decide) ?_
      refine z_csl (y1 := mX7_with) iX7_digest_110 lX7_242 kX7_with rfl (c_with G _ h _) rfl rfl (Nat.le_of_ble_eq_true rfl) ?_
      refine z_lstore_n iX7_digest_113 rfl (by decide) ?_
      refine z_iinc iX7_digest_114 rfl nix_inc rfl (by decide) ?_
      refine z_goto iX7_digest_117 ?_
      exact hz
    · skip
      obtain ⟨a1, b1, e1, g1, p1, c1⟩ := hB fo ft fe gt c i hx hc (by omega) (Or.inr e0)
      obtain ⟨a, b, e, g, ht, hz⟩ := ih (i + 1) a1 b1 e1 g1 (dgV h (B c i)) p1 (by omega)
      refine ⟨a, b, e, g, ht, ?_⟩
      rw [zfw, show dgBw B c i h = dgV h (B c i) from if_pos (Or.inr e0)]
      refine z_iload iX7_digest_78 rfl ?_
      refine z_bipush iX7_digest_80 zb_12 ?_
      refine zn_gt iX7_digest_82 (by omega) (by omega) (fun q82 => absurd q82 (by omega)) (fun q82 => ?_)
      refine z_iload iX7_digest_85 rfl ?_
      refine z_iconst iX7_digest_87 zk_4 ?_
      refine zn_le iX7_digest_88 (by omega) (by omega) (fun q88 => absurd q88 (by omega)) (fun q88 => ?_)
      refine z_iload iX7_digest_91 rfl ?_
      refine z_bipush iX7_digest_93 zb_10 ?_
      refine zn_ge iX7_digest_95 (by omega) (by omega) (fun q95 => ?_) (fun q95 => absurd q95 (by omega))
      refine z_lload_n iX7_digest_102 rfl ?_
      refine z_aload_n iX7_digest_103 rfl ?_
      refine z_iload_n iX7_digest_104 rfl ?_
      refine z_iload iX7_digest_105 rfl ?_
      refine z_cvi (y1 := mX7_bay) iX7_digest_107 lX7_246 kX7_bay rfl (c1) (wx) rfl rfl rfl (Nat.le_of_ble_eq_true rfl) (by decide) ?_
      refine z_csl (y1 := mX7_with) iX7_digest_110 lX7_242 kX7_with rfl (c_with G _ h _) rfl rfl (Nat.le_of_ble_eq_true rfl) ?_
      refine z_lstore_n iX7_digest_113 rfl (by decide) ?_
      refine z_iinc iX7_digest_114 rfl nix_inc rfl (by decide) ?_
      refine z_goto iX7_digest_117 ?_
      exact hz
    · obtain ⟨a, b, e, g, ht, hz⟩ := ih (i + 1) fo ft fe gt h hx (by omega)
      refine ⟨a, b, e, g, ht, ?_⟩
      rw [zfw, show dgBw B c i h = h from if_neg (by omega)]
      refine z_iload iX7_digest_78 rfl ?_
      refine z_bipush iX7_digest_80 zb_12 ?_
      refine zn_gt iX7_digest_82 (by omega) (by omega) (fun q82 => absurd q82 (by omega)) (fun q82 => ?_)
      refine z_iload iX7_digest_85 rfl ?_
      refine z_iconst iX7_digest_87 zk_4 ?_
      refine zn_le iX7_digest_88 (by omega) (by omega) (fun q88 => absurd q88 (by omega)) (fun q88 => ?_)
      refine z_iload iX7_digest_91 rfl ?_
      refine z_bipush iX7_digest_93 zb_10 ?_
      refine zn_ge iX7_digest_95 (by omega) (by omega) (fun q95 => absurd q95 (by omega)) (fun q95 => ?_)
      refine z_lload_n iX7_digest_98 rfl ?_
      refine z_goto iX7_digest_99 ?_
      refine z_lstore_n iX7_digest_113 rfl (by decide) ?_
      refine z_iinc iX7_digest_114 rfl nix_inc rfl (by decide) ?_
      refine z_goto iX7_digest_117 ?_
      exact hz
set_option maxRecDepth 20000 in
set_option maxHeartbeats 1000000 in
theorem lpx_bo (G : zG) (pg nw kp sn ks mx : zs) (re : Nat → Int64) (m : zs) (hh : Int64) (P : zs → zs → zs → zs → Prop) (NC NB NP : Nat) (f : Nat → Int32) (x5 : rN nw 1 = NC) (x4 : rN nw 0 = NB) (x1 : rN pg 1 = NP) (x0 : rF pg 0 = f) (xo : bOK nw) (h9 : NC ≤ 9) (h3 : NB ≤ 3) (h38 : NP ≤ 38) (B : Nat → Nat → Int32) (hB : ∀ fo ft fe gt c w, P fo ft fe gt → c < NB → w ≤ 12 → (w < 5 ∨ 9 < w) → ∃ a b e g, P a b e g ∧ zK G mX7_bay [.ref 0, .int (nI c), .int (nI w)] (wW pg nw kp sn ks fo ft fe gt mx re m hh) (some (.int (B c w))) (wW pg nw kp sn ks a b e g mx re m hh)) (R : Int64 → Int64) (K : ∀ (fo ft fe gt : zs) (h : Int64), P fo ft fe gt → ∃ a b e g, P a b e g ∧ zS G mX7_digest 126 [some (.ref 0), some (.long (h)), none, none, none] [] (wW pg nw kp sn ks fo ft fe gt mx re m hh) (some (.long (R h))) (wW pg nw kp sn ks a b e g mx re m hh)) : ∀ (n i : Nat) (fo ft fe gt : zs) (h : Int64), P fo ft fe gt → i + n = NB → ∃ a b e g, P a b e g ∧ zS G mX7_digest 64 [some (.ref 0), some (.long (h)), none, some (.int (nI i)), none] [] (wW pg nw kp sn ks fo ft fe gt mx re m hh) (some (.long (R (zfw (dgB B) i n h)))) (wW pg nw kp sn ks a b e g mx re m hh) := by
  intro n
  induction n with
  | zero =>
    intro i fo ft fe gt h hx hi
    obtain ⟨a, b, e, g, ht, hz⟩ := K fo ft fe gt h hx
    refine ⟨a, b, e, g, ht, ?_⟩
    refine z_iload_n iX7_digest_64 rfl ?_
    refine z_aload_n iX7_digest_65 rfl ?_
    refine z_getf iX7_digest_66 fX7_19 (wx) (xF_1 _) (by decide) ?_
    refine z_getf iX7_digest_69 fX7_219 (w3_o) (BF_0 _ _) (by decide) ?_
    refine zn_ge iX7_digest_72 (by omega) (by omega) (fun q72 => ?_) (fun q72 => absurd q72 (by omega))
    exact z_weak (zle_w (by simp [zle, zf3])) hz
  | succ n ih =>
    intro i fo ft fe gt h hx hi
    have hK : ∀ (fo ft fe gt : zs) (h : Int64), P fo ft fe gt → ∃ a b e g, P a b e g ∧ zS G mX7_digest 120 [some (.ref 0), some (.long (h)), none, some (.int (nI i)), none] [] (wW pg nw kp sn ks fo ft fe gt mx re m hh) (some (.long (R (zfw (dgB B) (i + 1) n h)))) (wW pg nw kp sn ks a b e g mx re m hh) := by
      intro fo ft fe gt h hx
      obtain ⟨a, b, e, g, ht, hz⟩ := ih (i + 1) fo ft fe gt h hx (by omega)
      refine ⟨a, b, e, g, ht, ?_⟩
      refine z_iinc iX7_digest_120 rfl nix_inc rfl (by decide) ?_
      refine z_goto iX7_digest_123 ?_
      exact hz
    obtain ⟨a, b, e, g, ht, hz⟩ := lpx_bi G pg nw kp sn ks mx re m hh P NC NB NP f x5 x4 x1 x0 xo h9 h3 h38 B hB i (by omega) (fun h => R (zfw (dgB B) (i + 1) n h)) hK 13 0 fo ft fe gt h hx rfl
    refine ⟨a, b, e, g, ht, ?_⟩
    refine z_iload_n iX7_digest_64 rfl ?_
    refine z_aload_n iX7_digest_65 rfl ?_
    refine z_getf iX7_digest_66 fX7_19 (wx) (xF_1 _) (by decide) ?_
    refine z_getf iX7_digest_69 fX7_219 (w3_o) (BF_0 _ _) (by decide) ?_
    refine zn_ge iX7_digest_72 (by omega) (by omega) (fun q72 => absurd q72 (by omega)) (fun q72 => ?_)
    refine z_iconst iX7_digest_75 zk_0 ?_
    refine z_istore iX7_digest_76 rfl (by decide) ?_
    exact hz
set_option maxRecDepth 20000 in
set_option maxHeartbeats 1000000 in
theorem lpx_ci (G : zG) (pg nw kp sn ks mx : zs) (re : Nat → Int64) (m : zs) (hh : Int64) (P : zs → zs → zs → zs → Prop) (NC NB NP : Nat) (f : Nat → Int32) (x5 : rN nw 1 = NC) (x4 : rN nw 0 = NB) (x1 : rN pg 1 = NP) (x0 : rF pg 0 = f) (xo : bOK nw) (h9 : NC ≤ 9) (h3 : NB ≤ 3) (h38 : NP ≤ 38) (A : Nat → Nat → Int32) (hA : ∀ fo ft fe gt c w, P fo ft fe gt → c < NC → w ≤ 12 → ¬ w = 9 → ∃ a b e g, P a b e g ∧ zK G mX7_cart [.ref 0, .int (nI c), .int (nI w)] (wW pg nw kp sn ks fo ft fe gt mx re m hh) (some (.int (A c w))) (wW pg nw kp sn ks a b e g mx re m hh)) (c : Nat) (hc : c < NC) (R : Int64 → Int64) (K : ∀ (fo ft fe gt : zs) (h : Int64), P fo ft fe gt → ∃ a b e g, P a b e g ∧ zS G mX7_digest 56 [some (.ref 0), some (.long (h)), none, some (.int (nI c)), none] [] (wW pg nw kp sn ks fo ft fe gt mx re m hh) (some (.long (R h))) (wW pg nw kp sn ks a b e g mx re m hh)) : ∀ (n i : Nat) (fo ft fe gt : zs) (h : Int64), P fo ft fe gt → i + n = 13 → ∃ a b e g, P a b e g ∧ zS G mX7_digest 20 [some (.ref 0), some (.long (h)), none, some (.int (nI c)), some (.int (nI i))] [] (wW pg nw kp sn ks fo ft fe gt mx re m hh) (some (.long (R (zfw (dgCw A c) i n h)))) (wW pg nw kp sn ks a b e g mx re m hh) := by
  intro n
  induction n with
  | zero =>
    intro i fo ft fe gt h hx hi
    obtain ⟨a, b, e, g, ht, hz⟩ := K fo ft fe gt h hx
    refine ⟨a, b, e, g, ht, ?_⟩
    refine z_iload iX7_digest_20 rfl ?_
    refine z_bipush iX7_digest_22 zb_12 ?_
    refine zn_gt iX7_digest_24 (by omega) (by omega) (fun q24 => ?_) (fun q24 => absurd q24 (by omega))
    exact z_weak (zle_w (by simp [zle, zf3])) hz
  | succ n ih =>
    intro i fo ft fe gt h hx hi
    by_cases e0 : i = 9
    · obtain ⟨a, b, e, g, ht, hz⟩ := ih (i + 1) fo ft fe gt h hx (by omega)
      refine ⟨a, b, e, g, ht, ?_⟩
      rw [zfw, show dgCw A c i h = h from if_pos e0]
      refine z_iload iX7_digest_20 rfl ?_
      refine z_bipush iX7_digest_22 zb_12 ?_
      refine zn_gt iX7_digest_24 (by omega) (by omega) (fun q24 => absurd q24 (by omega)) (fun q24 => ?_)
      refine z_iload iX7_digest_27 rfl ?_
      refine z_bipush iX7_digest_29 zb_9 ?_
      refine zn_ne iX7_digest_31 (by omega) (by omega) (fun q31 => absurd q31 (by omega)) (fun q31 => ?_)
      refine z_lload_n iX7_digest_34 rfl ?_
      refine z_goto iX7_digest_35 ?_
      refine z_lstore_n iX7_digest_49 rfl (by decide) ?_
      refine z_iinc iX7_digest_50 rfl nix_inc rfl (by decide) ?_
      refine z_goto iX7_digest_53 ?_
      exact hz
    · obtain ⟨a1, b1, e1, g1, p1, c1⟩ := hA fo ft fe gt c i hx hc (by omega) e0
      obtain ⟨a, b, e, g, ht, hz⟩ := ih (i + 1) a1 b1 e1 g1 (dgV h (A c i)) p1 (by omega)
      refine ⟨a, b, e, g, ht, ?_⟩
      rw [zfw, show dgCw A c i h = dgV h (A c i) from if_neg e0]
      refine z_iload iX7_digest_20 rfl ?_
      refine z_bipush iX7_digest_22 zb_12 ?_
      refine zn_gt iX7_digest_24 (by omega) (by omega) (fun q24 => absurd q24 (by omega)) (fun q24 => ?_)
      refine z_iload iX7_digest_27 rfl ?_
      refine z_bipush iX7_digest_29 zb_9 ?_
      refine zn_ne iX7_digest_31 (by omega) (by omega) (fun q31 => ?_) (fun q31 => absurd q31 (by omega))
      refine z_lload_n iX7_digest_38 rfl ?_
      refine z_aload_n iX7_digest_39 rfl ?_
      refine z_iload_n iX7_digest_40 rfl ?_
      refine z_iload iX7_digest_41 rfl ?_
      refine z_cvi (y1 := mX7_cart) iX7_digest_43 lX7_239 kX7_cart rfl (c1) (wx) rfl rfl rfl (Nat.le_of_ble_eq_true rfl) (by decide) ?_
      refine z_csl (y1 := mX7_with) iX7_digest_46 lX7_242 kX7_with rfl (c_with G _ h _) rfl rfl (Nat.le_of_ble_eq_true rfl) ?_
      refine z_lstore_n iX7_digest_49 rfl (by decide) ?_
      refine z_iinc iX7_digest_50 rfl nix_inc rfl (by decide) ?_
      refine z_goto iX7_digest_53 ?_
      exact hz
set_option maxRecDepth 20000 in
set_option maxHeartbeats 1000000 in
theorem lpx_co (G : zG) (pg nw kp sn ks mx : zs) (re : Nat → Int64) (m : zs) (hh : Int64) (P : zs → zs → zs → zs → Prop) (NC NB NP : Nat) (f : Nat → Int32) (x5 : rN nw 1 = NC) (x4 : rN nw 0 = NB) (x1 : rN pg 1 = NP) (x0 : rF pg 0 = f) (xo : bOK nw) (h9 : NC ≤ 9) (h3 : NB ≤ 3) (h38 : NP ≤ 38) (A : Nat → Nat → Int32) (hA : ∀ fo ft fe gt c w, P fo ft fe gt → c < NC → w ≤ 12 → ¬ w = 9 → ∃ a b e g, P a b e g ∧ zK G mX7_cart [.ref 0, .int (nI c), .int (nI w)] (wW pg nw kp sn ks fo ft fe gt mx re m hh) (some (.int (A c w))) (wW pg nw kp sn ks a b e g mx re m hh)) (R : Int64 → Int64) (K : ∀ (fo ft fe gt : zs) (h : Int64), P fo ft fe gt → ∃ a b e g, P a b e g ∧ zS G mX7_digest 62 [some (.ref 0), some (.long (h)), none, none, none] [] (wW pg nw kp sn ks fo ft fe gt mx re m hh) (some (.long (R h))) (wW pg nw kp sn ks a b e g mx re m hh)) : ∀ (n i : Nat) (fo ft fe gt : zs) (h : Int64), P fo ft fe gt → i + n = NC → ∃ a b e g, P a b e g ∧ zS G mX7_digest 6 [some (.ref 0), some (.long (h)), none, some (.int (nI i)), none] [] (wW pg nw kp sn ks fo ft fe gt mx re m hh) (some (.long (R (zfw (dgC A) i n h)))) (wW pg nw kp sn ks a b e g mx re m hh) := by
  intro n
  induction n with
  | zero =>
    intro i fo ft fe gt h hx hi
    obtain ⟨a, b, e, g, ht, hz⟩ := K fo ft fe gt h hx
    refine ⟨a, b, e, g, ht, ?_⟩
    refine z_iload_n iX7_digest_6 rfl ?_
    refine z_aload_n iX7_digest_7 rfl ?_
    refine z_getf iX7_digest_8 fX7_19 (wx) (xF_1 _) (by decide) ?_
    refine z_getf iX7_digest_11 fX7_85 (w3_o) (BF_1 _ _) (by decide) ?_
    refine zn_ge iX7_digest_14 (by omega) (by omega) (fun q14 => ?_) (fun q14 => absurd q14 (by omega))
    exact z_weak (zle_w (by simp [zle, zf3])) hz
  | succ n ih =>
    intro i fo ft fe gt h hx hi
    have hK : ∀ (fo ft fe gt : zs) (h : Int64), P fo ft fe gt → ∃ a b e g, P a b e g ∧ zS G mX7_digest 56 [some (.ref 0), some (.long (h)), none, some (.int (nI i)), none] [] (wW pg nw kp sn ks fo ft fe gt mx re m hh) (some (.long (R (zfw (dgC A) (i + 1) n h)))) (wW pg nw kp sn ks a b e g mx re m hh) := by
      intro fo ft fe gt h hx
      obtain ⟨a, b, e, g, ht, hz⟩ := ih (i + 1) fo ft fe gt h hx (by omega)
      refine ⟨a, b, e, g, ht, ?_⟩
      refine z_iinc iX7_digest_56 rfl nix_inc rfl (by decide) ?_
      refine z_goto iX7_digest_59 ?_
      exact hz
    obtain ⟨a, b, e, g, ht, hz⟩ := lpx_ci G pg nw kp sn ks mx re m hh P NC NB NP f x5 x4 x1 x0 xo h9 h3 h38 A hA i (by omega) (fun h => R (zfw (dgC A) (i + 1) n h)) hK 13 0 fo ft fe gt h hx rfl
    refine ⟨a, b, e, g, ht, ?_⟩
    refine z_iload_n iX7_digest_6 rfl ?_
    refine z_aload_n iX7_digest_7 rfl ?_
    refine z_getf iX7_digest_8 fX7_19 (wx) (xF_1 _) (by decide) ?_
    refine z_getf iX7_digest_11 fX7_85 (w3_o) (BF_1 _ _) (by decide) ?_
    refine zn_ge iX7_digest_14 (by omega) (by omega) (fun q14 => absurd q14 (by omega)) (fun q14 => ?_)
    refine z_iconst iX7_digest_17 zk_0 ?_
    refine z_istore iX7_digest_18 rfl (by decide) ?_
    exact hz
set_option maxRecDepth 20000 in
set_option maxHeartbeats 1000000 in
theorem c_digest (G : zG) (pg nw kp sn ks mx : zs) (re : Nat → Int64) (m : zs) (hh : Int64) (P : zs → zs → zs → zs → Prop) (NC NB NP : Nat) (f : Nat → Int32) (x5 : rN nw 1 = NC) (x4 : rN nw 0 = NB) (x1 : rN pg 1 = NP) (x0 : rF pg 0 = f) (xo : bOK nw) (h9 : NC ≤ 9) (h3 : NB ≤ 3) (h38 : NP ≤ 38) (C : Nat → Int32) (hN : ∀ fo ft fe gt w, P fo ft fe gt → w ≤ 12 → zK G mX7_count [.ref 0, .int (nI w)] (wW pg nw kp sn ks fo ft fe gt mx re m hh) (some (.int (C w))) (wW pg nw kp sn ks fo ft fe gt mx re m hh)) (v : Nat → Int32) (hZ : NC = 0 ↔ NB = 0) (hL : ∀ fo ft fe gt, P fo ft fe gt → ¬ NB = 0 → ∃ b, P fo b fe gt ∧ zK G mX2_daysItLasts [.ref 27, .ref 3, .int (nI 2)] (wW pg nw kp sn ks fo ft fe gt mx re m hh) (some (.int (v 0))) (wW pg nw kp sn ks fo b fe gt mx re m hh)) (hM : ∀ fo ft fe gt, P fo ft fe gt → ¬ NB = 0 → ∃ a b, P a b fe gt ∧ zK G mX2_makePlan [.ref 27, .ref 3, .int (nI 2)] (wW pg nw kp sn ks fo ft fe gt mx re m hh) none (wW pg nw kp sn ks a b fe gt mx re m hh) ∧ rI a 1 = v 1 ∧ zK G mX2_plannedBay [.ref 27, .int (nI 2), .int (nI 0)] (wW pg nw kp sn ks a b fe gt mx re m hh) (some (.int (v 2))) (wW pg nw kp sn ks a b fe gt mx re m hh) ∧ zK G mX2_plannedBay [.ref 27, .int (nI 2), .int (nI 1)] (wW pg nw kp sn ks a b fe gt mx re m hh) (some (.int (v 3))) (wW pg nw kp sn ks a b fe gt mx re m hh)) (hG : ∀ fo ft fe gt, P fo ft fe gt → ¬ NB = 0 → ∃ b, P fo b fe gt ∧ zK G mX2_goneBehind [.ref 27, .ref 3, .int (nI 9)] (wW pg nw kp sn ks fo ft fe gt mx re m hh) (some (.int (v 4))) (wW pg nw kp sn ks fo b fe gt mx re m hh)) (A : Nat → Nat → Int32) (hA : ∀ fo ft fe gt c w, P fo ft fe gt → c < NC → w ≤ 12 → ¬ w = 9 → ∃ a b e g, P a b e g ∧ zK G mX7_cart [.ref 0, .int (nI c), .int (nI w)] (wW pg nw kp sn ks fo ft fe gt mx re m hh) (some (.int (A c w))) (wW pg nw kp sn ks a b e g mx re m hh)) (B : Nat → Nat → Int32) (hB : ∀ fo ft fe gt c w, P fo ft fe gt → c < NB → w ≤ 12 → (w < 5 ∨ 9 < w) → ∃ a b e g, P a b e g ∧ zK G mX7_bay [.ref 0, .int (nI c), .int (nI w)] (wW pg nw kp sn ks fo ft fe gt mx re m hh) (some (.int (B c w))) (wW pg nw kp sn ks a b e g mx re m hh)) (fo ft fe gt : zs) (hx : P fo ft fe gt) : ∃ a b e g, P a b e g ∧ zK G mX7_digest [.ref 0] (wW pg nw kp sn ks fo ft fe gt mx re m hh) (some (.long (dgAll f NP NB NC C v A B))) (wW pg nw kp sn ks a b e g mx re m hh) := by
  have hK : ∀ (fo ft fe gt : zs) (h : Int64), P fo ft fe gt → ∃ a b e g, P a b e g ∧ zS G mX7_digest 62 [some (.ref 0), some (.long (h)), none, none, none] [] (wW pg nw kp sn ks fo ft fe gt mx re m hh) (some (.long (dgM f NP NB C v (zfw (dgB B) 0 NB h)))) (wW pg nw kp sn ks a b e g mx re m hh) := by
    intro fo ft fe gt h hx
    obtain ⟨a, b, e, g, ht, hz⟩ := lpx_bo G pg nw kp sn ks mx re m hh P NC NB NP f x5 x4 x1 x0 xo h9 h3 h38 B hB (fun h => dgM f NP NB C v h) (fun fo ft fe gt h hx => lpx_s G pg nw kp sn ks mx re m hh P NC NB NP f x5 x4 x1 x0 xo h9 h3 h38 C hN v hZ hL hM hG fo ft fe gt h hx) NB 0 fo ft fe gt h hx (Nat.zero_add _)
    refine ⟨a, b, e, g, ht, ?_⟩
    refine z_iconst iX7_digest_62 zk_0 ?_
    refine z_istore_n iX7_digest_63 rfl (by decide) ?_
    exact z_weak (zle_w (by simp [zle, zf3])) hz
  obtain ⟨a, b, e, g, ht, hz⟩ := lpx_co G pg nw kp sn ks mx re m hh P NC NB NP f x5 x4 x1 x0 xo h9 h3 h38 A hA (fun h => dgM f NP NB C v (zfw (dgB B) 0 NB h)) hK NC 0 fo ft fe gt 1201 hx (Nat.zero_add _)
  refine ⟨a, b, e, g, ht, ?_⟩
  refine zK_of 4 rfl (by decide) trivial (Nat.le_of_ble_eq_true rfl) rfl ?_
  refine z_ldc2 iX7_digest_0 gX7_237 ?_
  refine z_lstore_n iX7_digest_3 rfl (by decide) ?_
  refine z_iconst iX7_digest_4 zk_0 ?_
  refine z_istore_n iX7_digest_5 rfl (by decide) ?_
  exact hz
