def mRb (k b : Nat) (x : zs) : Nat := if k + 1 < rN x 5 ∧ rF x 0 (4 * k + 3) = nI 59 then b + 1 else b
def mR5 (k b : Nat) (x : zs) : zs := uA (uF (uF (uF (uA x 10 (updN (rA x 10) k (rK (rF x 0 (4 * k))))) 14 (upd (rF x 14) k (rF x 0 (4 * k + 1) - nI 48))) 15 (upd (rF x 15) k (rF x 0 (4 * k + 2) - nI 48))) 16 (upd (rF x 16) k (nI 0))) 11 (updN (rA x 11) k b)
def mR6 (k b : Nat) (x : zs) : zs := uA (mR5 k b x) 13 (updN (rA x 13) (4 * b + rA x 12 b) k)
def mRx (k b : Nat) (x : zs) : zs := uA (mR6 k b x) 12 (updN (rA x 12) b (rA x 12 b + 1))
def mRun : Nat → Nat → Nat → zs → zs
  | 0, _, _, x => x
  | n + 1, k, b, x => mRun n (k + 1) (mRb k b x) (mRx k b x)
def mRg : Nat → Nat → Nat → zs → Prop
  | 0, _, _, _ => True
  | n + 1, k, b, x => kOf (rF x 0 (4 * k)) ≠ none ∧ b < 3 ∧ rA x 12 b < 3 ∧ mRg n (k + 1) (mRb k b x) (mRx k b x)
def mBE (x : zs) : zs := uN (uN (uN (uI (uI (uN x 6 0) 7 (nI 0)) 8 (nI 0)) 24 0) 9 (rN x 9 + 1)) 1 0
def mB0 (y : zs) : zs := uA (uA (uA (uN (uN y 4 (rN y 2)) 5 ((rN y 1 + 1) / 4)) 12 (updN (rA y 12) 0 0)) 12 (updN (updN (rA y 12) 0 0) 1 0)) 12 (updN (updN (updN (rA y 12) 0 0) 1 0) 2 0)
theorem mFaultL_F (f : Nat → Int32) : ∀ (n i : Nat) (m : zs), (∀ k, rA (mFaultL f i n m).2 k = rA m k) ∧ (∀ k, k ≠ 2 → k ≠ 3 → rN (mFaultL f i n m).2 k = rN m k) ∧ (∀ k, rI (mFaultL f i n m).2 k = rI m k) ∧ (∀ k, rF (mFaultL f i n m).2 k = rF m k) := by
  have hs : ∀ (p : Nat) (c : Int32) (m : zs), (∀ k, rA (mGoodS p c m) k = rA m k) ∧ (∀ k, k ≠ 2 → k ≠ 3 → rN (mGoodS p c m) k = rN m k) ∧ (∀ k, rI (mGoodS p c m) k = rI m k) ∧ (∀ k, rF (mGoodS p c m) k = rF m k) := by
    intro p c m
    unfold mGoodS
    split
    · exact ⟨fun _ => rfl, fun k _ h3 => by rw [rN_uN, if_neg h3], fun _ => rfl, fun _ => rfl⟩
    · split
      · exact ⟨fun _ => rfl, fun _ _ _ => rfl, fun _ => rfl, fun _ => rfl⟩
      · split
        · exact ⟨fun _ => rfl, fun _ _ _ => rfl, fun _ => rfl, fun _ => rfl⟩
        · split
          · exact ⟨fun _ => rfl, fun k h2 h3 => by rw [rN_uN, if_neg h3, rN_uN, if_neg h2], fun _ => rfl, fun _ => rfl⟩
          · exact ⟨fun _ => rfl, fun _ _ _ => rfl, fun _ => rfl, fun _ => rfl⟩
  intro n
  induction n with
  | zero => intro i m; exact ⟨fun _ => rfl, fun _ _ _ => rfl, fun _ => rfl, fun _ => rfl⟩
  | succ n ih =>
    intro i m
    unfold mFaultL
    have h1 := hs i (f i) m
    split
    · have h2 := ih (i + 1) (mGoodS i (f i) m)
      exact ⟨fun k => (h2.1 k).trans (h1.1 k), fun k a b => (h2.2.1 k a b).trans (h1.2.1 k a b), fun k => (h2.2.2.1 k).trans (h1.2.2.1 k), fun k => (h2.2.2.2 k).trans (h1.2.2.2 k)⟩
    · exact h1
theorem mFault_F (m : zs) : (∀ k, rA (mFault m).2 k = rA m k) ∧ (∀ k, k ≠ 2 → k ≠ 3 → rN (mFault m).2 k = rN m k) ∧ (∀ k, rI (mFault m).2 k = rI m k) ∧ (∀ k, rF (mFault m).2 k = rF m k) := by
  have h := mFaultL_F (rF m 0) (rN m 1) 0 (mF0 m)
  exact ⟨fun k => (h.1 k).trans rfl, fun k a b => (h.2.1 k a b).trans (by unfold mF0; rw [rN_uN, if_neg b, rN_uN, if_neg a]), fun k => (h.2.2.1 k).trans rfl, fun k => (h.2.2.2 k).trans rfl⟩
set_option maxRecDepth 20000 in
set_option maxHeartbeats 1000000 in
theorem cm_barn0 (G : zG) (pg nw kp sn ks fo ft fe gt mx : zs) (re : Nat → Int64) (m : zs) (hh : Int64) (hz : rN m 1 ≤ 38) (h : ¬ rN m 1 % 4 = 3) : zK G mX8_barn [.ref 49] (wW pg nw kp sn ks fo ft fe gt mx re m hh) (some (.int (-103))) (wW pg nw kp sn ks fo ft fe gt mx re m hh) := by
  refine zK_of 2 rfl (by decide) trivial (Nat.le_of_ble_eq_true rfl) rfl ?_
  refine z_aload_n iX8_barn_0 rfl ?_
  refine z_getf iX8_barn_1 fX8_83 (wm) (mF_1 _ _) (by decide) ?_
  refine z_iconst iX8_barn_4 zk_4 ?_
  refine z_irem iX8_barn_5 (by decide +kernel) ?_
  refine z_top (nix_rem (by omega) (by omega) (by omega)) ?_
  refine z_iconst iX8_barn_6 zk_3 ?_
  refine zn_ne iX8_barn_7 (by omega) (by omega) (fun q7 => ?_) (fun q7 => absurd q7 h)
  refine z_bipush iX8_barn_29 zb_m103 ?_
  exact z_ireturn iX8_barn_31 (rfl) (rfl)
set_option maxRecDepth 20000 in
set_option maxHeartbeats 1000000 in
theorem cm_barn1 (G : zG) (pg nw kp sn ks fo ft fe gt mx : zs) (re : Nat → Int64) (m : zs) (hh : Int64) (hz : rN m 1 ≤ 38) (h : rN m 1 % 4 = 3) (hf : (mFault m).1 < rN m 1) : zK G mX8_barn [.ref 49] (wW pg nw kp sn ks fo ft fe gt mx re m hh) (some (.int (-103))) (wW pg nw kp sn ks fo ft fe gt mx re (mFault m).2 hh) := by
  have e1 : rN (mFault m).2 1 = rN m 1 := (mFault_F m).2.1 1 (by decide) (by decide)
  refine zK_of 2 rfl (by decide) trivial (Nat.le_of_ble_eq_true rfl) rfl ?_
  refine z_aload_n iX8_barn_0 rfl ?_
  refine z_getf iX8_barn_1 fX8_83 (wm) (mF_1 _ _) (by decide) ?_
  refine z_iconst iX8_barn_4 zk_4 ?_
  refine z_irem iX8_barn_5 (by decide +kernel) ?_
  refine z_top (nix_rem (by omega) (by omega) (by omega)) ?_
  refine z_iconst iX8_barn_6 zk_3 ?_
  refine zn_ne iX8_barn_7 (by omega) (by omega) (fun q7 => absurd h q7) (fun q7 => ?_)
  refine z_aload_n iX8_barn_10 rfl ?_
  refine z_cvi (y1 := mX8_faultOf) iX8_barn_11 lX8_106 kX8_faultOf rfl (cm_faultOf G pg nw kp sn ks fo ft fe gt mx re m hh hz) (wm) rfl rfl rfl (Nat.le_of_ble_eq_true rfl) (by decide) ?_
  refine z_aload_n iX8_barn_14 rfl ?_
  refine z_getf iX8_barn_15 fX8_83 (wm) (mF_1 _ _) (by decide) ?_
  refine zn_lt iX8_barn_18 (by omega) (by omega) (fun q18 => ?_) (fun q18 => absurd q18 (by omega))
  refine z_bipush iX8_barn_29 zb_m103 ?_
  exact z_ireturn iX8_barn_31 (rfl) (rfl)
set_option maxRecDepth 20000 in
set_option maxHeartbeats 1000000 in
theorem cm_barn2 (G : zG) (pg nw kp sn ks fo ft fe gt mx : zs) (re : Nat → Int64) (m : zs) (hh : Int64) (hz : rN m 1 ≤ 38) (h : rN m 1 % 4 = 3) (hf : (mFault m).1 = rN m 1) (h2 : rN (mFault m).2 2 < 2) : zK G mX8_barn [.ref 49] (wW pg nw kp sn ks fo ft fe gt mx re m hh) (some (.int (-103))) (wW pg nw kp sn ks fo ft fe gt mx re (mFault m).2 hh) := by
  have e1 : rN (mFault m).2 1 = rN m 1 := (mFault_F m).2.1 1 (by decide) (by decide)
  refine zK_of 2 rfl (by decide) trivial (Nat.le_of_ble_eq_true rfl) rfl ?_
  refine z_aload_n iX8_barn_0 rfl ?_
  refine z_getf iX8_barn_1 fX8_83 (wm) (mF_1 _ _) (by decide) ?_
  refine z_iconst iX8_barn_4 zk_4 ?_
  refine z_irem iX8_barn_5 (by decide +kernel) ?_
  refine z_top (nix_rem (by omega) (by omega) (by omega)) ?_
  refine z_iconst iX8_barn_6 zk_3 ?_
  refine zn_ne iX8_barn_7 (by omega) (by omega) (fun q7 => absurd h q7) (fun q7 => ?_)
  refine z_aload_n iX8_barn_10 rfl ?_
  refine z_cvi (y1 := mX8_faultOf) iX8_barn_11 lX8_106 kX8_faultOf rfl (cm_faultOf G pg nw kp sn ks fo ft fe gt mx re m hh hz) (wm) rfl rfl rfl (Nat.le_of_ble_eq_true rfl) (by decide) ?_
  refine z_aload_n iX8_barn_14 rfl ?_
  refine z_getf iX8_barn_15 fX8_83 (wm) (mF_1 _ _) (by decide) ?_
  refine zn_lt iX8_barn_18 (by omega) (by omega) (fun q18 => absurd q18 (by omega)) (fun q18 => ?_)
  refine z_aload_n iX8_barn_21 rfl ?_
  refine z_getf iX8_barn_22 fX8_99 (wm) (mF_2 _ _) (by decide) ?_
  refine z_iconst iX8_barn_25 zk_2 ?_
  refine zn_ge iX8_barn_26 (by omega) (by omega) (fun q26 => absurd q26 (by omega)) (fun q26 => ?_)
  refine z_bipush iX8_barn_29 zb_m103 ?_
  exact z_ireturn iX8_barn_31 (rfl) (rfl)
set_option maxRecDepth 20000 in
set_option maxHeartbeats 1000000 in
theorem lpm_read (G : zG) (pg nw kp sn ks fo ft fe gt mx : zs) (re : Nat → Int64) (hh : Int64) : ∀ (n k b : Nat) (x : zs), mRg n k b x → k + n = rN x 5 → 4 * rN x 5 ≤ 39 → zS G mX8_barn 77 [some (.ref 49), some (.int (nI b)), some (.int (nI k))] [] (wW pg nw kp sn ks fo ft fe gt mx re x hh) (some (.int (nI (rN x 5)))) (wW pg nw kp sn ks fo ft fe gt mx re (mBE (mRun n k b x)) hh) := by
  intro n
  induction n with
  | zero =>
    intro k b x hg hi hc
    refine z_iload_n iX8_barn_77 rfl ?_
    refine z_aload_n iX8_barn_78 rfl ?_
    refine z_getf iX8_barn_79 fX8_113 (wm) (mF_5 _ _) (by decide) ?_
    refine zn_ge iX8_barn_82 (by omega) (by omega) (fun q82 => ?_) (fun q82 => absurd q82 (by omega))
    refine z_aload_n iX8_barn_219 rfl ?_
    refine z_iconst iX8_barn_220 zk_0 ?_
    refine z_putf iX8_barn_221 fX8_116 (wm) rfl rfl (Nat.le_of_ble_eq_true rfl) (by decide) ?_
    rw [wm_6]
    refine z_aload_n iX8_barn_224 rfl ?_
    refine z_iconst iX8_barn_225 zk_0 ?_
    refine z_putf iX8_barn_226 fX8_119 (wm) rfl rfl (Nat.le_of_ble_eq_true rfl) (by decide) ?_
    rw [wm_7]
    refine z_aload_n iX8_barn_229 rfl ?_
    refine z_iconst iX8_barn_230 zk_0 ?_
    refine z_putf iX8_barn_231 fX8_122 (wm) rfl rfl (Nat.le_of_ble_eq_true rfl) (by decide) ?_
    rw [wm_8]
    refine z_aload_n iX8_barn_234 rfl ?_
    refine z_iconst iX8_barn_235 zk_0 ?_
    refine z_putf iX8_barn_236 fX8_125 (wm) rfl rfl (Nat.le_of_ble_eq_true rfl) (by decide) ?_
    rw [wm_24]
    refine z_aload_n iX8_barn_239 rfl ?_
    refine z_dup iX8_barn_240 rfl ?_
    refine z_getf iX8_barn_241 fX8_128 (wm) (mF_9 _ _) (by decide) ?_
    refine z_iconst iX8_barn_244 zk_1 ?_
    refine z_iadd iX8_barn_245 ?_
    refine z_top nix_add ?_
    refine z_putf iX8_barn_246 fX8_128 (wm) rfl rfl (Nat.le_of_ble_eq_true rfl) (by decide) ?_
    rw [wm_9]
    refine z_aload_n iX8_barn_249 rfl ?_
    refine z_iconst iX8_barn_250 zk_0 ?_
    refine z_putf iX8_barn_251 fX8_83 (wm) rfl rfl (Nat.le_of_ble_eq_true rfl) (by decide) ?_
    rw [wm_1]
    refine z_aload_n iX8_barn_254 rfl ?_
    refine z_getf iX8_barn_255 fX8_113 (wm) (mF_5 _ _) (by decide) ?_
    exact z_ireturn iX8_barn_258 (rfl) (rfl)
  | succ n ih =>
    intro k b x hg hi hc
    obtain ⟨g1, g2, g3, g4⟩ := hg
    obtain ⟨kk, ek⟩ : ∃ k2, kOf (rF x 0 (4 * k)) = some k2 := by
      cases h : kOf (rF x 0 (4 * k)) with
      | none => exact absurd h g1
      | some k2 => exact ⟨k2, rfl⟩
    have ek2 : rK (rF x 0 (4 * k)) = kk := by rw [rK, ek]; rfl
    by_cases hl : k + 1 < rN x 5
    · by_cases hs : rF x 0 (4 * k + 3) = nI 59
      · skip
        have e1 : mRb k b x = b + 1 := if_pos ⟨hl, hs⟩
        have hz := ih (k + 1) (mRb k b x) (mRx k b x) g4 (by show k + 1 + n = rN x 5; omega) hc
        rw [e1] at hz
        rw [mRun, e1]
        refine z_iload_n iX8_barn_77 rfl ?_
        refine z_aload_n iX8_barn_78 rfl ?_
        refine z_getf iX8_barn_79 fX8_113 (wm) (mF_5 _ _) (by decide) ?_
        refine zn_ge iX8_barn_82 (by omega) (by omega) (fun q82 => absurd q82 (by omega)) (fun q82 => ?_)
        refine z_aload_n iX8_barn_85 rfl ?_
        refine z_getf iX8_barn_86 fX8_13 (wm) (mF_10 _ _) (by decide) ?_
        refine z_iload_n iX8_barn_89 rfl ?_
        refine z_aload_n iX8_barn_90 rfl ?_
        refine z_getf iX8_barn_91 fX8_7 (wm) (mF_0 _ _) (by decide) ?_
        refine z_iconst iX8_barn_94 zk_4 ?_
        refine z_iload_n iX8_barn_95 rfl ?_
        refine z_imul iX8_barn_96 ?_
        refine z_top nix_mul ?_
        refine z_iaload iX8_barn_97 (wm0) rfl (by omega) (by decide) (by decide) ?_
        refine z_csi (y1 := mX8_kindBy) iX8_barn_98 lX8_89 kX8_kindBy rfl (c_kindBy G _ _) rfl rfl (Nat.le_of_ble_eq_true rfl) ?_
        rw [ek, oI_some]
        refine z_top (v := nI (rK (rF x 0 (4 * k)))) (by rw [ek2]) ?_
        refine z_iastore iX8_barn_101 (wm10) rfl (by omega) (by decide) (by decide) (by decide) ?_
        rw [upd_nI, wm_10]
        refine z_aload_n iX8_barn_102 rfl ?_
        refine z_getf iX8_barn_103 fX8_25 (wm) (mF_14 _ _) (by decide) ?_
        refine z_iload_n iX8_barn_106 rfl ?_
        refine z_aload_n iX8_barn_107 rfl ?_
        refine z_getf iX8_barn_108 fX8_7 (wm) (mF_0 _ _) (by decide) ?_
        refine z_iconst iX8_barn_111 zk_4 ?_
        refine z_iload_n iX8_barn_112 rfl ?_
        refine z_imul iX8_barn_113 ?_
        refine z_top nix_mul ?_
        refine z_iconst iX8_barn_114 zk_1 ?_
        refine z_iadd iX8_barn_115 ?_
        refine z_top nix_add ?_
        refine z_iaload iX8_barn_116 (wm0) rfl (by omega) (by decide) (by decide) ?_
        refine z_bipush iX8_barn_117 zb_48 ?_
        refine z_isub iX8_barn_119 ?_
        refine z_iastore iX8_barn_120 (wm14) rfl (by omega) (by decide) (by decide) (by decide) ?_
        rw [wm_14]
        refine z_aload_n iX8_barn_121 rfl ?_
        refine z_getf iX8_barn_122 fX8_28 (wm) (mF_15 _ _) (by decide) ?_
        refine z_iload_n iX8_barn_125 rfl ?_
        refine z_aload_n iX8_barn_126 rfl ?_
        refine z_getf iX8_barn_127 fX8_7 (wm) (mF_0 _ _) (by decide) ?_
        refine z_iconst iX8_barn_130 zk_4 ?_
        refine z_iload_n iX8_barn_131 rfl ?_
        refine z_imul iX8_barn_132 ?_
        refine z_top nix_mul ?_
        refine z_iconst iX8_barn_133 zk_2 ?_
        refine z_iadd iX8_barn_134 ?_
        refine z_top nix_add ?_
        refine z_iaload iX8_barn_135 (wm0) rfl (by omega) (by decide) (by decide) ?_
        refine z_bipush iX8_barn_136 zb_48 ?_
        refine z_isub iX8_barn_138 ?_
        refine z_iastore iX8_barn_139 (wm15) rfl (by omega) (by decide) (by decide) (by decide) ?_
        rw [wm_15]
        refine z_aload_n iX8_barn_140 rfl ?_
        refine z_getf iX8_barn_141 fX8_31 (wm) (mF_16 _ _) (by decide) ?_
        refine z_iload_n iX8_barn_144 rfl ?_
        refine z_iconst iX8_barn_145 zk_0 ?_
        refine z_iastore iX8_barn_146 (wm16) rfl (by omega) (by decide) (by decide) (by decide) ?_
        rw [wm_16]
        refine z_aload_n iX8_barn_147 rfl ?_
        refine z_getf iX8_barn_148 fX8_16 (wm) (mF_11 _ _) (by decide) ?_
        refine z_iload_n iX8_barn_151 rfl ?_
        refine z_iload_n iX8_barn_152 rfl ?_
        refine z_iastore iX8_barn_153 (wm11) rfl (by omega) (by decide) (by decide) (by decide) ?_
        rw [upd_nI, wm_11]
        refine z_heap (g2 := wW pg nw kp sn ks fo ft fe gt mx re (mR5 k b x) hh) rfl ?_
        have o1 : rA (mR5 k b x) 12 b = rA x 12 b := rfl
        refine z_aload_n iX8_barn_154 rfl ?_
        refine z_getf iX8_barn_155 fX8_22 (wm) (mF_13 _ _) (by decide) ?_
        refine z_iconst iX8_barn_158 zk_4 ?_
        refine z_iload_n iX8_barn_159 rfl ?_
        refine z_imul iX8_barn_160 ?_
        refine z_top nix_mul ?_
        refine z_aload_n iX8_barn_161 rfl ?_
        refine z_getf iX8_barn_162 fX8_19 (wm) (mF_12 _ _) (by decide) ?_
        refine z_iload_n iX8_barn_165 rfl ?_
        refine z_iaload iX8_barn_166 (wm12) rfl (by omega) (by decide) (by decide) ?_
        refine z_iadd iX8_barn_167 ?_
        refine z_top nix_add ?_
        refine z_iload_n iX8_barn_168 rfl ?_
        refine z_iastore iX8_barn_169 (wm13) rfl (by omega) (by decide) (by decide) (by decide) ?_
        rw [upd_nI, wm_13]
        refine z_heap (g2 := wW pg nw kp sn ks fo ft fe gt mx re (mR6 k b x) hh) rfl ?_
        have o2 : rA (mR6 k b x) 12 b = rA x 12 b := rfl
        refine z_aload_n iX8_barn_170 rfl ?_
        refine z_getf iX8_barn_171 fX8_19 (wm) (mF_12 _ _) (by decide) ?_
        refine z_iload_n iX8_barn_174 rfl ?_
        refine z_dup2 iX8_barn_175 rfl rfl ?_
        refine z_iaload iX8_barn_176 (wm12) rfl (by omega) (by decide) (by decide) ?_
        refine z_iconst iX8_barn_177 zk_1 ?_
        refine z_iadd iX8_barn_178 ?_
        refine z_top nix_add ?_
        refine z_iastore iX8_barn_179 (wm12) rfl (by omega) (by decide) (by decide) (by decide) ?_
        rw [upd_nI, wm_12]
        refine z_heap (g2 := wW pg nw kp sn ks fo ft fe gt mx re (mRx k b x) hh) rfl ?_
        have o3 : rN (mRx k b x) 5 = rN x 5 := rfl
        refine z_iload_n iX8_barn_180 rfl ?_
        refine z_iload_n iX8_barn_181 rfl ?_
        refine z_iconst iX8_barn_182 zk_1 ?_
        refine z_iadd iX8_barn_183 ?_
        refine z_top nix_add ?_
        refine z_aload_n iX8_barn_184 rfl ?_
        refine z_getf iX8_barn_185 fX8_113 (wm) (mF_5 _ _) (by decide) ?_
        refine zn_ge iX8_barn_188 (by omega) (by omega) (fun q188 => absurd q188 (by omega)) (fun q188 => ?_)
        refine z_aload_n iX8_barn_191 rfl ?_
        refine z_getf iX8_barn_192 fX8_7 (wm) (mF_0 _ _) (by decide) ?_
        refine z_iconst iX8_barn_195 zk_4 ?_
        refine z_iload_n iX8_barn_196 rfl ?_
        refine z_imul iX8_barn_197 ?_
        refine z_top nix_mul ?_
        refine z_iconst iX8_barn_198 zk_3 ?_
        refine z_iadd iX8_barn_199 ?_
        refine z_top nix_add ?_
        refine z_iaload iX8_barn_200 (wm0) rfl (by omega) (by decide) (by decide) ?_
        refine z_bipush iX8_barn_201 zb_59 ?_
        refine z_icmp_ne iX8_barn_203 (fun q203 => absurd hs q203) (fun q203 => ?_)
        refine z_iconst iX8_barn_206 zk_1 ?_
        refine z_goto iX8_barn_207 ?_
        refine z_iadd iX8_barn_211 ?_
        refine z_top nix_add ?_
        refine z_istore_n iX8_barn_212 rfl (by decide) ?_
        refine z_iinc iX8_barn_213 rfl nix_inc rfl (by decide) ?_
        refine z_goto iX8_barn_216 ?_
        exact hz
      · skip
        have e1 : mRb k b x = b + 0 := if_neg (fun z => hs z.2)
        have hz := ih (k + 1) (mRb k b x) (mRx k b x) g4 (by show k + 1 + n = rN x 5; omega) hc
        rw [e1] at hz
        rw [mRun, e1]
        refine z_iload_n iX8_barn_77 rfl ?_
        refine z_aload_n iX8_barn_78 rfl ?_
        refine z_getf iX8_barn_79 fX8_113 (wm) (mF_5 _ _) (by decide) ?_
        refine zn_ge iX8_barn_82 (by omega) (by omega) (fun q82 => absurd q82 (by omega)) (fun q82 => ?_)
        refine z_aload_n iX8_barn_85 rfl ?_
        refine z_getf iX8_barn_86 fX8_13 (wm) (mF_10 _ _) (by decide) ?_
        refine z_iload_n iX8_barn_89 rfl ?_
        refine z_aload_n iX8_barn_90 rfl ?_
        refine z_getf iX8_barn_91 fX8_7 (wm) (mF_0 _ _) (by decide) ?_
        refine z_iconst iX8_barn_94 zk_4 ?_
        refine z_iload_n iX8_barn_95 rfl ?_
        refine z_imul iX8_barn_96 ?_
        refine z_top nix_mul ?_
        refine z_iaload iX8_barn_97 (wm0) rfl (by omega) (by decide) (by decide) ?_
        refine z_csi (y1 := mX8_kindBy) iX8_barn_98 lX8_89 kX8_kindBy rfl (c_kindBy G _ _) rfl rfl (Nat.le_of_ble_eq_true rfl) ?_
        rw [ek, oI_some]
        refine z_top (v := nI (rK (rF x 0 (4 * k)))) (by rw [ek2]) ?_
        refine z_iastore iX8_barn_101 (wm10) rfl (by omega) (by decide) (by decide) (by decide) ?_
        rw [upd_nI, wm_10]
        refine z_aload_n iX8_barn_102 rfl ?_
        refine z_getf iX8_barn_103 fX8_25 (wm) (mF_14 _ _) (by decide) ?_
        refine z_iload_n iX8_barn_106 rfl ?_
        refine z_aload_n iX8_barn_107 rfl ?_
        refine z_getf iX8_barn_108 fX8_7 (wm) (mF_0 _ _) (by decide) ?_
        refine z_iconst iX8_barn_111 zk_4 ?_
        refine z_iload_n iX8_barn_112 rfl ?_
        refine z_imul iX8_barn_113 ?_
        refine z_top nix_mul ?_
        refine z_iconst iX8_barn_114 zk_1 ?_
        refine z_iadd iX8_barn_115 ?_
        refine z_top nix_add ?_
        refine z_iaload iX8_barn_116 (wm0) rfl (by omega) (by decide) (by decide) ?_
        refine z_bipush iX8_barn_117 zb_48 ?_
        refine z_isub iX8_barn_119 ?_
        refine z_iastore iX8_barn_120 (wm14) rfl (by omega) (by decide) (by decide) (by decide) ?_
        rw [wm_14]
        refine z_aload_n iX8_barn_121 rfl ?_
        refine z_getf iX8_barn_122 fX8_28 (wm) (mF_15 _ _) (by decide) ?_
        refine z_iload_n iX8_barn_125 rfl ?_
        refine z_aload_n iX8_barn_126 rfl ?_
        refine z_getf iX8_barn_127 fX8_7 (wm) (mF_0 _ _) (by decide) ?_
        refine z_iconst iX8_barn_130 zk_4 ?_
        refine z_iload_n iX8_barn_131 rfl ?_
        refine z_imul iX8_barn_132 ?_
        refine z_top nix_mul ?_
        refine z_iconst iX8_barn_133 zk_2 ?_
        refine z_iadd iX8_barn_134 ?_
        refine z_top nix_add ?_
        refine z_iaload iX8_barn_135 (wm0) rfl (by omega) (by decide) (by decide) ?_
        refine z_bipush iX8_barn_136 zb_48 ?_
        refine z_isub iX8_barn_138 ?_
        refine z_iastore iX8_barn_139 (wm15) rfl (by omega) (by decide) (by decide) (by decide) ?_
        rw [wm_15]
        refine z_aload_n iX8_barn_140 rfl ?_
        refine z_getf iX8_barn_141 fX8_31 (wm) (mF_16 _ _) (by decide) ?_
        refine z_iload_n iX8_barn_144 rfl ?_
        refine z_iconst iX8_barn_145 zk_0 ?_
        refine z_iastore iX8_barn_146 (wm16) rfl (by omega) (by decide) (by decide) (by decide) ?_
        rw [wm_16]
        refine z_aload_n iX8_barn_147 rfl ?_
        refine z_getf iX8_barn_148 fX8_16 (wm) (mF_11 _ _) (by decide) ?_
        refine z_iload_n iX8_barn_151 rfl ?_
        refine z_iload_n iX8_barn_152 rfl ?_
        refine z_iastore iX8_barn_153 (wm11) rfl (by omega) (by decide) (by decide) (by decide) ?_
        rw [upd_nI, wm_11]
        refine z_heap (g2 := wW pg nw kp sn ks fo ft fe gt mx re (mR5 k b x) hh) rfl ?_
        have o1 : rA (mR5 k b x) 12 b = rA x 12 b := rfl
        refine z_aload_n iX8_barn_154 rfl ?_
        refine z_getf iX8_barn_155 fX8_22 (wm) (mF_13 _ _) (by decide) ?_
        refine z_iconst iX8_barn_158 zk_4 ?_
        refine z_iload_n iX8_barn_159 rfl ?_
        refine z_imul iX8_barn_160 ?_
        refine z_top nix_mul ?_
        refine z_aload_n iX8_barn_161 rfl ?_
        refine z_getf iX8_barn_162 fX8_19 (wm) (mF_12 _ _) (by decide) ?_
        refine z_iload_n iX8_barn_165 rfl ?_
        refine z_iaload iX8_barn_166 (wm12) rfl (by omega) (by decide) (by decide) ?_
        refine z_iadd iX8_barn_167 ?_
        refine z_top nix_add ?_
        refine z_iload_n iX8_barn_168 rfl ?_
        refine z_iastore iX8_barn_169 (wm13) rfl (by omega) (by decide) (by decide) (by decide) ?_
        rw [upd_nI, wm_13]
        refine z_heap (g2 := wW pg nw kp sn ks fo ft fe gt mx re (mR6 k b x) hh) rfl ?_
        have o2 : rA (mR6 k b x) 12 b = rA x 12 b := rfl
        refine z_aload_n iX8_barn_170 rfl ?_
        refine z_getf iX8_barn_171 fX8_19 (wm) (mF_12 _ _) (by decide) ?_
        refine z_iload_n iX8_barn_174 rfl ?_
        refine z_dup2 iX8_barn_175 rfl rfl ?_
        refine z_iaload iX8_barn_176 (wm12) rfl (by omega) (by decide) (by decide) ?_
        refine z_iconst iX8_barn_177 zk_1 ?_
        refine z_iadd iX8_barn_178 ?_
        refine z_top nix_add ?_
        refine z_iastore iX8_barn_179 (wm12) rfl (by omega) (by decide) (by decide) (by decide) ?_
        rw [upd_nI, wm_12]
        refine z_heap (g2 := wW pg nw kp sn ks fo ft fe gt mx re (mRx k b x) hh) rfl ?_
        have o3 : rN (mRx k b x) 5 = rN x 5 := rfl
        refine z_iload_n iX8_barn_180 rfl ?_
        refine z_iload_n iX8_barn_181 rfl ?_
        refine z_iconst iX8_barn_182 zk_1 ?_
        refine z_iadd iX8_barn_183 ?_
        refine z_top nix_add ?_
        refine z_aload_n iX8_barn_184 rfl ?_
        refine z_getf iX8_barn_185 fX8_113 (wm) (mF_5 _ _) (by decide) ?_
        refine zn_ge iX8_barn_188 (by omega) (by omega) (fun q188 => absurd q188 (by omega)) (fun q188 => ?_)
        refine z_aload_n iX8_barn_191 rfl ?_
        refine z_getf iX8_barn_192 fX8_7 (wm) (mF_0 _ _) (by decide) ?_
        refine z_iconst iX8_barn_195 zk_4 ?_
        refine z_iload_n iX8_barn_196 rfl ?_
        refine z_imul iX8_barn_197 ?_
        refine z_top nix_mul ?_
        refine z_iconst iX8_barn_198 zk_3 ?_
        refine z_iadd iX8_barn_199 ?_
        refine z_top nix_add ?_
        refine z_iaload iX8_barn_200 (wm0) rfl (by omega) (by decide) (by decide) ?_
        refine z_bipush iX8_barn_201 zb_59 ?_
        refine z_icmp_ne iX8_barn_203 (fun q203 => ?_) (fun q203 => absurd q203 hs)
        refine z_iconst iX8_barn_210 zk_0 ?_
        refine z_iadd iX8_barn_211 ?_
        refine z_top nix_add ?_
        refine z_istore_n iX8_barn_212 rfl (by decide) ?_
        refine z_iinc iX8_barn_213 rfl nix_inc rfl (by decide) ?_
        refine z_goto iX8_barn_216 ?_
        exact hz
    · skip
      have e1 : mRb k b x = b + 0 := if_neg (fun z => hl z.1)
      have hz := ih (k + 1) (mRb k b x) (mRx k b x) g4 (by show k + 1 + n = rN x 5; omega) hc
      rw [e1] at hz
      rw [mRun, e1]
      refine z_iload_n iX8_barn_77 rfl ?_
      refine z_aload_n iX8_barn_78 rfl ?_
      refine z_getf iX8_barn_79 fX8_113 (wm) (mF_5 _ _) (by decide) ?_
      refine zn_ge iX8_barn_82 (by omega) (by omega) (fun q82 => absurd q82 (by omega)) (fun q82 => ?_)
      refine z_aload_n iX8_barn_85 rfl ?_
      refine z_getf iX8_barn_86 fX8_13 (wm) (mF_10 _ _) (by decide) ?_
      refine z_iload_n iX8_barn_89 rfl ?_
      refine z_aload_n iX8_barn_90 rfl ?_
      refine z_getf iX8_barn_91 fX8_7 (wm) (mF_0 _ _) (by decide) ?_
      refine z_iconst iX8_barn_94 zk_4 ?_
      refine z_iload_n iX8_barn_95 rfl ?_
      refine z_imul iX8_barn_96 ?_
      refine z_top nix_mul ?_
      refine z_iaload iX8_barn_97 (wm0) rfl (by omega) (by decide) (by decide) ?_
      refine z_csi (y1 := mX8_kindBy) iX8_barn_98 lX8_89 kX8_kindBy rfl (c_kindBy G _ _) rfl rfl (Nat.le_of_ble_eq_true rfl) ?_
      rw [ek, oI_some]
      refine z_top (v := nI (rK (rF x 0 (4 * k)))) (by rw [ek2]) ?_
      refine z_iastore iX8_barn_101 (wm10) rfl (by omega) (by decide) (by decide) (by decide) ?_
      rw [upd_nI, wm_10]
      refine z_aload_n iX8_barn_102 rfl ?_
      refine z_getf iX8_barn_103 fX8_25 (wm) (mF_14 _ _) (by decide) ?_
      refine z_iload_n iX8_barn_106 rfl ?_
      refine z_aload_n iX8_barn_107 rfl ?_
      refine z_getf iX8_barn_108 fX8_7 (wm) (mF_0 _ _) (by decide) ?_
      refine z_iconst iX8_barn_111 zk_4 ?_
      refine z_iload_n iX8_barn_112 rfl ?_
      refine z_imul iX8_barn_113 ?_
      refine z_top nix_mul ?_
      refine z_iconst iX8_barn_114 zk_1 ?_
      refine z_iadd iX8_barn_115 ?_
      refine z_top nix_add ?_
      refine z_iaload iX8_barn_116 (wm0) rfl (by omega) (by decide) (by decide) ?_
      refine z_bipush iX8_barn_117 zb_48 ?_
      refine z_isub iX8_barn_119 ?_
      refine z_iastore iX8_barn_120 (wm14) rfl (by omega) (by decide) (by decide) (by decide) ?_
      rw [wm_14]
      refine z_aload_n iX8_barn_121 rfl ?_
      refine z_getf iX8_barn_122 fX8_28 (wm) (mF_15 _ _) (by decide) ?_
      refine z_iload_n iX8_barn_125 rfl ?_
      refine z_aload_n iX8_barn_126 rfl ?_
      refine z_getf iX8_barn_127 fX8_7 (wm) (mF_0 _ _) (by decide) ?_
      refine z_iconst iX8_barn_130 zk_4 ?_
      refine z_iload_n iX8_barn_131 rfl ?_
      refine z_imul iX8_barn_132 ?_
      refine z_top nix_mul ?_
      refine z_iconst iX8_barn_133 zk_2 ?_
      refine z_iadd iX8_barn_134 ?_
      refine z_top nix_add ?_
      refine z_iaload iX8_barn_135 (wm0) rfl (by omega) (by decide) (by decide) ?_
      refine z_bipush iX8_barn_136 zb_48 ?_
      refine z_isub iX8_barn_138 ?_
      refine z_iastore iX8_barn_139 (wm15) rfl (by omega) (by decide) (by decide) (by decide) ?_
      rw [wm_15]
      refine z_aload_n iX8_barn_140 rfl ?_
      refine z_getf iX8_barn_141 fX8_31 (wm) (mF_16 _ _) (by decide) ?_
      refine z_iload_n iX8_barn_144 rfl ?_
      refine z_iconst iX8_barn_145 zk_0 ?_
      refine z_iastore iX8_barn_146 (wm16) rfl (by omega) (by decide) (by decide) (by decide) ?_
      rw [wm_16]
      refine z_aload_n iX8_barn_147 rfl ?_
      refine z_getf iX8_barn_148 fX8_16 (wm) (mF_11 _ _) (by decide) ?_
      refine z_iload_n iX8_barn_151 rfl ?_
      refine z_iload_n iX8_barn_152 rfl ?_
      refine z_iastore iX8_barn_153 (wm11) rfl (by omega) (by decide) (by decide) (by decide) ?_
      rw [upd_nI, wm_11]
      refine z_heap (g2 := wW pg nw kp sn ks fo ft fe gt mx re (mR5 k b x) hh) rfl ?_
      have o1 : rA (mR5 k b x) 12 b = rA x 12 b := rfl
      refine z_aload_n iX8_barn_154 rfl ?_
      refine z_getf iX8_barn_155 fX8_22 (wm) (mF_13 _ _) (by decide) ?_
      refine z_iconst iX8_barn_158 zk_4 ?_
      refine z_iload_n iX8_barn_159 rfl ?_
      refine z_imul iX8_barn_160 ?_
      refine z_top nix_mul ?_
      refine z_aload_n iX8_barn_161 rfl ?_
      refine z_getf iX8_barn_162 fX8_19 (wm) (mF_12 _ _) (by decide) ?_
      refine z_iload_n iX8_barn_165 rfl ?_
      refine z_iaload iX8_barn_166 (wm12) rfl (by omega) (by decide) (by decide) ?_
      refine z_iadd iX8_barn_167 ?_
      refine z_top nix_add ?_
      refine z_iload_n iX8_barn_168 rfl ?_
      refine z_iastore iX8_barn_169 (wm13) rfl (by omega) (by decide) (by decide) (by decide) ?_
      rw [upd_nI, wm_13]
      refine z_heap (g2 := wW pg nw kp sn ks fo ft fe gt mx re (mR6 k b x) hh) rfl ?_
      have o2 : rA (mR6 k b x) 12 b = rA x 12 b := rfl
      refine z_aload_n iX8_barn_170 rfl ?_
      refine z_getf iX8_barn_171 fX8_19 (wm) (mF_12 _ _) (by decide) ?_
      refine z_iload_n iX8_barn_174 rfl ?_
      refine z_dup2 iX8_barn_175 rfl rfl ?_
      refine z_iaload iX8_barn_176 (wm12) rfl (by omega) (by decide) (by decide) ?_
      refine z_iconst iX8_barn_177 zk_1 ?_
      refine z_iadd iX8_barn_178 ?_
      refine z_top nix_add ?_
      refine z_iastore iX8_barn_179 (wm12) rfl (by omega) (by decide) (by decide) (by decide) ?_
      rw [upd_nI, wm_12]
      refine z_heap (g2 := wW pg nw kp sn ks fo ft fe gt mx re (mRx k b x) hh) rfl ?_
      have o3 : rN (mRx k b x) 5 = rN x 5 := rfl
      refine z_iload_n iX8_barn_180 rfl ?_
      refine z_iload_n iX8_barn_181 rfl ?_
      refine z_iconst iX8_barn_182 zk_1 ?_
      refine z_iadd iX8_barn_183 ?_
      refine z_top nix_add ?_
      refine z_aload_n iX8_barn_184 rfl ?_
      refine z_getf iX8_barn_185 fX8_113 (wm) (mF_5 _ _) (by decide) ?_
      refine zn_ge iX8_barn_188 (by omega) (by omega) (fun q188 => ?_) (fun q188 => absurd q188 (by omega))
      refine z_iconst iX8_barn_210 zk_0 ?_
      refine z_iadd iX8_barn_211 ?_
      refine z_top nix_add ?_
      refine z_istore_n iX8_barn_212 rfl (by decide) ?_
      refine z_iinc iX8_barn_213 rfl nix_inc rfl (by decide) ?_
      refine z_goto iX8_barn_216 ?_
      exact hz
set_option maxRecDepth 20000 in
set_option maxHeartbeats 1000000 in
theorem cm_barn3 (G : zG) (pg nw kp sn ks fo ft fe gt mx : zs) (re : Nat → Int64) (m : zs) (hh : Int64) (hz : rN m 1 ≤ 38) (h : rN m 1 % 4 = 3) (hf : (mFault m).1 = rN m 1) (h2 : ¬ rN (mFault m).2 2 < 2) (h3 : rN (mFault m).2 2 < 100) (hg : mRg ((rN m 1 + 1) / 4) 0 0 (mB0 (mFault m).2)) : zK G mX8_barn [.ref 49] (wW pg nw kp sn ks fo ft fe gt mx re m hh) (some (.int (nI ((rN m 1 + 1) / 4)))) (wW pg nw kp sn ks fo ft fe gt mx re (mBE (mRun ((rN m 1 + 1) / 4) 0 0 (mB0 (mFault m).2))) hh) := by
  have e1 : rN (mFault m).2 1 = rN m 1 := (mFault_F m).2.1 1 (by decide) (by decide)
  refine zK_of 2 rfl (by decide) trivial (Nat.le_of_ble_eq_true rfl) rfl ?_
  refine z_aload_n iX8_barn_0 rfl ?_
  refine z_getf iX8_barn_1 fX8_83 (wm) (mF_1 _ _) (by decide) ?_
  refine z_iconst iX8_barn_4 zk_4 ?_
  refine z_irem iX8_barn_5 (by decide +kernel) ?_
  refine z_top (nix_rem (by omega) (by omega) (by omega)) ?_
  refine z_iconst iX8_barn_6 zk_3 ?_
  refine zn_ne iX8_barn_7 (by omega) (by omega) (fun q7 => absurd h q7) (fun q7 => ?_)
  refine z_aload_n iX8_barn_10 rfl ?_
  refine z_cvi (y1 := mX8_faultOf) iX8_barn_11 lX8_106 kX8_faultOf rfl (cm_faultOf G pg nw kp sn ks fo ft fe gt mx re m hh hz) (wm) rfl rfl rfl (Nat.le_of_ble_eq_true rfl) (by decide) ?_
  refine z_aload_n iX8_barn_14 rfl ?_
  refine z_getf iX8_barn_15 fX8_83 (wm) (mF_1 _ _) (by decide) ?_
  refine zn_lt iX8_barn_18 (by omega) (by omega) (fun q18 => absurd q18 (by omega)) (fun q18 => ?_)
  refine z_aload_n iX8_barn_21 rfl ?_
  refine z_getf iX8_barn_22 fX8_99 (wm) (mF_2 _ _) (by decide) ?_
  refine z_iconst iX8_barn_25 zk_2 ?_
  refine zn_ge iX8_barn_26 (by omega) (by omega) (fun q26 => ?_) (fun q26 => absurd q26 (by omega))
  refine z_aload_n iX8_barn_32 rfl ?_
  refine z_aload_n iX8_barn_33 rfl ?_
  refine z_getf iX8_barn_34 fX8_99 (wm) (mF_2 _ _) (by decide) ?_
  refine z_putf iX8_barn_37 fX8_110 (wm) rfl rfl (Nat.le_of_ble_eq_true rfl) (by decide) ?_
  rw [wm_4]
  refine z_aload_n iX8_barn_40 rfl ?_
  refine z_aload_n iX8_barn_41 rfl ?_
  refine z_getf iX8_barn_42 fX8_83 (wm) (mF_1 _ _) (by decide) ?_
  refine z_iconst iX8_barn_45 zk_1 ?_
  refine z_iadd iX8_barn_46 ?_
  refine z_top nix_add ?_
  refine z_iconst iX8_barn_47 zk_4 ?_
  have o1 : rN (uN (mFault m).2 4 (rN (mFault m).2 2)) 1 = rN m 1 := e1
  refine z_idiv iX8_barn_48 (by decide +kernel) ?_
  refine z_top (nix_div (by omega) (by omega) (by omega)) ?_
  refine z_putf iX8_barn_49 fX8_113 (wm) rfl rfl (Nat.le_of_ble_eq_true rfl) (by decide) ?_
  rw [wm_5]
  refine z_iconst iX8_barn_52 zk_0 ?_
  refine z_istore_n iX8_barn_53 rfl (by decide) ?_
  refine z_aload_n iX8_barn_54 rfl ?_
  refine z_getf iX8_barn_55 fX8_19 (wm) (mF_12 _ _) (by decide) ?_
  refine z_iconst iX8_barn_58 zk_0 ?_
  refine z_iconst iX8_barn_59 zk_0 ?_
  refine z_iastore iX8_barn_60 (wm12) rfl (by omega) (by decide) (by decide) (by decide) ?_
  rw [upd_nI, wm_12]
  refine z_aload_n iX8_barn_61 rfl ?_
  refine z_getf iX8_barn_62 fX8_19 (wm) (mF_12 _ _) (by decide) ?_
  refine z_iconst iX8_barn_65 zk_1 ?_
  refine z_iconst iX8_barn_66 zk_0 ?_
  refine z_iastore iX8_barn_67 (wm12) rfl (by omega) (by decide) (by decide) (by decide) ?_
  rw [upd_nI, wm_12]
  refine z_aload_n iX8_barn_68 rfl ?_
  refine z_getf iX8_barn_69 fX8_19 (wm) (mF_12 _ _) (by decide) ?_
  refine z_iconst iX8_barn_72 zk_2 ?_
  refine z_iconst iX8_barn_73 zk_0 ?_
  refine z_iastore iX8_barn_74 (wm12) rfl (by omega) (by decide) (by decide) (by decide) ?_
  rw [upd_nI, wm_12]
  refine z_iconst iX8_barn_75 zk_0 ?_
  refine z_istore_n iX8_barn_76 rfl (by decide) ?_
  have e2 : (rN m 1 + 1) / 4 = rN (mB0 (mFault m).2) 5 := by rw [← e1]; rfl
  refine z_heap (g2 := wW pg nw kp sn ks fo ft fe gt mx re (mB0 (mFault m).2) hh) rfl ?_
  rw [e2] at hg ⊢
  exact lpm_read G pg nw kp sn ks fo ft fe gt mx re hh _ 0 0 _ hg (Nat.zero_add _) (by rw [← e2]; omega)
