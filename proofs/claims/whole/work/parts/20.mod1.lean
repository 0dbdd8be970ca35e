def xIn (k : Int32) (a b : Nat) : Bool := decide (nI a ≤ k) && decide (k ≤ nI b)
theorem wide_le (a b : Int32) : a.toInt64 ≤ b.toInt64 ↔ a ≤ b := by
  rw [Int64.le_iff_toInt_le, Int32.le_iff_toInt_le, Int32.toInt_toInt64, Int32.toInt_toInt64]
set_option maxRecDepth 20000 in
set_option maxHeartbeats 1000000 in
theorem c_in (G : zG) (g : zh) (v a b : Int64) : zK G mX8_in [.long v, .long a, .long b] g (some (.int (zbo (decide (a ≤ v) && decide (v ≤ b))))) g := by
  refine zK_of 0 rfl (by decide) (zbo_n _) (Nat.le_of_ble_eq_true rfl) rfl ?_
  refine z_lload_n iX8_in_0 rfl ?_
  refine z_lload_n iX8_in_1 rfl ?_
  refine z_lcmp iX8_in_2 ?_
  refine z_if_lt iX8_in_3 (fun q3 => ?_) (fun q3 => ?_)
  · refine z_iconst iX8_in_17 zk_0 ?_
    exact z_ireturn iX8_in_18 (by first | (refine zbo_f ?_; simp [Int64.not_le.mpr ((lg_cmp_lt _ _).mp q3)]; done) | (refine zbo_f ?_; simp [Int64.not_le.mpr ((lg_cmp_gt _ _).mp q10)]; done) | (refine zbo_t ?_; simp [Int64.not_lt.mp (fun z => q3 ((lg_cmp_lt _ _).mpr z)), Int64.not_lt.mp (fun z => q10 ((lg_cmp_gt _ _).mpr z))]; done)) (rfl)
  · refine z_lload_n iX8_in_6 rfl ?_
    refine z_lload iX8_in_7 rfl ?_
    refine z_lcmp iX8_in_9 ?_
    refine z_if_gt iX8_in_10 (fun q10 => ?_) (fun q10 => ?_)
    · refine z_iconst iX8_in_17 zk_0 ?_
      exact z_ireturn iX8_in_18 (by first | (refine zbo_f ?_; simp [Int64.not_le.mpr ((lg_cmp_lt _ _).mp q3)]; done) | (refine zbo_f ?_; simp [Int64.not_le.mpr ((lg_cmp_gt _ _).mp q10)]; done) | (refine zbo_t ?_; simp [Int64.not_lt.mp (fun z => q3 ((lg_cmp_lt _ _).mpr z)), Int64.not_lt.mp (fun z => q10 ((lg_cmp_gt _ _).mpr z))]; done)) (rfl)
    · refine z_iconst iX8_in_13 zk_1 ?_
      refine z_goto iX8_in_14 ?_
      exact z_ireturn iX8_in_18 (by first | (refine zbo_f ?_; simp [Int64.not_le.mpr ((lg_cmp_lt _ _).mp q3)]; done) | (refine zbo_f ?_; simp [Int64.not_le.mpr ((lg_cmp_gt _ _).mp q10)]; done) | (refine zbo_t ?_; simp [Int64.not_lt.mp (fun z => q3 ((lg_cmp_lt _ _).mpr z)), Int64.not_lt.mp (fun z => q10 ((lg_cmp_gt _ _).mpr z))]; done)) (rfl)
theorem c_in32 (G : zG) (g : zh) (k : Int32) (a b : Nat) {A B : Int64} (hA : A = (nI a).toInt64) (hB : B = (nI b).toInt64) : zK G mX8_in [.long k.toInt64, .long A, .long B] g (some (.int (zbo (xIn k a b)))) g := by
  have h := c_in G g k.toInt64 A B
  have e : (decide (A ≤ k.toInt64) && decide (k.toInt64 ≤ B)) = xIn k a b := by
    subst hA
    subst hB
    simp only [xIn, wide_le]
  rw [e] at h
  exact h
theorem xNo_in {k : Int32} {n : Nat} (hn : n < 2 ^ 31) : (decide ((0 : Int64) ≤ k.toInt64) && decide (k.toInt64 ≤ (nI n - nI 1).toInt64)) = !xNo k n := by
  have h0 : (0 : Int64) = (0 : Int32).toInt64 := by decide +kernel
  have h3 : ((0 : Int64) ≤ k.toInt64) ↔ 0 ≤ k := by rw [h0]; exact wide_le _ _
  have h1 : (k ≤ nI n - nI 1) ↔ k < nI n := by
    rw [Int32.le_iff_toInt_le, Int32.lt_iff_toInt_lt]
    cases n with
    | zero =>
      have e1 : (nI 0 - nI 1).toInt = -1 := by decide +kernel
      have e2 : (nI 0).toInt = 0 := by decide +kernel
      rw [e1, e2]
      omega
    | succ n =>
      have e1 : nI (n + 1) - nI 1 = nI n := nI_pred n
      rw [e1, nI_toInt (by omega), nI_toInt (by omega)]
      omega
  have h2 : (0 ≤ k) ↔ ¬ k < 0 := Int32.not_lt.symm
  simp only [xNo, h3, wide_le, h1, h2]
  by_cases a : k < 0 <;> by_cases b : k < nI n <;> simp [a, b]
theorem zup_up (g : zh) (k : Nat) (c d : zc) : zup (zup g k c) k d = zup g k d := by
  funext j
  unfold zup
  split <;> rfl
set_option maxRecDepth 20000 in
set_option maxHeartbeats 1000000 in
theorem lp_mcopy (G : zG) (g : zh) (a b n : Nat) (f : Nat → Int32) (ha : g a = zI n f) (hab : a ≠ b) (hka : a ≠ 1000) (hkb : b ≠ 1000) (hn : n < 1000) : ∀ (k i : Nat) (h : Nat → Int32), i + k = n → (∀ j, j < i → h j = f j) → zS G mX8_copy 2 [some (.ref a), some (.ref b), some (.int (nI i))] [] (zup g b (zI n h)) none (zup g b (zI n f)) := by
  intro k
  induction k with
  | zero =>
    intro i h hi hj
    refine z_same (fun j q => hj j (by omega)) ?_
    refine z_iload_n iX8_copy_2 rfl ?_
    refine z_aload_n iX8_copy_3 rfl ?_
    refine z_alen iX8_copy_4 (show zup g b (zI n f) a = zI n f by rw [zup_n _ _ hab]; exact ha) (hka) ?_
    refine zn_ge iX8_copy_5 (by omega) (by omega) (fun q5 => ?_) (fun q5 => absurd q5 (by omega))
    exact z_return iX8_copy_20 (rfl)
  | succ k ih =>
    intro i h hi hj
    refine z_iload_n iX8_copy_2 rfl ?_
    refine z_aload_n iX8_copy_3 rfl ?_
    refine z_alen iX8_copy_4 (show zup g b (zI n h) a = zI n f by rw [zup_n _ _ hab]; exact ha) (hka) ?_
    refine zn_ge iX8_copy_5 (by omega) (by omega) (fun q5 => absurd q5 (by omega)) (fun q5 => ?_)
    refine z_aload_n iX8_copy_8 rfl ?_
    refine z_iload_n iX8_copy_9 rfl ?_
    refine z_aload_n iX8_copy_10 rfl ?_
    refine z_iload_n iX8_copy_11 rfl ?_
    refine z_iaload iX8_copy_12 (show zup g b (zI n h) a = zI n f by rw [zup_n _ _ hab]; exact ha) rfl (by omega) (by omega) (hka) ?_
    refine z_iastore iX8_copy_13 (zup_s _ _ _) rfl (by omega) (by omega) (hkb) (by decide) ?_
    rw [zup_up]
    refine z_iinc iX8_copy_14 rfl nix_inc rfl (by decide) ?_
    refine z_goto iX8_copy_17 ?_
    refine ih (i + 1) _ (by omega) (fun j q => ?_)
    unfold upd
    split
    · rename_i e; rw [e]
    · exact hj j (by omega)
set_option maxRecDepth 20000 in
set_option maxHeartbeats 1000000 in
theorem c_mcopy (G : zG) (g : zh) (a b n : Nat) (f f2 : Nat → Int32) (ha : g a = zI n f) (hb : g b = zI n f2) (hab : a ≠ b) (hka : a ≠ 1000) (hkb : b ≠ 1000) (hn : n < 1000) : zK G mX8_copy [.ref a, .ref b] g none (zup g b (zI n f)) := by
  have e : g = zup g b (zI n f2) := by
    funext j
    unfold zup
    split
    · rename_i h; rw [h]; exact hb
    · rfl
  refine zK_of 1 rfl (by decide) trivial (Nat.le_of_ble_eq_true rfl) rfl ?_
  refine z_iconst iX8_copy_0 zk_0 ?_
  refine z_istore_n iX8_copy_1 rfl (by decide) ?_
  refine z_heap e ?_
  exact lp_mcopy G g a b n f ha hab hka hkb hn n 0 f2 (Nat.zero_add _) (fun j q => absurd q (Nat.not_lt_zero _))
set_option maxRecDepth 20000 in
set_option maxHeartbeats 1000000 in
theorem cm_letter0 (G : zG) (pg nw kp sn ks fo ft fe gt mx : zs) (re : Nat → Int64) (m : zs) (hh : Int64) (k : Int32) (h : xIn k 1 126 = false) : zK G mX8_letter [.ref 49, .int k] (wW pg nw kp sn ks fo ft fe gt mx re m hh) (some (.int (-102))) (wW pg nw kp sn ks fo ft fe gt mx re m hh) := by
  refine zK_of 0 rfl (by decide) trivial (Nat.le_of_ble_eq_true rfl) rfl ?_
  refine z_iload_n iX8_letter_0 rfl ?_
  refine z_i2l iX8_letter_1 ?_
  refine z_lconst iX8_letter_2 zl_1 ?_
  refine z_ldc2 iX8_letter_3 gX8_77 ?_
  refine z_csi (y1 := mX8_in) iX8_letter_6 lX8_79 kX8_in rfl (c_in32 G _ k 1 126 (by decide +kernel) (by decide +kernel)) rfl rfl (Nat.le_of_ble_eq_true rfl) ?_
  refine zb_if_ne iX8_letter_9 (fun q9 => absurd (q9.symm.trans h) (by decide)) (fun q9 => ?_)
  refine z_bipush iX8_letter_12 zb_m102 ?_
  exact z_ireturn iX8_letter_14 (rfl) (rfl)
set_option maxRecDepth 20000 in
set_option maxHeartbeats 1000000 in
theorem cm_letter1 (G : zG) (pg nw kp sn ks fo ft fe gt mx : zs) (re : Nat → Int64) (m : zs) (hh : Int64) (k : Int32) (h : xIn k 1 126 = true) (hz : rN m 1 = 38) : zK G mX8_letter [.ref 49, .int k] (wW pg nw kp sn ks fo ft fe gt mx re m hh) (some (.int (-104))) (wW pg nw kp sn ks fo ft fe gt mx re m hh) := by
  refine zK_of 0 rfl (by decide) trivial (Nat.le_of_ble_eq_true rfl) rfl ?_
  refine z_iload_n iX8_letter_0 rfl ?_
  refine z_i2l iX8_letter_1 ?_
  refine z_lconst iX8_letter_2 zl_1 ?_
  refine z_ldc2 iX8_letter_3 gX8_77 ?_
  refine z_csi (y1 := mX8_in) iX8_letter_6 lX8_79 kX8_in rfl (c_in32 G _ k 1 126 (by decide +kernel) (by decide +kernel)) rfl rfl (Nat.le_of_ble_eq_true rfl) ?_
  refine zb_if_ne iX8_letter_9 (fun q9 => ?_) (fun q9 => absurd (q9.symm.trans h) (by decide))
  refine z_aload_n iX8_letter_15 rfl ?_
  refine z_getf iX8_letter_16 fX8_83 (wm) (mF_1 _ _) (by decide) ?_
  refine z_bipush iX8_letter_19 zb_38 ?_
  refine zn_ne iX8_letter_21 (by omega) (by omega) (fun q21 => absurd q21 (by omega)) (fun q21 => ?_)
  refine z_bipush iX8_letter_24 zb_m104 ?_
  exact z_ireturn iX8_letter_26 (rfl) (rfl)
set_option maxRecDepth 20000 in
set_option maxHeartbeats 1000000 in
theorem cm_letter2 (G : zG) (pg nw kp sn ks fo ft fe gt mx : zs) (re : Nat → Int64) (m : zs) (hh : Int64) (k : Int32) (h : xIn k 1 126 = true) (hz : rN m 1 < 38) : zK G mX8_letter [.ref 49, .int k] (wW pg nw kp sn ks fo ft fe gt mx re m hh) (some (.int (nI (rN m 1 + 1)))) (wW pg nw kp sn ks fo ft fe gt mx re (uN (uF m 0 (upd (rF m 0) (rN m 1) k)) 1 (rN m 1 + 1)) hh) := by
  refine zK_of 0 rfl (by decide) trivial (Nat.le_of_ble_eq_true rfl) rfl ?_
  refine z_iload_n iX8_letter_0 rfl ?_
  refine z_i2l iX8_letter_1 ?_
  refine z_lconst iX8_letter_2 zl_1 ?_
  refine z_ldc2 iX8_letter_3 gX8_77 ?_
  refine z_csi (y1 := mX8_in) iX8_letter_6 lX8_79 kX8_in rfl (c_in32 G _ k 1 126 (by decide +kernel) (by decide +kernel)) rfl rfl (Nat.le_of_ble_eq_true rfl) ?_
  refine zb_if_ne iX8_letter_9 (fun q9 => ?_) (fun q9 => absurd (q9.symm.trans h) (by decide))
  refine z_aload_n iX8_letter_15 rfl ?_
  refine z_getf iX8_letter_16 fX8_83 (wm) (mF_1 _ _) (by decide) ?_
  refine z_bipush iX8_letter_19 zb_38 ?_
  refine zn_ne iX8_letter_21 (by omega) (by omega) (fun q21 => ?_) (fun q21 => absurd q21 (by omega))
  refine z_aload_n iX8_letter_27 rfl ?_
  refine z_getf iX8_letter_28 fX8_7 (wm) (mF_0 _ _) (by decide) ?_
  refine z_aload_n iX8_letter_31 rfl ?_
  refine z_getf iX8_letter_32 fX8_83 (wm) (mF_1 _ _) (by decide) ?_
  refine z_iload_n iX8_letter_35 rfl ?_
  refine z_iastore iX8_letter_36 (wm0) rfl (by omega) (by decide) (by decide) (by decide) ?_
  rw [wm_0]
  refine z_aload_n iX8_letter_37 rfl ?_
  refine z_dup iX8_letter_38 rfl ?_
  refine z_getf iX8_letter_39 fX8_83 (wm) (mF_1 _ _) (by decide) ?_
  refine z_iconst iX8_letter_42 zk_1 ?_
  refine z_iadd iX8_letter_43 ?_
  refine z_top nix_add ?_
  refine z_putf iX8_letter_44 fX8_83 (wm) rfl rfl (Nat.le_of_ble_eq_true rfl) (by decide) ?_
  rw [wm_1]
  refine z_aload_n iX8_letter_47 rfl ?_
  refine z_getf iX8_letter_48 fX8_83 (wm) (mF_1 _ _) (by decide) ?_
  exact z_ireturn iX8_letter_51 (rfl) (rfl)
set_option maxRecDepth 20000 in
set_option maxHeartbeats 1000000 in
theorem cm_blank (G : zG) (pg nw kp sn ks fo ft fe gt mx : zs) (re : Nat → Int64) (m : zs) (hh : Int64)  : zK G mX8_blank [.ref 49] (wW pg nw kp sn ks fo ft fe gt mx re m hh) (some (.int (nI (rN m 1)))) (wW pg nw kp sn ks fo ft fe gt mx re (uN m 1 0) hh) := by
  refine zK_of 1 rfl (by decide) trivial (Nat.le_of_ble_eq_true rfl) rfl ?_
  refine z_aload_n iX8_blank_0 rfl ?_
  refine z_getf iX8_blank_1 fX8_83 (wm) (mF_1 _ _) (by decide) ?_
  refine z_istore_n iX8_blank_4 rfl (by decide) ?_
  refine z_aload_n iX8_blank_5 rfl ?_
  refine z_iconst iX8_blank_6 zk_0 ?_
  refine z_putf iX8_blank_7 fX8_83 (wm) rfl rfl (Nat.le_of_ble_eq_true rfl) (by decide) ?_
  rw [wm_1]
  refine z_iload_n iX8_blank_10 rfl ?_
  exact z_ireturn iX8_blank_11 (rfl) (rfl)
set_option maxRecDepth 20000 in
set_option maxHeartbeats 1000000 in
theorem c_kindBy (G : zG) (g : zh) (c : Int32) : zK G mX8_kindBy [.int c] g (some (.int (oI (kOf c)))) g := by
  refine zK_of 0 rfl (by decide) trivial (Nat.le_of_ble_eq_true rfl) rfl ?_
  refine z_iload_n iX8_kindBy_0 rfl ?_
  by_cases c1_97 : c = nI 97
  · refine z_lookup (off := 59) (tgt := 60) iX8_kindBy_1 (by decide +kernel) (by rw [c1_97]; decide +kernel) (by decide) ?_
    refine z_iconst iX8_kindBy_60 zk_4 ?_
    exact z_ireturn iX8_kindBy_61 (by simp only [kOf]; simp [*, oI] <;> rfl) (rfl)
  by_cases c1_99 : c = nI 99
  · refine z_lookup (off := 55) (tgt := 56) iX8_kindBy_1 (by decide +kernel) (by rw [c1_99]; decide +kernel) (by decide) ?_
    refine z_iconst iX8_kindBy_56 zk_2 ?_
    exact z_ireturn iX8_kindBy_57 (by simp only [kOf]; simp [*, oI] <;> rfl) (rfl)
  by_cases c1_109 : c = nI 109
  · refine z_lookup (off := 57) (tgt := 58) iX8_kindBy_1 (by decide +kernel) (by rw [c1_109]; decide +kernel) (by decide) ?_
    refine z_iconst iX8_kindBy_58 zk_3 ?_
    exact z_ireturn iX8_kindBy_59 (by simp only [kOf]; simp [*, oI] <;> rfl) (rfl)
  by_cases c1_111 : c = nI 111
  · refine z_lookup (off := 53) (tgt := 54) iX8_kindBy_1 (by decide +kernel) (by rw [c1_111]; decide +kernel) (by decide) ?_
    refine z_iconst iX8_kindBy_54 zk_1 ?_
    exact z_ireturn iX8_kindBy_55 (by simp only [kOf]; simp [*, oI] <;> rfl) (rfl)
  by_cases c1_115 : c = nI 115
  · refine z_lookup (off := 51) (tgt := 52) iX8_kindBy_1 (by decide +kernel) (by rw [c1_115]; decide +kernel) (by decide) ?_
    refine z_iconst iX8_kindBy_52 zk_0 ?_
    exact z_ireturn iX8_kindBy_53 (by simp only [kOf]; simp [*, oI] <;> rfl) (rfl)
  refine z_lookup (off := 61) (tgt := 62) iX8_kindBy_1 (by decide +kernel) (by simp [Op.lookupswitch.offset, zne c1_97 97 rfl, zne c1_99 99 rfl, zne c1_109 109 rfl, zne c1_111 111 rfl, zne c1_115 115 rfl]) (by decide) ?_
  refine z_iconst iX8_kindBy_62 zk_m1 ?_
  exact z_ireturn iX8_kindBy_63 (by simp only [kOf]; simp [*, oI] <;> rfl) (rfl)
def mGood (p : Nat) (c : Int32) (m : zs) : Bool := if p % 4 = 0 then decide (kOf c ≠ none) else if p % 4 = 1 then xIn c 49 57 else if p % 4 = 2 then xIn c 48 57 else if c = nI 59 ∧ rN m 2 < 3 then true else decide (c = nI 44 ∧ rN m 3 < 3)
def mGoodS (p : Nat) (c : Int32) (m : zs) : zs := if p % 4 = 0 then uN m 3 (rN m 3 + 1) else if p % 4 = 1 then m else if p % 4 = 2 then m else if c = nI 59 ∧ rN m 2 < 3 then uN (uN m 2 (rN m 2 + 1)) 3 0 else m
set_option maxRecDepth 20000 in
set_option maxHeartbeats 1000000 in
theorem cm_isGood (G : zG) (pg nw kp sn ks fo ft fe gt mx : zs) (re : Nat → Int64) (m : zs) (hh : Int64) (p : Nat) (c : Int32) (hp : p < 2 ^ 31) (h2 : rN m 2 < 2 ^ 31) (h3 : rN m 3 < 2 ^ 31) : zK G mX8_isGood [.ref 49, .int (nI p), .int c] (wW pg nw kp sn ks fo ft fe gt mx re m hh) (some (.int (zbo (mGood p c m)))) (wW pg nw kp sn ks fo ft fe gt mx re (mGoodS p c m) hh) := by
  refine zK_of 0 rfl (by decide) (zbo_n _) (Nat.le_of_ble_eq_true rfl) rfl ?_
  refine z_iload_n iX8_isGood_0 rfl ?_
  refine z_iconst iX8_isGood_1 zk_4 ?_
  refine z_irem iX8_isGood_2 (by decide +kernel) ?_
  refine z_top (nix_rem (by omega) (by omega) (by omega)) ?_
  by_cases c3_0 : p % 4 = 0
  · refine z_tabIn (off := 25) (tgt := 28) iX8_isGood_3 (by rw [c3_0]; decide +kernel) (by rw [c3_0]; decide +kernel) (by rw [c3_0]; decide +kernel) (by decide) ?_
    refine z_aload_n iX8_isGood_28 rfl ?_
    refine z_dup iX8_isGood_29 rfl ?_
    refine z_getf iX8_isGood_30 fX8_86 (wm) (mF_3 _ _) (by decide) ?_
    refine z_iconst iX8_isGood_33 zk_1 ?_
    refine z_iadd iX8_isGood_34 ?_
    refine z_top nix_add ?_
    refine z_putf iX8_isGood_35 fX8_86 (wm) rfl rfl (Nat.le_of_ble_eq_true rfl) (by decide) ?_
    rw [wm_3]
    refine z_iload_n iX8_isGood_38 rfl ?_
    refine z_csi (y1 := mX8_kindBy) iX8_isGood_39 lX8_89 kX8_kindBy rfl (c_kindBy G _ c) rfl rfl (Nat.le_of_ble_eq_true rfl) ?_
    refine z_iconst iX8_isGood_42 zk_m1 ?_
    refine z_icmp_eq iX8_isGood_43 (fun q43 => ?_) (fun q43 => ?_)
    · try rw [kOf_m1] at q43
      refine z_iconst iX8_isGood_50 zk_0 ?_
      exact z_ireturn iX8_isGood_51 (by first | exact absurd (q79.symm.trans q110) n59_44 | (refine zbo_t ?_; simp [mGood, *, n44_59, n59_44]; done) | (refine zbo_f ?_; simp [mGood, *, n44_59, n59_44]; done) | (refine zbo_f ?_; simp [mGood, *, n44_59, n59_44]; omega) | (refine zbo_t ?_; simp [mGood, *, n44_59, n59_44]; omega)) (by first | (simp [mGoodS, *, n44_59, n59_44]; done) | (rw [mGoodS, if_neg (by omega), if_neg (by omega), if_neg (by omega), if_neg (fun z => q79 z.1)]; done) | (rw [mGoodS, if_neg (by omega), if_neg (by omega), if_neg (by omega), if_neg (fun z => absurd z.2 (by omega))]; done))
    · rw [kOf_m1] at q43
      refine z_iconst iX8_isGood_46 zk_1 ?_
      refine z_goto iX8_isGood_47 ?_
      exact z_ireturn iX8_isGood_51 (by first | exact absurd (q79.symm.trans q110) n59_44 | (refine zbo_t ?_; simp [mGood, *, n44_59, n59_44]; done) | (refine zbo_f ?_; simp [mGood, *, n44_59, n59_44]; done) | (refine zbo_f ?_; simp [mGood, *, n44_59, n59_44]; omega) | (refine zbo_t ?_; simp [mGood, *, n44_59, n59_44]; omega)) (by first | (simp [mGoodS, *, n44_59, n59_44]; done) | (rw [mGoodS, if_neg (by omega), if_neg (by omega), if_neg (by omega), if_neg (fun z => q79 z.1)]; done) | (rw [mGoodS, if_neg (by omega), if_neg (by omega), if_neg (by omega), if_neg (fun z => absurd z.2 (by omega))]; done))
  by_cases c3_1 : p % 4 = 1
  · refine z_tabIn (off := 49) (tgt := 52) iX8_isGood_3 (by rw [c3_1]; decide +kernel) (by rw [c3_1]; decide +kernel) (by rw [c3_1]; decide +kernel) (by decide) ?_
    refine z_iload_n iX8_isGood_52 rfl ?_
    refine z_i2l iX8_isGood_53 ?_
    refine z_ldc2 iX8_isGood_54 gX8_93 ?_
    refine z_ldc2 iX8_isGood_57 gX8_95 ?_
    refine z_csi (y1 := mX8_in) iX8_isGood_60 lX8_79 kX8_in rfl (c_in32 G _ c 49 57 (by decide +kernel) (by decide +kernel)) rfl rfl (Nat.le_of_ble_eq_true rfl) ?_
    exact z_ireturn iX8_isGood_63 (by simp [mGood, *]) (by first | (simp [mGoodS, *, n44_59, n59_44]; done) | (rw [mGoodS, if_neg (by omega), if_neg (by omega), if_neg (by omega), if_neg (fun z => q79 z.1)]; done) | (rw [mGoodS, if_neg (by omega), if_neg (by omega), if_neg (by omega), if_neg (fun z => absurd z.2 (by omega))]; done))
  by_cases c3_2 : p % 4 = 2
  · refine z_tabIn (off := 61) (tgt := 64) iX8_isGood_3 (by rw [c3_2]; decide +kernel) (by rw [c3_2]; decide +kernel) (by rw [c3_2]; decide +kernel) (by decide) ?_
    refine z_iload_n iX8_isGood_64 rfl ?_
    refine z_i2l iX8_isGood_65 ?_
    refine z_ldc2 iX8_isGood_66 gX8_97 ?_
    refine z_ldc2 iX8_isGood_69 gX8_95 ?_
    refine z_csi (y1 := mX8_in) iX8_isGood_72 lX8_79 kX8_in rfl (c_in32 G _ c 48 57 (by decide +kernel) (by decide +kernel)) rfl rfl (Nat.le_of_ble_eq_true rfl) ?_
    exact z_ireturn iX8_isGood_75 (by simp [mGood, *]) (by first | (simp [mGoodS, *, n44_59, n59_44]; done) | (rw [mGoodS, if_neg (by omega), if_neg (by omega), if_neg (by omega), if_neg (fun z => q79 z.1)]; done) | (rw [mGoodS, if_neg (by omega), if_neg (by omega), if_neg (by omega), if_neg (fun z => absurd z.2 (by omega))]; done))
  refine z_tabOut (tgt := 76) iX8_isGood_3 (by rw [nI_toInt (by omega)]; omega) (by decide) ?_
  refine z_iload_n iX8_isGood_76 rfl ?_
  refine z_bipush iX8_isGood_77 zb_59 ?_
  refine z_icmp_ne iX8_isGood_79 (fun q79 => ?_) (fun q79 => ?_)
  · refine z_iload_n iX8_isGood_107 rfl ?_
    refine z_bipush iX8_isGood_108 zb_44 ?_
    refine z_icmp_ne iX8_isGood_110 (fun q110 => ?_) (fun q110 => ?_)
    · refine z_iconst iX8_isGood_125 zk_0 ?_
      exact z_ireturn iX8_isGood_126 (by first | exact absurd (q79.symm.trans q110) n59_44 | (refine zbo_t ?_; simp [mGood, *, n44_59, n59_44]; done) | (refine zbo_f ?_; simp [mGood, *, n44_59, n59_44]; done) | (refine zbo_f ?_; simp [mGood, *, n44_59, n59_44]; omega) | (refine zbo_t ?_; simp [mGood, *, n44_59, n59_44]; omega)) (by first | (simp [mGoodS, *, n44_59, n59_44]; done) | (rw [mGoodS, if_neg (by omega), if_neg (by omega), if_neg (by omega), if_neg (fun z => q79 z.1)]; done) | (rw [mGoodS, if_neg (by omega), if_neg (by omega), if_neg (by omega), if_neg (fun z => absurd z.2 (by omega))]; done))
    · refine z_aload_n iX8_isGood_113 rfl ?_
      refine z_getf iX8_isGood_114 fX8_86 (wm) (mF_3 _ _) (by decide) ?_
      refine z_iconst iX8_isGood_117 zk_3 ?_
      refine zn_ge iX8_isGood_118 (by omega) (by omega) (fun q118 => ?_) (fun q118 => ?_)
      · refine z_iconst iX8_isGood_125 zk_0 ?_
        exact z_ireturn iX8_isGood_126 (by first | exact absurd (q79.symm.trans q110) n59_44 | (refine zbo_t ?_; simp [mGood, *, n44_59, n59_44]; done) | (refine zbo_f ?_; simp [mGood, *, n44_59, n59_44]; done) | (refine zbo_f ?_; simp [mGood, *, n44_59, n59_44]; omega) | (refine zbo_t ?_; simp [mGood, *, n44_59, n59_44]; omega)) (by first | (simp [mGoodS, *, n44_59, n59_44]; done) | (rw [mGoodS, if_neg (by omega), if_neg (by omega), if_neg (by omega), if_neg (fun z => q79 z.1)]; done) | (rw [mGoodS, if_neg (by omega), if_neg (by omega), if_neg (by omega), if_neg (fun z => absurd z.2 (by omega))]; done))
      · refine z_iconst iX8_isGood_121 zk_1 ?_
        refine z_goto iX8_isGood_122 ?_
        exact z_ireturn iX8_isGood_126 (by first | exact absurd (q79.symm.trans q110) n59_44 | (refine zbo_t ?_; simp [mGood, *, n44_59, n59_44]; done) | (refine zbo_f ?_; simp [mGood, *, n44_59, n59_44]; done) | (refine zbo_f ?_; simp [mGood, *, n44_59, n59_44]; omega) | (refine zbo_t ?_; simp [mGood, *, n44_59, n59_44]; omega)) (by first | (simp [mGoodS, *, n44_59, n59_44]; done) | (rw [mGoodS, if_neg (by omega), if_neg (by omega), if_neg (by omega), if_neg (fun z => q79 z.1)]; done) | (rw [mGoodS, if_neg (by omega), if_neg (by omega), if_neg (by omega), if_neg (fun z => absurd z.2 (by omega))]; done))
  · refine z_aload_n iX8_isGood_82 rfl ?_
    refine z_getf iX8_isGood_83 fX8_99 (wm) (mF_2 _ _) (by decide) ?_
    refine z_iconst iX8_isGood_86 zk_3 ?_
    refine zn_ge iX8_isGood_87 (by omega) (by omega) (fun q87 => ?_) (fun q87 => ?_)
    · refine z_iload_n iX8_isGood_107 rfl ?_
      refine z_bipush iX8_isGood_108 zb_44 ?_
      refine z_icmp_ne iX8_isGood_110 (fun q110 => ?_) (fun q110 => ?_)
      · refine z_iconst iX8_isGood_125 zk_0 ?_
        exact z_ireturn iX8_isGood_126 (by first | exact absurd (q79.symm.trans q110) n59_44 | (refine zbo_t ?_; simp [mGood, *, n44_59, n59_44]; done) | (refine zbo_f ?_; simp [mGood, *, n44_59, n59_44]; done) | (refine zbo_f ?_; simp [mGood, *, n44_59, n59_44]; omega) | (refine zbo_t ?_; simp [mGood, *, n44_59, n59_44]; omega)) (by first | (simp [mGoodS, *, n44_59, n59_44]; done) | (rw [mGoodS, if_neg (by omega), if_neg (by omega), if_neg (by omega), if_neg (fun z => q79 z.1)]; done) | (rw [mGoodS, if_neg (by omega), if_neg (by omega), if_neg (by omega), if_neg (fun z => absurd z.2 (by omega))]; done))
      · refine z_aload_n iX8_isGood_113 rfl ?_
        refine z_getf iX8_isGood_114 fX8_86 (wm) (mF_3 _ _) (by decide) ?_
        refine z_iconst iX8_isGood_117 zk_3 ?_
        refine zn_ge iX8_isGood_118 (by omega) (by omega) (fun q118 => ?_) (fun q118 => ?_)
        · refine z_iconst iX8_isGood_125 zk_0 ?_
          exact z_ireturn iX8_isGood_126 (by first | exact absurd (q79.symm.trans q110) n59_44 | (refine zbo_t ?_; simp [mGood, *, n44_59, n59_44]; done) | (refine zbo_f ?_; simp [mGood, *, n44_59, n59_44]; done) | (refine zbo_f ?_; simp [mGood, *, n44_59, n59_44]; omega) | (refine zbo_t ?_; simp [mGood, *, n44_59, n59_44]; omega)) (by first | (simp [mGoodS, *, n44_59, n59_44]; done) | (rw [mGoodS, if_neg (by omega), if_neg (by omega), if_neg (by omega), if_neg (fun z => q79 z.1)]; done) | (rw [mGoodS, if_neg (by omega), if_neg (by omega), if_neg (by omega), if_neg (fun z => absurd z.2 (by omega))]; done))
        · refine z_iconst iX8_isGood_121 zk_1 ?_
          refine z_goto iX8_isGood_122 ?_
          exact z_ireturn iX8_isGood_126 (by first | exact absurd (q79.symm.trans q110) n59_44 | (refine zbo_t ?_; simp [mGood, *, n44_59, n59_44]; done) | (refine zbo_f ?_; simp [mGood, *, n44_59, n59_44]; done) | (refine zbo_f ?_; simp [mGood, *, n44_59, n59_44]; omega) | (refine zbo_t ?_; simp [mGood, *, n44_59, n59_44]; omega)) (by first | (simp [mGoodS, *, n44_59, n59_44]; done) | (rw [mGoodS, if_neg (by omega), if_neg (by omega), if_neg (by omega), if_neg (fun z => q79 z.1)]; done) | (rw [mGoodS, if_neg (by omega), if_neg (by omega), if_neg (by omega), if_neg (fun z => absurd z.2 (by omega))]; done))
    · refine z_aload_n iX8_isGood_90 rfl ?_
      refine z_dup iX8_isGood_91 rfl ?_
      refine z_getf iX8_isGood_92 fX8_99 (wm) (mF_2 _ _) (by decide) ?_
      refine z_iconst iX8_isGood_95 zk_1 ?_
      refine z_iadd iX8_isGood_96 ?_
      refine z_top nix_add ?_
      refine z_putf iX8_isGood_97 fX8_99 (wm) rfl rfl (Nat.le_of_ble_eq_true rfl) (by decide) ?_
      rw [wm_2]
      refine z_aload_n iX8_isGood_100 rfl ?_
      refine z_iconst iX8_isGood_101 zk_0 ?_
      refine z_putf iX8_isGood_102 fX8_86 (wm) rfl rfl (Nat.le_of_ble_eq_true rfl) (by decide) ?_
      rw [wm_3]
      refine z_iconst iX8_isGood_105 zk_1 ?_
      exact z_ireturn iX8_isGood_106 (by first | exact absurd (q79.symm.trans q110) n59_44 | (refine zbo_t ?_; simp [mGood, *, n44_59, n59_44]; done) | (refine zbo_f ?_; simp [mGood, *, n44_59, n59_44]; done) | (refine zbo_f ?_; simp [mGood, *, n44_59, n59_44]; omega) | (refine zbo_t ?_; simp [mGood, *, n44_59, n59_44]; omega)) (by first | (simp [mGoodS, *, n44_59, n59_44]; done) | (rw [mGoodS, if_neg (by omega), if_neg (by omega), if_neg (by omega), if_neg (fun z => q79 z.1)]; done) | (rw [mGoodS, if_neg (by omega), if_neg (by omega), if_neg (by omega), if_neg (fun z => absurd z.2 (by omega))]; done))
def mFaultL (f : Nat → Int32) : Nat → Nat → zs → Nat × zs
  | i, 0, m => (i, m)
  | i, n + 1, m => if mGood i (f i) m = true then mFaultL f (i + 1) n (mGoodS i (f i) m) else (i, mGoodS i (f i) m)
def mF0 (m : zs) : zs := uN (uN m 2 1) 3 0
def mFault (m : zs) : Nat × zs := mFaultL (rF m 0) 0 (rN m 1) (mF0 m)
theorem mGoodS_F (p : Nat) (c : Int32) (m : zs) (k : Nat) : rF (mGoodS p c m) k = rF m k := by
  unfold mGoodS
  repeat' split
  all_goals rfl
theorem mGoodS_1 (p : Nat) (c : Int32) (m : zs) : rN (mGoodS p c m) 1 = rN m 1 := by
  unfold mGoodS
  repeat' split
  all_goals rfl
theorem mGoodS_le (p : Nat) (c : Int32) (m : zs) (i : Nat) (h : rN m 2 ≤ i + 1 ∧ rN m 3 ≤ i + 1) : rN (mGoodS p c m) 2 ≤ i + 2 ∧ rN (mGoodS p c m) 3 ≤ i + 2 := by
  unfold mGoodS
  repeat' split
  all_goals (try simp only [rN_uN])
  all_goals (try simp)
  all_goals omega
set_option maxRecDepth 20000 in
set_option maxHeartbeats 1000000 in
theorem lpm_fault (G : zG) (pg nw kp sn ks fo ft fe gt mx : zs) (re : Nat → Int64) (hh : Int64) (f : Nat → Int32) (z : Nat) (hz : z ≤ 38) : ∀ (n i : Nat) (m : zs), rF m 0 = f → rN m 1 = z → (rN m 2 ≤ i + 1 ∧ rN m 3 ≤ i + 1) → i + n = z → zS G mX8_faultOf 12 [some (.ref 49), some (.int (nI i))] [] (wW pg nw kp sn ks fo ft fe gt mx re m hh) (some (.int (nI (mFaultL f i n m).1))) (wW pg nw kp sn ks fo ft fe gt mx re (mFaultL f i n m).2 hh) := by
  intro n
  induction n with
  | zero =>
    intro i m h0 h1 h23 hi
    refine z_iload_n iX8_faultOf_12 rfl ?_
    refine z_aload_n iX8_faultOf_13 rfl ?_
    refine z_getf iX8_faultOf_14 fX8_83 (wm) (mF_1 _ _) (by decide) ?_
    refine zn_ge iX8_faultOf_17 (by omega) (by omega) (fun q17 => ?_) (fun q17 => absurd q17 (by omega))
    refine z_iload_n iX8_faultOf_40 rfl ?_
    exact z_ireturn iX8_faultOf_41 (rfl) (rfl)
  | succ n ih =>
    intro i m h0 h1 h23 hi
    refine z_iload_n iX8_faultOf_12 rfl ?_
    refine z_aload_n iX8_faultOf_13 rfl ?_
    refine z_getf iX8_faultOf_14 fX8_83 (wm) (mF_1 _ _) (by decide) ?_
    refine zn_ge iX8_faultOf_17 (by omega) (by omega) (fun q17 => absurd q17 (by omega)) (fun q17 => ?_)
    refine z_aload_n iX8_faultOf_20 rfl ?_
    refine z_iload_n iX8_faultOf_21 rfl ?_
    refine z_aload_n iX8_faultOf_22 rfl ?_
    refine z_getf iX8_faultOf_23 fX8_7 (wm) (mF_0 _ _) (by decide) ?_
    refine z_iload_n iX8_faultOf_26 rfl ?_
    refine z_iaload iX8_faultOf_27 (wm0) rfl (by omega) (by decide) (by decide) ?_
    rw [h0]
    refine z_cvi (y1 := mX8_isGood) iX8_faultOf_28 lX8_102 kX8_isGood rfl (cm_isGood G pg nw kp sn ks fo ft fe gt mx re m hh i (f i) (by omega) (by omega) (by omega)) (wm) rfl rfl rfl (Nat.le_of_ble_eq_true rfl) (by decide) ?_
    refine zb_if_eq iX8_faultOf_31 (fun q31 => ?_) (fun q31 => ?_)
    · refine z_iload_n iX8_faultOf_40 rfl ?_
      exact z_ireturn iX8_faultOf_41 (by rw [mFaultL, if_neg (by rw [q31]; decide)]) (by rw [mFaultL, if_neg (by rw [q31]; decide)])
    · refine z_iinc iX8_faultOf_34 rfl nix_inc rfl (by decide) ?_
      refine z_goto iX8_faultOf_37 ?_
      rw [mFaultL, if_pos q31]
      exact ih (i + 1) _ (by rw [mGoodS_F]; exact h0) (by rw [mGoodS_1]; exact h1) (mGoodS_le _ _ _ _ h23) (by omega)
set_option maxRecDepth 20000 in
set_option maxHeartbeats 1000000 in
theorem cm_faultOf (G : zG) (pg nw kp sn ks fo ft fe gt mx : zs) (re : Nat → Int64) (m : zs) (hh : Int64) (hz : rN m 1 ≤ 38) : zK G mX8_faultOf [.ref 49] (wW pg nw kp sn ks fo ft fe gt mx re m hh) (some (.int (nI (mFault m).1))) (wW pg nw kp sn ks fo ft fe gt mx re (mFault m).2 hh) := by
  refine zK_of 1 rfl (by decide) trivial (Nat.le_of_ble_eq_true rfl) rfl ?_
  refine z_aload_n iX8_faultOf_0 rfl ?_
  refine z_iconst iX8_faultOf_1 zk_1 ?_
  refine z_putf iX8_faultOf_2 fX8_99 (wm) rfl rfl (Nat.le_of_ble_eq_true rfl) (by decide) ?_
  rw [wm_2]
  refine z_aload_n iX8_faultOf_5 rfl ?_
  refine z_iconst iX8_faultOf_6 zk_0 ?_
  refine z_putf iX8_faultOf_7 fX8_86 (wm) rfl rfl (Nat.le_of_ble_eq_true rfl) (by decide) ?_
  rw [wm_3]
  refine z_iconst iX8_faultOf_10 zk_0 ?_
  refine z_istore_n iX8_faultOf_11 rfl (by decide) ?_
  exact lpm_fault G pg nw kp sn ks fo ft fe gt mx re hh _ _ hz _ 0 (mF0 m) rfl rfl ⟨Nat.le_refl _, Nat.zero_le _⟩ (Nat.zero_add _)
set_option maxRecDepth 20000 in
set_option maxHeartbeats 1000000 in
theorem cm_fault (G : zG) (pg nw kp sn ks fo ft fe gt mx : zs) (re : Nat → Int64) (m : zs) (hh : Int64) (hz : rN m 1 ≤ 38) : zK G mX8_fault [.ref 49] (wW pg nw kp sn ks fo ft fe gt mx re m hh) (some (.int (nI (mFault m).1))) (wW pg nw kp sn ks fo ft fe gt mx re (mFault m).2 hh) := by
  refine zK_of 0 rfl (by decide) trivial (Nat.le_of_ble_eq_true rfl) rfl ?_
  refine z_aload_n iX8_fault_0 rfl ?_
  refine z_cvi (y1 := mX8_faultOf) iX8_fault_1 lX8_106 kX8_faultOf rfl (cm_faultOf G pg nw kp sn ks fo ft fe gt mx re m hh hz) (wm) rfl rfl rfl (Nat.le_of_ble_eq_true rfl) (by decide) ?_
  exact z_ireturn iX8_fault_4 (rfl) (rfl)
def mOK (m : zs) : Prop := (∀ j, rA m 13 j < 9) ∧ (∀ j, rA m 12 j ≤ 3) ∧ (∀ j, rA m 11 j < 3) ∧ (∀ j, rA m 10 j ≤ 4) ∧ rN m 4 ≤ 3 ∧ rN m 5 ≤ 9
theorem mOK_of {s t : zs} (h : mOK s) (hA : ∀ k, rA t k = rA s k) (hN : ∀ k, k = 4 ∨ k = 5 → rN t k = rN s k) : mOK t := by
  unfold mOK
  simp only [hA, hN 4 (Or.inl rfl), hN 5 (Or.inr rfl)]
  exact h
set_option maxRecDepth 20000 in
set_option maxHeartbeats 1000000 in
theorem cm_lacks (G : zG) (pg nw kp sn ks fo ft fe gt mx : zs) (re : Nat → Int64) (m : zs) (hh : Int64) (hm : mOK m) : zK G mX8_lacks [.ref 49] (wW pg nw kp sn ks fo ft fe gt mx re m hh) (some (.int (zbo (decide (rN m 4 = 0))))) (wW pg nw kp sn ks fo ft fe gt mx re m hh) := by
  obtain ⟨o13, o12, o11, o10, o4, o5⟩ := id hm
  refine zK_of 0 rfl (by decide) (zbo_n _) (Nat.le_of_ble_eq_true rfl) rfl ?_
  refine z_aload_n iX8_lacks_0 rfl ?_
  refine z_getf iX8_lacks_1 fX8_110 (wm) (mF_4 _ _) (by decide) ?_
  refine zn_if_ne iX8_lacks_4 (by omega) (fun q4 => ?_) (fun q4 => ?_)
  · refine z_iconst iX8_lacks_11 zk_0 ?_
    exact z_ireturn iX8_lacks_12 (by first | exact zbo_t (by simp [*]) | exact zbo_f (by simp [*])) (rfl)
  · refine z_iconst iX8_lacks_7 zk_1 ?_
    refine z_goto iX8_lacks_8 ?_
    exact z_ireturn iX8_lacks_12 (by first | exact zbo_t (by simp [*]) | exact zbo_f (by simp [*])) (rfl)
set_option maxRecDepth 20000 in
set_option maxHeartbeats 1000000 in
theorem cm_isCart (G : zG) (pg nw kp sn ks fo ft fe gt mx : zs) (re : Nat → Int64) (m : zs) (hh : Int64) (hm : mOK m) (k : Int32) : zK G mX8_isCart [.ref 49, .int k] (wW pg nw kp sn ks fo ft fe gt mx re m hh) (some (.int (zbo (!xNo k (rN m 5))))) (wW pg nw kp sn ks fo ft fe gt mx re m hh) := by
  obtain ⟨o13, o12, o11, o10, o4, o5⟩ := id hm
  refine zK_of 0 rfl (by decide) (zbo_n _) (Nat.le_of_ble_eq_true rfl) rfl ?_
  refine z_iload_n iX8_isCart_0 rfl ?_
  refine z_i2l iX8_isCart_1 ?_
  refine z_lconst iX8_isCart_2 zl_0 ?_
  refine z_aload_n iX8_isCart_3 rfl ?_
  refine z_getf iX8_isCart_4 fX8_113 (wm) (mF_5 _ _) (by decide) ?_
  refine z_iconst iX8_isCart_7 zk_1 ?_
  refine z_isub iX8_isCart_8 ?_
  refine z_i2l iX8_isCart_9 ?_
  refine z_csi (y1 := mX8_in) iX8_isCart_10 lX8_79 kX8_in rfl (c_in G _ _ _ _) rfl rfl (Nat.le_of_ble_eq_true rfl) ?_
  rw [xNo_in (by omega)]
  exact z_ireturn iX8_isCart_13 (rfl) (rfl)
set_option maxRecDepth 20000 in
set_option maxHeartbeats 1000000 in
theorem cm_isBay (G : zG) (pg nw kp sn ks fo ft fe gt mx : zs) (re : Nat → Int64) (m : zs) (hh : Int64) (hm : mOK m) (k : Int32) : zK G mX8_isBay [.ref 49, .int k] (wW pg nw kp sn ks fo ft fe gt mx re m hh) (some (.int (zbo (!xNo k (rN m 4))))) (wW pg nw kp sn ks fo ft fe gt mx re m hh) := by
  obtain ⟨o13, o12, o11, o10, o4, o5⟩ := id hm
  refine zK_of 0 rfl (by decide) (zbo_n _) (Nat.le_of_ble_eq_true rfl) rfl ?_
  refine z_iload_n iX8_isBay_0 rfl ?_
  refine z_i2l iX8_isBay_1 ?_
  refine z_lconst iX8_isBay_2 zl_0 ?_
  refine z_aload_n iX8_isBay_3 rfl ?_
  refine z_getf iX8_isBay_4 fX8_110 (wm) (mF_4 _ _) (by decide) ?_
  refine z_iconst iX8_isBay_7 zk_1 ?_
  refine z_isub iX8_isBay_8 ?_
  refine z_i2l iX8_isBay_9 ?_
  refine z_csi (y1 := mX8_in) iX8_isBay_10 lX8_79 kX8_in rfl (c_in G _ _ _ _) rfl rfl (Nat.le_of_ble_eq_true rfl) ?_
  rw [xNo_in (by omega)]
  exact z_ireturn iX8_isBay_13 (rfl) (rfl)
def mBegin (m : zs) : zs := uF (uF (uF m 17 (rF m 14)) 18 (rF m 15)) 19 (rF m 16)
def mTake (m : zs) : zs := uF (uF (uF m 14 (rF m 17)) 15 (rF m 18)) 16 (rF m 19)
def mGo (m : zs) (k : Nat) : zs := uF (uF (uF m 17 (upd (rF m 17) k (nI 0))) 18 (upd (rF m 18) k (nI 0))) 19 (upd (rF m 19) k (nI 0))
set_option maxRecDepth 20000 in
set_option maxHeartbeats 1000000 in
theorem cm_begin (G : zG) (pg nw kp sn ks fo ft fe gt mx : zs) (re : Nat → Int64) (m : zs) (hh : Int64)  : zK G mX8_begin [.ref 49] (wW pg nw kp sn ks fo ft fe gt mx re m hh) none (wW pg nw kp sn ks fo ft fe gt mx re (mBegin m) hh) := by
  refine zK_of 0 rfl (by decide) trivial (Nat.le_of_ble_eq_true rfl) rfl ?_
  refine z_aload_n iX8_begin_0 rfl ?_
  refine z_getf iX8_begin_1 fX8_25 (wm) (mF_14 _ _) (by decide) ?_
  refine z_aload_n iX8_begin_4 rfl ?_
  refine z_getf iX8_begin_5 fX8_34 (wm) (mF_17 _ _) (by decide) ?_
  refine z_csv (y1 := mX8_copy) iX8_begin_8 lX8_131 kX8_copy rfl (c_mcopy G _ 55 58 12 _ _ wm14 wm17 (by decide) (by decide) (by decide) (by decide)) rfl rfl (Nat.le_of_ble_eq_true rfl) ?_
  rw [wm_17]
  refine z_aload_n iX8_begin_11 rfl ?_
  refine z_getf iX8_begin_12 fX8_28 (wm) (mF_15 _ _) (by decide) ?_
  refine z_aload_n iX8_begin_15 rfl ?_
  refine z_getf iX8_begin_16 fX8_37 (wm) (mF_18 _ _) (by decide) ?_
  refine z_csv (y1 := mX8_copy) iX8_begin_19 lX8_131 kX8_copy rfl (c_mcopy G _ 56 59 12 _ _ wm15 wm18 (by decide) (by decide) (by decide) (by decide)) rfl rfl (Nat.le_of_ble_eq_true rfl) ?_
  rw [wm_18]
  refine z_aload_n iX8_begin_22 rfl ?_
  refine z_getf iX8_begin_23 fX8_31 (wm) (mF_16 _ _) (by decide) ?_
  refine z_aload_n iX8_begin_26 rfl ?_
  refine z_getf iX8_begin_27 fX8_40 (wm) (mF_19 _ _) (by decide) ?_
  refine z_csv (y1 := mX8_copy) iX8_begin_30 lX8_131 kX8_copy rfl (c_mcopy G _ 57 60 12 _ _ wm16 wm19 (by decide) (by decide) (by decide) (by decide)) rfl rfl (Nat.le_of_ble_eq_true rfl) ?_
  rw [wm_19]
  exact z_return iX8_begin_33 (rfl)
set_option maxRecDepth 20000 in
set_option maxHeartbeats 1000000 in
theorem cm_take (G : zG) (pg nw kp sn ks fo ft fe gt mx : zs) (re : Nat → Int64) (m : zs) (hh : Int64)  : zK G mX8_takeThen [.ref 49] (wW pg nw kp sn ks fo ft fe gt mx re m hh) none (wW pg nw kp sn ks fo ft fe gt mx re (mTake m) hh) := by
  refine zK_of 0 rfl (by decide) trivial (Nat.le_of_ble_eq_true rfl) rfl ?_
  refine z_aload_n iX8_takeThen_0 rfl ?_
  refine z_getf iX8_takeThen_1 fX8_34 (wm) (mF_17 _ _) (by decide) ?_
  refine z_aload_n iX8_takeThen_4 rfl ?_
  refine z_getf iX8_takeThen_5 fX8_25 (wm) (mF_14 _ _) (by decide) ?_
  refine z_csv (y1 := mX8_copy) iX8_takeThen_8 lX8_131 kX8_copy rfl (c_mcopy G _ 58 55 12 _ _ wm17 wm14 (by decide) (by decide) (by decide) (by decide)) rfl rfl (Nat.le_of_ble_eq_true rfl) ?_
  rw [wm_14]
  refine z_aload_n iX8_takeThen_11 rfl ?_
  refine z_getf iX8_takeThen_12 fX8_37 (wm) (mF_18 _ _) (by decide) ?_
  refine z_aload_n iX8_takeThen_15 rfl ?_
  refine z_getf iX8_takeThen_16 fX8_28 (wm) (mF_15 _ _) (by decide) ?_
  refine z_csv (y1 := mX8_copy) iX8_takeThen_19 lX8_131 kX8_copy rfl (c_mcopy G _ 59 56 12 _ _ wm18 wm15 (by decide) (by decide) (by decide) (by decide)) rfl rfl (Nat.le_of_ble_eq_true rfl) ?_
  rw [wm_15]
  refine z_aload_n iX8_takeThen_22 rfl ?_
  refine z_getf iX8_takeThen_23 fX8_40 (wm) (mF_19 _ _) (by decide) ?_
  refine z_aload_n iX8_takeThen_26 rfl ?_
  refine z_getf iX8_takeThen_27 fX8_31 (wm) (mF_16 _ _) (by decide) ?_
  refine z_csv (y1 := mX8_copy) iX8_takeThen_30 lX8_131 kX8_copy rfl (c_mcopy G _ 60 57 12 _ _ wm19 wm16 (by decide) (by decide) (by decide) (by decide)) rfl rfl (Nat.le_of_ble_eq_true rfl) ?_
  rw [wm_16]
  exact z_return iX8_takeThen_33 (rfl)
set_option maxRecDepth 20000 in
set_option maxHeartbeats 1000000 in
theorem cm_goes (G : zG) (pg nw kp sn ks fo ft fe gt mx : zs) (re : Nat → Int64) (m : zs) (hh : Int64) (k : Nat) (hk : k < 12) : zK G mX8_goes [.ref 49, .int (nI k)] (wW pg nw kp sn ks fo ft fe gt mx re m hh) none (wW pg nw kp sn ks fo ft fe gt mx re (mGo m k) hh) := by
  refine zK_of 0 rfl (by decide) trivial (Nat.le_of_ble_eq_true rfl) rfl ?_
  refine z_aload_n iX8_goes_0 rfl ?_
  refine z_getf iX8_goes_1 fX8_34 (wm) (mF_17 _ _) (by decide) ?_
  refine z_iload_n iX8_goes_4 rfl ?_
  refine z_iconst iX8_goes_5 zk_0 ?_
  refine z_iastore iX8_goes_6 (wm17) rfl (by omega) (by decide) (by decide) (by decide) ?_
  rw [wm_17]
  refine z_aload_n iX8_goes_7 rfl ?_
  refine z_getf iX8_goes_8 fX8_37 (wm) (mF_18 _ _) (by decide) ?_
  refine z_iload_n iX8_goes_11 rfl ?_
  refine z_iconst iX8_goes_12 zk_0 ?_
  refine z_iastore iX8_goes_13 (wm18) rfl (by omega) (by decide) (by decide) (by decide) ?_
  rw [wm_18]
  refine z_aload_n iX8_goes_14 rfl ?_
  refine z_getf iX8_goes_15 fX8_40 (wm) (mF_19 _ _) (by decide) ?_
  refine z_iload_n iX8_goes_18 rfl ?_
  refine z_iconst iX8_goes_19 zk_0 ?_
  refine z_iastore iX8_goes_20 (wm19) rfl (by omega) (by decide) (by decide) (by decide) ?_
  rw [wm_19]
  exact z_return iX8_goes_21 (rfl)
def mTopL (m : zs) (b : Nat) : Nat → Option Nat
  | 0 => none
  | n + 1 => if rF m 17 (rA m 13 (4 * b + n)) ≤ 0 then mTopL m b n else some (rA m 13 (4 * b + n))
def mTop (m : zs) (b : Nat) : Option Nat := mTopL m b (rA m 12 b)
theorem mTopL_lt {m : zs} (hm : mOK m) {b k : Nat} : ∀ {n : Nat}, mTopL m b n = some k → k < 9
  | 0, h => by cases h
  | n + 1, h => by
    unfold mTopL at h
    split at h
    · exact mTopL_lt hm h
    · cases h; exact hm.1 _
theorem mTop_lt {m : zs} (hm : mOK m) {b k : Nat} (h : mTop m b = some k) : k < 9 := mTopL_lt hm h
theorem zsub1 (x : Int32) : x - nI 1 = x + Int32.ofInt (-1) := by
  have h : Int32.ofInt (-1) = -nI 1 := by decide +kernel
  rw [h, Int32.sub_eq_add_neg]
set_option maxRecDepth 20000 in
set_option maxHeartbeats 1000000 in
theorem lpm_top (G : zG) (pg nw kp sn ks fo ft fe gt mx : zs) (re : Nat → Int64) (m : zs) (hh : Int64) (hm : mOK m) (b : Nat) (hb : b < 3) : ∀ n, n ≤ 3 → zS G mX8_topOf 9 [some (.ref 49), some (.int (nI b)), some (.int (nI n + Int32.ofInt (-1))), none] [] (wW pg nw kp sn ks fo ft fe gt mx re m hh) (some (.int (oI (mTopL m b n)))) (wW pg nw kp sn ks fo ft fe gt mx re m hh) := by
  obtain ⟨o13, o12, o11, o10, o4, o5⟩ := id hm
  intro n
  induction n with
  | zero =>
    intro hn
    refine z_iload_n iX8_topOf_9 rfl ?_
    refine z_if_lt iX8_topOf_10 (fun q10 => ?_) (fun q10 => absurd zdn_0 q10)
    refine z_iconst iX8_topOf_41 zk_m1 ?_
    exact z_ireturn iX8_topOf_42 (rfl) (rfl)
  | succ n ih =>
    intro hn
    rw [zdn]
    refine z_iload_n iX8_topOf_9 rfl ?_
    refine zn_if_lt iX8_topOf_10 (by omega) ?_
    refine z_aload_n iX8_topOf_13 rfl ?_
    refine z_getf iX8_topOf_14 fX8_22 (wm) (mF_13 _ _) (by decide) ?_
    refine z_iconst iX8_topOf_17 zk_4 ?_
    refine z_iload_n iX8_topOf_18 rfl ?_
    refine z_imul iX8_topOf_19 ?_
    refine z_top nix_mul ?_
    refine z_iload_n iX8_topOf_20 rfl ?_
    refine z_iadd iX8_topOf_21 ?_
    refine z_top nix_add ?_
    refine z_iaload iX8_topOf_22 (wm13) rfl (by omega) (by decide) (by decide) ?_
    refine z_istore_n iX8_topOf_23 rfl (by decide) ?_
    refine z_aload_n iX8_topOf_24 rfl ?_
    refine z_getf iX8_topOf_25 fX8_34 (wm) (mF_17 _ _) (by decide) ?_
    refine z_iload_n iX8_topOf_28 rfl ?_
    have o1 := o13 (4 * b + n)
    refine z_iaload iX8_topOf_29 (wm17) rfl (by omega) (by decide) (by decide) ?_
    refine z_if_le iX8_topOf_30 (fun q30 => ?_) (fun q30 => ?_)
    · refine z_iinc iX8_topOf_35 rfl rfl rfl (by decide) ?_
      refine z_goto iX8_topOf_38 ?_
      rw [mTopL, if_pos q30]
      refine z_weak ?_ (ih (by omega))
      exact zle_w (by simp [zle, zf3] <;> rfl)
    · refine z_iload_n iX8_topOf_33 rfl ?_
      exact z_ireturn iX8_topOf_34 (by rw [mTopL, if_neg q30]; rfl) (rfl)
set_option maxRecDepth 20000 in
set_option maxHeartbeats 1000000 in
theorem cm_top (G : zG) (pg nw kp sn ks fo ft fe gt mx : zs) (re : Nat → Int64) (m : zs) (hh : Int64) (hm : mOK m) (b : Nat) (hb : b < 3) : zK G mX8_topOf [.ref 49, .int (nI b)] (wW pg nw kp sn ks fo ft fe gt mx re m hh) (some (.int (oI (mTop m b)))) (wW pg nw kp sn ks fo ft fe gt mx re m hh) := by
  obtain ⟨o13, o12, o11, o10, o4, o5⟩ := id hm
  refine zK_of 2 rfl (by decide) trivial (Nat.le_of_ble_eq_true rfl) rfl ?_
  refine z_aload_n iX8_topOf_0 rfl ?_
  refine z_getf iX8_topOf_1 fX8_19 (wm) (mF_12 _ _) (by decide) ?_
  refine z_iload_n iX8_topOf_4 rfl ?_
  refine z_iaload iX8_topOf_5 (wm12) rfl (by omega) (by decide) (by decide) ?_
  refine z_iconst iX8_topOf_6 zk_1 ?_
  refine z_isub iX8_topOf_7 ?_
  rw [zsub1]
  refine z_istore_n iX8_topOf_8 rfl (by decide) ?_
  exact lpm_top G pg nw kp sn ks fo ft fe gt mx re m hh hm b hb _ (o12 b)
set_option maxRecDepth 20000 in
set_option maxHeartbeats 1000000 in
theorem cm_gives (G : zG) (g : zh) (k : Nat) (l : Int32) (hk : k < 2 ^ 31) : zK G mX8_gives [.int (nI k), .int l] g (some (.int (kGives k l))) g := by
  refine zK_of 0 rfl (by decide) trivial (Nat.le_of_ble_eq_true rfl) rfl ?_
  refine z_iload_n iX8_gives_0 rfl ?_
  by_cases c1_1 : k = 1
  · refine z_tabIn (off := 31) (tgt := 32) iX8_gives_1 (by rw [c1_1]; decide +kernel) (by rw [c1_1]; decide +kernel) (by rw [c1_1]; decide +kernel) (by decide) ?_
    refine z_iconst iX8_gives_32 zk_2 ?_
    refine z_iload_n iX8_gives_33 rfl ?_
    refine z_imul iX8_gives_34 ?_
    exact z_ireturn iX8_gives_35 (by simp only [kGives]; simp [*]) (rfl)
  by_cases c1_2 : k = 2
  · refine z_tabIn (off := 35) (tgt := 36) iX8_gives_1 (by rw [c1_2]; decide +kernel) (by rw [c1_2]; decide +kernel) (by rw [c1_2]; decide +kernel) (by decide) ?_
    refine z_iload_n iX8_gives_36 rfl ?_
    refine z_iconst iX8_gives_37 zk_1 ?_
    refine z_iadd iX8_gives_38 ?_
    exact z_ireturn iX8_gives_39 (by simp only [kGives]; simp [*]) (rfl)
  by_cases c1_3 : k = 3
  · refine z_tabIn (off := 39) (tgt := 40) iX8_gives_1 (by rw [c1_3]; decide +kernel) (by rw [c1_3]; decide +kernel) (by rw [c1_3]; decide +kernel) (by decide) ?_
    refine z_iconst iX8_gives_40 zk_0 ?_
    exact z_ireturn iX8_gives_41 (by simp only [kGives]; simp [*]) (rfl)
  by_cases c1_4 : k = 4
  · refine z_tabIn (off := 41) (tgt := 42) iX8_gives_1 (by rw [c1_4]; decide +kernel) (by rw [c1_4]; decide +kernel) (by rw [c1_4]; decide +kernel) (by decide) ?_
    refine z_iconst iX8_gives_42 zk_2 ?_
    refine z_iload_n iX8_gives_43 rfl ?_
    refine z_imul iX8_gives_44 ?_
    refine z_iconst iX8_gives_45 zk_1 ?_
    refine z_iadd iX8_gives_46 ?_
    exact z_ireturn iX8_gives_47 (by simp only [kGives]; simp [*]) (rfl)
  refine z_tabOut (tgt := 48) iX8_gives_1 (by rw [nI_toInt (by omega)]; omega) (by decide) ?_
  refine z_iload_n iX8_gives_48 rfl ?_
  exact z_ireturn iX8_gives_49 (by simp only [kGives]; simp [*]) (rfl)
def mDry (m : zs) (k : Nat) : zs := uF m 18 (upd (rF m 18) k (rF m 18 k - (if rF m 18 k ≤ 0 then nI 0 else nI 1)))
set_option maxRecDepth 20000 in
set_option maxHeartbeats 1000000 in
theorem cm_dry (G : zG) (pg nw kp sn ks fo ft fe gt mx : zs) (re : Nat → Int64) (m : zs) (hh : Int64) (k : Nat) (hk : k < 12) : zK G mX8_dry [.ref 49, .int (nI k)] (wW pg nw kp sn ks fo ft fe gt mx re m hh) none (wW pg nw kp sn ks fo ft fe gt mx re (mDry m k) hh) := by
  refine zK_of 0 rfl (by decide) trivial (Nat.le_of_ble_eq_true rfl) rfl ?_
  refine z_aload_n iX8_dry_0 rfl ?_
  refine z_getf iX8_dry_1 fX8_37 (wm) (mF_18 _ _) (by decide) ?_
  refine z_iload_n iX8_dry_4 rfl ?_
  refine z_dup2 iX8_dry_5 rfl rfl ?_
  refine z_iaload iX8_dry_6 (wm18) rfl (by omega) (by decide) (by decide) ?_
  refine z_aload_n iX8_dry_7 rfl ?_
  refine z_getf iX8_dry_8 fX8_37 (wm) (mF_18 _ _) (by decide) ?_
  refine z_iload_n iX8_dry_11 rfl ?_
  refine z_iaload iX8_dry_12 (wm18) rfl (by omega) (by decide) (by decide) ?_
  refine z_if_le iX8_dry_13 (fun q13 => ?_) (fun q13 => ?_)
  · refine z_iconst iX8_dry_20 zk_0 ?_
    refine z_isub iX8_dry_21 ?_
    refine z_iastore iX8_dry_22 (wm18) rfl (by omega) (by decide) (by decide) (by decide) ?_
    rw [wm_18]
    exact z_return iX8_dry_23 (by first | (rw [mDry, if_pos q13]; done) | (rw [mDry, if_neg q13]; done))
  · refine z_iconst iX8_dry_16 zk_1 ?_
    refine z_goto iX8_dry_17 ?_
    refine z_isub iX8_dry_21 ?_
    refine z_iastore iX8_dry_22 (wm18) rfl (by omega) (by decide) (by decide) (by decide) ?_
    rw [wm_18]
    exact z_return iX8_dry_23 (by first | (rw [mDry, if_pos q13]; done) | (rw [mDry, if_neg q13]; done))
set_option maxRecDepth 20000 in
set_option maxHeartbeats 1000000 in
theorem cm_hasLight (G : zG) (pg nw kp sn ks fo ft fe gt mx : zs) (re : Nat → Int64) (m : zs) (hh : Int64) (hm : mOK m) (b : Nat) (hb : b < 3) : zK G mX8_hasLight [.ref 49, .int (nI b)] (wW pg nw kp sn ks fo ft fe gt mx re m hh) (some (.int (zbo (mTop m b).isSome))) (wW pg nw kp sn ks fo ft fe gt mx re m hh) := by
  refine zK_of 0 rfl (by decide) (zbo_n _) (Nat.le_of_ble_eq_true rfl) rfl ?_
  refine z_aload_n iX8_hasLight_0 rfl ?_
  refine z_iload_n iX8_hasLight_1 rfl ?_
  refine z_cvi (y1 := mX8_topOf) iX8_hasLight_2 lX8_135 kX8_topOf rfl (cm_top G pg nw kp sn ks fo ft fe gt mx re m hh hm b hb) (wm) rfl rfl rfl (Nat.le_of_ble_eq_true rfl) (by decide) ?_
  refine z_iconst iX8_hasLight_5 zk_m1 ?_
  refine z_icmp_eq iX8_hasLight_6 (fun q6 => ?_) (fun q6 => ?_)
  · rw [oI_m1 (fun k hk => by have := mTop_lt hm hk; omega)] at q6
    refine z_iconst iX8_hasLight_13 zk_0 ?_
    exact z_ireturn iX8_hasLight_14 (by first | exact zbo_f (by rw [q6]; rfl) | exact zbo_t (by cases hz : mTop m b with | none => exact absurd hz q6 | some k => rfl)) (rfl)
  · rw [oI_m1 (fun k hk => by have := mTop_lt hm hk; omega)] at q6
    refine z_iconst iX8_hasLight_9 zk_1 ?_
    refine z_goto iX8_hasLight_10 ?_
    exact z_ireturn iX8_hasLight_14 (by first | exact zbo_f (by rw [q6]; rfl) | exact zbo_t (by cases hz : mTop m b with | none => exact absurd hz q6 | some k => rfl)) (rfl)
