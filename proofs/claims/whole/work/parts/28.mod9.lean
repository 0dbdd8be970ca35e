theorem kIsA_iff {k q : Nat} : kIsA k q = true ↔ (k = q ∨ q = 0 ∨ (k = 4 ∧ q = 1)) := by simp [kIsA]
set_option maxRecDepth 20000 in
set_option maxHeartbeats 1000000 in
theorem cm_as0 (G : zG) (pg nw kp sn ks fo ft fe gt mx : zs) (re : Nat → Int64) (m : zs) (hh : Int64) (hm : mOK m) (k q : Int32) (h : xNo k (rN m 5) = true) : zK G mX8_as [.ref 49, .int k, .int q] (wW pg nw kp sn ks fo ft fe gt mx re m hh) (some (.int (-101))) (wW pg nw kp sn ks fo ft fe gt mx re m hh) := by
  refine zK_of 1 rfl (by decide) trivial (Nat.le_of_ble_eq_true rfl) rfl ?_
  refine z_aload_n iX8_as_0 rfl ?_
  refine z_iload_n iX8_as_1 rfl ?_
  refine z_cvi (y1 := mX8_isCart) iX8_as_2 lX8_178 kX8_isCart rfl (cm_isCart G pg nw kp sn ks fo ft fe gt mx re m hh hm _) (wm) rfl rfl rfl (Nat.le_of_ble_eq_true rfl) (by decide) ?_
  refine zb_if_ne iX8_as_5 (fun q5 => absurd q5 (by rw [h]; decide)) (fun q5 => ?_)
  refine z_bipush iX8_as_8 zb_m101 ?_
  exact z_ireturn iX8_as_10 (rfl) (rfl)
set_option maxRecDepth 20000 in
set_option maxHeartbeats 1000000 in
theorem cm_cut0 (G : zG) (pg nw kp sn ks fo ft fe gt mx : zs) (re : Nat → Int64) (m : zs) (hh : Int64) (hm : mOK m) (k q : Int32) (h : xNo k (rN m 4) = true) : zK G mX8_cut [.ref 49, .int k, .int q] (wW pg nw kp sn ks fo ft fe gt mx re m hh) (some (.int (-101))) (wW pg nw kp sn ks fo ft fe gt mx re m hh) := by
  refine zK_of 1 rfl (by decide) trivial (Nat.le_of_ble_eq_true rfl) rfl ?_
  refine z_aload_n iX8_cut_0 rfl ?_
  refine z_iload_n iX8_cut_1 rfl ?_
  refine z_cvi (y1 := mX8_isBay) iX8_cut_2 lX8_208 kX8_isBay rfl (cm_isBay G pg nw kp sn ks fo ft fe gt mx re m hh hm _) (wm) rfl rfl rfl (Nat.le_of_ble_eq_true rfl) (by decide) ?_
  refine zb_if_ne iX8_cut_5 (fun q5 => absurd q5 (by rw [h]; decide)) (fun q5 => ?_)
  refine z_bipush iX8_cut_8 zb_m101 ?_
  exact z_ireturn iX8_cut_10 (rfl) (rfl)
set_option maxRecDepth 20000 in
set_option maxHeartbeats 1000000 in
theorem cm_turn0 (G : zG) (pg nw kp sn ks fo ft fe gt mx : zs) (re : Nat → Int64) (m : zs) (hh : Int64) (hm : mOK m) (k : Int32) (h : xNo k (rN m 4) = true) : zK G mX8_turn [.ref 49, .int k] (wW pg nw kp sn ks fo ft fe gt mx re m hh) (some (.int (-101))) (wW pg nw kp sn ks fo ft fe gt mx re m hh) := by
  refine zK_of 4 rfl (by decide) trivial (Nat.le_of_ble_eq_true rfl) rfl ?_
  refine z_aload_n iX8_turn_0 rfl ?_
  refine z_iload_n iX8_turn_1 rfl ?_
  refine z_cvi (y1 := mX8_isBay) iX8_turn_2 lX8_208 kX8_isBay rfl (cm_isBay G pg nw kp sn ks fo ft fe gt mx re m hh hm _) (wm) rfl rfl rfl (Nat.le_of_ble_eq_true rfl) (by decide) ?_
  refine zb_if_ne iX8_turn_5 (fun q5 => absurd q5 (by rw [h]; decide)) (fun q5 => ?_)
  refine z_bipush iX8_turn_8 zb_m101 ?_
  exact z_ireturn iX8_turn_10 (rfl) (rfl)
set_option maxRecDepth 20000 in
set_option maxHeartbeats 1000000 in
theorem cm_rain0 (G : zG) (pg nw kp sn ks fo ft fe gt mx : zs) (re : Nat → Int64) (m : zs) (hh : Int64) (hm : mOK m) (k q : Int32) (h : xNo k (rN m 5) = true) : zK G mX8_rain [.ref 49, .int k, .int q] (wW pg nw kp sn ks fo ft fe gt mx re m hh) (some (.int (-101))) (wW pg nw kp sn ks fo ft fe gt mx re m hh) := by
  refine zK_of 1 rfl (by decide) trivial (Nat.le_of_ble_eq_true rfl) rfl ?_
  refine z_aload_n iX8_rain_0 rfl ?_
  refine z_iload_n iX8_rain_1 rfl ?_
  refine z_cvi (y1 := mX8_isCart) iX8_rain_2 lX8_178 kX8_isCart rfl (cm_isCart G pg nw kp sn ks fo ft fe gt mx re m hh hm _) (wm) rfl rfl rfl (Nat.le_of_ble_eq_true rfl) (by decide) ?_
  refine zb_if_ne iX8_rain_5 (fun q5 => absurd q5 (by rw [h]; decide)) (fun q5 => ?_)
  refine z_bipush iX8_rain_8 zb_m101 ?_
  exact z_ireturn iX8_rain_10 (rfl) (rfl)
set_option maxRecDepth 20000 in
set_option maxHeartbeats 1000000 in
theorem cm_see0 (G : zG) (pg nw kp sn ks fo ft fe gt mx : zs) (re : Nat → Int64) (m : zs) (hh : Int64) (hm : mOK m) (k q w : Int32) (h : xNo k (rN m 5) = true) : zK G mX8_see [.ref 49, .int k, .int q, .int w] (wW pg nw kp sn ks fo ft fe gt mx re m hh) (some (.int (-101))) (wW pg nw kp sn ks fo ft fe gt mx re m hh) := by
  refine zK_of 0 rfl (by decide) trivial (Nat.le_of_ble_eq_true rfl) rfl ?_
  refine z_aload_n iX8_see_0 rfl ?_
  refine z_iload_n iX8_see_1 rfl ?_
  refine z_cvi (y1 := mX8_isCart) iX8_see_2 lX8_178 kX8_isCart rfl (cm_isCart G pg nw kp sn ks fo ft fe gt mx re m hh hm _) (wm) rfl rfl rfl (Nat.le_of_ble_eq_true rfl) (by decide) ?_
  refine zb_if_ne iX8_see_5 (fun q5 => absurd q5 (by rw [h]; decide)) (fun q5 => ?_)
  refine z_bipush iX8_see_8 zb_m101 ?_
  exact z_ireturn iX8_see_10 (rfl) (rfl)
set_option maxRecDepth 20000 in
set_option maxHeartbeats 1000000 in
theorem cm_as1 (G : zG) (pg nw kp sn ks fo ft fe gt mx : zs) (re : Nat → Int64) (m : zs) (hh : Int64) (hm : mOK m) (c : Nat) (hc : c < rN m 5) (q : Int32) (h : xIn q 0 4 = false) : zK G mX8_as [.ref 49, .int (nI c), .int q] (wW pg nw kp sn ks fo ft fe gt mx re m hh) (some (.int (-102))) (wW pg nw kp sn ks fo ft fe gt mx re m hh) := by
  obtain ⟨o13, o12, o11, o10, o4, o5⟩ := id hm
  refine zK_of 1 rfl (by decide) trivial (Nat.le_of_ble_eq_true rfl) rfl ?_
  refine z_aload_n iX8_as_0 rfl ?_
  refine z_iload_n iX8_as_1 rfl ?_
  refine z_cvi (y1 := mX8_isCart) iX8_as_2 lX8_178 kX8_isCart rfl (cm_isCart G pg nw kp sn ks fo ft fe gt mx re m hh hm _) (wm) rfl rfl rfl (Nat.le_of_ble_eq_true rfl) (by decide) ?_
  refine zb_if_ne iX8_as_5 (fun q5 => ?_) (fun q5 => absurd (q5.symm.trans (by rw [xNo_n hc (by omega)])) (by decide))
  refine z_iload_n iX8_as_11 rfl ?_
  refine z_i2l iX8_as_12 ?_
  refine z_lconst iX8_as_13 zl_0 ?_
  refine z_ldc2 iX8_as_14 gX8_185 ?_
  refine z_csi (y1 := mX8_in) iX8_as_17 lX8_79 kX8_in rfl (c_in32 G _ q 0 4 (by decide +kernel) (by decide +kernel)) rfl rfl (Nat.le_of_ble_eq_true rfl) ?_
  refine zb_if_ne iX8_as_20 (fun q20 => absurd (q20.symm.trans h) (by decide)) (fun q20 => ?_)
  refine z_bipush iX8_as_23 zb_m102 ?_
  exact z_ireturn iX8_as_25 (rfl) (rfl)
set_option maxRecDepth 20000 in
set_option maxHeartbeats 1000000 in
theorem cm_as2 (G : zG) (pg nw kp sn ks fo ft fe gt mx : zs) (re : Nat → Int64) (m : zs) (hh : Int64) (hm : mOK m) (c : Nat) (hc : c < rN m 5) (q : Nat) (hq : q ≤ 4) (h : xIn (nI q) 0 4 = true) : zK G mX8_as [.ref 49, .int (nI c), .int (nI q)] (wW pg nw kp sn ks fo ft fe gt mx re m hh) (some (.int (if kIsA (rA m 10 c) q = true then nI c else -1))) (wW pg nw kp sn ks fo ft fe gt mx re m hh) := by
  obtain ⟨o13, o12, o11, o10, o4, o5⟩ := id hm
  refine zK_of 1 rfl (by decide) trivial (Nat.le_of_ble_eq_true rfl) rfl ?_
  refine z_aload_n iX8_as_0 rfl ?_
  refine z_iload_n iX8_as_1 rfl ?_
  refine z_cvi (y1 := mX8_isCart) iX8_as_2 lX8_178 kX8_isCart rfl (cm_isCart G pg nw kp sn ks fo ft fe gt mx re m hh hm _) (wm) rfl rfl rfl (Nat.le_of_ble_eq_true rfl) (by decide) ?_
  refine zb_if_ne iX8_as_5 (fun q5 => ?_) (fun q5 => absurd (q5.symm.trans (by rw [xNo_n hc (by omega)])) (by decide))
  refine z_iload_n iX8_as_11 rfl ?_
  refine z_i2l iX8_as_12 ?_
  refine z_lconst iX8_as_13 zl_0 ?_
  refine z_ldc2 iX8_as_14 gX8_185 ?_
  refine z_csi (y1 := mX8_in) iX8_as_17 lX8_79 kX8_in rfl (c_in32 G _ _ 0 4 (by decide +kernel) (by decide +kernel)) rfl rfl (Nat.le_of_ble_eq_true rfl) ?_
  refine zb_if_ne iX8_as_20 (fun q20 => ?_) (fun q20 => absurd (q20.symm.trans h) (by decide))
  have ok := o10 c
  refine z_iload_n iX8_as_26 rfl ?_
  refine zn_if_eq iX8_as_27 (by omega) (fun q27 => ?_) (fun q27 => ?_)
  · refine z_iconst iX8_as_55 zk_1 ?_
    refine z_goto iX8_as_56 ?_
    refine z_istore_n iX8_as_60 rfl (by decide) ?_
    refine z_iload_n iX8_as_61 rfl ?_
    refine zn_if_eq iX8_as_62 (by omega) (fun q62 => ?_) (fun q62 => ?_)
    · refine z_iconst iX8_as_69 zk_m1 ?_
      exact z_ireturn iX8_as_70 (by first | exact absurd q62 (by decide) | exact absurd rfl q62 | (refine (if_pos ?_).symm; rw [kIsA_iff]; omega) | (refine (if_neg ?_).symm; rw [kIsA_iff]; omega)) (rfl)
    · refine z_iload_n iX8_as_65 rfl ?_
      refine z_goto iX8_as_66 ?_
      exact z_ireturn iX8_as_70 (by first | exact absurd q62 (by decide) | exact absurd rfl q62 | (refine (if_pos ?_).symm; rw [kIsA_iff]; omega) | (refine (if_neg ?_).symm; rw [kIsA_iff]; omega)) (rfl)
  · refine z_iload_n iX8_as_30 rfl ?_
    refine z_aload_n iX8_as_31 rfl ?_
    refine z_getf iX8_as_32 fX8_13 (wm) (mF_10 _ _) (by decide) ?_
    refine z_iload_n iX8_as_35 rfl ?_
    refine z_iaload iX8_as_36 (wm10) rfl (by omega) (by decide) (by decide) ?_
    refine zn_eq iX8_as_37 (by omega) (by omega) (fun q37 => ?_) (fun q37 => ?_)
    · refine z_iconst iX8_as_55 zk_1 ?_
      refine z_goto iX8_as_56 ?_
      refine z_istore_n iX8_as_60 rfl (by decide) ?_
      refine z_iload_n iX8_as_61 rfl ?_
      refine zn_if_eq iX8_as_62 (by omega) (fun q62 => ?_) (fun q62 => ?_)
      · refine z_iconst iX8_as_69 zk_m1 ?_
        exact z_ireturn iX8_as_70 (by first | exact absurd q62 (by decide) | exact absurd rfl q62 | (refine (if_pos ?_).symm; rw [kIsA_iff]; omega) | (refine (if_neg ?_).symm; rw [kIsA_iff]; omega)) (rfl)
      · refine z_iload_n iX8_as_65 rfl ?_
        refine z_goto iX8_as_66 ?_
        exact z_ireturn iX8_as_70 (by first | exact absurd q62 (by decide) | exact absurd rfl q62 | (refine (if_pos ?_).symm; rw [kIsA_iff]; omega) | (refine (if_neg ?_).symm; rw [kIsA_iff]; omega)) (rfl)
    · refine z_iload_n iX8_as_40 rfl ?_
      refine z_iconst iX8_as_41 zk_1 ?_
      refine zn_ne iX8_as_42 (by omega) (by omega) (fun q42 => ?_) (fun q42 => ?_)
      · refine z_iconst iX8_as_59 zk_0 ?_
        refine z_istore_n iX8_as_60 rfl (by decide) ?_
        refine z_iload_n iX8_as_61 rfl ?_
        refine zn_if_eq iX8_as_62 (by omega) (fun q62 => ?_) (fun q62 => ?_)
        · refine z_iconst iX8_as_69 zk_m1 ?_
          exact z_ireturn iX8_as_70 (by first | exact absurd q62 (by decide) | exact absurd rfl q62 | (refine (if_pos ?_).symm; rw [kIsA_iff]; omega) | (refine (if_neg ?_).symm; rw [kIsA_iff]; omega)) (rfl)
        · refine z_iload_n iX8_as_65 rfl ?_
          refine z_goto iX8_as_66 ?_
          exact z_ireturn iX8_as_70 (by first | exact absurd q62 (by decide) | exact absurd rfl q62 | (refine (if_pos ?_).symm; rw [kIsA_iff]; omega) | (refine (if_neg ?_).symm; rw [kIsA_iff]; omega)) (rfl)
      · refine z_aload_n iX8_as_45 rfl ?_
        refine z_getf iX8_as_46 fX8_13 (wm) (mF_10 _ _) (by decide) ?_
        refine z_iload_n iX8_as_49 rfl ?_
        refine z_iaload iX8_as_50 (wm10) rfl (by omega) (by decide) (by decide) ?_
        refine z_iconst iX8_as_51 zk_4 ?_
        refine zn_ne iX8_as_52 (by omega) (by omega) (fun q52 => ?_) (fun q52 => ?_)
        · refine z_iconst iX8_as_59 zk_0 ?_
          refine z_istore_n iX8_as_60 rfl (by decide) ?_
          refine z_iload_n iX8_as_61 rfl ?_
          refine zn_if_eq iX8_as_62 (by omega) (fun q62 => ?_) (fun q62 => ?_)
          · refine z_iconst iX8_as_69 zk_m1 ?_
            exact z_ireturn iX8_as_70 (by first | exact absurd q62 (by decide) | exact absurd rfl q62 | (refine (if_pos ?_).symm; rw [kIsA_iff]; omega) | (refine (if_neg ?_).symm; rw [kIsA_iff]; omega)) (rfl)
          · refine z_iload_n iX8_as_65 rfl ?_
            refine z_goto iX8_as_66 ?_
            exact z_ireturn iX8_as_70 (by first | exact absurd q62 (by decide) | exact absurd rfl q62 | (refine (if_pos ?_).symm; rw [kIsA_iff]; omega) | (refine (if_neg ?_).symm; rw [kIsA_iff]; omega)) (rfl)
        · refine z_iconst iX8_as_55 zk_1 ?_
          refine z_goto iX8_as_56 ?_
          refine z_istore_n iX8_as_60 rfl (by decide) ?_
          refine z_iload_n iX8_as_61 rfl ?_
          refine zn_if_eq iX8_as_62 (by omega) (fun q62 => ?_) (fun q62 => ?_)
          · refine z_iconst iX8_as_69 zk_m1 ?_
            exact z_ireturn iX8_as_70 (by first | exact absurd q62 (by decide) | exact absurd rfl q62 | (refine (if_pos ?_).symm; rw [kIsA_iff]; omega) | (refine (if_neg ?_).symm; rw [kIsA_iff]; omega)) (rfl)
          · refine z_iload_n iX8_as_65 rfl ?_
            refine z_goto iX8_as_66 ?_
            exact z_ireturn iX8_as_70 (by first | exact absurd q62 (by decide) | exact absurd rfl q62 | (refine (if_pos ?_).symm; rw [kIsA_iff]; omega) | (refine (if_neg ?_).symm; rw [kIsA_iff]; omega)) (rfl)
set_option maxRecDepth 20000 in
set_option maxHeartbeats 1000000 in
theorem cm_cut1 (G : zG) (pg nw kp sn ks fo ft fe gt mx : zs) (re : Nat → Int64) (m : zs) (hh : Int64) (hm : mOK m) (c : Nat) (hc : c < rN m 4) (q : Int32) (h : xIn q 1 3 = false) : zK G mX8_cut [.ref 49, .int (nI c), .int q] (wW pg nw kp sn ks fo ft fe gt mx re m hh) (some (.int (-102))) (wW pg nw kp sn ks fo ft fe gt mx re m hh) := by
  obtain ⟨o13, o12, o11, o10, o4, o5⟩ := id hm
  refine zK_of 1 rfl (by decide) trivial (Nat.le_of_ble_eq_true rfl) rfl ?_
  refine z_aload_n iX8_cut_0 rfl ?_
  refine z_iload_n iX8_cut_1 rfl ?_
  refine z_cvi (y1 := mX8_isBay) iX8_cut_2 lX8_208 kX8_isBay rfl (cm_isBay G pg nw kp sn ks fo ft fe gt mx re m hh hm _) (wm) rfl rfl rfl (Nat.le_of_ble_eq_true rfl) (by decide) ?_
  refine zb_if_ne iX8_cut_5 (fun q5 => ?_) (fun q5 => absurd (q5.symm.trans (by rw [xNo_n hc (by omega)])) (by decide))
  refine z_iload_n iX8_cut_11 rfl ?_
  refine z_i2l iX8_cut_12 ?_
  refine z_lconst iX8_cut_13 zl_1 ?_
  refine z_ldc2 iX8_cut_14 gX8_214 ?_
  refine z_csi (y1 := mX8_in) iX8_cut_17 lX8_79 kX8_in rfl (c_in32 G _ q 1 3 (by decide +kernel) (by decide +kernel)) rfl rfl (Nat.le_of_ble_eq_true rfl) ?_
  refine zb_if_ne iX8_cut_20 (fun q20 => absurd (q20.symm.trans h) (by decide)) (fun q20 => ?_)
  refine z_bipush iX8_cut_23 zb_m102 ?_
  exact z_ireturn iX8_cut_25 (rfl) (rfl)
set_option maxRecDepth 20000 in
set_option maxHeartbeats 1000000 in
theorem cm_cut2 (G : zG) (pg nw kp sn ks fo ft fe gt mx : zs) (re : Nat → Int64) (m : zs) (hh : Int64) (hm : mOK m) (c : Nat) (hc : c < rN m 4) (q : Int32) (h : xIn q 1 3 = true) (ht : mTop (mBegin m) c = none) : zK G mX8_cut [.ref 49, .int (nI c), .int q] (wW pg nw kp sn ks fo ft fe gt mx re m hh) (some (.int (-103))) (wW pg nw kp sn ks fo ft fe gt mx re (mBegin m) hh) := by
  obtain ⟨o13, o12, o11, o10, o4, o5⟩ := id hm
  refine zK_of 1 rfl (by decide) trivial (Nat.le_of_ble_eq_true rfl) rfl ?_
  refine z_aload_n iX8_cut_0 rfl ?_
  refine z_iload_n iX8_cut_1 rfl ?_
  refine z_cvi (y1 := mX8_isBay) iX8_cut_2 lX8_208 kX8_isBay rfl (cm_isBay G pg nw kp sn ks fo ft fe gt mx re m hh hm _) (wm) rfl rfl rfl (Nat.le_of_ble_eq_true rfl) (by decide) ?_
  refine zb_if_ne iX8_cut_5 (fun q5 => ?_) (fun q5 => absurd (q5.symm.trans (by rw [xNo_n hc (by omega)])) (by decide))
  refine z_iload_n iX8_cut_11 rfl ?_
  refine z_i2l iX8_cut_12 ?_
  refine z_lconst iX8_cut_13 zl_1 ?_
  refine z_ldc2 iX8_cut_14 gX8_214 ?_
  refine z_csi (y1 := mX8_in) iX8_cut_17 lX8_79 kX8_in rfl (c_in32 G _ q 1 3 (by decide +kernel) (by decide +kernel)) rfl rfl (Nat.le_of_ble_eq_true rfl) ?_
  refine zb_if_ne iX8_cut_20 (fun q20 => ?_) (fun q20 => absurd (q20.symm.trans h) (by decide))
  refine z_aload_n iX8_cut_26 rfl ?_
  refine z_cvv (y1 := mX8_begin) iX8_cut_27 lX8_165 kX8_begin rfl (cm_begin G pg nw kp sn ks fo ft fe gt mx re m hh) (wm) rfl rfl rfl (Nat.le_of_ble_eq_true rfl) (by decide) ?_
  refine z_aload_n iX8_cut_30 rfl ?_
  refine z_iload_n iX8_cut_31 rfl ?_
  refine z_cvi (y1 := mX8_hasLight) iX8_cut_32 lX8_216 kX8_hasLight rfl (cm_hasLight G pg nw kp sn ks fo ft fe gt mx re (mBegin m) hh hm c (by omega)) (wm) rfl rfl rfl (Nat.le_of_ble_eq_true rfl) (by decide) ?_
  rw [ht]
  refine zb_if_ne iX8_cut_35 (fun q35 => absurd q35 (by simp)) (fun q35 => ?_)
  refine z_bipush iX8_cut_38 zb_m103 ?_
  exact z_ireturn iX8_cut_40 (rfl) (rfl)
set_option maxRecDepth 20000 in
set_option maxHeartbeats 1000000 in
theorem cm_cut3 (G : zG) (pg nw kp sn ks fo ft fe gt mx : zs) (re : Nat → Int64) (m : zs) (hh : Int64) (hm : mOK m) (c : Nat) (hc : c < rN m 4) (q : Int32) (h : xIn q 1 3 = true) (k : Nat) (ht : mTop (mBegin m) c = some k) (hg : ¬ rI m 7 < nI 9000) : zK G mX8_cut [.ref 49, .int (nI c), .int q] (wW pg nw kp sn ks fo ft fe gt mx re m hh) (some (.int (-104))) (wW pg nw kp sn ks fo ft fe gt mx re (mBegin m) hh) := by
  obtain ⟨o13, o12, o11, o10, o4, o5⟩ := id hm
  refine zK_of 1 rfl (by decide) trivial (Nat.le_of_ble_eq_true rfl) rfl ?_
  refine z_aload_n iX8_cut_0 rfl ?_
  refine z_iload_n iX8_cut_1 rfl ?_
  refine z_cvi (y1 := mX8_isBay) iX8_cut_2 lX8_208 kX8_isBay rfl (cm_isBay G pg nw kp sn ks fo ft fe gt mx re m hh hm _) (wm) rfl rfl rfl (Nat.le_of_ble_eq_true rfl) (by decide) ?_
  refine zb_if_ne iX8_cut_5 (fun q5 => ?_) (fun q5 => absurd (q5.symm.trans (by rw [xNo_n hc (by omega)])) (by decide))
  refine z_iload_n iX8_cut_11 rfl ?_
  refine z_i2l iX8_cut_12 ?_
  refine z_lconst iX8_cut_13 zl_1 ?_
  refine z_ldc2 iX8_cut_14 gX8_214 ?_
  refine z_csi (y1 := mX8_in) iX8_cut_17 lX8_79 kX8_in rfl (c_in32 G _ q 1 3 (by decide +kernel) (by decide +kernel)) rfl rfl (Nat.le_of_ble_eq_true rfl) ?_
  refine zb_if_ne iX8_cut_20 (fun q20 => ?_) (fun q20 => absurd (q20.symm.trans h) (by decide))
  refine z_aload_n iX8_cut_26 rfl ?_
  refine z_cvv (y1 := mX8_begin) iX8_cut_27 lX8_165 kX8_begin rfl (cm_begin G pg nw kp sn ks fo ft fe gt mx re m hh) (wm) rfl rfl rfl (Nat.le_of_ble_eq_true rfl) (by decide) ?_
  refine z_aload_n iX8_cut_30 rfl ?_
  refine z_iload_n iX8_cut_31 rfl ?_
  refine z_cvi (y1 := mX8_hasLight) iX8_cut_32 lX8_216 kX8_hasLight rfl (cm_hasLight G pg nw kp sn ks fo ft fe gt mx re (mBegin m) hh hm c (by omega)) (wm) rfl rfl rfl (Nat.le_of_ble_eq_true rfl) (by decide) ?_
  rw [ht]
  refine zb_if_ne iX8_cut_35 (fun q35 => ?_) (fun q35 => absurd q35 (by simp))
  refine z_aload_n iX8_cut_41 rfl ?_
  refine z_getf iX8_cut_42 fX8_119 (wm) (mF_7 _ _) (by decide) ?_
  refine z_sipush iX8_cut_45 zs_9000 ?_
  refine z_icmp_lt iX8_cut_48 (fun q48 => absurd q48 hg) (fun q48 => ?_)
  refine z_bipush iX8_cut_51 zb_m104 ?_
  exact z_ireturn iX8_cut_53 (rfl) (rfl)
def mCutG (m : zs) (k : Nat) (q : Int32) : Int32 := kGives (rA m 10 k) (mLess (mBegin m) k q)
def mCutD (m : zs) (b k : Nat) (q : Int32) : zs := mTake (mCut (mBegin m) b k q)
def mCutE (m : zs) (b k : Nat) (q : Int32) : zs := uI (mCutD m b k q) 7 (rI (mCutD m b k q) 7 + mCutG m k q)
set_option maxRecDepth 20000 in
set_option maxHeartbeats 1000000 in
theorem cm_cut4 (G : zG) (pg nw kp sn ks fo ft fe gt mx : zs) (re : Nat → Int64) (m : zs) (hh : Int64) (hm : mOK m) (c : Nat) (hc : c < rN m 4) (q : Int32) (h : xIn q 1 3 = true) (k : Nat) (ht : mTop (mBegin m) c = some k) (hg : rI m 7 < nI 9000) : zK G mX8_cut [.ref 49, .int (nI c), .int q] (wW pg nw kp sn ks fo ft fe gt mx re m hh) (some (.int (mCutG m k q))) (wW pg nw kp sn ks fo ft fe gt mx re (mCutE m c k q) hh) := by
  obtain ⟨o13, o12, o11, o10, o4, o5⟩ := id hm
  refine zK_of 1 rfl (by decide) trivial (Nat.le_of_ble_eq_true rfl) rfl ?_
  refine z_aload_n iX8_cut_0 rfl ?_
  refine z_iload_n iX8_cut_1 rfl ?_
  refine z_cvi (y1 := mX8_isBay) iX8_cut_2 lX8_208 kX8_isBay rfl (cm_isBay G pg nw kp sn ks fo ft fe gt mx re m hh hm _) (wm) rfl rfl rfl (Nat.le_of_ble_eq_true rfl) (by decide) ?_
  refine zb_if_ne iX8_cut_5 (fun q5 => ?_) (fun q5 => absurd (q5.symm.trans (by rw [xNo_n hc (by omega)])) (by decide))
  refine z_iload_n iX8_cut_11 rfl ?_
  refine z_i2l iX8_cut_12 ?_
  refine z_lconst iX8_cut_13 zl_1 ?_
  refine z_ldc2 iX8_cut_14 gX8_214 ?_
  refine z_csi (y1 := mX8_in) iX8_cut_17 lX8_79 kX8_in rfl (c_in32 G _ q 1 3 (by decide +kernel) (by decide +kernel)) rfl rfl (Nat.le_of_ble_eq_true rfl) ?_
  refine zb_if_ne iX8_cut_20 (fun q20 => ?_) (fun q20 => absurd (q20.symm.trans h) (by decide))
  refine z_aload_n iX8_cut_26 rfl ?_
  refine z_cvv (y1 := mX8_begin) iX8_cut_27 lX8_165 kX8_begin rfl (cm_begin G pg nw kp sn ks fo ft fe gt mx re m hh) (wm) rfl rfl rfl (Nat.le_of_ble_eq_true rfl) (by decide) ?_
  refine z_aload_n iX8_cut_30 rfl ?_
  refine z_iload_n iX8_cut_31 rfl ?_
  refine z_cvi (y1 := mX8_hasLight) iX8_cut_32 lX8_216 kX8_hasLight rfl (cm_hasLight G pg nw kp sn ks fo ft fe gt mx re (mBegin m) hh hm c (by omega)) (wm) rfl rfl rfl (Nat.le_of_ble_eq_true rfl) (by decide) ?_
  rw [ht]
  refine zb_if_ne iX8_cut_35 (fun q35 => ?_) (fun q35 => absurd q35 (by simp))
  refine z_aload_n iX8_cut_41 rfl ?_
  refine z_getf iX8_cut_42 fX8_119 (wm) (mF_7 _ _) (by decide) ?_
  refine z_sipush iX8_cut_45 zs_9000 ?_
  refine z_icmp_lt iX8_cut_48 (fun q48 => ?_) (fun q48 => absurd hg q48)
  refine z_aload_n iX8_cut_54 rfl ?_
  refine z_iload_n iX8_cut_55 rfl ?_
  refine z_iload_n iX8_cut_56 rfl ?_
  refine z_cvi (y1 := mX8_cutThen) iX8_cut_57 lX8_219 kX8_cutThen rfl (cm_cut G pg nw kp sn ks fo ft fe gt mx re (mBegin m) hh hm c (by omega) q k ht) (wm) rfl rfl rfl (Nat.le_of_ble_eq_true rfl) (by decide) ?_
  refine z_top (v := mCutG m k q) rfl ?_
  refine z_istore_n iX8_cut_60 rfl (by decide) ?_
  refine z_aload_n iX8_cut_61 rfl ?_
  refine z_cvv (y1 := mX8_takeThen) iX8_cut_62 lX8_222 kX8_takeThen rfl (cm_take G pg nw kp sn ks fo ft fe gt mx re _ hh) (wm) rfl rfl rfl (Nat.le_of_ble_eq_true rfl) (by decide) ?_
  refine z_heap (g2 := wW pg nw kp sn ks fo ft fe gt mx re (mCutD m c k q) hh) rfl ?_
  refine z_aload_n iX8_cut_65 rfl ?_
  refine z_dup iX8_cut_66 rfl ?_
  refine z_getf iX8_cut_67 fX8_119 (wm) (mF_7 _ _) (by decide) ?_
  refine z_iload_n iX8_cut_70 rfl ?_
  refine z_iadd iX8_cut_71 ?_
  refine z_putf iX8_cut_72 fX8_119 (wm) rfl rfl (Nat.le_of_ble_eq_true rfl) (by decide) ?_
  rw [wm_7]
  refine z_iload_n iX8_cut_75 rfl ?_
  exact z_ireturn iX8_cut_76 (rfl) (rfl)
set_option maxRecDepth 20000 in
set_option maxHeartbeats 1000000 in
theorem cm_day0 (G : zG) (pg nw kp sn ks fo ft fe gt mx : zs) (re : Nat → Int64) (m : zs) (hh : Int64) (hm : mOK m) (h : rN m 4 = 0) : zK G mX8_day [.ref 49] (wW pg nw kp sn ks fo ft fe gt mx re m hh) (some (.int (-103))) (wW pg nw kp sn ks fo ft fe gt mx re m hh) := by
  refine zK_of 1 rfl (by decide) trivial (Nat.le_of_ble_eq_true rfl) rfl ?_
  refine z_aload_n iX8_day_0 rfl ?_
  refine z_cvi (y1 := mX8_lacks) iX8_day_1 lX8_225 kX8_lacks rfl (cm_lacks G pg nw kp sn ks fo ft fe gt mx re m hh hm) (wm) rfl rfl rfl (Nat.le_of_ble_eq_true rfl) (by decide) ?_
  refine zb_if_eq iX8_day_4 (fun q4 => absurd h (of_decide_eq_false q4)) (fun q4 => ?_)
  refine z_bipush iX8_day_7 zb_m103 ?_
  exact z_ireturn iX8_day_9 (rfl) (rfl)
set_option maxRecDepth 20000 in
set_option maxHeartbeats 1000000 in
theorem cm_day1 (G : zG) (pg nw kp sn ks fo ft fe gt mx : zs) (re : Nat → Int64) (m : zs) (hh : Int64) (hm : mOK m) (h : ¬ rN m 4 = 0) (hd : rN m 6 = 999) : zK G mX8_day [.ref 49] (wW pg nw kp sn ks fo ft fe gt mx re m hh) (some (.int (-104))) (wW pg nw kp sn ks fo ft fe gt mx re m hh) := by
  refine zK_of 1 rfl (by decide) trivial (Nat.le_of_ble_eq_true rfl) rfl ?_
  refine z_aload_n iX8_day_0 rfl ?_
  refine z_cvi (y1 := mX8_lacks) iX8_day_1 lX8_225 kX8_lacks rfl (cm_lacks G pg nw kp sn ks fo ft fe gt mx re m hh hm) (wm) rfl rfl rfl (Nat.le_of_ble_eq_true rfl) (by decide) ?_
  refine zb_if_eq iX8_day_4 (fun q4 => ?_) (fun q4 => absurd (of_decide_eq_true q4) h)
  refine z_aload_n iX8_day_10 rfl ?_
  refine z_getf iX8_day_11 fX8_116 (wm) (mF_6 _ _) (by decide) ?_
  refine z_sipush iX8_day_14 zs_999 ?_
  refine zn_ne iX8_day_17 (by omega) (by omega) (fun q17 => absurd q17 (by omega)) (fun q17 => ?_)
  refine z_bipush iX8_day_20 zb_m104 ?_
  exact z_ireturn iX8_day_22 (rfl) (rfl)
def mDayD (m : zs) : zs := mTake (mDay (mBegin m)).2
def mDayE (m : zs) : zs := uI (uN (mDayD m) 6 (rN (mDayD m) 6 + 1)) 8 (rI (mDayD m) 8 + nI (mDay (mBegin m)).1)
set_option maxRecDepth 20000 in
set_option maxHeartbeats 1000000 in
theorem cm_day2 (G : zG) (pg nw kp sn ks fo ft fe gt mx : zs) (re : Nat → Int64) (m : zs) (hh : Int64) (hm : mOK m) (hp : mHP m) (h : ¬ rN m 4 = 0) (hd : rN m 6 < 999) : zK G mX8_day [.ref 49] (wW pg nw kp sn ks fo ft fe gt mx re m hh) (some (.int (nI (mDay (mBegin m)).1))) (wW pg nw kp sn ks fo ft fe gt mx re (mDayE m) hh) := by
  refine zK_of 1 rfl (by decide) trivial (Nat.le_of_ble_eq_true rfl) rfl ?_
  refine z_aload_n iX8_day_0 rfl ?_
  refine z_cvi (y1 := mX8_lacks) iX8_day_1 lX8_225 kX8_lacks rfl (cm_lacks G pg nw kp sn ks fo ft fe gt mx re m hh hm) (wm) rfl rfl rfl (Nat.le_of_ble_eq_true rfl) (by decide) ?_
  refine zb_if_eq iX8_day_4 (fun q4 => ?_) (fun q4 => absurd (of_decide_eq_true q4) h)
  refine z_aload_n iX8_day_10 rfl ?_
  refine z_getf iX8_day_11 fX8_116 (wm) (mF_6 _ _) (by decide) ?_
  refine z_sipush iX8_day_14 zs_999 ?_
  refine zn_ne iX8_day_17 (by omega) (by omega) (fun q17 => ?_) (fun q17 => absurd q17 (by omega))
  refine z_aload_n iX8_day_23 rfl ?_
  refine z_cvv (y1 := mX8_begin) iX8_day_24 lX8_165 kX8_begin rfl (cm_begin G pg nw kp sn ks fo ft fe gt mx re m hh) (wm) rfl rfl rfl (Nat.le_of_ble_eq_true rfl) (by decide) ?_
  refine z_aload_n iX8_day_27 rfl ?_
  refine z_cvi (y1 := mX8_dayThen) iX8_day_28 lX8_190 kX8_dayThen rfl (cm_day G pg nw kp sn ks fo ft fe gt mx re (mBegin m) hh hm hp) (wm) rfl rfl rfl (Nat.le_of_ble_eq_true rfl) (by decide) ?_
  refine z_istore_n iX8_day_31 rfl (by decide) ?_
  refine z_aload_n iX8_day_32 rfl ?_
  refine z_cvv (y1 := mX8_takeThen) iX8_day_33 lX8_222 kX8_takeThen rfl (cm_take G pg nw kp sn ks fo ft fe gt mx re _ hh) (wm) rfl rfl rfl (Nat.le_of_ble_eq_true rfl) (by decide) ?_
  refine z_heap (g2 := wW pg nw kp sn ks fo ft fe gt mx re (mDayD m) hh) rfl ?_
  refine z_aload_n iX8_day_36 rfl ?_
  refine z_dup iX8_day_37 rfl ?_
  refine z_getf iX8_day_38 fX8_116 (wm) (mF_6 _ _) (by decide) ?_
  refine z_iconst iX8_day_41 zk_1 ?_
  refine z_iadd iX8_day_42 ?_
  refine z_top nix_add ?_
  refine z_putf iX8_day_43 fX8_116 (wm) rfl rfl (Nat.le_of_ble_eq_true rfl) (by decide) ?_
  rw [wm_6]
  refine z_aload_n iX8_day_46 rfl ?_
  refine z_dup iX8_day_47 rfl ?_
  refine z_getf iX8_day_48 fX8_122 (wm) (mF_8 _ _) (by decide) ?_
  refine z_iload_n iX8_day_51 rfl ?_
  refine z_iadd iX8_day_52 ?_
  refine z_putf iX8_day_53 fX8_122 (wm) rfl rfl (Nat.le_of_ble_eq_true rfl) (by decide) ?_
  rw [wm_8]
  refine z_iload_n iX8_day_56 rfl ?_
  exact z_ireturn iX8_day_57 (rfl) (rfl)
set_option maxRecDepth 20000 in
set_option maxHeartbeats 1000000 in
theorem cm_rain1 (G : zG) (pg nw kp sn ks fo ft fe gt mx : zs) (re : Nat → Int64) (m : zs) (hh : Int64) (hm : mOK m) (c : Nat) (hc : c < rN m 5) (q : Int32) (h : xIn q 0 9 = false) : zK G mX8_rain [.ref 49, .int (nI c), .int q] (wW pg nw kp sn ks fo ft fe gt mx re m hh) (some (.int (-102))) (wW pg nw kp sn ks fo ft fe gt mx re m hh) := by
  obtain ⟨o13, o12, o11, o10, o4, o5⟩ := id hm
  refine zK_of 1 rfl (by decide) trivial (Nat.le_of_ble_eq_true rfl) rfl ?_
  refine z_aload_n iX8_rain_0 rfl ?_
  refine z_iload_n iX8_rain_1 rfl ?_
  refine z_cvi (y1 := mX8_isCart) iX8_rain_2 lX8_178 kX8_isCart rfl (cm_isCart G pg nw kp sn ks fo ft fe gt mx re m hh hm _) (wm) rfl rfl rfl (Nat.le_of_ble_eq_true rfl) (by decide) ?_
  refine zb_if_ne iX8_rain_5 (fun q5 => ?_) (fun q5 => absurd (q5.symm.trans (by rw [xNo_n hc (by omega)])) (by decide))
  refine z_iload_n iX8_rain_11 rfl ?_
  refine z_i2l iX8_rain_12 ?_
  refine z_lconst iX8_rain_13 zl_0 ?_
  refine z_ldc2 iX8_rain_14 gX8_229 ?_
  refine z_csi (y1 := mX8_in) iX8_rain_17 lX8_79 kX8_in rfl (c_in32 G _ q 0 9 (by decide +kernel) (by decide +kernel)) rfl rfl (Nat.le_of_ble_eq_true rfl) ?_
  refine zb_if_ne iX8_rain_20 (fun q20 => absurd (q20.symm.trans h) (by decide)) (fun q20 => ?_)
  refine z_bipush iX8_rain_23 zb_m102 ?_
  exact z_ireturn iX8_rain_25 (rfl) (rfl)
set_option maxRecDepth 20000 in
set_option maxHeartbeats 1000000 in
theorem cm_rain2 (G : zG) (pg nw kp sn ks fo ft fe gt mx : zs) (re : Nat → Int64) (m : zs) (hh : Int64) (hm : mOK m) (c : Nat) (hc : c < rN m 5) (q : Int32) (h : xIn q 0 9 = true) (hg : rF m 14 c = 0) : zK G mX8_rain [.ref 49, .int (nI c), .int q] (wW pg nw kp sn ks fo ft fe gt mx re m hh) (some (.int (-103))) (wW pg nw kp sn ks fo ft fe gt mx re m hh) := by
  obtain ⟨o13, o12, o11, o10, o4, o5⟩ := id hm
  refine zK_of 1 rfl (by decide) trivial (Nat.le_of_ble_eq_true rfl) rfl ?_
  refine z_aload_n iX8_rain_0 rfl ?_
  refine z_iload_n iX8_rain_1 rfl ?_
  refine z_cvi (y1 := mX8_isCart) iX8_rain_2 lX8_178 kX8_isCart rfl (cm_isCart G pg nw kp sn ks fo ft fe gt mx re m hh hm _) (wm) rfl rfl rfl (Nat.le_of_ble_eq_true rfl) (by decide) ?_
  refine zb_if_ne iX8_rain_5 (fun q5 => ?_) (fun q5 => absurd (q5.symm.trans (by rw [xNo_n hc (by omega)])) (by decide))
  refine z_iload_n iX8_rain_11 rfl ?_
  refine z_i2l iX8_rain_12 ?_
  refine z_lconst iX8_rain_13 zl_0 ?_
  refine z_ldc2 iX8_rain_14 gX8_229 ?_
  refine z_csi (y1 := mX8_in) iX8_rain_17 lX8_79 kX8_in rfl (c_in32 G _ q 0 9 (by decide +kernel) (by decide +kernel)) rfl rfl (Nat.le_of_ble_eq_true rfl) ?_
  refine zb_if_ne iX8_rain_20 (fun q20 => ?_) (fun q20 => absurd (q20.symm.trans h) (by decide))
  refine z_aload_n iX8_rain_26 rfl ?_
  refine z_getf iX8_rain_27 fX8_25 (wm) (mF_14 _ _) (by decide) ?_
  refine z_iload_n iX8_rain_30 rfl ?_
  refine z_iaload iX8_rain_31 (wm14) rfl (by omega) (by decide) (by decide) ?_
  refine z_if_ne iX8_rain_32 (fun q32 => absurd hg q32) (fun q32 => ?_)
  refine z_bipush iX8_rain_35 zb_m103 ?_
  exact z_ireturn iX8_rain_37 (rfl) (rfl)
set_option maxRecDepth 20000 in
set_option maxHeartbeats 1000000 in
theorem cm_rain3 (G : zG) (pg nw kp sn ks fo ft fe gt mx : zs) (re : Nat → Int64) (m : zs) (hh : Int64) (hm : mOK m) (c : Nat) (hc : c < rN m 5) (q : Int32) (h : xIn q 0 9 = true) (hg : ¬ rF m 14 c = 0) : zK G mX8_rain [.ref 49, .int (nI c), .int q] (wW pg nw kp sn ks fo ft fe gt mx re m hh) (some (.int (rF m 15 c))) (wW pg nw kp sn ks fo ft fe gt mx re (uF m 15 (upd (rF m 15) c q)) hh) := by
  obtain ⟨o13, o12, o11, o10, o4, o5⟩ := id hm
  refine zK_of 1 rfl (by decide) trivial (Nat.le_of_ble_eq_true rfl) rfl ?_
  refine z_aload_n iX8_rain_0 rfl ?_
  refine z_iload_n iX8_rain_1 rfl ?_
  refine z_cvi (y1 := mX8_isCart) iX8_rain_2 lX8_178 kX8_isCart rfl (cm_isCart G pg nw kp sn ks fo ft fe gt mx re m hh hm _) (wm) rfl rfl rfl (Nat.le_of_ble_eq_true rfl) (by decide) ?_
  refine zb_if_ne iX8_rain_5 (fun q5 => ?_) (fun q5 => absurd (q5.symm.trans (by rw [xNo_n hc (by omega)])) (by decide))
  refine z_iload_n iX8_rain_11 rfl ?_
  refine z_i2l iX8_rain_12 ?_
  refine z_lconst iX8_rain_13 zl_0 ?_
  refine z_ldc2 iX8_rain_14 gX8_229 ?_
  refine z_csi (y1 := mX8_in) iX8_rain_17 lX8_79 kX8_in rfl (c_in32 G _ q 0 9 (by decide +kernel) (by decide +kernel)) rfl rfl (Nat.le_of_ble_eq_true rfl) ?_
  refine zb_if_ne iX8_rain_20 (fun q20 => ?_) (fun q20 => absurd (q20.symm.trans h) (by decide))
  refine z_aload_n iX8_rain_26 rfl ?_
  refine z_getf iX8_rain_27 fX8_25 (wm) (mF_14 _ _) (by decide) ?_
  refine z_iload_n iX8_rain_30 rfl ?_
  refine z_iaload iX8_rain_31 (wm14) rfl (by omega) (by decide) (by decide) ?_
  refine z_if_ne iX8_rain_32 (fun q32 => ?_) (fun q32 => absurd q32 hg)
  refine z_aload_n iX8_rain_38 rfl ?_
  refine z_getf iX8_rain_39 fX8_28 (wm) (mF_15 _ _) (by decide) ?_
  refine z_iload_n iX8_rain_42 rfl ?_
  refine z_iaload iX8_rain_43 (wm15) rfl (by omega) (by decide) (by decide) ?_
  refine z_istore_n iX8_rain_44 rfl (by decide) ?_
  refine z_aload_n iX8_rain_45 rfl ?_
  refine z_getf iX8_rain_46 fX8_28 (wm) (mF_15 _ _) (by decide) ?_
  refine z_iload_n iX8_rain_49 rfl ?_
  refine z_iload_n iX8_rain_50 rfl ?_
  refine z_iastore iX8_rain_51 (wm15) rfl (by omega) (by decide) (by decide) (by decide) ?_
  rw [wm_15]
  refine z_iload_n iX8_rain_52 rfl ?_
  exact z_ireturn iX8_rain_53 (rfl) (rfl)
set_option maxRecDepth 20000 in
set_option maxHeartbeats 1000000 in
theorem cm_turn1 (G : zG) (pg nw kp sn ks fo ft fe gt mx : zs) (re : Nat → Int64) (m : zs) (hh : Int64) (hm : mOK m) (c : Nat) (hc : c < rN m 4) (h0 : mMany m c = 0) : zK G mX8_turn [.ref 49, .int (nI c)] (wW pg nw kp sn ks fo ft fe gt mx re m hh) (some (.int (-103))) (wW pg nw kp sn ks fo ft fe gt mx re m hh) := by
  obtain ⟨o13, o12, o11, o10, o4, o5⟩ := id hm
  refine zK_of 4 rfl (by decide) trivial (Nat.le_of_ble_eq_true rfl) rfl ?_
  refine z_aload_n iX8_turn_0 rfl ?_
  refine z_iload_n iX8_turn_1 rfl ?_
  refine z_cvi (y1 := mX8_isBay) iX8_turn_2 lX8_208 kX8_isBay rfl (cm_isBay G pg nw kp sn ks fo ft fe gt mx re m hh hm _) (wm) rfl rfl rfl (Nat.le_of_ble_eq_true rfl) (by decide) ?_
  refine zb_if_ne iX8_turn_5 (fun q5 => ?_) (fun q5 => absurd (q5.symm.trans (by rw [xNo_n hc (by omega)])) (by decide))
  refine z_aload_n iX8_turn_11 rfl ?_
  refine z_iload_n iX8_turn_12 rfl ?_
  refine z_cvi (y1 := mX8_thereMany) iX8_turn_13 lX8_193 kX8_thereMany rfl (cm_many G pg nw kp sn ks fo ft fe gt mx re m hh hm c (by omega)) (wm) rfl rfl rfl (Nat.le_of_ble_eq_true rfl) (by decide) ?_
  refine z_istore_n iX8_turn_16 rfl (by decide) ?_
  refine z_iload_n iX8_turn_17 rfl ?_
  refine zn_if_ne iX8_turn_18 (by omega) (fun q18 => absurd q18 (by omega)) (fun q18 => ?_)
  refine z_bipush iX8_turn_21 zb_m103 ?_
  exact z_ireturn iX8_turn_23 (rfl) (rfl)
def mSwap (x : zs) (i j : Nat) : zs := uA x 13 (updN (updN (rA x 13) i (rA x 13 j)) j (rA x 13 i))
def mTurn1 (m : zs) (b : Nat) : zs := if rA m 12 b < 2 then m else mSwap m (4 * b) (4 * b + rA m 12 b - 1)
def mCool (b p : Nat) (x : zs) : zs := uF x 16 (upd (rF x 16) (rA x 13 (4 * b + p)) (nI 0))
def mTurn (m : zs) (b : Nat) : zs := zfw (mCool b) 0 (rA m 12 b) (mTurn1 m b)
theorem mSwap_ok {x : zs} (h : mOK x) (i j : Nat) : mOK (mSwap x i j) := by
  obtain ⟨o13, o12, o11, o10, o4, o5⟩ := id h
  refine ⟨fun q => ?_, o12, o11, o10, o4, o5⟩
  show updN (updN _ _ _) _ _ q < 9
  unfold updN
  repeat' split
  all_goals exact o13 _
set_option maxRecDepth 20000 in
set_option maxHeartbeats 1000000 in
theorem lpm_cool (G : zG) (pg nw kp sn ks fo ft fe gt mx : zs) (re : Nat → Int64) (hh : Int64) (b r : Nat) (hb : b < 3) : ∀ (n i : Nat) (x : zs), mOK x → i + n = rA x 12 b → zS G mX8_turn 90 [some (.ref 49), some (.int (nI b)), some (.int (nI r)), none, none, some (.int (nI i))] [] (wW pg nw kp sn ks fo ft fe gt mx re x hh) (some (.int (nI r))) (wW pg nw kp sn ks fo ft fe gt mx re (zfw (mCool b) i n x) hh) := by
  intro n
  induction n with
  | zero =>
    intro i x hx hi
    obtain ⟨o13, o12, o11, o10, o4, o5⟩ := id hx
    have o1 := o12 b
    refine z_iload iX8_turn_90 rfl ?_
    refine z_aload_n iX8_turn_92 rfl ?_
    refine z_getf iX8_turn_93 fX8_19 (wm) (mF_12 _ _) (by decide) ?_
    refine z_iload_n iX8_turn_96 rfl ?_
    refine z_iaload iX8_turn_97 (wm12) rfl (by omega) (by decide) (by decide) ?_
    refine zn_ge iX8_turn_98 (by omega) (by omega) (fun q98 => ?_) (fun q98 => absurd q98 (by omega))
    refine z_iload_n iX8_turn_124 rfl ?_
    exact z_ireturn iX8_turn_125 (rfl) (rfl)
  | succ n ih =>
    intro i x hx hi
    obtain ⟨o13, o12, o11, o10, o4, o5⟩ := id hx
    have o1 := o12 b
    have o2 := o13 (4 * b + i)
    refine z_iload iX8_turn_90 rfl ?_
    refine z_aload_n iX8_turn_92 rfl ?_
    refine z_getf iX8_turn_93 fX8_19 (wm) (mF_12 _ _) (by decide) ?_
    refine z_iload_n iX8_turn_96 rfl ?_
    refine z_iaload iX8_turn_97 (wm12) rfl (by omega) (by decide) (by decide) ?_
    refine zn_ge iX8_turn_98 (by omega) (by omega) (fun q98 => absurd q98 (by omega)) (fun q98 => ?_)
    refine z_aload_n iX8_turn_101 rfl ?_
    refine z_getf iX8_turn_102 fX8_31 (wm) (mF_16 _ _) (by decide) ?_
    refine z_aload_n iX8_turn_105 rfl ?_
    refine z_getf iX8_turn_106 fX8_22 (wm) (mF_13 _ _) (by decide) ?_
    refine z_iconst iX8_turn_109 zk_4 ?_
    refine z_iload_n iX8_turn_110 rfl ?_
    refine z_imul iX8_turn_111 ?_
    refine z_top nix_mul ?_
    refine z_iload iX8_turn_112 rfl ?_
    refine z_iadd iX8_turn_114 ?_
    refine z_top nix_add ?_
    refine z_iaload iX8_turn_115 (wm13) rfl (by omega) (by decide) (by decide) ?_
    refine z_iconst iX8_turn_116 zk_0 ?_
    refine z_iastore iX8_turn_117 (wm16) rfl (by omega) (by decide) (by decide) (by decide) ?_
    rw [wm_16]
    refine z_iinc iX8_turn_118 rfl nix_inc rfl (by decide) ?_
    refine z_goto iX8_turn_121 ?_
    exact ih (i + 1) (mCool b i x) hx (by show _ = rA x 12 b; omega)
set_option maxRecDepth 20000 in
set_option maxHeartbeats 1000000 in
theorem lpm_tw0 (G : zG) (pg nw kp sn ks fo ft fe gt mx : zs) (re : Nat → Int64) (hh : Int64) (b r lo up : Nat) (j : Option Value) (hb : b < 3) (hl : lo < 20) (hu : up < 20) (h : up ≤ lo) (x : zs) (hx : mOK x) : zS G mX8_turn 42 [some (.ref 49), some (.int (nI b)), some (.int (nI r)), some (.int (nI lo)), some (.int (nI up)), j] [] (wW pg nw kp sn ks fo ft fe gt mx re x hh) (some (.int (nI r))) (wW pg nw kp sn ks fo ft fe gt mx re (zfw (mCool b) 0 (rA x 12 b) x) hh) := by
  refine z_iload_n iX8_turn_42 rfl ?_
  refine z_iload iX8_turn_43 rfl ?_
  refine zn_ge iX8_turn_45 (by omega) (by omega) (fun q45 => ?_) (fun q45 => absurd q45 (by omega))
  refine z_iconst iX8_turn_87 zk_0 ?_
  refine z_istore iX8_turn_88 rfl (by decide) ?_
  refine z_weak ?_ (lpm_cool G pg nw kp sn ks fo ft fe gt mx re hh b r hb _ 0 x hx (Nat.zero_add _))
  exact zle_w (by simp [zle, zf3] <;> rfl)
set_option maxRecDepth 20000 in
set_option maxHeartbeats 1000000 in
theorem lpm_tw1 (G : zG) (pg nw kp sn ks fo ft fe gt mx : zs) (re : Nat → Int64) (hh : Int64) (b r lo up : Nat) (hb : b < 3) (hl : lo < 12) (hu : up < 12) (h : lo < up) (h2 : up ≤ lo + 2) (x : zs) (hx : mOK x) : zS G mX8_turn 42 [some (.ref 49), some (.int (nI b)), some (.int (nI r)), some (.int (nI lo)), some (.int (nI up)), none] [] (wW pg nw kp sn ks fo ft fe gt mx re x hh) (some (.int (nI r))) (wW pg nw kp sn ks fo ft fe gt mx re (zfw (mCool b) 0 (rA x 12 b) (mSwap x lo up)) hh) := by
  refine z_iload_n iX8_turn_42 rfl ?_
  refine z_iload iX8_turn_43 rfl ?_
  refine zn_ge iX8_turn_45 (by omega) (by omega) (fun q45 => absurd q45 (by omega)) (fun q45 => ?_)
  refine z_aload_n iX8_turn_48 rfl ?_
  refine z_getf iX8_turn_49 fX8_22 (wm) (mF_13 _ _) (by decide) ?_
  refine z_iload_n iX8_turn_52 rfl ?_
  refine z_iaload iX8_turn_53 (wm13) rfl (by omega) (by decide) (by decide) ?_
  refine z_istore iX8_turn_54 rfl (by decide) ?_
  refine z_aload_n iX8_turn_56 rfl ?_
  refine z_getf iX8_turn_57 fX8_22 (wm) (mF_13 _ _) (by decide) ?_
  refine z_iload_n iX8_turn_60 rfl ?_
  refine z_aload_n iX8_turn_61 rfl ?_
  refine z_getf iX8_turn_62 fX8_22 (wm) (mF_13 _ _) (by decide) ?_
  refine z_iload iX8_turn_65 rfl ?_
  refine z_iaload iX8_turn_67 (wm13) rfl (by omega) (by decide) (by decide) ?_
  refine z_iastore iX8_turn_68 (wm13) rfl (by omega) (by decide) (by decide) (by decide) ?_
  rw [upd_nI, wm_13]
  refine z_aload_n iX8_turn_69 rfl ?_
  refine z_getf iX8_turn_70 fX8_22 (wm) (mF_13 _ _) (by decide) ?_
  refine z_iload iX8_turn_73 rfl ?_
  refine z_iload iX8_turn_75 rfl ?_
  refine z_iastore iX8_turn_77 (wm13) rfl (by omega) (by decide) (by decide) (by decide) ?_
  rw [upd_nI, wm_13]
  refine z_iinc iX8_turn_78 rfl nix_inc rfl (by decide) ?_
  refine z_iinc iX8_turn_81 rfl (nix_dec (by omega)) rfl (by decide) ?_
  refine z_goto iX8_turn_84 ?_
  exact lpm_tw0 G pg nw kp sn ks fo ft fe gt mx re hh b r _ _ _ hb (by omega) (by omega) (by omega) (mSwap x lo up) (mSwap_ok hx lo up)
set_option maxRecDepth 20000 in
set_option maxHeartbeats 1000000 in
theorem cm_turn2 (G : zG) (pg nw kp sn ks fo ft fe gt mx : zs) (re : Nat → Int64) (m : zs) (hh : Int64) (hm : mOK m) (c : Nat) (hc : c < rN m 4) (h0 : ¬ mMany m c = 0) (hmn : mMany m c ≤ 3) (h1 : 1 ≤ rA m 12 c) : zK G mX8_turn [.ref 49, .int (nI c)] (wW pg nw kp sn ks fo ft fe gt mx re m hh) (some (.int (nI (mMany m c)))) (wW pg nw kp sn ks fo ft fe gt mx re (mTurn m c) hh) := by
  obtain ⟨o13, o12, o11, o10, o4, o5⟩ := id hm
  refine zK_of 4 rfl (by decide) trivial (Nat.le_of_ble_eq_true rfl) rfl ?_
  refine z_aload_n iX8_turn_0 rfl ?_
  refine z_iload_n iX8_turn_1 rfl ?_
  refine z_cvi (y1 := mX8_isBay) iX8_turn_2 lX8_208 kX8_isBay rfl (cm_isBay G pg nw kp sn ks fo ft fe gt mx re m hh hm _) (wm) rfl rfl rfl (Nat.le_of_ble_eq_true rfl) (by decide) ?_
  refine zb_if_ne iX8_turn_5 (fun q5 => ?_) (fun q5 => absurd (q5.symm.trans (by rw [xNo_n hc (by omega)])) (by decide))
  refine z_aload_n iX8_turn_11 rfl ?_
  refine z_iload_n iX8_turn_12 rfl ?_
  refine z_cvi (y1 := mX8_thereMany) iX8_turn_13 lX8_193 kX8_thereMany rfl (cm_many G pg nw kp sn ks fo ft fe gt mx re m hh hm c (by omega)) (wm) rfl rfl rfl (Nat.le_of_ble_eq_true rfl) (by decide) ?_
  refine z_istore_n iX8_turn_16 rfl (by decide) ?_
  refine z_iload_n iX8_turn_17 rfl ?_
  refine zn_if_ne iX8_turn_18 (by omega) (fun q18 => ?_) (fun q18 => absurd q18 (by omega))
  refine z_iconst iX8_turn_24 zk_4 ?_
  refine z_iload_n iX8_turn_25 rfl ?_
  refine z_imul iX8_turn_26 ?_
  refine z_top nix_mul ?_
  refine z_istore_n iX8_turn_27 rfl (by decide) ?_
  refine z_iconst iX8_turn_28 zk_4 ?_
  refine z_iload_n iX8_turn_29 rfl ?_
  refine z_imul iX8_turn_30 ?_
  refine z_top nix_mul ?_
  refine z_aload_n iX8_turn_31 rfl ?_
  refine z_getf iX8_turn_32 fX8_19 (wm) (mF_12 _ _) (by decide) ?_
  refine z_iload_n iX8_turn_35 rfl ?_
  refine z_iaload iX8_turn_36 (wm12) rfl (by omega) (by decide) (by decide) ?_
  refine z_iadd iX8_turn_37 ?_
  refine z_top nix_add ?_
  refine z_iconst iX8_turn_38 zk_1 ?_
  refine z_isub iX8_turn_39 ?_
  refine z_top (nix_sub (by omega)) ?_
  refine z_istore iX8_turn_40 rfl (by decide) ?_
  have o1 := o12 c
  by_cases h2 : rA m 12 c < 2
  · have e : mTurn1 m c = m := if_pos h2
    rw [mTurn, e]
    exact lpm_tw0 G pg nw kp sn ks fo ft fe gt mx re hh c _ _ _ _ (by omega) (by omega) (by omega) (by omega) m hm
  · have e : mTurn1 m c = mSwap m (4 * c) (4 * c + rA m 12 c - 1) := if_neg h2
    rw [mTurn, e]
    exact lpm_tw1 G pg nw kp sn ks fo ft fe gt mx re hh c _ _ _ (by omega) (by omega) (by omega) (by omega) (by omega) m hm
