set_option maxRecDepth 20000 in
set_option maxHeartbeats 1000000 in
theorem cm_tc_0 (G : zG) (pg nw kp sn ks fo ft fe gt mx : zs) (re : Nat → Int64) (m : zs) (hh : Int64) (hm : mOK m) (c : Nat) (hc : c < rN m 5)  : zK G mX8_tellCart [.ref 49, .int (nI c), .int (nI 0)] (wW pg nw kp sn ks fo ft fe gt mx re m hh) (some (.int (nI (rA m 10 c)))) (wW pg nw kp sn ks fo ft fe gt mx re (mBegin m) hh) := by
  obtain ⟨o13, o12, o11, o10, o4, o5⟩ := id hm
  refine zK_of 2 rfl (by decide) trivial (Nat.le_of_ble_eq_true rfl) rfl ?_
  refine z_aload_n iX8_tellCart_0 rfl ?_
  refine z_cvv (y1 := mX8_begin) iX8_tellCart_1 lX8_165 kX8_begin rfl (cm_begin G pg nw kp sn ks fo ft fe gt mx re m hh) (wm) rfl rfl rfl (Nat.le_of_ble_eq_true rfl) (by decide) ?_
  refine z_aload_n iX8_tellCart_4 rfl ?_
  refine z_getf iX8_tellCart_5 fX8_25 (wm) (mF_14 _ _) (by decide) ?_
  refine z_iload_n iX8_tellCart_8 rfl ?_
  refine z_iaload iX8_tellCart_9 (wm14) rfl (by omega) (by decide) (by decide) ?_
  refine z_if_ne iX8_tellCart_10 (fun q10 => ?_) (fun q10 => ?_)
  · refine z_iconst iX8_tellCart_17 zk_0 ?_
    refine z_istore_n iX8_tellCart_18 rfl (by decide) ?_
    refine z_iload_n iX8_tellCart_19 rfl ?_
    refine z_i2l iX8_tellCart_20 ?_
    refine z_ldc2 iX8_tellCart_21 gX8_168 ?_
    refine z_ldc2 iX8_tellCart_24 gX8_170 ?_
    refine z_csi (y1 := mX8_in) iX8_tellCart_27 lX8_79 kX8_in rfl (c_in32 G _ _ 10 12 (by decide +kernel) (by decide +kernel)) rfl rfl (Nat.le_of_ble_eq_true rfl) ?_
    refine zb_if_eq iX8_tellCart_30 (fun q30 => ?_) (fun q30 => absurd q30 (by decide))
    refine z_iload_n iX8_tellCart_79 rfl ?_
    refine z_tabIn (off := 52) (tgt := 132) iX8_tellCart_80 (by decide +kernel) (by decide +kernel) (by decide +kernel) (by decide) ?_
    refine z_aload_n iX8_tellCart_132 rfl ?_
    refine z_getf iX8_tellCart_133 fX8_13 (wm) (mF_10 _ _) (by decide) ?_
    refine z_iload_n iX8_tellCart_136 rfl ?_
    refine z_iaload iX8_tellCart_137 (wm10) rfl (by omega) (by decide) (by decide) ?_
    exact z_ireturn iX8_tellCart_138 (rfl) (rfl)
  · refine z_iconst iX8_tellCart_13 zk_1 ?_
    refine z_goto iX8_tellCart_14 ?_
    refine z_istore_n iX8_tellCart_18 rfl (by decide) ?_
    refine z_iload_n iX8_tellCart_19 rfl ?_
    refine z_i2l iX8_tellCart_20 ?_
    refine z_ldc2 iX8_tellCart_21 gX8_168 ?_
    refine z_ldc2 iX8_tellCart_24 gX8_170 ?_
    refine z_csi (y1 := mX8_in) iX8_tellCart_27 lX8_79 kX8_in rfl (c_in32 G _ _ 10 12 (by decide +kernel) (by decide +kernel)) rfl rfl (Nat.le_of_ble_eq_true rfl) ?_
    refine zb_if_eq iX8_tellCart_30 (fun q30 => ?_) (fun q30 => absurd q30 (by decide))
    refine z_iload_n iX8_tellCart_79 rfl ?_
    refine z_tabIn (off := 52) (tgt := 132) iX8_tellCart_80 (by decide +kernel) (by decide +kernel) (by decide +kernel) (by decide) ?_
    refine z_aload_n iX8_tellCart_132 rfl ?_
    refine z_getf iX8_tellCart_133 fX8_13 (wm) (mF_10 _ _) (by decide) ?_
    refine z_iload_n iX8_tellCart_136 rfl ?_
    refine z_iaload iX8_tellCart_137 (wm10) rfl (by omega) (by decide) (by decide) ?_
    exact z_ireturn iX8_tellCart_138 (rfl) (rfl)
set_option maxRecDepth 20000 in
set_option maxHeartbeats 1000000 in
theorem cm_tc_1 (G : zG) (pg nw kp sn ks fo ft fe gt mx : zs) (re : Nat → Int64) (m : zs) (hh : Int64) (hm : mOK m) (c : Nat) (hc : c < rN m 5)  : zK G mX8_tellCart [.ref 49, .int (nI c), .int (nI 1)] (wW pg nw kp sn ks fo ft fe gt mx re m hh) (some (.int (rF m 14 c))) (wW pg nw kp sn ks fo ft fe gt mx re (mBegin m) hh) := by
  obtain ⟨o13, o12, o11, o10, o4, o5⟩ := id hm
  refine zK_of 2 rfl (by decide) trivial (Nat.le_of_ble_eq_true rfl) rfl ?_
  refine z_aload_n iX8_tellCart_0 rfl ?_
  refine z_cvv (y1 := mX8_begin) iX8_tellCart_1 lX8_165 kX8_begin rfl (cm_begin G pg nw kp sn ks fo ft fe gt mx re m hh) (wm) rfl rfl rfl (Nat.le_of_ble_eq_true rfl) (by decide) ?_
  refine z_aload_n iX8_tellCart_4 rfl ?_
  refine z_getf iX8_tellCart_5 fX8_25 (wm) (mF_14 _ _) (by decide) ?_
  refine z_iload_n iX8_tellCart_8 rfl ?_
  refine z_iaload iX8_tellCart_9 (wm14) rfl (by omega) (by decide) (by decide) ?_
  refine z_if_ne iX8_tellCart_10 (fun q10 => ?_) (fun q10 => ?_)
  · refine z_iconst iX8_tellCart_17 zk_0 ?_
    refine z_istore_n iX8_tellCart_18 rfl (by decide) ?_
    refine z_iload_n iX8_tellCart_19 rfl ?_
    refine z_i2l iX8_tellCart_20 ?_
    refine z_ldc2 iX8_tellCart_21 gX8_168 ?_
    refine z_ldc2 iX8_tellCart_24 gX8_170 ?_
    refine z_csi (y1 := mX8_in) iX8_tellCart_27 lX8_79 kX8_in rfl (c_in32 G _ _ 10 12 (by decide +kernel) (by decide +kernel)) rfl rfl (Nat.le_of_ble_eq_true rfl) ?_
    refine zb_if_eq iX8_tellCart_30 (fun q30 => ?_) (fun q30 => absurd q30 (by decide))
    refine z_iload_n iX8_tellCart_79 rfl ?_
    refine z_tabIn (off := 59) (tgt := 139) iX8_tellCart_80 (by decide +kernel) (by decide +kernel) (by decide +kernel) (by decide) ?_
    refine z_aload_n iX8_tellCart_139 rfl ?_
    refine z_getf iX8_tellCart_140 fX8_25 (wm) (mF_14 _ _) (by decide) ?_
    refine z_iload_n iX8_tellCart_143 rfl ?_
    refine z_iaload iX8_tellCart_144 (wm14) rfl (by omega) (by decide) (by decide) ?_
    exact z_ireturn iX8_tellCart_145 (rfl) (rfl)
  · refine z_iconst iX8_tellCart_13 zk_1 ?_
    refine z_goto iX8_tellCart_14 ?_
    refine z_istore_n iX8_tellCart_18 rfl (by decide) ?_
    refine z_iload_n iX8_tellCart_19 rfl ?_
    refine z_i2l iX8_tellCart_20 ?_
    refine z_ldc2 iX8_tellCart_21 gX8_168 ?_
    refine z_ldc2 iX8_tellCart_24 gX8_170 ?_
    refine z_csi (y1 := mX8_in) iX8_tellCart_27 lX8_79 kX8_in rfl (c_in32 G _ _ 10 12 (by decide +kernel) (by decide +kernel)) rfl rfl (Nat.le_of_ble_eq_true rfl) ?_
    refine zb_if_eq iX8_tellCart_30 (fun q30 => ?_) (fun q30 => absurd q30 (by decide))
    refine z_iload_n iX8_tellCart_79 rfl ?_
    refine z_tabIn (off := 59) (tgt := 139) iX8_tellCart_80 (by decide +kernel) (by decide +kernel) (by decide +kernel) (by decide) ?_
    refine z_aload_n iX8_tellCart_139 rfl ?_
    refine z_getf iX8_tellCart_140 fX8_25 (wm) (mF_14 _ _) (by decide) ?_
    refine z_iload_n iX8_tellCart_143 rfl ?_
    refine z_iaload iX8_tellCart_144 (wm14) rfl (by omega) (by decide) (by decide) ?_
    exact z_ireturn iX8_tellCart_145 (rfl) (rfl)
set_option maxRecDepth 20000 in
set_option maxHeartbeats 1000000 in
theorem cm_tc_2 (G : zG) (pg nw kp sn ks fo ft fe gt mx : zs) (re : Nat → Int64) (m : zs) (hh : Int64) (hm : mOK m) (c : Nat) (hc : c < rN m 5)  : zK G mX8_tellCart [.ref 49, .int (nI c), .int (nI 2)] (wW pg nw kp sn ks fo ft fe gt mx re m hh) (some (.int (rF m 15 c))) (wW pg nw kp sn ks fo ft fe gt mx re (mBegin m) hh) := by
  obtain ⟨o13, o12, o11, o10, o4, o5⟩ := id hm
  refine zK_of 2 rfl (by decide) trivial (Nat.le_of_ble_eq_true rfl) rfl ?_
  refine z_aload_n iX8_tellCart_0 rfl ?_
  refine z_cvv (y1 := mX8_begin) iX8_tellCart_1 lX8_165 kX8_begin rfl (cm_begin G pg nw kp sn ks fo ft fe gt mx re m hh) (wm) rfl rfl rfl (Nat.le_of_ble_eq_true rfl) (by decide) ?_
  refine z_aload_n iX8_tellCart_4 rfl ?_
  refine z_getf iX8_tellCart_5 fX8_25 (wm) (mF_14 _ _) (by decide) ?_
  refine z_iload_n iX8_tellCart_8 rfl ?_
  refine z_iaload iX8_tellCart_9 (wm14) rfl (by omega) (by decide) (by decide) ?_
  refine z_if_ne iX8_tellCart_10 (fun q10 => ?_) (fun q10 => ?_)
  · refine z_iconst iX8_tellCart_17 zk_0 ?_
    refine z_istore_n iX8_tellCart_18 rfl (by decide) ?_
    refine z_iload_n iX8_tellCart_19 rfl ?_
    refine z_i2l iX8_tellCart_20 ?_
    refine z_ldc2 iX8_tellCart_21 gX8_168 ?_
    refine z_ldc2 iX8_tellCart_24 gX8_170 ?_
    refine z_csi (y1 := mX8_in) iX8_tellCart_27 lX8_79 kX8_in rfl (c_in32 G _ _ 10 12 (by decide +kernel) (by decide +kernel)) rfl rfl (Nat.le_of_ble_eq_true rfl) ?_
    refine zb_if_eq iX8_tellCart_30 (fun q30 => ?_) (fun q30 => absurd q30 (by decide))
    refine z_iload_n iX8_tellCart_79 rfl ?_
    refine z_tabIn (off := 66) (tgt := 146) iX8_tellCart_80 (by decide +kernel) (by decide +kernel) (by decide +kernel) (by decide) ?_
    refine z_aload_n iX8_tellCart_146 rfl ?_
    refine z_getf iX8_tellCart_147 fX8_28 (wm) (mF_15 _ _) (by decide) ?_
    refine z_iload_n iX8_tellCart_150 rfl ?_
    refine z_iaload iX8_tellCart_151 (wm15) rfl (by omega) (by decide) (by decide) ?_
    exact z_ireturn iX8_tellCart_152 (rfl) (rfl)
  · refine z_iconst iX8_tellCart_13 zk_1 ?_
    refine z_goto iX8_tellCart_14 ?_
    refine z_istore_n iX8_tellCart_18 rfl (by decide) ?_
    refine z_iload_n iX8_tellCart_19 rfl ?_
    refine z_i2l iX8_tellCart_20 ?_
    refine z_ldc2 iX8_tellCart_21 gX8_168 ?_
    refine z_ldc2 iX8_tellCart_24 gX8_170 ?_
    refine z_csi (y1 := mX8_in) iX8_tellCart_27 lX8_79 kX8_in rfl (c_in32 G _ _ 10 12 (by decide +kernel) (by decide +kernel)) rfl rfl (Nat.le_of_ble_eq_true rfl) ?_
    refine zb_if_eq iX8_tellCart_30 (fun q30 => ?_) (fun q30 => absurd q30 (by decide))
    refine z_iload_n iX8_tellCart_79 rfl ?_
    refine z_tabIn (off := 66) (tgt := 146) iX8_tellCart_80 (by decide +kernel) (by decide +kernel) (by decide +kernel) (by decide) ?_
    refine z_aload_n iX8_tellCart_146 rfl ?_
    refine z_getf iX8_tellCart_147 fX8_28 (wm) (mF_15 _ _) (by decide) ?_
    refine z_iload_n iX8_tellCart_150 rfl ?_
    refine z_iaload iX8_tellCart_151 (wm15) rfl (by omega) (by decide) (by decide) ?_
    exact z_ireturn iX8_tellCart_152 (rfl) (rfl)
set_option maxRecDepth 20000 in
set_option maxHeartbeats 1000000 in
theorem cm_tc_3 (G : zG) (pg nw kp sn ks fo ft fe gt mx : zs) (re : Nat → Int64) (m : zs) (hh : Int64) (hm : mOK m) (c : Nat) (hc : c < rN m 5)  : zK G mX8_tellCart [.ref 49, .int (nI c), .int (nI 3)] (wW pg nw kp sn ks fo ft fe gt mx re m hh) (some (.int (rF m 16 c))) (wW pg nw kp sn ks fo ft fe gt mx re (mBegin m) hh) := by
  obtain ⟨o13, o12, o11, o10, o4, o5⟩ := id hm
  refine zK_of 2 rfl (by decide) trivial (Nat.le_of_ble_eq_true rfl) rfl ?_
  refine z_aload_n iX8_tellCart_0 rfl ?_
  refine z_cvv (y1 := mX8_begin) iX8_tellCart_1 lX8_165 kX8_begin rfl (cm_begin G pg nw kp sn ks fo ft fe gt mx re m hh) (wm) rfl rfl rfl (Nat.le_of_ble_eq_true rfl) (by decide) ?_
  refine z_aload_n iX8_tellCart_4 rfl ?_
  refine z_getf iX8_tellCart_5 fX8_25 (wm) (mF_14 _ _) (by decide) ?_
  refine z_iload_n iX8_tellCart_8 rfl ?_
  refine z_iaload iX8_tellCart_9 (wm14) rfl (by omega) (by decide) (by decide) ?_
  refine z_if_ne iX8_tellCart_10 (fun q10 => ?_) (fun q10 => ?_)
  · refine z_iconst iX8_tellCart_17 zk_0 ?_
    refine z_istore_n iX8_tellCart_18 rfl (by decide) ?_
    refine z_iload_n iX8_tellCart_19 rfl ?_
    refine z_i2l iX8_tellCart_20 ?_
    refine z_ldc2 iX8_tellCart_21 gX8_168 ?_
    refine z_ldc2 iX8_tellCart_24 gX8_170 ?_
    refine z_csi (y1 := mX8_in) iX8_tellCart_27 lX8_79 kX8_in rfl (c_in32 G _ _ 10 12 (by decide +kernel) (by decide +kernel)) rfl rfl (Nat.le_of_ble_eq_true rfl) ?_
    refine zb_if_eq iX8_tellCart_30 (fun q30 => ?_) (fun q30 => absurd q30 (by decide))
    refine z_iload_n iX8_tellCart_79 rfl ?_
    refine z_tabIn (off := 73) (tgt := 153) iX8_tellCart_80 (by decide +kernel) (by decide +kernel) (by decide +kernel) (by decide) ?_
    refine z_aload_n iX8_tellCart_153 rfl ?_
    refine z_getf iX8_tellCart_154 fX8_31 (wm) (mF_16 _ _) (by decide) ?_
    refine z_iload_n iX8_tellCart_157 rfl ?_
    refine z_iaload iX8_tellCart_158 (wm16) rfl (by omega) (by decide) (by decide) ?_
    exact z_ireturn iX8_tellCart_159 (rfl) (rfl)
  · refine z_iconst iX8_tellCart_13 zk_1 ?_
    refine z_goto iX8_tellCart_14 ?_
    refine z_istore_n iX8_tellCart_18 rfl (by decide) ?_
    refine z_iload_n iX8_tellCart_19 rfl ?_
    refine z_i2l iX8_tellCart_20 ?_
    refine z_ldc2 iX8_tellCart_21 gX8_168 ?_
    refine z_ldc2 iX8_tellCart_24 gX8_170 ?_
    refine z_csi (y1 := mX8_in) iX8_tellCart_27 lX8_79 kX8_in rfl (c_in32 G _ _ 10 12 (by decide +kernel) (by decide +kernel)) rfl rfl (Nat.le_of_ble_eq_true rfl) ?_
    refine zb_if_eq iX8_tellCart_30 (fun q30 => ?_) (fun q30 => absurd q30 (by decide))
    refine z_iload_n iX8_tellCart_79 rfl ?_
    refine z_tabIn (off := 73) (tgt := 153) iX8_tellCart_80 (by decide +kernel) (by decide +kernel) (by decide +kernel) (by decide) ?_
    refine z_aload_n iX8_tellCart_153 rfl ?_
    refine z_getf iX8_tellCart_154 fX8_31 (wm) (mF_16 _ _) (by decide) ?_
    refine z_iload_n iX8_tellCart_157 rfl ?_
    refine z_iaload iX8_tellCart_158 (wm16) rfl (by omega) (by decide) (by decide) ?_
    exact z_ireturn iX8_tellCart_159 (rfl) (rfl)
set_option maxRecDepth 20000 in
set_option maxHeartbeats 1000000 in
theorem cm_tc_4 (G : zG) (pg nw kp sn ks fo ft fe gt mx : zs) (re : Nat → Int64) (m : zs) (hh : Int64) (hm : mOK m) (c : Nat) (hc : c < rN m 5)  : zK G mX8_tellCart [.ref 49, .int (nI c), .int (nI 4)] (wW pg nw kp sn ks fo ft fe gt mx re m hh) (some (.int (nI (rA m 11 c)))) (wW pg nw kp sn ks fo ft fe gt mx re (mBegin m) hh) := by
  obtain ⟨o13, o12, o11, o10, o4, o5⟩ := id hm
  refine zK_of 2 rfl (by decide) trivial (Nat.le_of_ble_eq_true rfl) rfl ?_
  refine z_aload_n iX8_tellCart_0 rfl ?_
  refine z_cvv (y1 := mX8_begin) iX8_tellCart_1 lX8_165 kX8_begin rfl (cm_begin G pg nw kp sn ks fo ft fe gt mx re m hh) (wm) rfl rfl rfl (Nat.le_of_ble_eq_true rfl) (by decide) ?_
  refine z_aload_n iX8_tellCart_4 rfl ?_
  refine z_getf iX8_tellCart_5 fX8_25 (wm) (mF_14 _ _) (by decide) ?_
  refine z_iload_n iX8_tellCart_8 rfl ?_
  refine z_iaload iX8_tellCart_9 (wm14) rfl (by omega) (by decide) (by decide) ?_
  refine z_if_ne iX8_tellCart_10 (fun q10 => ?_) (fun q10 => ?_)
  · refine z_iconst iX8_tellCart_17 zk_0 ?_
    refine z_istore_n iX8_tellCart_18 rfl (by decide) ?_
    refine z_iload_n iX8_tellCart_19 rfl ?_
    refine z_i2l iX8_tellCart_20 ?_
    refine z_ldc2 iX8_tellCart_21 gX8_168 ?_
    refine z_ldc2 iX8_tellCart_24 gX8_170 ?_
    refine z_csi (y1 := mX8_in) iX8_tellCart_27 lX8_79 kX8_in rfl (c_in32 G _ _ 10 12 (by decide +kernel) (by decide +kernel)) rfl rfl (Nat.le_of_ble_eq_true rfl) ?_
    refine zb_if_eq iX8_tellCart_30 (fun q30 => ?_) (fun q30 => absurd q30 (by decide))
    refine z_iload_n iX8_tellCart_79 rfl ?_
    refine z_tabIn (off := 80) (tgt := 160) iX8_tellCart_80 (by decide +kernel) (by decide +kernel) (by decide +kernel) (by decide) ?_
    refine z_aload_n iX8_tellCart_160 rfl ?_
    refine z_getf iX8_tellCart_161 fX8_16 (wm) (mF_11 _ _) (by decide) ?_
    refine z_iload_n iX8_tellCart_164 rfl ?_
    refine z_iaload iX8_tellCart_165 (wm11) rfl (by omega) (by decide) (by decide) ?_
    exact z_ireturn iX8_tellCart_166 (rfl) (rfl)
  · refine z_iconst iX8_tellCart_13 zk_1 ?_
    refine z_goto iX8_tellCart_14 ?_
    refine z_istore_n iX8_tellCart_18 rfl (by decide) ?_
    refine z_iload_n iX8_tellCart_19 rfl ?_
    refine z_i2l iX8_tellCart_20 ?_
    refine z_ldc2 iX8_tellCart_21 gX8_168 ?_
    refine z_ldc2 iX8_tellCart_24 gX8_170 ?_
    refine z_csi (y1 := mX8_in) iX8_tellCart_27 lX8_79 kX8_in rfl (c_in32 G _ _ 10 12 (by decide +kernel) (by decide +kernel)) rfl rfl (Nat.le_of_ble_eq_true rfl) ?_
    refine zb_if_eq iX8_tellCart_30 (fun q30 => ?_) (fun q30 => absurd q30 (by decide))
    refine z_iload_n iX8_tellCart_79 rfl ?_
    refine z_tabIn (off := 80) (tgt := 160) iX8_tellCart_80 (by decide +kernel) (by decide +kernel) (by decide +kernel) (by decide) ?_
    refine z_aload_n iX8_tellCart_160 rfl ?_
    refine z_getf iX8_tellCart_161 fX8_16 (wm) (mF_11 _ _) (by decide) ?_
    refine z_iload_n iX8_tellCart_164 rfl ?_
    refine z_iaload iX8_tellCart_165 (wm11) rfl (by omega) (by decide) (by decide) ?_
    exact z_ireturn iX8_tellCart_166 (rfl) (rfl)
set_option maxRecDepth 20000 in
set_option maxHeartbeats 1000000 in
theorem cm_tc_O (G : zG) (pg nw kp sn ks fo ft fe gt mx : zs) (re : Nat → Int64) (m : zs) (hh : Int64) (hm : mOK m) (c : Nat) (hc : c < rN m 5) (q : Int32) (hx : xIn q 10 12 = false) (h : ∀ j, j ≤ 8 → ¬ q = nI j) : zK G mX8_tellCart [.ref 49, .int (nI c), .int q] (wW pg nw kp sn ks fo ft fe gt mx re m hh) (some (.int (-102))) (wW pg nw kp sn ks fo ft fe gt mx re (mBegin m) hh) := by
  obtain ⟨o13, o12, o11, o10, o4, o5⟩ := id hm
  refine zK_of 2 rfl (by decide) trivial (Nat.le_of_ble_eq_true rfl) rfl ?_
  refine z_aload_n iX8_tellCart_0 rfl ?_
  refine z_cvv (y1 := mX8_begin) iX8_tellCart_1 lX8_165 kX8_begin rfl (cm_begin G pg nw kp sn ks fo ft fe gt mx re m hh) (wm) rfl rfl rfl (Nat.le_of_ble_eq_true rfl) (by decide) ?_
  refine z_aload_n iX8_tellCart_4 rfl ?_
  refine z_getf iX8_tellCart_5 fX8_25 (wm) (mF_14 _ _) (by decide) ?_
  refine z_iload_n iX8_tellCart_8 rfl ?_
  refine z_iaload iX8_tellCart_9 (wm14) rfl (by omega) (by decide) (by decide) ?_
  refine z_if_ne iX8_tellCart_10 (fun q10 => ?_) (fun q10 => ?_)
  · refine z_iconst iX8_tellCart_17 zk_0 ?_
    refine z_istore_n iX8_tellCart_18 rfl (by decide) ?_
    refine z_iload_n iX8_tellCart_19 rfl ?_
    refine z_i2l iX8_tellCart_20 ?_
    refine z_ldc2 iX8_tellCart_21 gX8_168 ?_
    refine z_ldc2 iX8_tellCart_24 gX8_170 ?_
    refine z_csi (y1 := mX8_in) iX8_tellCart_27 lX8_79 kX8_in rfl (c_in32 G _ _ 10 12 (by decide +kernel) (by decide +kernel)) rfl rfl (Nat.le_of_ble_eq_true rfl) ?_
    refine zb_if_eq iX8_tellCart_30 (fun q30 => ?_) (fun q30 => absurd (q30.symm.trans hx) (by decide))
    refine z_iload_n iX8_tellCart_79 rfl ?_
    refine z_tabOut (tgt := 216) iX8_tellCart_80 (zsw_out 0 8 (fun j _ h2 => h j h2)) (by decide) ?_
    refine z_bipush iX8_tellCart_216 zb_m102 ?_
    exact z_ireturn iX8_tellCart_218 (rfl) (rfl)
  · refine z_iconst iX8_tellCart_13 zk_1 ?_
    refine z_goto iX8_tellCart_14 ?_
    refine z_istore_n iX8_tellCart_18 rfl (by decide) ?_
    refine z_iload_n iX8_tellCart_19 rfl ?_
    refine z_i2l iX8_tellCart_20 ?_
    refine z_ldc2 iX8_tellCart_21 gX8_168 ?_
    refine z_ldc2 iX8_tellCart_24 gX8_170 ?_
    refine z_csi (y1 := mX8_in) iX8_tellCart_27 lX8_79 kX8_in rfl (c_in32 G _ _ 10 12 (by decide +kernel) (by decide +kernel)) rfl rfl (Nat.le_of_ble_eq_true rfl) ?_
    refine zb_if_eq iX8_tellCart_30 (fun q30 => ?_) (fun q30 => absurd (q30.symm.trans hx) (by decide))
    refine z_iload_n iX8_tellCart_79 rfl ?_
    refine z_tabOut (tgt := 216) iX8_tellCart_80 (zsw_out 0 8 (fun j _ h2 => h j h2)) (by decide) ?_
    refine z_bipush iX8_tellCart_216 zb_m102 ?_
    exact z_ireturn iX8_tellCart_218 (rfl) (rfl)
set_option maxRecDepth 20000 in
set_option maxHeartbeats 1000000 in
theorem cm_tc_5g (G : zG) (pg nw kp sn ks fo ft fe gt mx : zs) (re : Nat → Int64) (m : zs) (hh : Int64) (hm : mOK m) (c : Nat) (hc : c < rN m 5) (hg : rF m 14 c = 0) : zK G mX8_tellCart [.ref 49, .int (nI c), .int (nI 5)] (wW pg nw kp sn ks fo ft fe gt mx re m hh) (some (.int (-1))) (wW pg nw kp sn ks fo ft fe gt mx re (mBegin m) hh) := by
  obtain ⟨o13, o12, o11, o10, o4, o5⟩ := id hm
  refine zK_of 2 rfl (by decide) trivial (Nat.le_of_ble_eq_true rfl) rfl ?_
  refine z_aload_n iX8_tellCart_0 rfl ?_
  refine z_cvv (y1 := mX8_begin) iX8_tellCart_1 lX8_165 kX8_begin rfl (cm_begin G pg nw kp sn ks fo ft fe gt mx re m hh) (wm) rfl rfl rfl (Nat.le_of_ble_eq_true rfl) (by decide) ?_
  refine z_aload_n iX8_tellCart_4 rfl ?_
  refine z_getf iX8_tellCart_5 fX8_25 (wm) (mF_14 _ _) (by decide) ?_
  refine z_iload_n iX8_tellCart_8 rfl ?_
  refine z_iaload iX8_tellCart_9 (wm14) rfl (by omega) (by decide) (by decide) ?_
  refine z_if_ne iX8_tellCart_10 (fun q10 => absurd hg q10) (fun q10 => ?_)
  refine z_iconst iX8_tellCart_13 zk_1 ?_
  refine z_goto iX8_tellCart_14 ?_
  refine z_istore_n iX8_tellCart_18 rfl (by decide) ?_
  refine z_iload_n iX8_tellCart_19 rfl ?_
  refine z_i2l iX8_tellCart_20 ?_
  refine z_ldc2 iX8_tellCart_21 gX8_168 ?_
  refine z_ldc2 iX8_tellCart_24 gX8_170 ?_
  refine z_csi (y1 := mX8_in) iX8_tellCart_27 lX8_79 kX8_in rfl (c_in32 G _ _ 10 12 (by decide +kernel) (by decide +kernel)) rfl rfl (Nat.le_of_ble_eq_true rfl) ?_
  refine zb_if_eq iX8_tellCart_30 (fun q30 => ?_) (fun q30 => absurd q30 (by decide))
  refine z_iload_n iX8_tellCart_79 rfl ?_
  refine z_tabIn (off := 87) (tgt := 167) iX8_tellCart_80 (by decide +kernel) (by decide +kernel) (by decide +kernel) (by decide) ?_
  refine z_iload_n iX8_tellCart_167 rfl ?_
  refine zn_if_eq iX8_tellCart_168 (by omega) (fun q168 => absurd q168 (by decide)) (fun q168 => ?_)
  refine z_iconst iX8_tellCart_171 zk_m1 ?_
  refine z_goto iX8_tellCart_172 ?_
  exact z_ireturn iX8_tellCart_181 (rfl) (rfl)
set_option maxRecDepth 20000 in
set_option maxHeartbeats 1000000 in
theorem cm_tc_7g (G : zG) (pg nw kp sn ks fo ft fe gt mx : zs) (re : Nat → Int64) (m : zs) (hh : Int64) (hm : mOK m) (c : Nat) (hc : c < rN m 5) (hg : rF m 14 c = 0) : zK G mX8_tellCart [.ref 49, .int (nI c), .int (nI 7)] (wW pg nw kp sn ks fo ft fe gt mx re m hh) (some (.int (-1))) (wW pg nw kp sn ks fo ft fe gt mx re (mBegin m) hh) := by
  obtain ⟨o13, o12, o11, o10, o4, o5⟩ := id hm
  refine zK_of 2 rfl (by decide) trivial (Nat.le_of_ble_eq_true rfl) rfl ?_
  refine z_aload_n iX8_tellCart_0 rfl ?_
  refine z_cvv (y1 := mX8_begin) iX8_tellCart_1 lX8_165 kX8_begin rfl (cm_begin G pg nw kp sn ks fo ft fe gt mx re m hh) (wm) rfl rfl rfl (Nat.le_of_ble_eq_true rfl) (by decide) ?_
  refine z_aload_n iX8_tellCart_4 rfl ?_
  refine z_getf iX8_tellCart_5 fX8_25 (wm) (mF_14 _ _) (by decide) ?_
  refine z_iload_n iX8_tellCart_8 rfl ?_
  refine z_iaload iX8_tellCart_9 (wm14) rfl (by omega) (by decide) (by decide) ?_
  refine z_if_ne iX8_tellCart_10 (fun q10 => absurd hg q10) (fun q10 => ?_)
  refine z_iconst iX8_tellCart_13 zk_1 ?_
  refine z_goto iX8_tellCart_14 ?_
  refine z_istore_n iX8_tellCart_18 rfl (by decide) ?_
  refine z_iload_n iX8_tellCart_19 rfl ?_
  refine z_i2l iX8_tellCart_20 ?_
  refine z_ldc2 iX8_tellCart_21 gX8_168 ?_
  refine z_ldc2 iX8_tellCart_24 gX8_170 ?_
  refine z_csi (y1 := mX8_in) iX8_tellCart_27 lX8_79 kX8_in rfl (c_in32 G _ _ 10 12 (by decide +kernel) (by decide +kernel)) rfl rfl (Nat.le_of_ble_eq_true rfl) ?_
  refine zb_if_eq iX8_tellCart_30 (fun q30 => ?_) (fun q30 => absurd q30 (by decide))
  refine z_iload_n iX8_tellCart_79 rfl ?_
  refine z_tabIn (off := 108) (tgt := 188) iX8_tellCart_80 (by decide +kernel) (by decide +kernel) (by decide +kernel) (by decide) ?_
  refine z_iload_n iX8_tellCart_188 rfl ?_
  refine zn_if_eq iX8_tellCart_189 (by omega) (fun q189 => absurd q189 (by decide)) (fun q189 => ?_)
  refine z_iconst iX8_tellCart_192 zk_m1 ?_
  refine z_goto iX8_tellCart_193 ?_
  exact z_ireturn iX8_tellCart_201 (rfl) (rfl)
set_option maxRecDepth 20000 in
set_option maxHeartbeats 1000000 in
theorem cm_tc_8g (G : zG) (pg nw kp sn ks fo ft fe gt mx : zs) (re : Nat → Int64) (m : zs) (hh : Int64) (hm : mOK m) (c : Nat) (hc : c < rN m 5) (hg : rF m 14 c = 0) : zK G mX8_tellCart [.ref 49, .int (nI c), .int (nI 8)] (wW pg nw kp sn ks fo ft fe gt mx re m hh) (some (.int (-1))) (wW pg nw kp sn ks fo ft fe gt mx re (mBegin m) hh) := by
  obtain ⟨o13, o12, o11, o10, o4, o5⟩ := id hm
  refine zK_of 2 rfl (by decide) trivial (Nat.le_of_ble_eq_true rfl) rfl ?_
  refine z_aload_n iX8_tellCart_0 rfl ?_
  refine z_cvv (y1 := mX8_begin) iX8_tellCart_1 lX8_165 kX8_begin rfl (cm_begin G pg nw kp sn ks fo ft fe gt mx re m hh) (wm) rfl rfl rfl (Nat.le_of_ble_eq_true rfl) (by decide) ?_
  refine z_aload_n iX8_tellCart_4 rfl ?_
  refine z_getf iX8_tellCart_5 fX8_25 (wm) (mF_14 _ _) (by decide) ?_
  refine z_iload_n iX8_tellCart_8 rfl ?_
  refine z_iaload iX8_tellCart_9 (wm14) rfl (by omega) (by decide) (by decide) ?_
  refine z_if_ne iX8_tellCart_10 (fun q10 => absurd hg q10) (fun q10 => ?_)
  refine z_iconst iX8_tellCart_13 zk_1 ?_
  refine z_goto iX8_tellCart_14 ?_
  refine z_istore_n iX8_tellCart_18 rfl (by decide) ?_
  refine z_iload_n iX8_tellCart_19 rfl ?_
  refine z_i2l iX8_tellCart_20 ?_
  refine z_ldc2 iX8_tellCart_21 gX8_168 ?_
  refine z_ldc2 iX8_tellCart_24 gX8_170 ?_
  refine z_csi (y1 := mX8_in) iX8_tellCart_27 lX8_79 kX8_in rfl (c_in32 G _ _ 10 12 (by decide +kernel) (by decide +kernel)) rfl rfl (Nat.le_of_ble_eq_true rfl) ?_
  refine zb_if_eq iX8_tellCart_30 (fun q30 => ?_) (fun q30 => absurd q30 (by decide))
  refine z_iload_n iX8_tellCart_79 rfl ?_
  refine z_tabIn (off := 122) (tgt := 202) iX8_tellCart_80 (by decide +kernel) (by decide +kernel) (by decide +kernel) (by decide) ?_
  refine z_iload_n iX8_tellCart_202 rfl ?_
  refine zn_if_eq iX8_tellCart_203 (by omega) (fun q203 => absurd q203 (by decide)) (fun q203 => ?_)
  refine z_iconst iX8_tellCart_206 zk_m1 ?_
  refine z_goto iX8_tellCart_207 ?_
  exact z_ireturn iX8_tellCart_215 (rfl) (rfl)
set_option maxRecDepth 20000 in
set_option maxHeartbeats 1000000 in
theorem cm_tc_10g (G : zG) (pg nw kp sn ks fo ft fe gt mx : zs) (re : Nat → Int64) (m : zs) (hh : Int64) (hm : mOK m) (c : Nat) (hc : c < rN m 5) (hg : rF m 14 c = 0) : zK G mX8_tellCart [.ref 49, .int (nI c), .int (nI 10)] (wW pg nw kp sn ks fo ft fe gt mx re m hh) (some (.int (-1))) (wW pg nw kp sn ks fo ft fe gt mx re (mBegin m) hh) := by
  obtain ⟨o13, o12, o11, o10, o4, o5⟩ := id hm
  refine zK_of 2 rfl (by decide) trivial (Nat.le_of_ble_eq_true rfl) rfl ?_
  refine z_aload_n iX8_tellCart_0 rfl ?_
  refine z_cvv (y1 := mX8_begin) iX8_tellCart_1 lX8_165 kX8_begin rfl (cm_begin G pg nw kp sn ks fo ft fe gt mx re m hh) (wm) rfl rfl rfl (Nat.le_of_ble_eq_true rfl) (by decide) ?_
  refine z_aload_n iX8_tellCart_4 rfl ?_
  refine z_getf iX8_tellCart_5 fX8_25 (wm) (mF_14 _ _) (by decide) ?_
  refine z_iload_n iX8_tellCart_8 rfl ?_
  refine z_iaload iX8_tellCart_9 (wm14) rfl (by omega) (by decide) (by decide) ?_
  refine z_if_ne iX8_tellCart_10 (fun q10 => absurd hg q10) (fun q10 => ?_)
  refine z_iconst iX8_tellCart_13 zk_1 ?_
  refine z_goto iX8_tellCart_14 ?_
  refine z_istore_n iX8_tellCart_18 rfl (by decide) ?_
  refine z_iload_n iX8_tellCart_19 rfl ?_
  refine z_i2l iX8_tellCart_20 ?_
  refine z_ldc2 iX8_tellCart_21 gX8_168 ?_
  refine z_ldc2 iX8_tellCart_24 gX8_170 ?_
  refine z_csi (y1 := mX8_in) iX8_tellCart_27 lX8_79 kX8_in rfl (c_in32 G _ _ 10 12 (by decide +kernel) (by decide +kernel)) rfl rfl (Nat.le_of_ble_eq_true rfl) ?_
  refine zb_if_eq iX8_tellCart_30 (fun q30 => absurd q30 (by decide)) (fun q30 => ?_)
  refine z_iload_n iX8_tellCart_33 rfl ?_
  refine z_bipush iX8_tellCart_34 zb_9 ?_
  refine z_isub iX8_tellCart_36 ?_
  refine z_top (nix_sub (by omega)) ?_
  refine z_istore iX8_tellCart_37 rfl (by decide) ?_
  refine z_iload_n iX8_tellCart_39 rfl ?_
  refine zn_if_eq iX8_tellCart_40 (by omega) (fun q40 => absurd q40 (by decide)) (fun q40 => ?_)
  refine z_iconst iX8_tellCart_43 zk_m1 ?_
  refine z_goto iX8_tellCart_44 ?_
  exact z_ireturn iX8_tellCart_78 (rfl) (rfl)
set_option maxRecDepth 20000 in
set_option maxHeartbeats 1000000 in
theorem cm_tc_11g (G : zG) (pg nw kp sn ks fo ft fe gt mx : zs) (re : Nat → Int64) (m : zs) (hh : Int64) (hm : mOK m) (c : Nat) (hc : c < rN m 5) (hg : rF m 14 c = 0) : zK G mX8_tellCart [.ref 49, .int (nI c), .int (nI 11)] (wW pg nw kp sn ks fo ft fe gt mx re m hh) (some (.int (-1))) (wW pg nw kp sn ks fo ft fe gt mx re (mBegin m) hh) := by
  obtain ⟨o13, o12, o11, o10, o4, o5⟩ := id hm
  refine zK_of 2 rfl (by decide) trivial (Nat.le_of_ble_eq_true rfl) rfl ?_
  refine z_aload_n iX8_tellCart_0 rfl ?_
  refine z_cvv (y1 := mX8_begin) iX8_tellCart_1 lX8_165 kX8_begin rfl (cm_begin G pg nw kp sn ks fo ft fe gt mx re m hh) (wm) rfl rfl rfl (Nat.le_of_ble_eq_true rfl) (by decide) ?_
  refine z_aload_n iX8_tellCart_4 rfl ?_
  refine z_getf iX8_tellCart_5 fX8_25 (wm) (mF_14 _ _) (by decide) ?_
  refine z_iload_n iX8_tellCart_8 rfl ?_
  refine z_iaload iX8_tellCart_9 (wm14) rfl (by omega) (by decide) (by decide) ?_
  refine z_if_ne iX8_tellCart_10 (fun q10 => absurd hg q10) (fun q10 => ?_)
  refine z_iconst iX8_tellCart_13 zk_1 ?_
  refine z_goto iX8_tellCart_14 ?_
  refine z_istore_n iX8_tellCart_18 rfl (by decide) ?_
  refine z_iload_n iX8_tellCart_19 rfl ?_
  refine z_i2l iX8_tellCart_20 ?_
  refine z_ldc2 iX8_tellCart_21 gX8_168 ?_
  refine z_ldc2 iX8_tellCart_24 gX8_170 ?_
  refine z_csi (y1 := mX8_in) iX8_tellCart_27 lX8_79 kX8_in rfl (c_in32 G _ _ 10 12 (by decide +kernel) (by decide +kernel)) rfl rfl (Nat.le_of_ble_eq_true rfl) ?_
  refine zb_if_eq iX8_tellCart_30 (fun q30 => absurd q30 (by decide)) (fun q30 => ?_)
  refine z_iload_n iX8_tellCart_33 rfl ?_
  refine z_bipush iX8_tellCart_34 zb_9 ?_
  refine z_isub iX8_tellCart_36 ?_
  refine z_top (nix_sub (by omega)) ?_
  refine z_istore iX8_tellCart_37 rfl (by decide) ?_
  refine z_iload_n iX8_tellCart_39 rfl ?_
  refine zn_if_eq iX8_tellCart_40 (by omega) (fun q40 => absurd q40 (by decide)) (fun q40 => ?_)
  refine z_iconst iX8_tellCart_43 zk_m1 ?_
  refine z_goto iX8_tellCart_44 ?_
  exact z_ireturn iX8_tellCart_78 (rfl) (rfl)
set_option maxRecDepth 20000 in
set_option maxHeartbeats 1000000 in
theorem cm_tc_12g (G : zG) (pg nw kp sn ks fo ft fe gt mx : zs) (re : Nat → Int64) (m : zs) (hh : Int64) (hm : mOK m) (c : Nat) (hc : c < rN m 5) (hg : rF m 14 c = 0) : zK G mX8_tellCart [.ref 49, .int (nI c), .int (nI 12)] (wW pg nw kp sn ks fo ft fe gt mx re m hh) (some (.int (-1))) (wW pg nw kp sn ks fo ft fe gt mx re (mBegin m) hh) := by
  obtain ⟨o13, o12, o11, o10, o4, o5⟩ := id hm
  refine zK_of 2 rfl (by decide) trivial (Nat.le_of_ble_eq_true rfl) rfl ?_
  refine z_aload_n iX8_tellCart_0 rfl ?_
  refine z_cvv (y1 := mX8_begin) iX8_tellCart_1 lX8_165 kX8_begin rfl (cm_begin G pg nw kp sn ks fo ft fe gt mx re m hh) (wm) rfl rfl rfl (Nat.le_of_ble_eq_true rfl) (by decide) ?_
  refine z_aload_n iX8_tellCart_4 rfl ?_
  refine z_getf iX8_tellCart_5 fX8_25 (wm) (mF_14 _ _) (by decide) ?_
  refine z_iload_n iX8_tellCart_8 rfl ?_
  refine z_iaload iX8_tellCart_9 (wm14) rfl (by omega) (by decide) (by decide) ?_
  refine z_if_ne iX8_tellCart_10 (fun q10 => absurd hg q10) (fun q10 => ?_)
  refine z_iconst iX8_tellCart_13 zk_1 ?_
  refine z_goto iX8_tellCart_14 ?_
  refine z_istore_n iX8_tellCart_18 rfl (by decide) ?_
  refine z_iload_n iX8_tellCart_19 rfl ?_
  refine z_i2l iX8_tellCart_20 ?_
  refine z_ldc2 iX8_tellCart_21 gX8_168 ?_
  refine z_ldc2 iX8_tellCart_24 gX8_170 ?_
  refine z_csi (y1 := mX8_in) iX8_tellCart_27 lX8_79 kX8_in rfl (c_in32 G _ _ 10 12 (by decide +kernel) (by decide +kernel)) rfl rfl (Nat.le_of_ble_eq_true rfl) ?_
  refine zb_if_eq iX8_tellCart_30 (fun q30 => absurd q30 (by decide)) (fun q30 => ?_)
  refine z_iload_n iX8_tellCart_33 rfl ?_
  refine z_bipush iX8_tellCart_34 zb_9 ?_
  refine z_isub iX8_tellCart_36 ?_
  refine z_top (nix_sub (by omega)) ?_
  refine z_istore iX8_tellCart_37 rfl (by decide) ?_
  refine z_iload_n iX8_tellCart_39 rfl ?_
  refine zn_if_eq iX8_tellCart_40 (by omega) (fun q40 => absurd q40 (by decide)) (fun q40 => ?_)
  refine z_iconst iX8_tellCart_43 zk_m1 ?_
  refine z_goto iX8_tellCart_44 ?_
  exact z_ireturn iX8_tellCart_78 (rfl) (rfl)
set_option maxRecDepth 20000 in
set_option maxHeartbeats 1000000 in
theorem cm_tc_5a (G : zG) (pg nw kp sn ks fo ft fe gt mx : zs) (re : Nat → Int64) (m : zs) (hh : Int64) (hm : mOK m) (c : Nat) (hc : c < rN m 5) (hg : ¬ rF m 14 c = 0) (p : Nat) (hf : mFind m c = some p) : zK G mX8_tellCart [.ref 49, .int (nI c), .int (nI 5)] (wW pg nw kp sn ks fo ft fe gt mx re m hh) (some (.int (nI (mOn (mBegin m) c 0)))) (wW pg nw kp sn ks fo ft fe gt mx re (mBegin m) hh) := by
  obtain ⟨o13, o12, o11, o10, o4, o5⟩ := id hm
  refine zK_of 2 rfl (by decide) trivial (Nat.le_of_ble_eq_true rfl) rfl ?_
  refine z_aload_n iX8_tellCart_0 rfl ?_
  refine z_cvv (y1 := mX8_begin) iX8_tellCart_1 lX8_165 kX8_begin rfl (cm_begin G pg nw kp sn ks fo ft fe gt mx re m hh) (wm) rfl rfl rfl (Nat.le_of_ble_eq_true rfl) (by decide) ?_
  refine z_aload_n iX8_tellCart_4 rfl ?_
  refine z_getf iX8_tellCart_5 fX8_25 (wm) (mF_14 _ _) (by decide) ?_
  refine z_iload_n iX8_tellCart_8 rfl ?_
  refine z_iaload iX8_tellCart_9 (wm14) rfl (by omega) (by decide) (by decide) ?_
  refine z_if_ne iX8_tellCart_10 (fun q10 => ?_) (fun q10 => absurd q10 hg)
  refine z_iconst iX8_tellCart_17 zk_0 ?_
  refine z_istore_n iX8_tellCart_18 rfl (by decide) ?_
  refine z_iload_n iX8_tellCart_19 rfl ?_
  refine z_i2l iX8_tellCart_20 ?_
  refine z_ldc2 iX8_tellCart_21 gX8_168 ?_
  refine z_ldc2 iX8_tellCart_24 gX8_170 ?_
  refine z_csi (y1 := mX8_in) iX8_tellCart_27 lX8_79 kX8_in rfl (c_in32 G _ _ 10 12 (by decide +kernel) (by decide +kernel)) rfl rfl (Nat.le_of_ble_eq_true rfl) ?_
  refine zb_if_eq iX8_tellCart_30 (fun q30 => ?_) (fun q30 => absurd q30 (by decide))
  refine z_iload_n iX8_tellCart_79 rfl ?_
  refine z_tabIn (off := 87) (tgt := 167) iX8_tellCart_80 (by decide +kernel) (by decide +kernel) (by decide +kernel) (by decide) ?_
  refine z_iload_n iX8_tellCart_167 rfl ?_
  refine zn_if_eq iX8_tellCart_168 (by omega) (fun q168 => ?_) (fun q168 => absurd rfl q168)
  refine z_aload_n iX8_tellCart_175 rfl ?_
  refine z_iload_n iX8_tellCart_176 rfl ?_
  refine z_iconst iX8_tellCart_177 zk_0 ?_
  refine z_cvi (y1 := mX8_onIt) iX8_tellCart_178 lX8_152 kX8_onIt rfl (cm_on G pg nw kp sn ks fo ft fe gt mx re (mBegin m) hh hm c 0 (by omega) (by decide) p hf) (wm) rfl rfl rfl (Nat.le_of_ble_eq_true rfl) (by decide) ?_
  exact z_ireturn iX8_tellCart_181 (rfl) (rfl)
set_option maxRecDepth 20000 in
set_option maxHeartbeats 1000000 in
theorem cm_tc_6 (G : zG) (pg nw kp sn ks fo ft fe gt mx : zs) (re : Nat → Int64) (m : zs) (hh : Int64) (hm : mOK m) (c : Nat) (hc : c < rN m 5) (p : Nat) (hf : mFind m c = some p) : zK G mX8_tellCart [.ref 49, .int (nI c), .int (nI 6)] (wW pg nw kp sn ks fo ft fe gt mx re m hh) (some (.int (mGain (mBegin m) c))) (wW pg nw kp sn ks fo ft fe gt mx re (mBegin m) hh) := by
  obtain ⟨o13, o12, o11, o10, o4, o5⟩ := id hm
  refine zK_of 2 rfl (by decide) trivial (Nat.le_of_ble_eq_true rfl) rfl ?_
  refine z_aload_n iX8_tellCart_0 rfl ?_
  refine z_cvv (y1 := mX8_begin) iX8_tellCart_1 lX8_165 kX8_begin rfl (cm_begin G pg nw kp sn ks fo ft fe gt mx re m hh) (wm) rfl rfl rfl (Nat.le_of_ble_eq_true rfl) (by decide) ?_
  refine z_aload_n iX8_tellCart_4 rfl ?_
  refine z_getf iX8_tellCart_5 fX8_25 (wm) (mF_14 _ _) (by decide) ?_
  refine z_iload_n iX8_tellCart_8 rfl ?_
  refine z_iaload iX8_tellCart_9 (wm14) rfl (by omega) (by decide) (by decide) ?_
  refine z_if_ne iX8_tellCart_10 (fun q10 => ?_) (fun q10 => ?_)
  · refine z_iconst iX8_tellCart_17 zk_0 ?_
    refine z_istore_n iX8_tellCart_18 rfl (by decide) ?_
    refine z_iload_n iX8_tellCart_19 rfl ?_
    refine z_i2l iX8_tellCart_20 ?_
    refine z_ldc2 iX8_tellCart_21 gX8_168 ?_
    refine z_ldc2 iX8_tellCart_24 gX8_170 ?_
    refine z_csi (y1 := mX8_in) iX8_tellCart_27 lX8_79 kX8_in rfl (c_in32 G _ _ 10 12 (by decide +kernel) (by decide +kernel)) rfl rfl (Nat.le_of_ble_eq_true rfl) ?_
    refine zb_if_eq iX8_tellCart_30 (fun q30 => ?_) (fun q30 => absurd q30 (by decide))
    refine z_iload_n iX8_tellCart_79 rfl ?_
    refine z_tabIn (off := 102) (tgt := 182) iX8_tellCart_80 (by decide +kernel) (by decide +kernel) (by decide +kernel) (by decide) ?_
    refine z_aload_n iX8_tellCart_182 rfl ?_
    refine z_iload_n iX8_tellCart_183 rfl ?_
    refine z_cvi (y1 := mX8_warmsBy) iX8_tellCart_184 lX8_156 kX8_warmsBy rfl (cm_warmsBy G pg nw kp sn ks fo ft fe gt mx re (mBegin m) hh hm c (by omega) p hf) (wm) rfl rfl rfl (Nat.le_of_ble_eq_true rfl) (by decide) ?_
    exact z_ireturn iX8_tellCart_187 (rfl) (rfl)
  · refine z_iconst iX8_tellCart_13 zk_1 ?_
    refine z_goto iX8_tellCart_14 ?_
    refine z_istore_n iX8_tellCart_18 rfl (by decide) ?_
    refine z_iload_n iX8_tellCart_19 rfl ?_
    refine z_i2l iX8_tellCart_20 ?_
    refine z_ldc2 iX8_tellCart_21 gX8_168 ?_
    refine z_ldc2 iX8_tellCart_24 gX8_170 ?_
    refine z_csi (y1 := mX8_in) iX8_tellCart_27 lX8_79 kX8_in rfl (c_in32 G _ _ 10 12 (by decide +kernel) (by decide +kernel)) rfl rfl (Nat.le_of_ble_eq_true rfl) ?_
    refine zb_if_eq iX8_tellCart_30 (fun q30 => ?_) (fun q30 => absurd q30 (by decide))
    refine z_iload_n iX8_tellCart_79 rfl ?_
    refine z_tabIn (off := 102) (tgt := 182) iX8_tellCart_80 (by decide +kernel) (by decide +kernel) (by decide +kernel) (by decide) ?_
    refine z_aload_n iX8_tellCart_182 rfl ?_
    refine z_iload_n iX8_tellCart_183 rfl ?_
    refine z_cvi (y1 := mX8_warmsBy) iX8_tellCart_184 lX8_156 kX8_warmsBy rfl (cm_warmsBy G pg nw kp sn ks fo ft fe gt mx re (mBegin m) hh hm c (by omega) p hf) (wm) rfl rfl rfl (Nat.le_of_ble_eq_true rfl) (by decide) ?_
    exact z_ireturn iX8_tellCart_187 (rfl) (rfl)
set_option maxRecDepth 20000 in
set_option maxHeartbeats 1000000 in
theorem cm_tc_7a (G : zG) (pg nw kp sn ks fo ft fe gt mx : zs) (re : Nat → Int64) (m : zs) (hh : Int64) (hm : mOK m) (c : Nat) (hc : c < rN m 5) (hg : ¬ rF m 14 c = 0) (hp : mHP m) (dy : Nat → Nat) (hs : mSn (mWays (mBegin m) c) dy)  : zK G mX8_tellCart [.ref 49, .int (nI c), .int (nI 7)] (wW pg nw kp sn ks fo ft fe gt mx re m hh) (some (.int (nI (mLaid (mWays (mBegin m) c) dy c)))) (wW pg nw kp sn ks fo ft fe gt mx re (mWays (mBegin m) c) hh) := by
  obtain ⟨o13, o12, o11, o10, o4, o5⟩ := id hm
  refine zK_of 2 rfl (by decide) trivial (Nat.le_of_ble_eq_true rfl) rfl ?_
  refine z_aload_n iX8_tellCart_0 rfl ?_
  refine z_cvv (y1 := mX8_begin) iX8_tellCart_1 lX8_165 kX8_begin rfl (cm_begin G pg nw kp sn ks fo ft fe gt mx re m hh) (wm) rfl rfl rfl (Nat.le_of_ble_eq_true rfl) (by decide) ?_
  refine z_aload_n iX8_tellCart_4 rfl ?_
  refine z_getf iX8_tellCart_5 fX8_25 (wm) (mF_14 _ _) (by decide) ?_
  refine z_iload_n iX8_tellCart_8 rfl ?_
  refine z_iaload iX8_tellCart_9 (wm14) rfl (by omega) (by decide) (by decide) ?_
  refine z_if_ne iX8_tellCart_10 (fun q10 => ?_) (fun q10 => absurd q10 hg)
  refine z_iconst iX8_tellCart_17 zk_0 ?_
  refine z_istore_n iX8_tellCart_18 rfl (by decide) ?_
  refine z_iload_n iX8_tellCart_19 rfl ?_
  refine z_i2l iX8_tellCart_20 ?_
  refine z_ldc2 iX8_tellCart_21 gX8_168 ?_
  refine z_ldc2 iX8_tellCart_24 gX8_170 ?_
  refine z_csi (y1 := mX8_in) iX8_tellCart_27 lX8_79 kX8_in rfl (c_in32 G _ _ 10 12 (by decide +kernel) (by decide +kernel)) rfl rfl (Nat.le_of_ble_eq_true rfl) ?_
  refine zb_if_eq iX8_tellCart_30 (fun q30 => ?_) (fun q30 => absurd q30 (by decide))
  refine z_iload_n iX8_tellCart_79 rfl ?_
  refine z_tabIn (off := 108) (tgt := 188) iX8_tellCart_80 (by decide +kernel) (by decide +kernel) (by decide +kernel) (by decide) ?_
  refine z_iload_n iX8_tellCart_188 rfl ?_
  refine zn_if_eq iX8_tellCart_189 (by omega) (fun q189 => ?_) (fun q189 => absurd rfl q189)
  refine z_aload_n iX8_tellCart_196 rfl ?_
  refine z_iload_n iX8_tellCart_197 rfl ?_
  refine z_cvi (y1 := mX8_wetsOf) iX8_tellCart_198 lX8_172 kX8_wetsOf rfl (cm_wetsOf G pg nw kp sn ks fo ft fe gt mx re (mBegin m) hh hm hp dy c (by omega) hs) (wm) rfl rfl rfl (Nat.le_of_ble_eq_true rfl) (by decide) ?_
  exact z_ireturn iX8_tellCart_201 (rfl) (rfl)
set_option maxRecDepth 20000 in
set_option maxHeartbeats 1000000 in
theorem cm_tc_8a (G : zG) (pg nw kp sn ks fo ft fe gt mx : zs) (re : Nat → Int64) (m : zs) (hh : Int64) (hm : mOK m) (c : Nat) (hc : c < rN m 5) (hg : ¬ rF m 14 c = 0) (hp : mHP m) (dy : Nat → Nat) (hs : mSn (mWays (mBegin m) c) dy) (hq : mLaid (mWays (mBegin m) c) dy c = 0) : zK G mX8_tellCart [.ref 49, .int (nI c), .int (nI 8)] (wW pg nw kp sn ks fo ft fe gt mx re m hh) (some (.int (-1))) (wW pg nw kp sn ks fo ft fe gt mx re (mWays (mBegin m) c) hh) := by
  obtain ⟨o13, o12, o11, o10, o4, o5⟩ := id hm
  refine zK_of 2 rfl (by decide) trivial (Nat.le_of_ble_eq_true rfl) rfl ?_
  refine z_aload_n iX8_tellCart_0 rfl ?_
  refine z_cvv (y1 := mX8_begin) iX8_tellCart_1 lX8_165 kX8_begin rfl (cm_begin G pg nw kp sn ks fo ft fe gt mx re m hh) (wm) rfl rfl rfl (Nat.le_of_ble_eq_true rfl) (by decide) ?_
  refine z_aload_n iX8_tellCart_4 rfl ?_
  refine z_getf iX8_tellCart_5 fX8_25 (wm) (mF_14 _ _) (by decide) ?_
  refine z_iload_n iX8_tellCart_8 rfl ?_
  refine z_iaload iX8_tellCart_9 (wm14) rfl (by omega) (by decide) (by decide) ?_
  refine z_if_ne iX8_tellCart_10 (fun q10 => ?_) (fun q10 => absurd q10 hg)
  refine z_iconst iX8_tellCart_17 zk_0 ?_
  refine z_istore_n iX8_tellCart_18 rfl (by decide) ?_
  refine z_iload_n iX8_tellCart_19 rfl ?_
  refine z_i2l iX8_tellCart_20 ?_
  refine z_ldc2 iX8_tellCart_21 gX8_168 ?_
  refine z_ldc2 iX8_tellCart_24 gX8_170 ?_
  refine z_csi (y1 := mX8_in) iX8_tellCart_27 lX8_79 kX8_in rfl (c_in32 G _ _ 10 12 (by decide +kernel) (by decide +kernel)) rfl rfl (Nat.le_of_ble_eq_true rfl) ?_
  refine zb_if_eq iX8_tellCart_30 (fun q30 => ?_) (fun q30 => absurd q30 (by decide))
  refine z_iload_n iX8_tellCart_79 rfl ?_
  refine z_tabIn (off := 122) (tgt := 202) iX8_tellCart_80 (by decide +kernel) (by decide +kernel) (by decide +kernel) (by decide) ?_
  refine z_iload_n iX8_tellCart_202 rfl ?_
  refine zn_if_eq iX8_tellCart_203 (by omega) (fun q203 => ?_) (fun q203 => absurd rfl q203)
  refine z_aload_n iX8_tellCart_210 rfl ?_
  refine z_iload_n iX8_tellCart_211 rfl ?_
  refine z_cvi (y1 := mX8_feelOf) iX8_tellCart_212 lX8_175 kX8_feelOf rfl (cm_feel0 G pg nw kp sn ks fo ft fe gt mx re (mBegin m) hh hm hp dy c (by omega) hs hq) (wm) rfl rfl rfl (Nat.le_of_ble_eq_true rfl) (by decide) ?_
  exact z_ireturn iX8_tellCart_215 (rfl) (rfl)
set_option maxRecDepth 20000 in
set_option maxHeartbeats 1000000 in
theorem cm_tc_8b (G : zG) (pg nw kp sn ks fo ft fe gt mx : zs) (re : Nat → Int64) (m : zs) (hh : Int64) (hm : mOK m) (c : Nat) (hc : c < rN m 5) (hg : ¬ rF m 14 c = 0) (hp : mHP m) (dy : Nat → Nat) (hs : mSn (mWays (mBegin m) c) dy) (t : Nat) (ht : t < 2 ^ 30) (hq : mLaid (mWays (mBegin m) c) dy c = t) (ht0 : ¬ t = 0) : zK G mX8_tellCart [.ref 49, .int (nI c), .int (nI 8)] (wW pg nw kp sn ks fo ft fe gt mx re m hh) (some (.int (oI (mFlL (mWays (mBegin m) c) t 9 0 none 11)))) (wW pg nw kp sn ks fo ft fe gt mx re (mWays (mBegin m) c) hh) := by
  obtain ⟨o13, o12, o11, o10, o4, o5⟩ := id hm
  refine zK_of 2 rfl (by decide) trivial (Nat.le_of_ble_eq_true rfl) rfl ?_
  refine z_aload_n iX8_tellCart_0 rfl ?_
  refine z_cvv (y1 := mX8_begin) iX8_tellCart_1 lX8_165 kX8_begin rfl (cm_begin G pg nw kp sn ks fo ft fe gt mx re m hh) (wm) rfl rfl rfl (Nat.le_of_ble_eq_true rfl) (by decide) ?_
  refine z_aload_n iX8_tellCart_4 rfl ?_
  refine z_getf iX8_tellCart_5 fX8_25 (wm) (mF_14 _ _) (by decide) ?_
  refine z_iload_n iX8_tellCart_8 rfl ?_
  refine z_iaload iX8_tellCart_9 (wm14) rfl (by omega) (by decide) (by decide) ?_
  refine z_if_ne iX8_tellCart_10 (fun q10 => ?_) (fun q10 => absurd q10 hg)
  refine z_iconst iX8_tellCart_17 zk_0 ?_
  refine z_istore_n iX8_tellCart_18 rfl (by decide) ?_
  refine z_iload_n iX8_tellCart_19 rfl ?_
  refine z_i2l iX8_tellCart_20 ?_
  refine z_ldc2 iX8_tellCart_21 gX8_168 ?_
  refine z_ldc2 iX8_tellCart_24 gX8_170 ?_
  refine z_csi (y1 := mX8_in) iX8_tellCart_27 lX8_79 kX8_in rfl (c_in32 G _ _ 10 12 (by decide +kernel) (by decide +kernel)) rfl rfl (Nat.le_of_ble_eq_true rfl) ?_
  refine zb_if_eq iX8_tellCart_30 (fun q30 => ?_) (fun q30 => absurd q30 (by decide))
  refine z_iload_n iX8_tellCart_79 rfl ?_
  refine z_tabIn (off := 122) (tgt := 202) iX8_tellCart_80 (by decide +kernel) (by decide +kernel) (by decide +kernel) (by decide) ?_
  refine z_iload_n iX8_tellCart_202 rfl ?_
  refine zn_if_eq iX8_tellCart_203 (by omega) (fun q203 => ?_) (fun q203 => absurd rfl q203)
  refine z_aload_n iX8_tellCart_210 rfl ?_
  refine z_iload_n iX8_tellCart_211 rfl ?_
  refine z_cvi (y1 := mX8_feelOf) iX8_tellCart_212 lX8_175 kX8_feelOf rfl (cm_feel1 G pg nw kp sn ks fo ft fe gt mx re (mBegin m) hh hm hp dy c (by omega) hs t ht hq ht0) (wm) rfl rfl rfl (Nat.le_of_ble_eq_true rfl) (by decide) ?_
  exact z_ireturn iX8_tellCart_215 (rfl) (rfl)
set_option maxRecDepth 20000 in
set_option maxHeartbeats 1000000 in
theorem cm_tc_10a (G : zG) (pg nw kp sn ks fo ft fe gt mx : zs) (re : Nat → Int64) (m : zs) (hh : Int64) (hm : mOK m) (c : Nat) (hc : c < rN m 5) (hg : ¬ rF m 14 c = 0)  : zK G mX8_tellCart [.ref 49, .int (nI c), .int (nI 10)] (wW pg nw kp sn ks fo ft fe gt mx re m hh) (some (.int (kGives (rA m 10 c) (if rF m 14 c ≤ nI 1 then rF m 14 c else nI 1)))) (wW pg nw kp sn ks fo ft fe gt mx re (mBegin m) hh) := by
  obtain ⟨o13, o12, o11, o10, o4, o5⟩ := id hm
  refine zK_of 2 rfl (by decide) trivial (Nat.le_of_ble_eq_true rfl) rfl ?_
  refine z_aload_n iX8_tellCart_0 rfl ?_
  refine z_cvv (y1 := mX8_begin) iX8_tellCart_1 lX8_165 kX8_begin rfl (cm_begin G pg nw kp sn ks fo ft fe gt mx re m hh) (wm) rfl rfl rfl (Nat.le_of_ble_eq_true rfl) (by decide) ?_
  refine z_aload_n iX8_tellCart_4 rfl ?_
  refine z_getf iX8_tellCart_5 fX8_25 (wm) (mF_14 _ _) (by decide) ?_
  refine z_iload_n iX8_tellCart_8 rfl ?_
  refine z_iaload iX8_tellCart_9 (wm14) rfl (by omega) (by decide) (by decide) ?_
  refine z_if_ne iX8_tellCart_10 (fun q10 => ?_) (fun q10 => absurd q10 hg)
  refine z_iconst iX8_tellCart_17 zk_0 ?_
  refine z_istore_n iX8_tellCart_18 rfl (by decide) ?_
  refine z_iload_n iX8_tellCart_19 rfl ?_
  refine z_i2l iX8_tellCart_20 ?_
  refine z_ldc2 iX8_tellCart_21 gX8_168 ?_
  refine z_ldc2 iX8_tellCart_24 gX8_170 ?_
  refine z_csi (y1 := mX8_in) iX8_tellCart_27 lX8_79 kX8_in rfl (c_in32 G _ _ 10 12 (by decide +kernel) (by decide +kernel)) rfl rfl (Nat.le_of_ble_eq_true rfl) ?_
  refine zb_if_eq iX8_tellCart_30 (fun q30 => absurd q30 (by decide)) (fun q30 => ?_)
  refine z_iload_n iX8_tellCart_33 rfl ?_
  refine z_bipush iX8_tellCart_34 zb_9 ?_
  refine z_isub iX8_tellCart_36 ?_
  refine z_top (nix_sub (by omega)) ?_
  refine z_istore iX8_tellCart_37 rfl (by decide) ?_
  refine z_iload_n iX8_tellCart_39 rfl ?_
  refine zn_if_eq iX8_tellCart_40 (by omega) (fun q40 => ?_) (fun q40 => absurd rfl q40)
  refine z_aload_n iX8_tellCart_47 rfl ?_
  refine z_getf iX8_tellCart_48 fX8_13 (wm) (mF_10 _ _) (by decide) ?_
  refine z_iload_n iX8_tellCart_51 rfl ?_
  refine z_iaload iX8_tellCart_52 (wm10) rfl (by omega) (by decide) (by decide) ?_
  refine z_iload iX8_tellCart_53 rfl ?_
  refine z_aload_n iX8_tellCart_55 rfl ?_
  refine z_getf iX8_tellCart_56 fX8_25 (wm) (mF_14 _ _) (by decide) ?_
  refine z_iload_n iX8_tellCart_59 rfl ?_
  refine z_iaload iX8_tellCart_60 (wm14) rfl (by omega) (by decide) (by decide) ?_
  refine z_icmp_ge iX8_tellCart_61 (fun q61 => ?_) (fun q61 => ?_)
  · refine z_aload_n iX8_tellCart_69 rfl ?_
    refine z_getf iX8_tellCart_70 fX8_25 (wm) (mF_14 _ _) (by decide) ?_
    refine z_iload_n iX8_tellCart_73 rfl ?_
    refine z_iaload iX8_tellCart_74 (wm14) rfl (by omega) (by decide) (by decide) ?_
    refine z_csi (y1 := mX8_gives) iX8_tellCart_75 lX8_145 kX8_gives rfl (cm_gives G _ _ _ (Nat.lt_of_le_of_lt (o10 c) (by decide))) rfl rfl (Nat.le_of_ble_eq_true rfl) ?_
    exact z_ireturn iX8_tellCart_78 (by first | exact congrArg (kGives _) (if_pos q61).symm | exact congrArg (kGives _) (if_neg q61).symm) (rfl)
  · refine z_iload iX8_tellCart_64 rfl ?_
    refine z_goto iX8_tellCart_66 ?_
    refine z_csi (y1 := mX8_gives) iX8_tellCart_75 lX8_145 kX8_gives rfl (cm_gives G _ _ _ (Nat.lt_of_le_of_lt (o10 c) (by decide))) rfl rfl (Nat.le_of_ble_eq_true rfl) ?_
    exact z_ireturn iX8_tellCart_78 (by first | exact congrArg (kGives _) (if_pos q61).symm | exact congrArg (kGives _) (if_neg q61).symm) (rfl)
set_option maxRecDepth 20000 in
set_option maxHeartbeats 1000000 in
theorem cm_tc_11a (G : zG) (pg nw kp sn ks fo ft fe gt mx : zs) (re : Nat → Int64) (m : zs) (hh : Int64) (hm : mOK m) (c : Nat) (hc : c < rN m 5) (hg : ¬ rF m 14 c = 0)  : zK G mX8_tellCart [.ref 49, .int (nI c), .int (nI 11)] (wW pg nw kp sn ks fo ft fe gt mx re m hh) (some (.int (kGives (rA m 10 c) (if rF m 14 c ≤ nI 2 then rF m 14 c else nI 2)))) (wW pg nw kp sn ks fo ft fe gt mx re (mBegin m) hh) := by
  obtain ⟨o13, o12, o11, o10, o4, o5⟩ := id hm
  refine zK_of 2 rfl (by decide) trivial (Nat.le_of_ble_eq_true rfl) rfl ?_
  refine z_aload_n iX8_tellCart_0 rfl ?_
  refine z_cvv (y1 := mX8_begin) iX8_tellCart_1 lX8_165 kX8_begin rfl (cm_begin G pg nw kp sn ks fo ft fe gt mx re m hh) (wm) rfl rfl rfl (Nat.le_of_ble_eq_true rfl) (by decide) ?_
  refine z_aload_n iX8_tellCart_4 rfl ?_
  refine z_getf iX8_tellCart_5 fX8_25 (wm) (mF_14 _ _) (by decide) ?_
  refine z_iload_n iX8_tellCart_8 rfl ?_
  refine z_iaload iX8_tellCart_9 (wm14) rfl (by omega) (by decide) (by decide) ?_
  refine z_if_ne iX8_tellCart_10 (fun q10 => ?_) (fun q10 => absurd q10 hg)
  refine z_iconst iX8_tellCart_17 zk_0 ?_
  refine z_istore_n iX8_tellCart_18 rfl (by decide) ?_
  refine z_iload_n iX8_tellCart_19 rfl ?_
  refine z_i2l iX8_tellCart_20 ?_
  refine z_ldc2 iX8_tellCart_21 gX8_168 ?_
  refine z_ldc2 iX8_tellCart_24 gX8_170 ?_
  refine z_csi (y1 := mX8_in) iX8_tellCart_27 lX8_79 kX8_in rfl (c_in32 G _ _ 10 12 (by decide +kernel) (by decide +kernel)) rfl rfl (Nat.le_of_ble_eq_true rfl) ?_
  refine zb_if_eq iX8_tellCart_30 (fun q30 => absurd q30 (by decide)) (fun q30 => ?_)
  refine z_iload_n iX8_tellCart_33 rfl ?_
  refine z_bipush iX8_tellCart_34 zb_9 ?_
  refine z_isub iX8_tellCart_36 ?_
  refine z_top (nix_sub (by omega)) ?_
  refine z_istore iX8_tellCart_37 rfl (by decide) ?_
  refine z_iload_n iX8_tellCart_39 rfl ?_
  refine zn_if_eq iX8_tellCart_40 (by omega) (fun q40 => ?_) (fun q40 => absurd rfl q40)
  refine z_aload_n iX8_tellCart_47 rfl ?_
  refine z_getf iX8_tellCart_48 fX8_13 (wm) (mF_10 _ _) (by decide) ?_
  refine z_iload_n iX8_tellCart_51 rfl ?_
  refine z_iaload iX8_tellCart_52 (wm10) rfl (by omega) (by decide) (by decide) ?_
  refine z_iload iX8_tellCart_53 rfl ?_
  refine z_aload_n iX8_tellCart_55 rfl ?_
  refine z_getf iX8_tellCart_56 fX8_25 (wm) (mF_14 _ _) (by decide) ?_
  refine z_iload_n iX8_tellCart_59 rfl ?_
  refine z_iaload iX8_tellCart_60 (wm14) rfl (by omega) (by decide) (by decide) ?_
  refine z_icmp_ge iX8_tellCart_61 (fun q61 => ?_) (fun q61 => ?_)
  · refine z_aload_n iX8_tellCart_69 rfl ?_
    refine z_getf iX8_tellCart_70 fX8_25 (wm) (mF_14 _ _) (by decide) ?_
    refine z_iload_n iX8_tellCart_73 rfl ?_
    refine z_iaload iX8_tellCart_74 (wm14) rfl (by omega) (by decide) (by decide) ?_
    refine z_csi (y1 := mX8_gives) iX8_tellCart_75 lX8_145 kX8_gives rfl (cm_gives G _ _ _ (Nat.lt_of_le_of_lt (o10 c) (by decide))) rfl rfl (Nat.le_of_ble_eq_true rfl) ?_
    exact z_ireturn iX8_tellCart_78 (by first | exact congrArg (kGives _) (if_pos q61).symm | exact congrArg (kGives _) (if_neg q61).symm) (rfl)
  · refine z_iload iX8_tellCart_64 rfl ?_
    refine z_goto iX8_tellCart_66 ?_
    refine z_csi (y1 := mX8_gives) iX8_tellCart_75 lX8_145 kX8_gives rfl (cm_gives G _ _ _ (Nat.lt_of_le_of_lt (o10 c) (by decide))) rfl rfl (Nat.le_of_ble_eq_true rfl) ?_
    exact z_ireturn iX8_tellCart_78 (by first | exact congrArg (kGives _) (if_pos q61).symm | exact congrArg (kGives _) (if_neg q61).symm) (rfl)
set_option maxRecDepth 20000 in
set_option maxHeartbeats 1000000 in
theorem cm_tc_12a (G : zG) (pg nw kp sn ks fo ft fe gt mx : zs) (re : Nat → Int64) (m : zs) (hh : Int64) (hm : mOK m) (c : Nat) (hc : c < rN m 5) (hg : ¬ rF m 14 c = 0)  : zK G mX8_tellCart [.ref 49, .int (nI c), .int (nI 12)] (wW pg nw kp sn ks fo ft fe gt mx re m hh) (some (.int (kGives (rA m 10 c) (if rF m 14 c ≤ nI 3 then rF m 14 c else nI 3)))) (wW pg nw kp sn ks fo ft fe gt mx re (mBegin m) hh) := by
  obtain ⟨o13, o12, o11, o10, o4, o5⟩ := id hm
  refine zK_of 2 rfl (by decide) trivial (Nat.le_of_ble_eq_true rfl) rfl ?_
  refine z_aload_n iX8_tellCart_0 rfl ?_
  refine z_cvv (y1 := mX8_begin) iX8_tellCart_1 lX8_165 kX8_begin rfl (cm_begin G pg nw kp sn ks fo ft fe gt mx re m hh) (wm) rfl rfl rfl (Nat.le_of_ble_eq_true rfl) (by decide) ?_
  refine z_aload_n iX8_tellCart_4 rfl ?_
  refine z_getf iX8_tellCart_5 fX8_25 (wm) (mF_14 _ _) (by decide) ?_
  refine z_iload_n iX8_tellCart_8 rfl ?_
  refine z_iaload iX8_tellCart_9 (wm14) rfl (by omega) (by decide) (by decide) ?_
  refine z_if_ne iX8_tellCart_10 (fun q10 => ?_) (fun q10 => absurd q10 hg)
  refine z_iconst iX8_tellCart_17 zk_0 ?_
  refine z_istore_n iX8_tellCart_18 rfl (by decide) ?_
  refine z_iload_n iX8_tellCart_19 rfl ?_
  refine z_i2l iX8_tellCart_20 ?_
  refine z_ldc2 iX8_tellCart_21 gX8_168 ?_
  refine z_ldc2 iX8_tellCart_24 gX8_170 ?_
  refine z_csi (y1 := mX8_in) iX8_tellCart_27 lX8_79 kX8_in rfl (c_in32 G _ _ 10 12 (by decide +kernel) (by decide +kernel)) rfl rfl (Nat.le_of_ble_eq_true rfl) ?_
  refine zb_if_eq iX8_tellCart_30 (fun q30 => absurd q30 (by decide)) (fun q30 => ?_)
  refine z_iload_n iX8_tellCart_33 rfl ?_
  refine z_bipush iX8_tellCart_34 zb_9 ?_
  refine z_isub iX8_tellCart_36 ?_
  refine z_top (nix_sub (by omega)) ?_
  refine z_istore iX8_tellCart_37 rfl (by decide) ?_
  refine z_iload_n iX8_tellCart_39 rfl ?_
  refine zn_if_eq iX8_tellCart_40 (by omega) (fun q40 => ?_) (fun q40 => absurd rfl q40)
  refine z_aload_n iX8_tellCart_47 rfl ?_
  refine z_getf iX8_tellCart_48 fX8_13 (wm) (mF_10 _ _) (by decide) ?_
  refine z_iload_n iX8_tellCart_51 rfl ?_
  refine z_iaload iX8_tellCart_52 (wm10) rfl (by omega) (by decide) (by decide) ?_
  refine z_iload iX8_tellCart_53 rfl ?_
  refine z_aload_n iX8_tellCart_55 rfl ?_
  refine z_getf iX8_tellCart_56 fX8_25 (wm) (mF_14 _ _) (by decide) ?_
  refine z_iload_n iX8_tellCart_59 rfl ?_
  refine z_iaload iX8_tellCart_60 (wm14) rfl (by omega) (by decide) (by decide) ?_
  refine z_icmp_ge iX8_tellCart_61 (fun q61 => ?_) (fun q61 => ?_)
  · refine z_aload_n iX8_tellCart_69 rfl ?_
    refine z_getf iX8_tellCart_70 fX8_25 (wm) (mF_14 _ _) (by decide) ?_
    refine z_iload_n iX8_tellCart_73 rfl ?_
    refine z_iaload iX8_tellCart_74 (wm14) rfl (by omega) (by decide) (by decide) ?_
    refine z_csi (y1 := mX8_gives) iX8_tellCart_75 lX8_145 kX8_gives rfl (cm_gives G _ _ _ (Nat.lt_of_le_of_lt (o10 c) (by decide))) rfl rfl (Nat.le_of_ble_eq_true rfl) ?_
    exact z_ireturn iX8_tellCart_78 (by first | exact congrArg (kGives _) (if_pos q61).symm | exact congrArg (kGives _) (if_neg q61).symm) (rfl)
  · refine z_iload iX8_tellCart_64 rfl ?_
    refine z_goto iX8_tellCart_66 ?_
    refine z_csi (y1 := mX8_gives) iX8_tellCart_75 lX8_145 kX8_gives rfl (cm_gives G _ _ _ (Nat.lt_of_le_of_lt (o10 c) (by decide))) rfl rfl (Nat.le_of_ble_eq_true rfl) ?_
    exact z_ireturn iX8_tellCart_78 (by first | exact congrArg (kGives _) (if_pos q61).symm | exact congrArg (kGives _) (if_neg q61).symm) (rfl)
