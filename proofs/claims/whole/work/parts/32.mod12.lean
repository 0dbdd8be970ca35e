set_option maxRecDepth 20000 in
set_option maxHeartbeats 1000000 in
theorem cm_tb_0 (G : zG) (pg nw kp sn ks fo ft fe gt mx : zs) (re : Nat → Int64) (m : zs) (hh : Int64) (hm : mOK m) (c : Nat) (hc : c < rN m 4)  : zK G mX8_tellBay [.ref 49, .int (nI c), .int (nI 0)] (wW pg nw kp sn ks fo ft fe gt mx re m hh) (some (.int (nI (mMany m c)))) (wW pg nw kp sn ks fo ft fe gt mx re (mBegin m) hh) := by
  obtain ⟨o13, o12, o11, o10, o4, o5⟩ := id hm
  refine zK_of 0 rfl (by decide) trivial (Nat.le_of_ble_eq_true rfl) rfl ?_
  refine z_iload_n iX8_tellBay_0 rfl ?_
  refine z_i2l iX8_tellBay_1 ?_
  refine z_ldc2 iX8_tellBay_2 gX8_168 ?_
  refine z_ldc2 iX8_tellBay_5 gX8_170 ?_
  refine z_csi (y1 := mX8_in) iX8_tellBay_8 lX8_79 kX8_in rfl (c_in32 G _ _ 10 12 (by decide +kernel) (by decide +kernel)) rfl rfl (Nat.le_of_ble_eq_true rfl) ?_
  refine zb_if_eq iX8_tellBay_11 (fun q11 => ?_) (fun q11 => absurd q11 (by decide))
  refine z_aload_n iX8_tellBay_24 rfl ?_
  refine z_cvv (y1 := mX8_begin) iX8_tellBay_25 lX8_165 kX8_begin rfl (cm_begin G pg nw kp sn ks fo ft fe gt mx re m hh) (wm) rfl rfl rfl (Nat.le_of_ble_eq_true rfl) (by decide) ?_
  refine z_iload_n iX8_tellBay_28 rfl ?_
  refine z_tabIn (off := 35) (tgt := 64) iX8_tellBay_29 (by decide +kernel) (by decide +kernel) (by decide +kernel) (by decide) ?_
  refine z_aload_n iX8_tellBay_64 rfl ?_
  refine z_iload_n iX8_tellBay_65 rfl ?_
  refine z_cvi (y1 := mX8_thereMany) iX8_tellBay_66 lX8_193 kX8_thereMany rfl (cm_many G pg nw kp sn ks fo ft fe gt mx re (mBegin m) hh hm c (by omega)) (wm) rfl rfl rfl (Nat.le_of_ble_eq_true rfl) (by decide) ?_
  exact z_ireturn iX8_tellBay_69 (rfl) (rfl)
set_option maxRecDepth 20000 in
set_option maxHeartbeats 1000000 in
theorem cm_tb_1 (G : zG) (pg nw kp sn ks fo ft fe gt mx : zs) (re : Nat → Int64) (m : zs) (hh : Int64) (hm : mOK m) (c : Nat) (hc : c < rN m 4)  : zK G mX8_tellBay [.ref 49, .int (nI c), .int (nI 1)] (wW pg nw kp sn ks fo ft fe gt mx re m hh) (some (.int (oI (mTop (mBegin m) c)))) (wW pg nw kp sn ks fo ft fe gt mx re (mBegin m) hh) := by
  obtain ⟨o13, o12, o11, o10, o4, o5⟩ := id hm
  refine zK_of 0 rfl (by decide) trivial (Nat.le_of_ble_eq_true rfl) rfl ?_
  refine z_iload_n iX8_tellBay_0 rfl ?_
  refine z_i2l iX8_tellBay_1 ?_
  refine z_ldc2 iX8_tellBay_2 gX8_168 ?_
  refine z_ldc2 iX8_tellBay_5 gX8_170 ?_
  refine z_csi (y1 := mX8_in) iX8_tellBay_8 lX8_79 kX8_in rfl (c_in32 G _ _ 10 12 (by decide +kernel) (by decide +kernel)) rfl rfl (Nat.le_of_ble_eq_true rfl) ?_
  refine zb_if_eq iX8_tellBay_11 (fun q11 => ?_) (fun q11 => absurd q11 (by decide))
  refine z_aload_n iX8_tellBay_24 rfl ?_
  refine z_cvv (y1 := mX8_begin) iX8_tellBay_25 lX8_165 kX8_begin rfl (cm_begin G pg nw kp sn ks fo ft fe gt mx re m hh) (wm) rfl rfl rfl (Nat.le_of_ble_eq_true rfl) (by decide) ?_
  refine z_iload_n iX8_tellBay_28 rfl ?_
  refine z_tabIn (off := 41) (tgt := 70) iX8_tellBay_29 (by decide +kernel) (by decide +kernel) (by decide +kernel) (by decide) ?_
  refine z_aload_n iX8_tellBay_70 rfl ?_
  refine z_iload_n iX8_tellBay_71 rfl ?_
  refine z_cvi (y1 := mX8_topOf) iX8_tellBay_72 lX8_135 kX8_topOf rfl (cm_top G pg nw kp sn ks fo ft fe gt mx re (mBegin m) hh hm c (by omega)) (wm) rfl rfl rfl (Nat.le_of_ble_eq_true rfl) (by decide) ?_
  exact z_ireturn iX8_tellBay_75 (rfl) (rfl)
set_option maxRecDepth 20000 in
set_option maxHeartbeats 1000000 in
theorem cm_tb_2 (G : zG) (pg nw kp sn ks fo ft fe gt mx : zs) (re : Nat → Int64) (m : zs) (hh : Int64) (hm : mOK m) (c : Nat) (hc : c < rN m 4)  : zK G mX8_tellBay [.ref 49, .int (nI c), .int (nI 2)] (wW pg nw kp sn ks fo ft fe gt mx re m hh) (some (.int (mLI m c))) (wW pg nw kp sn ks fo ft fe gt mx re (mBegin m) hh) := by
  obtain ⟨o13, o12, o11, o10, o4, o5⟩ := id hm
  refine zK_of 0 rfl (by decide) trivial (Nat.le_of_ble_eq_true rfl) rfl ?_
  refine z_iload_n iX8_tellBay_0 rfl ?_
  refine z_i2l iX8_tellBay_1 ?_
  refine z_ldc2 iX8_tellBay_2 gX8_168 ?_
  refine z_ldc2 iX8_tellBay_5 gX8_170 ?_
  refine z_csi (y1 := mX8_in) iX8_tellBay_8 lX8_79 kX8_in rfl (c_in32 G _ _ 10 12 (by decide +kernel) (by decide +kernel)) rfl rfl (Nat.le_of_ble_eq_true rfl) ?_
  refine zb_if_eq iX8_tellBay_11 (fun q11 => ?_) (fun q11 => absurd q11 (by decide))
  refine z_aload_n iX8_tellBay_24 rfl ?_
  refine z_cvv (y1 := mX8_begin) iX8_tellBay_25 lX8_165 kX8_begin rfl (cm_begin G pg nw kp sn ks fo ft fe gt mx re m hh) (wm) rfl rfl rfl (Nat.le_of_ble_eq_true rfl) (by decide) ?_
  refine z_iload_n iX8_tellBay_28 rfl ?_
  refine z_tabIn (off := 47) (tgt := 76) iX8_tellBay_29 (by decide +kernel) (by decide +kernel) (by decide +kernel) (by decide) ?_
  refine z_aload_n iX8_tellBay_76 rfl ?_
  refine z_iload_n iX8_tellBay_77 rfl ?_
  refine z_cvi (y1 := mX8_lightIn) iX8_tellBay_78 lX8_202 kX8_lightIn rfl (cm_li G pg nw kp sn ks fo ft fe gt mx re (mBegin m) hh hm c (by omega)) (wm) rfl rfl rfl (Nat.le_of_ble_eq_true rfl) (by decide) ?_
  exact z_ireturn iX8_tellBay_81 (rfl) (rfl)
set_option maxRecDepth 20000 in
set_option maxHeartbeats 1000000 in
theorem cm_tb_3 (G : zG) (pg nw kp sn ks fo ft fe gt mx : zs) (re : Nat → Int64) (m : zs) (hh : Int64) (hm : mOK m) (c : Nat) (hc : c < rN m 4) (hp : mHP m) (h3 : mMany (mBegin m) c ≤ 3) (hset : ∀ t, t < 1 * 2 ^ mMany (mBegin m) c → mSetOk (mBegin m) c t) : zK G mX8_tellBay [.ref 49, .int (nI c), .int (nI 3)] (wW pg nw kp sn ks fo ft fe gt mx re m hh) (some (.int (oI (mSafe (mBegin m) c).1))) (wW pg nw kp sn ks fo ft fe gt mx re (mSafe (mBegin m) c).2 hh) := by
  obtain ⟨o13, o12, o11, o10, o4, o5⟩ := id hm
  refine zK_of 0 rfl (by decide) trivial (Nat.le_of_ble_eq_true rfl) rfl ?_
  refine z_iload_n iX8_tellBay_0 rfl ?_
  refine z_i2l iX8_tellBay_1 ?_
  refine z_ldc2 iX8_tellBay_2 gX8_168 ?_
  refine z_ldc2 iX8_tellBay_5 gX8_170 ?_
  refine z_csi (y1 := mX8_in) iX8_tellBay_8 lX8_79 kX8_in rfl (c_in32 G _ _ 10 12 (by decide +kernel) (by decide +kernel)) rfl rfl (Nat.le_of_ble_eq_true rfl) ?_
  refine zb_if_eq iX8_tellBay_11 (fun q11 => ?_) (fun q11 => absurd q11 (by decide))
  refine z_aload_n iX8_tellBay_24 rfl ?_
  refine z_cvv (y1 := mX8_begin) iX8_tellBay_25 lX8_165 kX8_begin rfl (cm_begin G pg nw kp sn ks fo ft fe gt mx re m hh) (wm) rfl rfl rfl (Nat.le_of_ble_eq_true rfl) (by decide) ?_
  refine z_iload_n iX8_tellBay_28 rfl ?_
  refine z_tabIn (off := 53) (tgt := 82) iX8_tellBay_29 (by decide +kernel) (by decide +kernel) (by decide +kernel) (by decide) ?_
  refine z_aload_n iX8_tellBay_82 rfl ?_
  refine z_iload_n iX8_tellBay_83 rfl ?_
  refine z_cvi (y1 := mX8_safeOf) iX8_tellBay_84 lX8_205 kX8_safeOf rfl (cm_safe G pg nw kp sn ks fo ft fe gt mx re (mBegin m) hh hm hp c (by omega) h3 hset) (wm) rfl rfl rfl (Nat.le_of_ble_eq_true rfl) (by decide) ?_
  exact z_ireturn iX8_tellBay_87 (rfl) (rfl)
set_option maxRecDepth 20000 in
set_option maxHeartbeats 1000000 in
theorem cm_tb_4 (G : zG) (pg nw kp sn ks fo ft fe gt mx : zs) (re : Nat → Int64) (m : zs) (hh : Int64) (hm : mOK m) (c : Nat) (hc : c < rN m 4) (hp : mHP m) (h3 : mMany (mBegin m) c ≤ 3) (hset : ∀ t, t < 1 * 2 ^ mMany (mBegin m) c → mSetOk (mBegin m) c t) (t : Nat) (ht : t < 2 ^ 30) (hq : (mSafe (mBegin m) c).1 = some t) (hm2 : mOK (mSafe (mBegin m) c).2) (hs2 : mSetOk (mSafe (mBegin m) c).2 c t) : zK G mX8_tellBay [.ref 49, .int (nI c), .int (nI 4)] (wW pg nw kp sn ks fo ft fe gt mx re m hh) (some (.int (mLS (mSafe (mBegin m) c).2 c t))) (wW pg nw kp sn ks fo ft fe gt mx re (mSafe (mBegin m) c).2 hh) := by
  obtain ⟨o13, o12, o11, o10, o4, o5⟩ := id hm
  refine zK_of 0 rfl (by decide) trivial (Nat.le_of_ble_eq_true rfl) rfl ?_
  refine z_iload_n iX8_tellBay_0 rfl ?_
  refine z_i2l iX8_tellBay_1 ?_
  refine z_ldc2 iX8_tellBay_2 gX8_168 ?_
  refine z_ldc2 iX8_tellBay_5 gX8_170 ?_
  refine z_csi (y1 := mX8_in) iX8_tellBay_8 lX8_79 kX8_in rfl (c_in32 G _ _ 10 12 (by decide +kernel) (by decide +kernel)) rfl rfl (Nat.le_of_ble_eq_true rfl) ?_
  refine zb_if_eq iX8_tellBay_11 (fun q11 => ?_) (fun q11 => absurd q11 (by decide))
  refine z_aload_n iX8_tellBay_24 rfl ?_
  refine z_cvv (y1 := mX8_begin) iX8_tellBay_25 lX8_165 kX8_begin rfl (cm_begin G pg nw kp sn ks fo ft fe gt mx re m hh) (wm) rfl rfl rfl (Nat.le_of_ble_eq_true rfl) (by decide) ?_
  refine z_iload_n iX8_tellBay_28 rfl ?_
  refine z_tabIn (off := 59) (tgt := 88) iX8_tellBay_29 (by decide +kernel) (by decide +kernel) (by decide +kernel) (by decide) ?_
  refine z_aload_n iX8_tellBay_88 rfl ?_
  refine z_iload_n iX8_tellBay_89 rfl ?_
  refine z_aload_n iX8_tellBay_90 rfl ?_
  refine z_iload_n iX8_tellBay_91 rfl ?_
  refine z_cvi (y1 := mX8_safeOf) iX8_tellBay_92 lX8_205 kX8_safeOf rfl (cm_safe G pg nw kp sn ks fo ft fe gt mx re (mBegin m) hh hm hp c (by omega) h3 hset) (wm) rfl rfl rfl (Nat.le_of_ble_eq_true rfl) (by decide) ?_
  rw [hq]
  refine z_top (v := nI t) rfl ?_
  refine z_cvi (y1 := mX8_lightOfSet) iX8_tellBay_95 lX8_196 kX8_lightOfSet rfl (cm_ls G pg nw kp sn ks fo ft fe gt mx re (mSafe (mBegin m) c).2 hh hm2 c t (by omega) ht hs2) (wm) rfl rfl rfl (Nat.le_of_ble_eq_true rfl) (by decide) ?_
  exact z_ireturn iX8_tellBay_98 (rfl) (rfl)
set_option maxRecDepth 20000 in
set_option maxHeartbeats 1000000 in
theorem cm_tb_O (G : zG) (pg nw kp sn ks fo ft fe gt mx : zs) (re : Nat → Int64) (m : zs) (hh : Int64) (hm : mOK m) (c : Nat) (hc : c < rN m 4) (q : Int32) (hx : xIn q 10 12 = false) (h : ∀ j, j ≤ 4 → ¬ q = nI j) : zK G mX8_tellBay [.ref 49, .int (nI c), .int q] (wW pg nw kp sn ks fo ft fe gt mx re m hh) (some (.int (-102))) (wW pg nw kp sn ks fo ft fe gt mx re (mBegin m) hh) := by
  obtain ⟨o13, o12, o11, o10, o4, o5⟩ := id hm
  refine zK_of 0 rfl (by decide) trivial (Nat.le_of_ble_eq_true rfl) rfl ?_
  refine z_iload_n iX8_tellBay_0 rfl ?_
  refine z_i2l iX8_tellBay_1 ?_
  refine z_ldc2 iX8_tellBay_2 gX8_168 ?_
  refine z_ldc2 iX8_tellBay_5 gX8_170 ?_
  refine z_csi (y1 := mX8_in) iX8_tellBay_8 lX8_79 kX8_in rfl (c_in32 G _ _ 10 12 (by decide +kernel) (by decide +kernel)) rfl rfl (Nat.le_of_ble_eq_true rfl) ?_
  refine zb_if_eq iX8_tellBay_11 (fun q11 => ?_) (fun q11 => absurd (q11.symm.trans hx) (by decide))
  refine z_aload_n iX8_tellBay_24 rfl ?_
  refine z_cvv (y1 := mX8_begin) iX8_tellBay_25 lX8_165 kX8_begin rfl (cm_begin G pg nw kp sn ks fo ft fe gt mx re m hh) (wm) rfl rfl rfl (Nat.le_of_ble_eq_true rfl) (by decide) ?_
  refine z_iload_n iX8_tellBay_28 rfl ?_
  refine z_tabOut (tgt := 99) iX8_tellBay_29 (zsw_out 0 4 (fun j _ h2 => h j h2)) (by decide) ?_
  refine z_bipush iX8_tellBay_99 zb_m102 ?_
  exact z_ireturn iX8_tellBay_101 (rfl) (rfl)
set_option maxRecDepth 20000 in
set_option maxHeartbeats 1000000 in
theorem cm_tb_10 (G : zG) (pg nw kp sn ks fo ft fe gt mx : zs) (re : Nat → Int64) (m : zs) (hh : Int64) (hm : mOK m) (c : Nat) (hc : c < rN m 4)  : zK G mX8_tellBay [.ref 49, .int (nI c), .int (nI 10)] (wW pg nw kp sn ks fo ft fe gt mx re m hh) (some (.int (oI (mAt m c 0)))) (wW pg nw kp sn ks fo ft fe gt mx re m hh) := by
  obtain ⟨o13, o12, o11, o10, o4, o5⟩ := id hm
  refine zK_of 0 rfl (by decide) trivial (Nat.le_of_ble_eq_true rfl) rfl ?_
  refine z_iload_n iX8_tellBay_0 rfl ?_
  refine z_i2l iX8_tellBay_1 ?_
  refine z_ldc2 iX8_tellBay_2 gX8_168 ?_
  refine z_ldc2 iX8_tellBay_5 gX8_170 ?_
  refine z_csi (y1 := mX8_in) iX8_tellBay_8 lX8_79 kX8_in rfl (c_in32 G _ _ 10 12 (by decide +kernel) (by decide +kernel)) rfl rfl (Nat.le_of_ble_eq_true rfl) ?_
  refine zb_if_eq iX8_tellBay_11 (fun q11 => absurd q11 (by decide)) (fun q11 => ?_)
  refine z_aload_n iX8_tellBay_14 rfl ?_
  refine z_iload_n iX8_tellBay_15 rfl ?_
  refine z_iload_n iX8_tellBay_16 rfl ?_
  refine z_bipush iX8_tellBay_17 zb_10 ?_
  refine z_isub iX8_tellBay_19 ?_
  refine z_top (nix_sub (by omega)) ?_
  refine z_cvi (y1 := mX8_thereAt) iX8_tellBay_20 lX8_187 kX8_thereAt rfl (cm_at G pg nw kp sn ks fo ft fe gt mx re m hh hm c 0 (by omega) (by decide)) (wm) rfl rfl rfl (Nat.le_of_ble_eq_true rfl) (by decide) ?_
  exact z_ireturn iX8_tellBay_23 (rfl) (rfl)
set_option maxRecDepth 20000 in
set_option maxHeartbeats 1000000 in
theorem cm_tb_11 (G : zG) (pg nw kp sn ks fo ft fe gt mx : zs) (re : Nat → Int64) (m : zs) (hh : Int64) (hm : mOK m) (c : Nat) (hc : c < rN m 4)  : zK G mX8_tellBay [.ref 49, .int (nI c), .int (nI 11)] (wW pg nw kp sn ks fo ft fe gt mx re m hh) (some (.int (oI (mAt m c 1)))) (wW pg nw kp sn ks fo ft fe gt mx re m hh) := by
  obtain ⟨o13, o12, o11, o10, o4, o5⟩ := id hm
  refine zK_of 0 rfl (by decide) trivial (Nat.le_of_ble_eq_true rfl) rfl ?_
  refine z_iload_n iX8_tellBay_0 rfl ?_
  refine z_i2l iX8_tellBay_1 ?_
  refine z_ldc2 iX8_tellBay_2 gX8_168 ?_
  refine z_ldc2 iX8_tellBay_5 gX8_170 ?_
  refine z_csi (y1 := mX8_in) iX8_tellBay_8 lX8_79 kX8_in rfl (c_in32 G _ _ 10 12 (by decide +kernel) (by decide +kernel)) rfl rfl (Nat.le_of_ble_eq_true rfl) ?_
  refine zb_if_eq iX8_tellBay_11 (fun q11 => absurd q11 (by decide)) (fun q11 => ?_)
  refine z_aload_n iX8_tellBay_14 rfl ?_
  refine z_iload_n iX8_tellBay_15 rfl ?_
  refine z_iload_n iX8_tellBay_16 rfl ?_
  refine z_bipush iX8_tellBay_17 zb_10 ?_
  refine z_isub iX8_tellBay_19 ?_
  refine z_top (nix_sub (by omega)) ?_
  refine z_cvi (y1 := mX8_thereAt) iX8_tellBay_20 lX8_187 kX8_thereAt rfl (cm_at G pg nw kp sn ks fo ft fe gt mx re m hh hm c 1 (by omega) (by decide)) (wm) rfl rfl rfl (Nat.le_of_ble_eq_true rfl) (by decide) ?_
  exact z_ireturn iX8_tellBay_23 (rfl) (rfl)
set_option maxRecDepth 20000 in
set_option maxHeartbeats 1000000 in
theorem cm_tb_12 (G : zG) (pg nw kp sn ks fo ft fe gt mx : zs) (re : Nat → Int64) (m : zs) (hh : Int64) (hm : mOK m) (c : Nat) (hc : c < rN m 4)  : zK G mX8_tellBay [.ref 49, .int (nI c), .int (nI 12)] (wW pg nw kp sn ks fo ft fe gt mx re m hh) (some (.int (oI (mAt m c 2)))) (wW pg nw kp sn ks fo ft fe gt mx re m hh) := by
  obtain ⟨o13, o12, o11, o10, o4, o5⟩ := id hm
  refine zK_of 0 rfl (by decide) trivial (Nat.le_of_ble_eq_true rfl) rfl ?_
  refine z_iload_n iX8_tellBay_0 rfl ?_
  refine z_i2l iX8_tellBay_1 ?_
  refine z_ldc2 iX8_tellBay_2 gX8_168 ?_
  refine z_ldc2 iX8_tellBay_5 gX8_170 ?_
  refine z_csi (y1 := mX8_in) iX8_tellBay_8 lX8_79 kX8_in rfl (c_in32 G _ _ 10 12 (by decide +kernel) (by decide +kernel)) rfl rfl (Nat.le_of_ble_eq_true rfl) ?_
  refine zb_if_eq iX8_tellBay_11 (fun q11 => absurd q11 (by decide)) (fun q11 => ?_)
  refine z_aload_n iX8_tellBay_14 rfl ?_
  refine z_iload_n iX8_tellBay_15 rfl ?_
  refine z_iload_n iX8_tellBay_16 rfl ?_
  refine z_bipush iX8_tellBay_17 zb_10 ?_
  refine z_isub iX8_tellBay_19 ?_
  refine z_top (nix_sub (by omega)) ?_
  refine z_cvi (y1 := mX8_thereAt) iX8_tellBay_20 lX8_187 kX8_thereAt rfl (cm_at G pg nw kp sn ks fo ft fe gt mx re m hh hm c 2 (by omega) (by decide)) (wm) rfl rfl rfl (Nat.le_of_ble_eq_true rfl) (by decide) ?_
  exact z_ireturn iX8_tellBay_23 (rfl) (rfl)
set_option maxRecDepth 20000 in
set_option maxHeartbeats 1000000 in
theorem cm_cart0 (G : zG) (pg nw kp sn ks fo ft fe gt mx : zs) (re : Nat → Int64) (m : zs) (hh : Int64) (hm : mOK m) (k q : Int32) (h : xNo k (rN m 5) = true) : zK G mX8_cart [.ref 49, .int k, .int q] (wW pg nw kp sn ks fo ft fe gt mx re m hh) (some (.int (-101))) (wW pg nw kp sn ks fo ft fe gt mx re m hh) := by
  refine zK_of 0 rfl (by decide) trivial (Nat.le_of_ble_eq_true rfl) rfl ?_
  refine z_aload_n iX8_cart_0 rfl ?_
  refine z_iload_n iX8_cart_1 rfl ?_
  refine z_cvi (y1 := mX8_isCart) iX8_cart_2 lX8_178 kX8_isCart rfl (cm_isCart G pg nw kp sn ks fo ft fe gt mx re m hh hm _) (wm) rfl rfl rfl (Nat.le_of_ble_eq_true rfl) (by decide) ?_
  refine zb_if_eq iX8_cart_5 (fun q5 => ?_) (fun q5 => absurd q5 (by rw [h]; decide))
  refine z_bipush iX8_cart_17 zb_m101 ?_
  exact z_ireturn iX8_cart_19 (rfl) (rfl)
set_option maxRecDepth 20000 in
set_option maxHeartbeats 1000000 in
theorem cm_cartX (G : zG) (pg nw kp sn ks fo ft fe gt mx : zs) (re : Nat → Int64) (m : zs) (hh : Int64) (hm : mOK m) (c : Nat) (hc : c < rN m 5) (q v : Int32) (t : zs) (ha : zK G mX8_tellCart [.ref 49, .int (nI c), .int q] (wW pg nw kp sn ks fo ft fe gt mx re m hh) (some (.int v)) (wW pg nw kp sn ks fo ft fe gt mx re t hh)) : zK G mX8_cart [.ref 49, .int (nI c), .int q] (wW pg nw kp sn ks fo ft fe gt mx re m hh) (some (.int (v))) (wW pg nw kp sn ks fo ft fe gt mx re t hh) := by
  obtain ⟨o13, o12, o11, o10, o4, o5⟩ := id hm
  refine zK_of 0 rfl (by decide) trivial (Nat.le_of_ble_eq_true rfl) rfl ?_
  refine z_aload_n iX8_cart_0 rfl ?_
  refine z_iload_n iX8_cart_1 rfl ?_
  refine z_cvi (y1 := mX8_isCart) iX8_cart_2 lX8_178 kX8_isCart rfl (cm_isCart G pg nw kp sn ks fo ft fe gt mx re m hh hm _) (wm) rfl rfl rfl (Nat.le_of_ble_eq_true rfl) (by decide) ?_
  refine zb_if_eq iX8_cart_5 (fun q5 => absurd (q5.symm.trans (by rw [xNo_n hc (by omega)])) (by decide)) (fun q5 => ?_)
  refine z_aload_n iX8_cart_8 rfl ?_
  refine z_iload_n iX8_cart_9 rfl ?_
  refine z_iload_n iX8_cart_10 rfl ?_
  refine z_cvi (y1 := mX8_tellCart) iX8_cart_11 lX8_182 kX8_tellCart rfl (ha) (wm) rfl rfl rfl (Nat.le_of_ble_eq_true rfl) (by decide) ?_
  refine z_goto iX8_cart_14 ?_
  exact z_ireturn iX8_cart_19 (rfl) (rfl)
set_option maxRecDepth 20000 in
set_option maxHeartbeats 1000000 in
theorem cm_bay0 (G : zG) (pg nw kp sn ks fo ft fe gt mx : zs) (re : Nat → Int64) (m : zs) (hh : Int64) (hm : mOK m) (k q : Int32) (h : xNo k (rN m 4) = true) : zK G mX8_bay [.ref 49, .int k, .int q] (wW pg nw kp sn ks fo ft fe gt mx re m hh) (some (.int (-101))) (wW pg nw kp sn ks fo ft fe gt mx re m hh) := by
  refine zK_of 0 rfl (by decide) trivial (Nat.le_of_ble_eq_true rfl) rfl ?_
  refine z_aload_n iX8_bay_0 rfl ?_
  refine z_iload_n iX8_bay_1 rfl ?_
  refine z_cvi (y1 := mX8_isBay) iX8_bay_2 lX8_208 kX8_isBay rfl (cm_isBay G pg nw kp sn ks fo ft fe gt mx re m hh hm _) (wm) rfl rfl rfl (Nat.le_of_ble_eq_true rfl) (by decide) ?_
  refine zb_if_eq iX8_bay_5 (fun q5 => ?_) (fun q5 => absurd q5 (by rw [h]; decide))
  refine z_bipush iX8_bay_17 zb_m101 ?_
  exact z_ireturn iX8_bay_19 (rfl) (rfl)
set_option maxRecDepth 20000 in
set_option maxHeartbeats 1000000 in
theorem cm_bayX (G : zG) (pg nw kp sn ks fo ft fe gt mx : zs) (re : Nat → Int64) (m : zs) (hh : Int64) (hm : mOK m) (c : Nat) (hc : c < rN m 4) (q v : Int32) (t : zs) (ha : zK G mX8_tellBay [.ref 49, .int (nI c), .int q] (wW pg nw kp sn ks fo ft fe gt mx re m hh) (some (.int v)) (wW pg nw kp sn ks fo ft fe gt mx re t hh)) : zK G mX8_bay [.ref 49, .int (nI c), .int q] (wW pg nw kp sn ks fo ft fe gt mx re m hh) (some (.int (v))) (wW pg nw kp sn ks fo ft fe gt mx re t hh) := by
  obtain ⟨o13, o12, o11, o10, o4, o5⟩ := id hm
  refine zK_of 0 rfl (by decide) trivial (Nat.le_of_ble_eq_true rfl) rfl ?_
  refine z_aload_n iX8_bay_0 rfl ?_
  refine z_iload_n iX8_bay_1 rfl ?_
  refine z_cvi (y1 := mX8_isBay) iX8_bay_2 lX8_208 kX8_isBay rfl (cm_isBay G pg nw kp sn ks fo ft fe gt mx re m hh hm _) (wm) rfl rfl rfl (Nat.le_of_ble_eq_true rfl) (by decide) ?_
  refine zb_if_eq iX8_bay_5 (fun q5 => absurd (q5.symm.trans (by rw [xNo_n hc (by omega)])) (by decide)) (fun q5 => ?_)
  refine z_aload_n iX8_bay_8 rfl ?_
  refine z_iload_n iX8_bay_9 rfl ?_
  refine z_iload_n iX8_bay_10 rfl ?_
  refine z_cvi (y1 := mX8_tellBay) iX8_bay_11 lX8_211 kX8_tellBay rfl (ha) (wm) rfl rfl rfl (Nat.le_of_ble_eq_true rfl) (by decide) ?_
  refine z_goto iX8_bay_14 ?_
  exact z_ireturn iX8_bay_19 (rfl) (rfl)
