set_option maxRecDepth 20000 in
set_option maxHeartbeats 1000000 in
theorem cm_see1 (G : zG) (pg nw kp sn ks fo ft fe gt mx : zs) (re : Nat → Int64) (m : zs) (hh : Int64) (hm : mOK m) (c : Nat) (hc : c < rN m 5) (q w : Int32) (h : (xIn q 1 9 && xIn w 0 30) = false) : zK G mX8_see [.ref 49, .int (nI c), .int q, .int w] (wW pg nw kp sn ks fo ft fe gt mx re m hh) (some (.int (-102))) (wW pg nw kp sn ks fo ft fe gt mx re m hh) := by
  obtain ⟨o13, o12, o11, o10, o4, o5⟩ := id hm
  refine zK_of 0 rfl (by decide) trivial (Nat.le_of_ble_eq_true rfl) rfl ?_
  refine z_aload_n iX8_see_0 rfl ?_
  refine z_iload_n iX8_see_1 rfl ?_
  refine z_cvi (y1 := mX8_isCart) iX8_see_2 lX8_178 kX8_isCart rfl (cm_isCart G pg nw kp sn ks fo ft fe gt mx re m hh hm _) (wm) rfl rfl rfl (Nat.le_of_ble_eq_true rfl) (by decide) ?_
  refine zb_if_ne iX8_see_5 (fun q5 => ?_) (fun q5 => absurd (q5.symm.trans (by rw [xNo_n hc (by omega)])) (by decide))
  refine z_iload_n iX8_see_11 rfl ?_
  refine z_i2l iX8_see_12 ?_
  refine z_lconst iX8_see_13 zl_1 ?_
  refine z_ldc2 iX8_see_14 gX8_229 ?_
  refine z_csi (y1 := mX8_in) iX8_see_17 lX8_79 kX8_in rfl (c_in32 G _ q 1 9 (by decide +kernel) (by decide +kernel)) rfl rfl (Nat.le_of_ble_eq_true rfl) ?_
  refine zb_if_eq iX8_see_20 (fun q20 => ?_) (fun q20 => ?_)
  · refine z_bipush iX8_see_35 zb_m102 ?_
    exact z_ireturn iX8_see_37 (rfl) (rfl)
  · refine z_iload_n iX8_see_23 rfl ?_
    refine z_i2l iX8_see_24 ?_
    refine z_lconst iX8_see_25 zl_0 ?_
    refine z_ldc2 iX8_see_26 gX8_267 ?_
    refine z_csi (y1 := mX8_in) iX8_see_29 lX8_79 kX8_in rfl (c_in32 G _ w 0 30 (by decide +kernel) (by decide +kernel)) rfl rfl (Nat.le_of_ble_eq_true rfl) ?_
    refine zb_if_ne iX8_see_32 (fun q32 => absurd h (by rw [q20, q32]; decide)) (fun q32 => ?_)
    refine z_bipush iX8_see_35 zb_m102 ?_
    exact z_ireturn iX8_see_37 (rfl) (rfl)
set_option maxRecDepth 20000 in
set_option maxHeartbeats 1000000 in
theorem cm_see2 (G : zG) (pg nw kp sn ks fo ft fe gt mx : zs) (re : Nat → Int64) (m : zs) (hh : Int64) (hm : mOK m) (c : Nat) (hc : c < rN m 5) (q w : Int32) (h1 : xIn q 1 9 = true) (h2 : xIn w 0 30 = true) (hg : rF m 14 c = 0) : zK G mX8_see [.ref 49, .int (nI c), .int q, .int w] (wW pg nw kp sn ks fo ft fe gt mx re m hh) (some (.int (-103))) (wW pg nw kp sn ks fo ft fe gt mx re m hh) := by
  obtain ⟨o13, o12, o11, o10, o4, o5⟩ := id hm
  refine zK_of 0 rfl (by decide) trivial (Nat.le_of_ble_eq_true rfl) rfl ?_
  refine z_aload_n iX8_see_0 rfl ?_
  refine z_iload_n iX8_see_1 rfl ?_
  refine z_cvi (y1 := mX8_isCart) iX8_see_2 lX8_178 kX8_isCart rfl (cm_isCart G pg nw kp sn ks fo ft fe gt mx re m hh hm _) (wm) rfl rfl rfl (Nat.le_of_ble_eq_true rfl) (by decide) ?_
  refine zb_if_ne iX8_see_5 (fun q5 => ?_) (fun q5 => absurd (q5.symm.trans (by rw [xNo_n hc (by omega)])) (by decide))
  refine z_iload_n iX8_see_11 rfl ?_
  refine z_i2l iX8_see_12 ?_
  refine z_lconst iX8_see_13 zl_1 ?_
  refine z_ldc2 iX8_see_14 gX8_229 ?_
  refine z_csi (y1 := mX8_in) iX8_see_17 lX8_79 kX8_in rfl (c_in32 G _ q 1 9 (by decide +kernel) (by decide +kernel)) rfl rfl (Nat.le_of_ble_eq_true rfl) ?_
  refine zb_if_eq iX8_see_20 (fun q20 => absurd (q20.symm.trans h1) (by decide)) (fun q20 => ?_)
  refine z_iload_n iX8_see_23 rfl ?_
  refine z_i2l iX8_see_24 ?_
  refine z_lconst iX8_see_25 zl_0 ?_
  refine z_ldc2 iX8_see_26 gX8_267 ?_
  refine z_csi (y1 := mX8_in) iX8_see_29 lX8_79 kX8_in rfl (c_in32 G _ w 0 30 (by decide +kernel) (by decide +kernel)) rfl rfl (Nat.le_of_ble_eq_true rfl) ?_
  refine zb_if_ne iX8_see_32 (fun q32 => ?_) (fun q32 => absurd (q32.symm.trans h2) (by decide))
  refine z_aload_n iX8_see_38 rfl ?_
  refine z_getf iX8_see_39 fX8_25 (wm) (mF_14 _ _) (by decide) ?_
  refine z_iload_n iX8_see_42 rfl ?_
  refine z_iaload iX8_see_43 (wm14) rfl (by omega) (by decide) (by decide) ?_
  refine z_if_ne iX8_see_44 (fun q44 => absurd hg q44) (fun q44 => ?_)
  refine z_bipush iX8_see_47 zb_m103 ?_
  exact z_ireturn iX8_see_49 (rfl) (rfl)
set_option maxRecDepth 20000 in
set_option maxHeartbeats 1000000 in
theorem cm_see3 (G : zG) (pg nw kp sn ks fo ft fe gt mx : zs) (re : Nat → Int64) (m : zs) (hh : Int64) (hm : mOK m) (c : Nat) (hc : c < rN m 5) (q w : Int32) (h1 : xIn q 1 9 = true) (h2 : xIn w 0 30 = true) (hg : ¬ rF m 14 c = 0) (hz : rN m 24 = 6) : zK G mX8_see [.ref 49, .int (nI c), .int q, .int w] (wW pg nw kp sn ks fo ft fe gt mx re m hh) (some (.int (-104))) (wW pg nw kp sn ks fo ft fe gt mx re m hh) := by
  obtain ⟨o13, o12, o11, o10, o4, o5⟩ := id hm
  refine zK_of 0 rfl (by decide) trivial (Nat.le_of_ble_eq_true rfl) rfl ?_
  refine z_aload_n iX8_see_0 rfl ?_
  refine z_iload_n iX8_see_1 rfl ?_
  refine z_cvi (y1 := mX8_isCart) iX8_see_2 lX8_178 kX8_isCart rfl (cm_isCart G pg nw kp sn ks fo ft fe gt mx re m hh hm _) (wm) rfl rfl rfl (Nat.le_of_ble_eq_true rfl) (by decide) ?_
  refine zb_if_ne iX8_see_5 (fun q5 => ?_) (fun q5 => absurd (q5.symm.trans (by rw [xNo_n hc (by omega)])) (by decide))
  refine z_iload_n iX8_see_11 rfl ?_
  refine z_i2l iX8_see_12 ?_
  refine z_lconst iX8_see_13 zl_1 ?_
  refine z_ldc2 iX8_see_14 gX8_229 ?_
  refine z_csi (y1 := mX8_in) iX8_see_17 lX8_79 kX8_in rfl (c_in32 G _ q 1 9 (by decide +kernel) (by decide +kernel)) rfl rfl (Nat.le_of_ble_eq_true rfl) ?_
  refine zb_if_eq iX8_see_20 (fun q20 => absurd (q20.symm.trans h1) (by decide)) (fun q20 => ?_)
  refine z_iload_n iX8_see_23 rfl ?_
  refine z_i2l iX8_see_24 ?_
  refine z_lconst iX8_see_25 zl_0 ?_
  refine z_ldc2 iX8_see_26 gX8_267 ?_
  refine z_csi (y1 := mX8_in) iX8_see_29 lX8_79 kX8_in rfl (c_in32 G _ w 0 30 (by decide +kernel) (by decide +kernel)) rfl rfl (Nat.le_of_ble_eq_true rfl) ?_
  refine zb_if_ne iX8_see_32 (fun q32 => ?_) (fun q32 => absurd (q32.symm.trans h2) (by decide))
  refine z_aload_n iX8_see_38 rfl ?_
  refine z_getf iX8_see_39 fX8_25 (wm) (mF_14 _ _) (by decide) ?_
  refine z_iload_n iX8_see_42 rfl ?_
  refine z_iaload iX8_see_43 (wm14) rfl (by omega) (by decide) (by decide) ?_
  refine z_if_ne iX8_see_44 (fun q44 => ?_) (fun q44 => absurd q44 hg)
  refine z_aload_n iX8_see_50 rfl ?_
  refine z_getf iX8_see_51 fX8_125 (wm) (mF_24 _ _) (by decide) ?_
  refine z_bipush iX8_see_54 zb_6 ?_
  refine zn_ne iX8_see_56 (by omega) (by omega) (fun q56 => absurd q56 (by omega)) (fun q56 => ?_)
  refine z_bipush iX8_see_59 zb_m104 ?_
  exact z_ireturn iX8_see_61 (rfl) (rfl)
def mSee (m : zs) (c : Nat) (q w : Int32) : zs := uN (uF m 25 (upd (upd (upd (rF m 25) (3 * rN m 24) (nI c)) (3 * rN m 24 + 1) q) (3 * rN m 24 + 2) w)) 24 (rN m 24 + 1)
theorem uF_uF (s : zs) (k : Nat) (f g : Nat → Int32) : uF (uF s k f) k g = uF s k g := by
  have h : fU (fU s.2.2.2 k f) k g = fU s.2.2.2 k g := by
    funext j
    simp only [fU_eq]
    split <;> rfl
  show (s.1, s.2.1, s.2.2.1, fU (fU s.2.2.2 k f) k g) = (s.1, s.2.1, s.2.2.1, fU s.2.2.2 k g)
  rw [h]
set_option maxRecDepth 20000 in
set_option maxHeartbeats 1000000 in
theorem cm_see4 (G : zG) (pg nw kp sn ks fo ft fe gt mx : zs) (re : Nat → Int64) (m : zs) (hh : Int64) (hm : mOK m) (c : Nat) (hc : c < rN m 5) (q w : Int32) (h1 : xIn q 1 9 = true) (h2 : xIn w 0 30 = true) (hg : ¬ rF m 14 c = 0) (hz : rN m 24 < 6) : zK G mX8_see [.ref 49, .int (nI c), .int q, .int w] (wW pg nw kp sn ks fo ft fe gt mx re m hh) (some (.int (nI (rN m 24 + 1)))) (wW pg nw kp sn ks fo ft fe gt mx re (mSee m c q w) hh) := by
  obtain ⟨o13, o12, o11, o10, o4, o5⟩ := id hm
  refine zK_of 0 rfl (by decide) trivial (Nat.le_of_ble_eq_true rfl) rfl ?_
  refine z_aload_n iX8_see_0 rfl ?_
  refine z_iload_n iX8_see_1 rfl ?_
  refine z_cvi (y1 := mX8_isCart) iX8_see_2 lX8_178 kX8_isCart rfl (cm_isCart G pg nw kp sn ks fo ft fe gt mx re m hh hm _) (wm) rfl rfl rfl (Nat.le_of_ble_eq_true rfl) (by decide) ?_
  refine zb_if_ne iX8_see_5 (fun q5 => ?_) (fun q5 => absurd (q5.symm.trans (by rw [xNo_n hc (by omega)])) (by decide))
  refine z_iload_n iX8_see_11 rfl ?_
  refine z_i2l iX8_see_12 ?_
  refine z_lconst iX8_see_13 zl_1 ?_
  refine z_ldc2 iX8_see_14 gX8_229 ?_
  refine z_csi (y1 := mX8_in) iX8_see_17 lX8_79 kX8_in rfl (c_in32 G _ q 1 9 (by decide +kernel) (by decide +kernel)) rfl rfl (Nat.le_of_ble_eq_true rfl) ?_
  refine zb_if_eq iX8_see_20 (fun q20 => absurd (q20.symm.trans h1) (by decide)) (fun q20 => ?_)
  refine z_iload_n iX8_see_23 rfl ?_
  refine z_i2l iX8_see_24 ?_
  refine z_lconst iX8_see_25 zl_0 ?_
  refine z_ldc2 iX8_see_26 gX8_267 ?_
  refine z_csi (y1 := mX8_in) iX8_see_29 lX8_79 kX8_in rfl (c_in32 G _ w 0 30 (by decide +kernel) (by decide +kernel)) rfl rfl (Nat.le_of_ble_eq_true rfl) ?_
  refine zb_if_ne iX8_see_32 (fun q32 => ?_) (fun q32 => absurd (q32.symm.trans h2) (by decide))
  refine z_aload_n iX8_see_38 rfl ?_
  refine z_getf iX8_see_39 fX8_25 (wm) (mF_14 _ _) (by decide) ?_
  refine z_iload_n iX8_see_42 rfl ?_
  refine z_iaload iX8_see_43 (wm14) rfl (by omega) (by decide) (by decide) ?_
  refine z_if_ne iX8_see_44 (fun q44 => ?_) (fun q44 => absurd q44 hg)
  refine z_aload_n iX8_see_50 rfl ?_
  refine z_getf iX8_see_51 fX8_125 (wm) (mF_24 _ _) (by decide) ?_
  refine z_bipush iX8_see_54 zb_6 ?_
  refine zn_ne iX8_see_56 (by omega) (by omega) (fun q56 => ?_) (fun q56 => absurd q56 (by omega))
  refine z_aload_n iX8_see_62 rfl ?_
  refine z_getf iX8_see_63 fX8_52 (wm) (mF_25 _ _) (by decide) ?_
  refine z_iconst iX8_see_66 zk_3 ?_
  refine z_aload_n iX8_see_67 rfl ?_
  refine z_getf iX8_see_68 fX8_125 (wm) (mF_24 _ _) (by decide) ?_
  refine z_imul iX8_see_71 ?_
  refine z_top nix_mul ?_
  refine z_iload_n iX8_see_72 rfl ?_
  refine z_iastore iX8_see_73 (wm25) rfl (show 3 * rN m 24 < 18 by omega) (by decide) (by decide) (by decide) ?_
  rw [wm_25]
  refine z_aload_n iX8_see_74 rfl ?_
  refine z_getf iX8_see_75 fX8_52 (wm) (mF_25 _ _) (by decide) ?_
  refine z_iconst iX8_see_78 zk_3 ?_
  refine z_aload_n iX8_see_79 rfl ?_
  refine z_getf iX8_see_80 fX8_125 (wm) (mF_24 _ _) (by decide) ?_
  refine z_imul iX8_see_83 ?_
  refine z_top nix_mul ?_
  refine z_iconst iX8_see_84 zk_1 ?_
  refine z_iadd iX8_see_85 ?_
  refine z_top nix_add ?_
  refine z_iload_n iX8_see_86 rfl ?_
  refine z_iastore iX8_see_87 (wm25) rfl (show 3 * rN m 24 + 1 < 18 by omega) (by decide) (by decide) (by decide) ?_
  rw [wm_25]
  refine z_aload_n iX8_see_88 rfl ?_
  refine z_getf iX8_see_89 fX8_52 (wm) (mF_25 _ _) (by decide) ?_
  refine z_iconst iX8_see_92 zk_3 ?_
  refine z_aload_n iX8_see_93 rfl ?_
  refine z_getf iX8_see_94 fX8_125 (wm) (mF_24 _ _) (by decide) ?_
  refine z_imul iX8_see_97 ?_
  refine z_top nix_mul ?_
  refine z_iconst iX8_see_98 zk_2 ?_
  refine z_iadd iX8_see_99 ?_
  refine z_top nix_add ?_
  refine z_iload_n iX8_see_100 rfl ?_
  refine z_iastore iX8_see_101 (wm25) rfl (show 3 * rN m 24 + 2 < 18 by omega) (by decide) (by decide) (by decide) ?_
  rw [wm_25]
  refine z_aload_n iX8_see_102 rfl ?_
  refine z_dup iX8_see_103 rfl ?_
  refine z_getf iX8_see_104 fX8_125 (wm) (mF_24 _ _) (by decide) ?_
  refine z_iconst iX8_see_107 zk_1 ?_
  refine z_iadd iX8_see_108 ?_
  refine z_top nix_add ?_
  refine z_putf iX8_see_109 fX8_125 (wm) rfl rfl (Nat.le_of_ble_eq_true rfl) (by decide) ?_
  rw [wm_24]
  refine z_aload_n iX8_see_112 rfl ?_
  refine z_getf iX8_see_113 fX8_125 (wm) (mF_24 _ _) (by decide) ?_
  exact z_ireturn iX8_see_116 (rfl) (by
    refine congrArg (fun t => wW pg nw kp sn ks fo ft fe gt mx re t hh) ?_
    rw [mSee, uF_uF, uF_uF]
    rfl)
set_option maxRecDepth 20000 in
set_option maxHeartbeats 1000000 in
theorem cm_forget (G : zG) (pg nw kp sn ks fo ft fe gt mx : zs) (re : Nat → Int64) (m : zs) (hh : Int64)  : zK G mX8_forget [.ref 49] (wW pg nw kp sn ks fo ft fe gt mx re m hh) (some (.int (nI (rN m 24)))) (wW pg nw kp sn ks fo ft fe gt mx re (uN m 24 0) hh) := by
  refine zK_of 1 rfl (by decide) trivial (Nat.le_of_ble_eq_true rfl) rfl ?_
  refine z_aload_n iX8_forget_0 rfl ?_
  refine z_getf iX8_forget_1 fX8_125 (wm) (mF_24 _ _) (by decide) ?_
  refine z_istore_n iX8_forget_4 rfl (by decide) ?_
  refine z_aload_n iX8_forget_5 rfl ?_
  refine z_iconst iX8_forget_6 zk_0 ?_
  refine z_putf iX8_forget_7 fX8_125 (wm) rfl rfl (Nat.le_of_ble_eq_true rfl) (by decide) ?_
  rw [wm_24]
  refine z_iload_n iX8_forget_10 rfl ?_
  exact z_ireturn iX8_forget_11 (rfl) (rfl)
set_option maxRecDepth 20000 in
set_option maxHeartbeats 1000000 in
theorem cm_lasts0 (G : zG) (pg nw kp sn ks fo ft fe gt mx : zs) (re : Nat → Int64) (m : zs) (hh : Int64) (k : Int32) (h : xIn k 1 6 = false) : zK G mX8_lasts [.ref 49, .int k] (wW pg nw kp sn ks fo ft fe gt mx re m hh) (some (.int (-102))) (wW pg nw kp sn ks fo ft fe gt mx re m hh) := by
  refine zK_of 0 rfl (by decide) trivial (Nat.le_of_ble_eq_true rfl) rfl ?_
  refine z_iload_n iX8_lasts_0 rfl ?_
  refine z_i2l iX8_lasts_1 ?_
  refine z_lconst iX8_lasts_2 zl_1 ?_
  refine z_ldc2 iX8_lasts_3 gX8_234 ?_
  refine z_csi (y1 := mX8_in) iX8_lasts_6 lX8_79 kX8_in rfl (c_in32 G _ k 1 6 (by decide +kernel) (by decide +kernel)) rfl rfl (Nat.le_of_ble_eq_true rfl) ?_
  refine zb_if_ne iX8_lasts_9 (fun q9 => absurd (q9.symm.trans h) (by decide)) (fun q9 => ?_)
  refine z_bipush iX8_lasts_12 zb_m102 ?_
  exact z_ireturn iX8_lasts_14 (rfl) (rfl)
set_option maxRecDepth 20000 in
set_option maxHeartbeats 1000000 in
theorem cm_lasts1 (G : zG) (pg nw kp sn ks fo ft fe gt mx : zs) (re : Nat → Int64) (m : zs) (hh : Int64) (hm : mOK m) (k : Int32) (h : xIn k 1 6 = true) (hb : rN m 4 = 0) : zK G mX8_lasts [.ref 49, .int k] (wW pg nw kp sn ks fo ft fe gt mx re m hh) (some (.int (-103))) (wW pg nw kp sn ks fo ft fe gt mx re m hh) := by
  refine zK_of 0 rfl (by decide) trivial (Nat.le_of_ble_eq_true rfl) rfl ?_
  refine z_iload_n iX8_lasts_0 rfl ?_
  refine z_i2l iX8_lasts_1 ?_
  refine z_lconst iX8_lasts_2 zl_1 ?_
  refine z_ldc2 iX8_lasts_3 gX8_234 ?_
  refine z_csi (y1 := mX8_in) iX8_lasts_6 lX8_79 kX8_in rfl (c_in32 G _ k 1 6 (by decide +kernel) (by decide +kernel)) rfl rfl (Nat.le_of_ble_eq_true rfl) ?_
  refine zb_if_ne iX8_lasts_9 (fun q9 => ?_) (fun q9 => absurd (q9.symm.trans h) (by decide))
  refine z_aload_n iX8_lasts_15 rfl ?_
  refine z_cvi (y1 := mX8_lacks) iX8_lasts_16 lX8_225 kX8_lacks rfl (cm_lacks G pg nw kp sn ks fo ft fe gt mx re m hh hm) (wm) rfl rfl rfl (Nat.le_of_ble_eq_true rfl) (by decide) ?_
  refine zb_if_eq iX8_lasts_19 (fun q19 => absurd hb (of_decide_eq_false q19)) (fun q19 => ?_)
  refine z_bipush iX8_lasts_22 zb_m103 ?_
  refine z_goto iX8_lasts_24 ?_
  exact z_ireturn iX8_lasts_32 (rfl) (rfl)
set_option maxRecDepth 20000 in
set_option maxHeartbeats 1000000 in
theorem cm_burnt0 (G : zG) (pg nw kp sn ks fo ft fe gt mx : zs) (re : Nat → Int64) (m : zs) (hh : Int64) (k : Int32) (h : xIn k 0 20 = false) : zK G mX8_burnt [.ref 49, .int k] (wW pg nw kp sn ks fo ft fe gt mx re m hh) (some (.int (-102))) (wW pg nw kp sn ks fo ft fe gt mx re m hh) := by
  refine zK_of 0 rfl (by decide) trivial (Nat.le_of_ble_eq_true rfl) rfl ?_
  refine z_iload_n iX8_burnt_0 rfl ?_
  refine z_i2l iX8_burnt_1 ?_
  refine z_lconst iX8_burnt_2 zl_0 ?_
  refine z_ldc2 iX8_burnt_3 gX8_262 ?_
  refine z_csi (y1 := mX8_in) iX8_burnt_6 lX8_79 kX8_in rfl (c_in32 G _ k 0 20 (by decide +kernel) (by decide +kernel)) rfl rfl (Nat.le_of_ble_eq_true rfl) ?_
  refine zb_if_ne iX8_burnt_9 (fun q9 => absurd (q9.symm.trans h) (by decide)) (fun q9 => ?_)
  refine z_bipush iX8_burnt_12 zb_m102 ?_
  exact z_ireturn iX8_burnt_14 (rfl) (rfl)
set_option maxRecDepth 20000 in
set_option maxHeartbeats 1000000 in
theorem cm_burnt1 (G : zG) (pg nw kp sn ks fo ft fe gt mx : zs) (re : Nat → Int64) (m : zs) (hh : Int64) (hm : mOK m) (k : Int32) (h : xIn k 0 20 = true) (hb : rN m 4 = 0) : zK G mX8_burnt [.ref 49, .int k] (wW pg nw kp sn ks fo ft fe gt mx re m hh) (some (.int (-103))) (wW pg nw kp sn ks fo ft fe gt mx re m hh) := by
  refine zK_of 0 rfl (by decide) trivial (Nat.le_of_ble_eq_true rfl) rfl ?_
  refine z_iload_n iX8_burnt_0 rfl ?_
  refine z_i2l iX8_burnt_1 ?_
  refine z_lconst iX8_burnt_2 zl_0 ?_
  refine z_ldc2 iX8_burnt_3 gX8_262 ?_
  refine z_csi (y1 := mX8_in) iX8_burnt_6 lX8_79 kX8_in rfl (c_in32 G _ k 0 20 (by decide +kernel) (by decide +kernel)) rfl rfl (Nat.le_of_ble_eq_true rfl) ?_
  refine zb_if_ne iX8_burnt_9 (fun q9 => ?_) (fun q9 => absurd (q9.symm.trans h) (by decide))
  refine z_aload_n iX8_burnt_15 rfl ?_
  refine z_cvi (y1 := mX8_lacks) iX8_burnt_16 lX8_225 kX8_lacks rfl (cm_lacks G pg nw kp sn ks fo ft fe gt mx re m hh hm) (wm) rfl rfl rfl (Nat.le_of_ble_eq_true rfl) (by decide) ?_
  refine zb_if_eq iX8_burnt_19 (fun q19 => absurd hb (of_decide_eq_false q19)) (fun q19 => ?_)
  refine z_bipush iX8_burnt_22 zb_m103 ?_
  refine z_goto iX8_burnt_24 ?_
  exact z_ireturn iX8_burnt_32 (rfl) (rfl)
set_option maxRecDepth 20000 in
set_option maxHeartbeats 1000000 in
theorem cm_lasts2 (G : zG) (pg nw kp sn ks fo ft fe gt mx : zs) (re : Nat → Int64) (m : zs) (hh : Int64) (hm : mOK m) (hp : mHP m) (k : Int32) (h : xIn k 1 6 = true) (hb : ¬ rN m 4 = 0) (r : Nat × zs) (hr : mLasts k 0 100 (mBegin m) = some r) : zK G mX8_lasts [.ref 49, .int k] (wW pg nw kp sn ks fo ft fe gt mx re m hh) (some (.int (nI r.1))) (wW pg nw kp sn ks fo ft fe gt mx re r.2 hh) := by
  refine zK_of 0 rfl (by decide) trivial (Nat.le_of_ble_eq_true rfl) rfl ?_
  refine z_iload_n iX8_lasts_0 rfl ?_
  refine z_i2l iX8_lasts_1 ?_
  refine z_lconst iX8_lasts_2 zl_1 ?_
  refine z_ldc2 iX8_lasts_3 gX8_234 ?_
  refine z_csi (y1 := mX8_in) iX8_lasts_6 lX8_79 kX8_in rfl (c_in32 G _ k 1 6 (by decide +kernel) (by decide +kernel)) rfl rfl (Nat.le_of_ble_eq_true rfl) ?_
  refine zb_if_ne iX8_lasts_9 (fun q9 => ?_) (fun q9 => absurd (q9.symm.trans h) (by decide))
  refine z_aload_n iX8_lasts_15 rfl ?_
  refine z_cvi (y1 := mX8_lacks) iX8_lasts_16 lX8_225 kX8_lacks rfl (cm_lacks G pg nw kp sn ks fo ft fe gt mx re m hh hm) (wm) rfl rfl rfl (Nat.le_of_ble_eq_true rfl) (by decide) ?_
  refine zb_if_eq iX8_lasts_19 (fun q19 => ?_) (fun q19 => absurd (of_decide_eq_true q19) hb)
  refine z_aload_n iX8_lasts_27 rfl ?_
  refine z_iload_n iX8_lasts_28 rfl ?_
  refine z_cvi (y1 := mX8_lastsOf) iX8_lasts_29 lX8_236 kX8_lastsOf rfl (cm_lastsOf G pg nw kp sn ks fo ft fe gt mx re m hh hm hp k r hr) (wm) rfl rfl rfl (Nat.le_of_ble_eq_true rfl) (by decide) ?_
  exact z_ireturn iX8_lasts_32 (rfl) (rfl)
set_option maxRecDepth 20000 in
set_option maxHeartbeats 1000000 in
theorem cm_burnt2 (G : zG) (pg nw kp sn ks fo ft fe gt mx : zs) (re : Nat → Int64) (m : zs) (hh : Int64) (hm : mOK m) (hp : mHP m) (d : Nat) (hd : d ≤ 20) (h : xIn (nI d) 0 20 = true) (hb : ¬ rN m 4 = 0) : zK G mX8_burnt [.ref 49, .int (nI d)] (wW pg nw kp sn ks fo ft fe gt mx re m hh) (some (.int (nI (mBits (mDs d (mBegin m)))))) (wW pg nw kp sn ks fo ft fe gt mx re (mDs d (mBegin m)) hh) := by
  refine zK_of 0 rfl (by decide) trivial (Nat.le_of_ble_eq_true rfl) rfl ?_
  refine z_iload_n iX8_burnt_0 rfl ?_
  refine z_i2l iX8_burnt_1 ?_
  refine z_lconst iX8_burnt_2 zl_0 ?_
  refine z_ldc2 iX8_burnt_3 gX8_262 ?_
  refine z_csi (y1 := mX8_in) iX8_burnt_6 lX8_79 kX8_in rfl (c_in32 G _ _ 0 20 (by decide +kernel) (by decide +kernel)) rfl rfl (Nat.le_of_ble_eq_true rfl) ?_
  refine zb_if_ne iX8_burnt_9 (fun q9 => ?_) (fun q9 => absurd (q9.symm.trans h) (by decide))
  refine z_aload_n iX8_burnt_15 rfl ?_
  refine z_cvi (y1 := mX8_lacks) iX8_burnt_16 lX8_225 kX8_lacks rfl (cm_lacks G pg nw kp sn ks fo ft fe gt mx re m hh hm) (wm) rfl rfl rfl (Nat.le_of_ble_eq_true rfl) (by decide) ?_
  refine zb_if_eq iX8_burnt_19 (fun q19 => ?_) (fun q19 => absurd (of_decide_eq_true q19) hb)
  refine z_aload_n iX8_burnt_27 rfl ?_
  refine z_iload_n iX8_burnt_28 rfl ?_
  refine z_cvi (y1 := mX8_burntOf) iX8_burnt_29 lX8_264 kX8_burntOf rfl (cm_burntOf G pg nw kp sn ks fo ft fe gt mx re m hh hm hp d hd) (wm) rfl rfl rfl (Nat.le_of_ble_eq_true rfl) (by decide) ?_
  exact z_ireturn iX8_burnt_32 (rfl) (rfl)
set_option maxRecDepth 20000 in
set_option maxHeartbeats 1000000 in
theorem cm_share0 (G : zG) (pg nw kp sn ks fo ft fe gt mx : zs) (re : Nat → Int64) (m : zs) (hh : Int64) (k : Int32) (h : xIn k 2 3 = false) : zK G mX8_share [.ref 49, .int k] (wW pg nw kp sn ks fo ft fe gt mx re m hh) (some (.int (-102))) (wW pg nw kp sn ks fo ft fe gt mx re m hh) := by
  refine zK_of 0 rfl (by decide) trivial (Nat.le_of_ble_eq_true rfl) rfl ?_
  refine z_iload_n iX8_share_0 rfl ?_
  refine z_i2l iX8_share_1 ?_
  refine z_ldc2 iX8_share_2 gX8_254 ?_
  refine z_ldc2 iX8_share_5 gX8_214 ?_
  refine z_csi (y1 := mX8_in) iX8_share_8 lX8_79 kX8_in rfl (c_in32 G _ k 2 3 (by decide +kernel) (by decide +kernel)) rfl rfl (Nat.le_of_ble_eq_true rfl) ?_
  refine zb_if_ne iX8_share_11 (fun q11 => absurd (q11.symm.trans h) (by decide)) (fun q11 => ?_)
  refine z_bipush iX8_share_14 zb_m102 ?_
  exact z_ireturn iX8_share_16 (rfl) (rfl)
set_option maxRecDepth 20000 in
set_option maxHeartbeats 1000000 in
theorem cm_share1 (G : zG) (pg nw kp sn ks fo ft fe gt mx : zs) (re : Nat → Int64) (m : zs) (hh : Int64) (hm : mOK m) (hz : rN m 20 ≤ 12) (k : Int32) (h : xIn k 2 3 = true) (hb : rN m 4 = 0 ∨ rN m 20 = 12) : zK G mX8_share [.ref 49, .int k] (wW pg nw kp sn ks fo ft fe gt mx re m hh) (some (.int (-103))) (wW pg nw kp sn ks fo ft fe gt mx re m hh) := by
  refine zK_of 0 rfl (by decide) trivial (Nat.le_of_ble_eq_true rfl) rfl ?_
  refine z_iload_n iX8_share_0 rfl ?_
  refine z_i2l iX8_share_1 ?_
  refine z_ldc2 iX8_share_2 gX8_254 ?_
  refine z_ldc2 iX8_share_5 gX8_214 ?_
  refine z_csi (y1 := mX8_in) iX8_share_8 lX8_79 kX8_in rfl (c_in32 G _ k 2 3 (by decide +kernel) (by decide +kernel)) rfl rfl (Nat.le_of_ble_eq_true rfl) ?_
  refine zb_if_ne iX8_share_11 (fun q11 => ?_) (fun q11 => absurd (q11.symm.trans h) (by decide))
  refine z_aload_n iX8_share_17 rfl ?_
  refine z_cvi (y1 := mX8_lacks) iX8_share_18 lX8_225 kX8_lacks rfl (cm_lacks G pg nw kp sn ks fo ft fe gt mx re m hh hm) (wm) rfl rfl rfl (Nat.le_of_ble_eq_true rfl) (by decide) ?_
  refine zb_if_ne iX8_share_21 (fun q21 => ?_) (fun q21 => ?_)
  · refine z_bipush iX8_share_33 zb_m103 ?_
    exact z_ireturn iX8_share_35 (rfl) (rfl)
  · refine z_aload_n iX8_share_24 rfl ?_
    refine z_getf iX8_share_25 fX8_256 (wm) (mF_20 _ _) (by decide) ?_
    refine z_bipush iX8_share_28 zb_12 ?_
    refine zn_ne iX8_share_30 (by omega) (by omega) (fun q30 => absurd hb (by rintro (z | z); exact absurd z (of_decide_eq_false q21); exact q30 z)) (fun q30 => ?_)
    refine z_bipush iX8_share_33 zb_m103 ?_
    exact z_ireturn iX8_share_35 (rfl) (rfl)
set_option maxRecDepth 20000 in
set_option maxHeartbeats 1000000 in
theorem cm_share2 (G : zG) (pg nw kp sn ks fo ft fe gt mx : zs) (re : Nat → Int64) (m : zs) (hh : Int64) (hm : mOK m) (hz : rN m 20 < 12) (q : Nat) (h1 : 1 ≤ q) (h3 : q ≤ 3) (h : xIn (nI q) 2 3 = true) (hb : ¬ rN m 4 = 0) : zK G mX8_share [.ref 49, .int (nI q)] (wW pg nw kp sn ks fo ft fe gt mx re m hh) (some (.int (mShare (uN m 20 (rN m 20 + 1)) q))) (wW pg nw kp sn ks fo ft fe gt mx re (mShS (uN m 20 (rN m 20 + 1)) q) hh) := by
  refine zK_of 0 rfl (by decide) trivial (Nat.le_of_ble_eq_true rfl) rfl ?_
  refine z_iload_n iX8_share_0 rfl ?_
  refine z_i2l iX8_share_1 ?_
  refine z_ldc2 iX8_share_2 gX8_254 ?_
  refine z_ldc2 iX8_share_5 gX8_214 ?_
  refine z_csi (y1 := mX8_in) iX8_share_8 lX8_79 kX8_in rfl (c_in32 G _ _ 2 3 (by decide +kernel) (by decide +kernel)) rfl rfl (Nat.le_of_ble_eq_true rfl) ?_
  refine zb_if_ne iX8_share_11 (fun q11 => ?_) (fun q11 => absurd (q11.symm.trans h) (by decide))
  refine z_aload_n iX8_share_17 rfl ?_
  refine z_cvi (y1 := mX8_lacks) iX8_share_18 lX8_225 kX8_lacks rfl (cm_lacks G pg nw kp sn ks fo ft fe gt mx re m hh hm) (wm) rfl rfl rfl (Nat.le_of_ble_eq_true rfl) (by decide) ?_
  refine zb_if_ne iX8_share_21 (fun q21 => absurd (of_decide_eq_true q21) hb) (fun q21 => ?_)
  refine z_aload_n iX8_share_24 rfl ?_
  refine z_getf iX8_share_25 fX8_256 (wm) (mF_20 _ _) (by decide) ?_
  refine z_bipush iX8_share_28 zb_12 ?_
  refine zn_ne iX8_share_30 (by omega) (by omega) (fun q30 => ?_) (fun q30 => absurd q30 (by omega))
  refine z_aload_n iX8_share_36 rfl ?_
  refine z_dup iX8_share_37 rfl ?_
  refine z_getf iX8_share_38 fX8_256 (wm) (mF_20 _ _) (by decide) ?_
  refine z_iconst iX8_share_41 zk_1 ?_
  refine z_iadd iX8_share_42 ?_
  refine z_top nix_add ?_
  refine z_putf iX8_share_43 fX8_256 (wm) rfl rfl (Nat.le_of_ble_eq_true rfl) (by decide) ?_
  rw [wm_20]
  refine z_aload_n iX8_share_46 rfl ?_
  refine z_iload_n iX8_share_47 rfl ?_
  refine z_cvi (y1 := mX8_shareOf) iX8_share_48 lX8_259 kX8_shareOf rfl (cm_shareOf G pg nw kp sn ks fo ft fe gt mx re (uN m 20 (rN m 20 + 1)) hh hm q h1 h3) (wm) rfl rfl rfl (Nat.le_of_ble_eq_true rfl) (by decide) ?_
  exact z_ireturn iX8_share_51 (rfl) (rfl)
def mPlanOk (d q : Int32) : Bool := xIn d 1 4 && (decide (q = 0) || xIn q 10 13)
set_option maxRecDepth 20000 in
set_option maxHeartbeats 1000000 in
theorem cm_plan0 (G : zG) (pg nw kp sn ks fo ft fe gt mx : zs) (re : Nat → Int64) (m : zs) (hh : Int64) (d q : Int32) (h : mPlanOk d q = false) : zK G mX8_plan [.ref 49, .int d, .int q] (wW pg nw kp sn ks fo ft fe gt mx re m hh) (some (.int (-102))) (wW pg nw kp sn ks fo ft fe gt mx re m hh) := by
  refine zK_of 0 rfl (by decide) trivial (Nat.le_of_ble_eq_true rfl) rfl ?_
  refine z_iload_n iX8_plan_0 rfl ?_
  refine z_i2l iX8_plan_1 ?_
  refine z_lconst iX8_plan_2 zl_1 ?_
  refine z_ldc2 iX8_plan_3 gX8_185 ?_
  refine z_csi (y1 := mX8_in) iX8_plan_6 lX8_79 kX8_in rfl (c_in32 G _ d 1 4 (by decide +kernel) (by decide +kernel)) rfl rfl (Nat.le_of_ble_eq_true rfl) ?_
  refine zb_if_eq iX8_plan_9 (fun q9 => ?_) (fun q9 => ?_)
  · refine z_bipush iX8_plan_30 zb_m102 ?_
    exact z_ireturn iX8_plan_32 (rfl) (rfl)
  · refine z_iload_n iX8_plan_12 rfl ?_
    refine z_if_eq iX8_plan_13 (fun q13 => ?_) (fun q13 => ?_)
    · exact absurd h (by simp [mPlanOk, *])
    · refine z_iload_n iX8_plan_16 rfl ?_
      refine z_i2l iX8_plan_17 ?_
      refine z_ldc2 iX8_plan_18 gX8_168 ?_
      refine z_ldc2 iX8_plan_21 gX8_249 ?_
      refine z_csi (y1 := mX8_in) iX8_plan_24 lX8_79 kX8_in rfl (c_in32 G _ q 10 13 (by decide +kernel) (by decide +kernel)) rfl rfl (Nat.le_of_ble_eq_true rfl) ?_
      refine zb_if_ne iX8_plan_27 (fun q27 => ?_) (fun q27 => ?_)
      · exact absurd h (by simp [mPlanOk, *])
      · refine z_bipush iX8_plan_30 zb_m102 ?_
        exact z_ireturn iX8_plan_32 (rfl) (rfl)
set_option maxRecDepth 20000 in
set_option maxHeartbeats 1000000 in
theorem cm_plan1 (G : zG) (pg nw kp sn ks fo ft fe gt mx : zs) (re : Nat → Int64) (m : zs) (hh : Int64) (hm : mOK m) (d q : Int32) (h : mPlanOk d q = true) (hb : rN m 4 = 0) : zK G mX8_plan [.ref 49, .int d, .int q] (wW pg nw kp sn ks fo ft fe gt mx re m hh) (some (.int (-103))) (wW pg nw kp sn ks fo ft fe gt mx re m hh) := by
  refine zK_of 0 rfl (by decide) trivial (Nat.le_of_ble_eq_true rfl) rfl ?_
  refine z_iload_n iX8_plan_0 rfl ?_
  refine z_i2l iX8_plan_1 ?_
  refine z_lconst iX8_plan_2 zl_1 ?_
  refine z_ldc2 iX8_plan_3 gX8_185 ?_
  refine z_csi (y1 := mX8_in) iX8_plan_6 lX8_79 kX8_in rfl (c_in32 G _ d 1 4 (by decide +kernel) (by decide +kernel)) rfl rfl (Nat.le_of_ble_eq_true rfl) ?_
  refine zb_if_eq iX8_plan_9 (fun q9 => ?_) (fun q9 => ?_)
  · exact absurd h (by simp [mPlanOk, *])
  · refine z_iload_n iX8_plan_12 rfl ?_
    refine z_if_eq iX8_plan_13 (fun q13 => ?_) (fun q13 => ?_)
    · refine z_aload_n iX8_plan_33 rfl ?_
      refine z_cvi (y1 := mX8_lacks) iX8_plan_34 lX8_225 kX8_lacks rfl (cm_lacks G pg nw kp sn ks fo ft fe gt mx re m hh hm) (wm) rfl rfl rfl (Nat.le_of_ble_eq_true rfl) (by decide) ?_
      refine zb_if_eq iX8_plan_37 (fun q37 => absurd hb (of_decide_eq_false q37)) (fun q37 => ?_)
      refine z_bipush iX8_plan_40 zb_m103 ?_
      refine z_goto iX8_plan_42 ?_
      exact z_ireturn iX8_plan_51 (rfl) (rfl)
    · refine z_iload_n iX8_plan_16 rfl ?_
      refine z_i2l iX8_plan_17 ?_
      refine z_ldc2 iX8_plan_18 gX8_168 ?_
      refine z_ldc2 iX8_plan_21 gX8_249 ?_
      refine z_csi (y1 := mX8_in) iX8_plan_24 lX8_79 kX8_in rfl (c_in32 G _ q 10 13 (by decide +kernel) (by decide +kernel)) rfl rfl (Nat.le_of_ble_eq_true rfl) ?_
      refine zb_if_ne iX8_plan_27 (fun q27 => ?_) (fun q27 => ?_)
      · refine z_aload_n iX8_plan_33 rfl ?_
        refine z_cvi (y1 := mX8_lacks) iX8_plan_34 lX8_225 kX8_lacks rfl (cm_lacks G pg nw kp sn ks fo ft fe gt mx re m hh hm) (wm) rfl rfl rfl (Nat.le_of_ble_eq_true rfl) (by decide) ?_
        refine zb_if_eq iX8_plan_37 (fun q37 => absurd hb (of_decide_eq_false q37)) (fun q37 => ?_)
        refine z_bipush iX8_plan_40 zb_m103 ?_
        refine z_goto iX8_plan_42 ?_
        exact z_ireturn iX8_plan_51 (rfl) (rfl)
      · exact absurd h (by simp [mPlanOk, *])
set_option maxRecDepth 20000 in
set_option maxHeartbeats 1000000 in
theorem cm_planX (G : zG) (pg nw kp sn ks fo ft fe gt mx : zs) (re : Nat → Int64) (m : zs) (hh : Int64) (hm : mOK m) (d q : Nat) (hq : q < 100) (h : mPlanOk (nI d) (nI q) = true) (hb : ¬ rN m 4 = 0) (v : Int32) (t : zs) (hc : zK G mX8_planOf [.ref 49, .int (nI d), .int (nI q)] (wW pg nw kp sn ks fo ft fe gt mx re m hh) (some (.int v)) (wW pg nw kp sn ks fo ft fe gt mx re t hh)) : zK G mX8_plan [.ref 49, .int (nI d), .int (nI q)] (wW pg nw kp sn ks fo ft fe gt mx re m hh) (some (.int (v))) (wW pg nw kp sn ks fo ft fe gt mx re t hh) := by
  refine zK_of 0 rfl (by decide) trivial (Nat.le_of_ble_eq_true rfl) rfl ?_
  refine z_iload_n iX8_plan_0 rfl ?_
  refine z_i2l iX8_plan_1 ?_
  refine z_lconst iX8_plan_2 zl_1 ?_
  refine z_ldc2 iX8_plan_3 gX8_185 ?_
  refine z_csi (y1 := mX8_in) iX8_plan_6 lX8_79 kX8_in rfl (c_in32 G _ _ 1 4 (by decide +kernel) (by decide +kernel)) rfl rfl (Nat.le_of_ble_eq_true rfl) ?_
  refine zb_if_eq iX8_plan_9 (fun q9 => ?_) (fun q9 => ?_)
  · exact absurd h (by first | (simp [mPlanOk, *]; done) | (rw [mPlanOk, q9]; simp; done) | (rw [mPlanOk, q27]; simp [show ¬ nI q = 0 from nix_ne (by omega) (by omega)]; done))
  · refine z_iload_n iX8_plan_12 rfl ?_
    refine zn_if_eq iX8_plan_13 (by omega) (fun q13 => ?_) (fun q13 => ?_)
    · refine z_aload_n iX8_plan_33 rfl ?_
      refine z_cvi (y1 := mX8_lacks) iX8_plan_34 lX8_225 kX8_lacks rfl (cm_lacks G pg nw kp sn ks fo ft fe gt mx re m hh hm) (wm) rfl rfl rfl (Nat.le_of_ble_eq_true rfl) (by decide) ?_
      refine zb_if_eq iX8_plan_37 (fun q37 => ?_) (fun q37 => absurd (of_decide_eq_true q37) hb)
      refine z_aload_n iX8_plan_45 rfl ?_
      refine z_iload_n iX8_plan_46 rfl ?_
      refine z_iload_n iX8_plan_47 rfl ?_
      refine z_cvi (y1 := mX8_planOf) iX8_plan_48 lX8_251 kX8_planOf rfl (hc) (wm) rfl rfl rfl (Nat.le_of_ble_eq_true rfl) (by decide) ?_
      exact z_ireturn iX8_plan_51 (rfl) (rfl)
    · refine z_iload_n iX8_plan_16 rfl ?_
      refine z_i2l iX8_plan_17 ?_
      refine z_ldc2 iX8_plan_18 gX8_168 ?_
      refine z_ldc2 iX8_plan_21 gX8_249 ?_
      refine z_csi (y1 := mX8_in) iX8_plan_24 lX8_79 kX8_in rfl (c_in32 G _ _ 10 13 (by decide +kernel) (by decide +kernel)) rfl rfl (Nat.le_of_ble_eq_true rfl) ?_
      refine zb_if_ne iX8_plan_27 (fun q27 => ?_) (fun q27 => ?_)
      · refine z_aload_n iX8_plan_33 rfl ?_
        refine z_cvi (y1 := mX8_lacks) iX8_plan_34 lX8_225 kX8_lacks rfl (cm_lacks G pg nw kp sn ks fo ft fe gt mx re m hh hm) (wm) rfl rfl rfl (Nat.le_of_ble_eq_true rfl) (by decide) ?_
        refine zb_if_eq iX8_plan_37 (fun q37 => ?_) (fun q37 => absurd (of_decide_eq_true q37) hb)
        refine z_aload_n iX8_plan_45 rfl ?_
        refine z_iload_n iX8_plan_46 rfl ?_
        refine z_iload_n iX8_plan_47 rfl ?_
        refine z_cvi (y1 := mX8_planOf) iX8_plan_48 lX8_251 kX8_planOf rfl (hc) (wm) rfl rfl rfl (Nat.le_of_ble_eq_true rfl) (by decide) ?_
        exact z_ireturn iX8_plan_51 (rfl) (rfl)
      · exact absurd h (by first | (simp [mPlanOk, *]; done) | (rw [mPlanOk, q9]; simp; done) | (rw [mPlanOk, q27]; simp [show ¬ nI q = 0 from nix_ne (by omega) (by omega)]; done))
set_option maxRecDepth 20000 in
set_option maxHeartbeats 1000000 in
theorem cm_image0 (G : zG) (pg nw kp sn ks fo ft fe gt mx : zs) (re : Nat → Int64) (m : zs) (hh : Int64) (hm : mOK m) (hb : rN m 4 = 0) : zK G mX8_image [.ref 49] (wW pg nw kp sn ks fo ft fe gt mx re m hh) (some (.int (-103))) (wW pg nw kp sn ks fo ft fe gt mx re m hh) := by
  refine zK_of 0 rfl (by decide) trivial (Nat.le_of_ble_eq_true rfl) rfl ?_
  refine z_aload_n iX8_image_0 rfl ?_
  refine z_cvi (y1 := mX8_lacks) iX8_image_1 lX8_225 kX8_lacks rfl (cm_lacks G pg nw kp sn ks fo ft fe gt mx re m hh hm) (wm) rfl rfl rfl (Nat.le_of_ble_eq_true rfl) (by decide) ?_
  refine zb_if_eq iX8_image_4 (fun q4 => absurd hb (of_decide_eq_false q4)) (fun q4 => ?_)
  refine z_bipush iX8_image_7 zb_m103 ?_
  exact z_ireturn iX8_image_9 (rfl) (rfl)
def mImg (m : zs) : zs := uI (uN (uI (uI (uN (uF (uF (uF (uF (uA m 33 (rA m 13)) 34 (rF m 14)) 35 (rF m 15)) 36 (rF m 16)) 37 (rF m 25)) 29 (rN m 6)) 30 (rI m 7)) 31 (rI m 8)) 32 (rN m 24)) 28 (nI (rN m 9))
def mRes (m : zs) : zs := uN (uI (uI (uN (uF (uF (uF (uF (uA m 13 (rA m 33)) 14 (rF m 34)) 15 (rF m 35)) 16 (rF m 36)) 25 (rF m 37)) 6 (rN m 29)) 7 (rI m 30)) 8 (rI m 31)) 24 (rN m 32)
set_option maxRecDepth 20000 in
set_option maxHeartbeats 1000000 in
theorem cm_image1 (G : zG) (pg nw kp sn ks fo ft fe gt mx : zs) (re : Nat → Int64) (m : zs) (hh : Int64) (hm : mOK m) (hb : ¬ rN m 4 = 0) : zK G mX8_image [.ref 49] (wW pg nw kp sn ks fo ft fe gt mx re m hh) (some (.int (nI (rN m 6)))) (wW pg nw kp sn ks fo ft fe gt mx re (mImg m) hh) := by
  refine zK_of 0 rfl (by decide) trivial (Nat.le_of_ble_eq_true rfl) rfl ?_
  refine z_aload_n iX8_image_0 rfl ?_
  refine z_cvi (y1 := mX8_lacks) iX8_image_1 lX8_225 kX8_lacks rfl (cm_lacks G pg nw kp sn ks fo ft fe gt mx re m hh hm) (wm) rfl rfl rfl (Nat.le_of_ble_eq_true rfl) (by decide) ?_
  refine zb_if_eq iX8_image_4 (fun q4 => ?_) (fun q4 => absurd (of_decide_eq_true q4) hb)
  refine z_aload_n iX8_image_10 rfl ?_
  refine z_getf iX8_image_11 fX8_22 (wm) (mF_13 _ _) (by decide) ?_
  refine z_aload_n iX8_image_14 rfl ?_
  refine z_getf iX8_image_15 fX8_58 (wm) (mF_33 _ _) (by decide) ?_
  refine z_csv (y1 := mX8_copy) iX8_image_18 lX8_131 kX8_copy rfl (c_mcopy G _ 54 66 12 _ _ wm13 wm33 (by decide) (by decide) (by decide) (by decide)) rfl rfl (Nat.le_of_ble_eq_true rfl) ?_
  rw [wm_33]
  refine z_aload_n iX8_image_21 rfl ?_
  refine z_getf iX8_image_22 fX8_25 (wm) (mF_14 _ _) (by decide) ?_
  refine z_aload_n iX8_image_25 rfl ?_
  refine z_getf iX8_image_26 fX8_61 (wm) (mF_34 _ _) (by decide) ?_
  refine z_csv (y1 := mX8_copy) iX8_image_29 lX8_131 kX8_copy rfl (c_mcopy G _ 55 67 12 _ _ wm14 wm34 (by decide) (by decide) (by decide) (by decide)) rfl rfl (Nat.le_of_ble_eq_true rfl) ?_
  rw [wm_34]
  refine z_aload_n iX8_image_32 rfl ?_
  refine z_getf iX8_image_33 fX8_28 (wm) (mF_15 _ _) (by decide) ?_
  refine z_aload_n iX8_image_36 rfl ?_
  refine z_getf iX8_image_37 fX8_64 (wm) (mF_35 _ _) (by decide) ?_
  refine z_csv (y1 := mX8_copy) iX8_image_40 lX8_131 kX8_copy rfl (c_mcopy G _ 56 68 12 _ _ wm15 wm35 (by decide) (by decide) (by decide) (by decide)) rfl rfl (Nat.le_of_ble_eq_true rfl) ?_
  rw [wm_35]
  refine z_aload_n iX8_image_43 rfl ?_
  refine z_getf iX8_image_44 fX8_31 (wm) (mF_16 _ _) (by decide) ?_
  refine z_aload_n iX8_image_47 rfl ?_
  refine z_getf iX8_image_48 fX8_67 (wm) (mF_36 _ _) (by decide) ?_
  refine z_csv (y1 := mX8_copy) iX8_image_51 lX8_131 kX8_copy rfl (c_mcopy G _ 57 69 12 _ _ wm16 wm36 (by decide) (by decide) (by decide) (by decide)) rfl rfl (Nat.le_of_ble_eq_true rfl) ?_
  rw [wm_36]
  refine z_aload_n iX8_image_54 rfl ?_
  refine z_getf iX8_image_55 fX8_52 (wm) (mF_25 _ _) (by decide) ?_
  refine z_aload_n iX8_image_58 rfl ?_
  refine z_getf iX8_image_59 fX8_70 (wm) (mF_37 _ _) (by decide) ?_
  refine z_csv (y1 := mX8_copy) iX8_image_62 lX8_131 kX8_copy rfl (c_mcopy G _ 64 70 18 _ _ wm25 wm37 (by decide) (by decide) (by decide) (by decide)) rfl rfl (Nat.le_of_ble_eq_true rfl) ?_
  rw [wm_37]
  refine z_aload_n iX8_image_65 rfl ?_
  refine z_aload_n iX8_image_66 rfl ?_
  refine z_getf iX8_image_67 fX8_116 (wm) (mF_6 _ _) (by decide) ?_
  refine z_putf iX8_image_70 fX8_290 (wm) rfl rfl (Nat.le_of_ble_eq_true rfl) (by decide) ?_
  rw [wm_29]
  refine z_aload_n iX8_image_73 rfl ?_
  refine z_aload_n iX8_image_74 rfl ?_
  refine z_getf iX8_image_75 fX8_119 (wm) (mF_7 _ _) (by decide) ?_
  refine z_putf iX8_image_78 fX8_293 (wm) rfl rfl (Nat.le_of_ble_eq_true rfl) (by decide) ?_
  rw [wm_30]
  refine z_aload_n iX8_image_81 rfl ?_
  refine z_aload_n iX8_image_82 rfl ?_
  refine z_getf iX8_image_83 fX8_122 (wm) (mF_8 _ _) (by decide) ?_
  refine z_putf iX8_image_86 fX8_296 (wm) rfl rfl (Nat.le_of_ble_eq_true rfl) (by decide) ?_
  rw [wm_31]
  refine z_aload_n iX8_image_89 rfl ?_
  refine z_aload_n iX8_image_90 rfl ?_
  refine z_getf iX8_image_91 fX8_125 (wm) (mF_24 _ _) (by decide) ?_
  refine z_putf iX8_image_94 fX8_299 (wm) rfl rfl (Nat.le_of_ble_eq_true rfl) (by decide) ?_
  rw [wm_32]
  refine z_aload_n iX8_image_97 rfl ?_
  refine z_aload_n iX8_image_98 rfl ?_
  refine z_getf iX8_image_99 fX8_128 (wm) (mF_9 _ _) (by decide) ?_
  refine z_putf iX8_image_102 fX8_73 (wm) rfl rfl (Nat.le_of_ble_eq_true rfl) (by decide) ?_
  rw [wm_28]
  refine z_aload_n iX8_image_105 rfl ?_
  refine z_getf iX8_image_106 fX8_116 (wm) (mF_6 _ _) (by decide) ?_
  exact z_ireturn iX8_image_109 (rfl) (rfl)
set_option maxRecDepth 20000 in
set_option maxHeartbeats 1000000 in
theorem cm_restore0 (G : zG) (pg nw kp sn ks fo ft fe gt mx : zs) (re : Nat → Int64) (m : zs) (hh : Int64) (h : ¬ rI m 28 = nI (rN m 9)) : zK G mX8_restore [.ref 49] (wW pg nw kp sn ks fo ft fe gt mx re m hh) (some (.int (-103))) (wW pg nw kp sn ks fo ft fe gt mx re m hh) := by
  refine zK_of 0 rfl (by decide) trivial (Nat.le_of_ble_eq_true rfl) rfl ?_
  refine z_aload_n iX8_restore_0 rfl ?_
  refine z_getf iX8_restore_1 fX8_73 (wm) (mF_28 _ _) (by decide) ?_
  refine z_aload_n iX8_restore_4 rfl ?_
  refine z_getf iX8_restore_5 fX8_128 (wm) (mF_9 _ _) (by decide) ?_
  refine z_icmp_eq iX8_restore_8 (fun q8 => absurd q8 h) (fun q8 => ?_)
  refine z_bipush iX8_restore_11 zb_m103 ?_
  exact z_ireturn iX8_restore_13 (rfl) (rfl)
set_option maxRecDepth 20000 in
set_option maxHeartbeats 1000000 in
theorem cm_restore1 (G : zG) (pg nw kp sn ks fo ft fe gt mx : zs) (re : Nat → Int64) (m : zs) (hh : Int64) (h : rI m 28 = nI (rN m 9)) : zK G mX8_restore [.ref 49] (wW pg nw kp sn ks fo ft fe gt mx re m hh) (some (.int (nI (rN m 29)))) (wW pg nw kp sn ks fo ft fe gt mx re (mRes m) hh) := by
  refine zK_of 0 rfl (by decide) trivial (Nat.le_of_ble_eq_true rfl) rfl ?_
  refine z_aload_n iX8_restore_0 rfl ?_
  refine z_getf iX8_restore_1 fX8_73 (wm) (mF_28 _ _) (by decide) ?_
  refine z_aload_n iX8_restore_4 rfl ?_
  refine z_getf iX8_restore_5 fX8_128 (wm) (mF_9 _ _) (by decide) ?_
  refine z_icmp_eq iX8_restore_8 (fun q8 => ?_) (fun q8 => absurd h q8)
  refine z_aload_n iX8_restore_14 rfl ?_
  refine z_getf iX8_restore_15 fX8_58 (wm) (mF_33 _ _) (by decide) ?_
  refine z_aload_n iX8_restore_18 rfl ?_
  refine z_getf iX8_restore_19 fX8_22 (wm) (mF_13 _ _) (by decide) ?_
  refine z_csv (y1 := mX8_copy) iX8_restore_22 lX8_131 kX8_copy rfl (c_mcopy G _ 66 54 12 _ _ wm33 wm13 (by decide) (by decide) (by decide) (by decide)) rfl rfl (Nat.le_of_ble_eq_true rfl) ?_
  rw [wm_13]
  refine z_aload_n iX8_restore_25 rfl ?_
  refine z_getf iX8_restore_26 fX8_61 (wm) (mF_34 _ _) (by decide) ?_
  refine z_aload_n iX8_restore_29 rfl ?_
  refine z_getf iX8_restore_30 fX8_25 (wm) (mF_14 _ _) (by decide) ?_
  refine z_csv (y1 := mX8_copy) iX8_restore_33 lX8_131 kX8_copy rfl (c_mcopy G _ 67 55 12 _ _ wm34 wm14 (by decide) (by decide) (by decide) (by decide)) rfl rfl (Nat.le_of_ble_eq_true rfl) ?_
  rw [wm_14]
  refine z_aload_n iX8_restore_36 rfl ?_
  refine z_getf iX8_restore_37 fX8_64 (wm) (mF_35 _ _) (by decide) ?_
  refine z_aload_n iX8_restore_40 rfl ?_
  refine z_getf iX8_restore_41 fX8_28 (wm) (mF_15 _ _) (by decide) ?_
  refine z_csv (y1 := mX8_copy) iX8_restore_44 lX8_131 kX8_copy rfl (c_mcopy G _ 68 56 12 _ _ wm35 wm15 (by decide) (by decide) (by decide) (by decide)) rfl rfl (Nat.le_of_ble_eq_true rfl) ?_
  rw [wm_15]
  refine z_aload_n iX8_restore_47 rfl ?_
  refine z_getf iX8_restore_48 fX8_67 (wm) (mF_36 _ _) (by decide) ?_
  refine z_aload_n iX8_restore_51 rfl ?_
  refine z_getf iX8_restore_52 fX8_31 (wm) (mF_16 _ _) (by decide) ?_
  refine z_csv (y1 := mX8_copy) iX8_restore_55 lX8_131 kX8_copy rfl (c_mcopy G _ 69 57 12 _ _ wm36 wm16 (by decide) (by decide) (by decide) (by decide)) rfl rfl (Nat.le_of_ble_eq_true rfl) ?_
  rw [wm_16]
  refine z_aload_n iX8_restore_58 rfl ?_
  refine z_getf iX8_restore_59 fX8_70 (wm) (mF_37 _ _) (by decide) ?_
  refine z_aload_n iX8_restore_62 rfl ?_
  refine z_getf iX8_restore_63 fX8_52 (wm) (mF_25 _ _) (by decide) ?_
  refine z_csv (y1 := mX8_copy) iX8_restore_66 lX8_131 kX8_copy rfl (c_mcopy G _ 70 64 18 _ _ wm37 wm25 (by decide) (by decide) (by decide) (by decide)) rfl rfl (Nat.le_of_ble_eq_true rfl) ?_
  rw [wm_25]
  refine z_aload_n iX8_restore_69 rfl ?_
  refine z_aload_n iX8_restore_70 rfl ?_
  refine z_getf iX8_restore_71 fX8_290 (wm) (mF_29 _ _) (by decide) ?_
  refine z_putf iX8_restore_74 fX8_116 (wm) rfl rfl (Nat.le_of_ble_eq_true rfl) (by decide) ?_
  rw [wm_6]
  refine z_aload_n iX8_restore_77 rfl ?_
  refine z_aload_n iX8_restore_78 rfl ?_
  refine z_getf iX8_restore_79 fX8_293 (wm) (mF_30 _ _) (by decide) ?_
  refine z_putf iX8_restore_82 fX8_119 (wm) rfl rfl (Nat.le_of_ble_eq_true rfl) (by decide) ?_
  rw [wm_7]
  refine z_aload_n iX8_restore_85 rfl ?_
  refine z_aload_n iX8_restore_86 rfl ?_
  refine z_getf iX8_restore_87 fX8_296 (wm) (mF_31 _ _) (by decide) ?_
  refine z_putf iX8_restore_90 fX8_122 (wm) rfl rfl (Nat.le_of_ble_eq_true rfl) (by decide) ?_
  rw [wm_8]
  refine z_aload_n iX8_restore_93 rfl ?_
  refine z_aload_n iX8_restore_94 rfl ?_
  refine z_getf iX8_restore_95 fX8_299 (wm) (mF_32 _ _) (by decide) ?_
  refine z_putf iX8_restore_98 fX8_125 (wm) rfl rfl (Nat.le_of_ble_eq_true rfl) (by decide) ?_
  rw [wm_24]
  refine z_aload_n iX8_restore_101 rfl ?_
  refine z_getf iX8_restore_102 fX8_116 (wm) (mF_6 _ _) (by decide) ?_
  exact z_ireturn iX8_restore_105 (rfl) (rfl)
def mSsl (m : zs) : Int32 := zfw (fun c x => x + rF m 14 c) 0 (rN m 5) (nI 0)
set_option maxRecDepth 20000 in
set_option maxHeartbeats 1000000 in
theorem lpm_sl (G : zG) (pg nw kp sn ks fo ft fe gt mx : zs) (re : Nat → Int64) (m : zs) (hh : Int64) (hm : mOK m) : ∀ (n i : Nat) (x : Int32), i + n = rN m 5 → zS G mX8_sumOf 4 [some (.ref 49), some (.ref 55), some (.int x), some (.int (nI i))] [] (wW pg nw kp sn ks fo ft fe gt mx re m hh) (some (.int (zfw (fun c x => x + rF m 14 c) i n x))) (wW pg nw kp sn ks fo ft fe gt mx re m hh) := by
  obtain ⟨o13, o12, o11, o10, o4, o5⟩ := id hm
  intro n
  induction n with
  | zero =>
    intro i x hi
    refine z_iload_n iX8_sumOf_4 rfl ?_
    refine z_aload_n iX8_sumOf_5 rfl ?_
    refine z_getf iX8_sumOf_6 fX8_113 (wm) (mF_5 _ _) (by decide) ?_
    refine zn_ge iX8_sumOf_9 (by omega) (by omega) (fun q9 => ?_) (fun q9 => absurd q9 (by omega))
    refine z_iload_n iX8_sumOf_24 rfl ?_
    exact z_ireturn iX8_sumOf_25 (rfl) (rfl)
  | succ n ih =>
    intro i x hi
    refine z_iload_n iX8_sumOf_4 rfl ?_
    refine z_aload_n iX8_sumOf_5 rfl ?_
    refine z_getf iX8_sumOf_6 fX8_113 (wm) (mF_5 _ _) (by decide) ?_
    refine zn_ge iX8_sumOf_9 (by omega) (by omega) (fun q9 => absurd q9 (by omega)) (fun q9 => ?_)
    refine z_iload_n iX8_sumOf_12 rfl ?_
    refine z_aload_n iX8_sumOf_13 rfl ?_
    refine z_iload_n iX8_sumOf_14 rfl ?_
    refine z_iaload iX8_sumOf_15 (wm14) rfl (by omega) (by decide) (by decide) ?_
    refine z_iadd iX8_sumOf_16 ?_
    refine z_istore_n iX8_sumOf_17 rfl (by decide) ?_
    refine z_iinc iX8_sumOf_18 rfl nix_inc rfl (by decide) ?_
    refine z_goto iX8_sumOf_21 ?_
    exact ih (i + 1) _ (by omega)
set_option maxRecDepth 20000 in
set_option maxHeartbeats 1000000 in
theorem cm_sl (G : zG) (pg nw kp sn ks fo ft fe gt mx : zs) (re : Nat → Int64) (m : zs) (hh : Int64) (hm : mOK m) : zK G mX8_sumOf [.ref 49, .ref 55] (wW pg nw kp sn ks fo ft fe gt mx re m hh) (some (.int (mSsl m))) (wW pg nw kp sn ks fo ft fe gt mx re m hh) := by
  refine zK_of 2 rfl (by decide) trivial (Nat.le_of_ble_eq_true rfl) rfl ?_
  refine z_iconst iX8_sumOf_0 zk_0 ?_
  refine z_istore_n iX8_sumOf_1 rfl (by decide) ?_
  refine z_iconst iX8_sumOf_2 zk_0 ?_
  refine z_istore_n iX8_sumOf_3 rfl (by decide) ?_
  exact lpm_sl G pg nw kp sn ks fo ft fe gt mx re m hh hm _ 0 _ (Nat.zero_add _)
def mSsw (m : zs) : Int32 := zfw (fun c x => x + rF m 15 c) 0 (rN m 5) (nI 0)
set_option maxRecDepth 20000 in
set_option maxHeartbeats 1000000 in
theorem lpm_sw (G : zG) (pg nw kp sn ks fo ft fe gt mx : zs) (re : Nat → Int64) (m : zs) (hh : Int64) (hm : mOK m) : ∀ (n i : Nat) (x : Int32), i + n = rN m 5 → zS G mX8_sumOf 4 [some (.ref 49), some (.ref 56), some (.int x), some (.int (nI i))] [] (wW pg nw kp sn ks fo ft fe gt mx re m hh) (some (.int (zfw (fun c x => x + rF m 15 c) i n x))) (wW pg nw kp sn ks fo ft fe gt mx re m hh) := by
  obtain ⟨o13, o12, o11, o10, o4, o5⟩ := id hm
  intro n
  induction n with
  | zero =>
    intro i x hi
    refine z_iload_n iX8_sumOf_4 rfl ?_
    refine z_aload_n iX8_sumOf_5 rfl ?_
    refine z_getf iX8_sumOf_6 fX8_113 (wm) (mF_5 _ _) (by decide) ?_
    refine zn_ge iX8_sumOf_9 (by omega) (by omega) (fun q9 => ?_) (fun q9 => absurd q9 (by omega))
    refine z_iload_n iX8_sumOf_24 rfl ?_
    exact z_ireturn iX8_sumOf_25 (rfl) (rfl)
  | succ n ih =>
    intro i x hi
    refine z_iload_n iX8_sumOf_4 rfl ?_
    refine z_aload_n iX8_sumOf_5 rfl ?_
    refine z_getf iX8_sumOf_6 fX8_113 (wm) (mF_5 _ _) (by decide) ?_
    refine zn_ge iX8_sumOf_9 (by omega) (by omega) (fun q9 => absurd q9 (by omega)) (fun q9 => ?_)
    refine z_iload_n iX8_sumOf_12 rfl ?_
    refine z_aload_n iX8_sumOf_13 rfl ?_
    refine z_iload_n iX8_sumOf_14 rfl ?_
    refine z_iaload iX8_sumOf_15 (wm15) rfl (by omega) (by decide) (by decide) ?_
    refine z_iadd iX8_sumOf_16 ?_
    refine z_istore_n iX8_sumOf_17 rfl (by decide) ?_
    refine z_iinc iX8_sumOf_18 rfl nix_inc rfl (by decide) ?_
    refine z_goto iX8_sumOf_21 ?_
    exact ih (i + 1) _ (by omega)
set_option maxRecDepth 20000 in
set_option maxHeartbeats 1000000 in
theorem cm_sw (G : zG) (pg nw kp sn ks fo ft fe gt mx : zs) (re : Nat → Int64) (m : zs) (hh : Int64) (hm : mOK m) : zK G mX8_sumOf [.ref 49, .ref 56] (wW pg nw kp sn ks fo ft fe gt mx re m hh) (some (.int (mSsw m))) (wW pg nw kp sn ks fo ft fe gt mx re m hh) := by
  refine zK_of 2 rfl (by decide) trivial (Nat.le_of_ble_eq_true rfl) rfl ?_
  refine z_iconst iX8_sumOf_0 zk_0 ?_
  refine z_istore_n iX8_sumOf_1 rfl (by decide) ?_
  refine z_iconst iX8_sumOf_2 zk_0 ?_
  refine z_istore_n iX8_sumOf_3 rfl (by decide) ?_
  exact lpm_sw G pg nw kp sn ks fo ft fe gt mx re m hh hm _ 0 _ (Nat.zero_add _)
def mThF (m : zs) : Nat → Nat → Nat := fun c x => if rF m 14 c ≤ 0 then x + 0 else x + 1
def mTh (m : zs) : Nat := zfw (mThF m) 0 (rN m 5) 0
def mWmF (m : zs) : Nat → Int32 → Int32 := fun c x => if rF m 16 c ≤ x then x else rF m 16 c
def mWm (m : zs) : Int32 := zfw (mWmF m) 0 (rN m 5) (nI 0)
set_option maxRecDepth 20000 in
set_option maxHeartbeats 1000000 in
theorem lpm_th (G : zG) (pg nw kp sn ks fo ft fe gt mx : zs) (re : Nat → Int64) (m : zs) (hh : Int64) (hm : mOK m) : ∀ (n i : Nat) (x : Nat), i + n = rN m 5 → zS G mX8_there 4 [some (.ref 49), some (.int (nI x)), some (.int (nI i))] [] (wW pg nw kp sn ks fo ft fe gt mx re m hh) (some (.int (nI (zfw (mThF m) i n x)))) (wW pg nw kp sn ks fo ft fe gt mx re m hh) := by
  obtain ⟨o13, o12, o11, o10, o4, o5⟩ := id hm
  intro n
  induction n with
  | zero =>
    intro i x hi
    refine z_iload_n iX8_there_4 rfl ?_
    refine z_aload_n iX8_there_5 rfl ?_
    refine z_getf iX8_there_6 fX8_113 (wm) (mF_5 _ _) (by decide) ?_
    refine zn_ge iX8_there_9 (by omega) (by omega) (fun q9 => ?_) (fun q9 => absurd q9 (by omega))
    refine z_iload_n iX8_there_35 rfl ?_
    exact z_ireturn iX8_there_36 (rfl) (rfl)
  | succ n ih =>
    intro i x hi
    refine z_iload_n iX8_there_4 rfl ?_
    refine z_aload_n iX8_there_5 rfl ?_
    refine z_getf iX8_there_6 fX8_113 (wm) (mF_5 _ _) (by decide) ?_
    refine zn_ge iX8_there_9 (by omega) (by omega) (fun q9 => absurd q9 (by omega)) (fun q9 => ?_)
    refine z_iload_n iX8_there_12 rfl ?_
    refine z_aload_n iX8_there_13 rfl ?_
    refine z_getf iX8_there_14 fX8_25 (wm) (mF_14 _ _) (by decide) ?_
    refine z_iload_n iX8_there_17 rfl ?_
    refine z_iaload iX8_there_18 (wm14) rfl (by omega) (by decide) (by decide) ?_
    refine z_if_le iX8_there_19 (fun q19 => ?_) (fun q19 => ?_)
    · refine z_iconst iX8_there_26 zk_0 ?_
      refine z_iadd iX8_there_27 ?_
      refine z_top nix_add ?_
      refine z_istore_n iX8_there_28 rfl (by decide) ?_
      refine z_iinc iX8_there_29 rfl nix_inc rfl (by decide) ?_
      refine z_goto iX8_there_32 ?_
      first
        | (have e1 : mThF m i x = x + 0 := by rw [mThF, if_pos q19]
           rw [zfw, e1]
           exact ih (i + 1) _ (by omega))
        | (have e1 : mThF m i x = x + 1 := by rw [mThF, if_neg q19]
           rw [zfw, e1]
           exact ih (i + 1) _ (by omega))
    · refine z_iconst iX8_there_22 zk_1 ?_
      refine z_goto iX8_there_23 ?_
      refine z_iadd iX8_there_27 ?_
      refine z_top nix_add ?_
      refine z_istore_n iX8_there_28 rfl (by decide) ?_
      refine z_iinc iX8_there_29 rfl nix_inc rfl (by decide) ?_
      refine z_goto iX8_there_32 ?_
      first
        | (have e1 : mThF m i x = x + 0 := by rw [mThF, if_pos q19]
           rw [zfw, e1]
           exact ih (i + 1) _ (by omega))
        | (have e1 : mThF m i x = x + 1 := by rw [mThF, if_neg q19]
           rw [zfw, e1]
           exact ih (i + 1) _ (by omega))
set_option maxRecDepth 20000 in
set_option maxHeartbeats 1000000 in
theorem cm_there (G : zG) (pg nw kp sn ks fo ft fe gt mx : zs) (re : Nat → Int64) (m : zs) (hh : Int64) (hm : mOK m) : zK G mX8_there [.ref 49] (wW pg nw kp sn ks fo ft fe gt mx re m hh) (some (.int (nI (mTh m)))) (wW pg nw kp sn ks fo ft fe gt mx re m hh) := by
  refine zK_of 2 rfl (by decide) trivial (Nat.le_of_ble_eq_true rfl) rfl ?_
  refine z_iconst iX8_there_0 zk_0 ?_
  refine z_istore_n iX8_there_1 rfl (by decide) ?_
  refine z_iconst iX8_there_2 zk_0 ?_
  refine z_istore_n iX8_there_3 rfl (by decide) ?_
  exact lpm_th G pg nw kp sn ks fo ft fe gt mx re m hh hm _ 0 0 (Nat.zero_add _)
set_option maxRecDepth 20000 in
set_option maxHeartbeats 1000000 in
theorem lpm_wm (G : zG) (pg nw kp sn ks fo ft fe gt mx : zs) (re : Nat → Int64) (m : zs) (hh : Int64) (hm : mOK m) : ∀ (n i : Nat) (x : Int32), i + n = rN m 5 → zS G mX8_warmest 4 [some (.ref 49), some (.int x), some (.int (nI i))] [] (wW pg nw kp sn ks fo ft fe gt mx re m hh) (some (.int (zfw (mWmF m) i n x))) (wW pg nw kp sn ks fo ft fe gt mx re m hh) := by
  obtain ⟨o13, o12, o11, o10, o4, o5⟩ := id hm
  intro n
  induction n with
  | zero =>
    intro i x hi
    refine z_iload_n iX8_warmest_4 rfl ?_
    refine z_aload_n iX8_warmest_5 rfl ?_
    refine z_getf iX8_warmest_6 fX8_113 (wm) (mF_5 _ _) (by decide) ?_
    refine zn_ge iX8_warmest_9 (by omega) (by omega) (fun q9 => ?_) (fun q9 => absurd q9 (by omega))
    refine z_iload_n iX8_warmest_39 rfl ?_
    exact z_ireturn iX8_warmest_40 (rfl) (rfl)
  | succ n ih =>
    intro i x hi
    refine z_iload_n iX8_warmest_4 rfl ?_
    refine z_aload_n iX8_warmest_5 rfl ?_
    refine z_getf iX8_warmest_6 fX8_113 (wm) (mF_5 _ _) (by decide) ?_
    refine zn_ge iX8_warmest_9 (by omega) (by omega) (fun q9 => absurd q9 (by omega)) (fun q9 => ?_)
    refine z_aload_n iX8_warmest_12 rfl ?_
    refine z_getf iX8_warmest_13 fX8_31 (wm) (mF_16 _ _) (by decide) ?_
    refine z_iload_n iX8_warmest_16 rfl ?_
    refine z_iaload iX8_warmest_17 (wm16) rfl (by omega) (by decide) (by decide) ?_
    refine z_iload_n iX8_warmest_18 rfl ?_
    refine z_icmp_le iX8_warmest_19 (fun q19 => ?_) (fun q19 => ?_)
    · refine z_iload_n iX8_warmest_31 rfl ?_
      refine z_istore_n iX8_warmest_32 rfl (by decide) ?_
      refine z_iinc iX8_warmest_33 rfl nix_inc rfl (by decide) ?_
      refine z_goto iX8_warmest_36 ?_
      first
        | (have e1 : mWmF m i x = x := by rw [mWmF, if_pos q19]
           rw [zfw, e1]
           exact ih (i + 1) _ (by omega))
        | (have e1 : mWmF m i x = rF m 16 i := by rw [mWmF, if_neg q19]
           rw [zfw, e1]
           exact ih (i + 1) _ (by omega))
    · refine z_aload_n iX8_warmest_22 rfl ?_
      refine z_getf iX8_warmest_23 fX8_31 (wm) (mF_16 _ _) (by decide) ?_
      refine z_iload_n iX8_warmest_26 rfl ?_
      refine z_iaload iX8_warmest_27 (wm16) rfl (by omega) (by decide) (by decide) ?_
      refine z_goto iX8_warmest_28 ?_
      refine z_istore_n iX8_warmest_32 rfl (by decide) ?_
      refine z_iinc iX8_warmest_33 rfl nix_inc rfl (by decide) ?_
      refine z_goto iX8_warmest_36 ?_
      first
        | (have e1 : mWmF m i x = x := by rw [mWmF, if_pos q19]
           rw [zfw, e1]
           exact ih (i + 1) _ (by omega))
        | (have e1 : mWmF m i x = rF m 16 i := by rw [mWmF, if_neg q19]
           rw [zfw, e1]
           exact ih (i + 1) _ (by omega))
set_option maxRecDepth 20000 in
set_option maxHeartbeats 1000000 in
theorem cm_warmest (G : zG) (pg nw kp sn ks fo ft fe gt mx : zs) (re : Nat → Int64) (m : zs) (hh : Int64) (hm : mOK m) : zK G mX8_warmest [.ref 49] (wW pg nw kp sn ks fo ft fe gt mx re m hh) (some (.int (mWm m))) (wW pg nw kp sn ks fo ft fe gt mx re m hh) := by
  refine zK_of 2 rfl (by decide) trivial (Nat.le_of_ble_eq_true rfl) rfl ?_
  refine z_iconst iX8_warmest_0 zk_0 ?_
  refine z_istore_n iX8_warmest_1 rfl (by decide) ?_
  refine z_iconst iX8_warmest_2 zk_0 ?_
  refine z_istore_n iX8_warmest_3 rfl (by decide) ?_
  exact lpm_wm G pg nw kp sn ks fo ft fe gt mx re m hh hm _ 0 _ (Nat.zero_add _)
def mCount (m : zs) (w : Nat) : Int32 := if w = 0 then nI (rN m 4) else if w = 1 then nI (rN m 5) else if w = 2 then nI (mTh m) else if w = 3 then mSsl m else if w = 4 then mSsw m else if w = 5 then mWm m else if w = 6 then nI (rN m 6) else if w = 7 then rI m 7 else if w = 8 then rI m 8 else if w = 9 then nI (rN m 24) else if w = 10 then nI (rN m 1) else if w = 11 then nI (rN m 9) else nI (rN m 20)
set_option maxRecDepth 20000 in
set_option maxHeartbeats 1000000 in
theorem cm_count_0 (G : zG) (pg nw kp sn ks fo ft fe gt mx : zs) (re : Nat → Int64) (m : zs) (hh : Int64) (hm : mOK m) : zK G mX8_countOf [.ref 49, .int (nI 0)] (wW pg nw kp sn ks fo ft fe gt mx re m hh) (some (.int (mCount m 0))) (wW pg nw kp sn ks fo ft fe gt mx re m hh) := by
  refine zK_of 0 rfl (by decide) trivial (Nat.le_of_ble_eq_true rfl) rfl ?_
  refine z_iload_n iX8_countOf_0 rfl ?_
  refine z_tabIn (off := 67) (tgt := 68) iX8_countOf_1 (by decide +kernel) (by decide +kernel) (by decide +kernel) (by decide) ?_
  refine z_aload_n iX8_countOf_68 rfl ?_
  refine z_getf iX8_countOf_69 fX8_110 (wm) (mF_4 _ _) (by decide) ?_
  exact z_ireturn iX8_countOf_72 (rfl) (rfl)
set_option maxRecDepth 20000 in
set_option maxHeartbeats 1000000 in
theorem cm_count_1 (G : zG) (pg nw kp sn ks fo ft fe gt mx : zs) (re : Nat → Int64) (m : zs) (hh : Int64) (hm : mOK m) : zK G mX8_countOf [.ref 49, .int (nI 1)] (wW pg nw kp sn ks fo ft fe gt mx re m hh) (some (.int (mCount m 1))) (wW pg nw kp sn ks fo ft fe gt mx re m hh) := by
  refine zK_of 0 rfl (by decide) trivial (Nat.le_of_ble_eq_true rfl) rfl ?_
  refine z_iload_n iX8_countOf_0 rfl ?_
  refine z_tabIn (off := 72) (tgt := 73) iX8_countOf_1 (by decide +kernel) (by decide +kernel) (by decide +kernel) (by decide) ?_
  refine z_aload_n iX8_countOf_73 rfl ?_
  refine z_getf iX8_countOf_74 fX8_113 (wm) (mF_5 _ _) (by decide) ?_
  exact z_ireturn iX8_countOf_77 (rfl) (rfl)
set_option maxRecDepth 20000 in
set_option maxHeartbeats 1000000 in
theorem cm_count_2 (G : zG) (pg nw kp sn ks fo ft fe gt mx : zs) (re : Nat → Int64) (m : zs) (hh : Int64) (hm : mOK m) : zK G mX8_countOf [.ref 49, .int (nI 2)] (wW pg nw kp sn ks fo ft fe gt mx re m hh) (some (.int (mCount m 2))) (wW pg nw kp sn ks fo ft fe gt mx re m hh) := by
  refine zK_of 0 rfl (by decide) trivial (Nat.le_of_ble_eq_true rfl) rfl ?_
  refine z_iload_n iX8_countOf_0 rfl ?_
  refine z_tabIn (off := 77) (tgt := 78) iX8_countOf_1 (by decide +kernel) (by decide +kernel) (by decide +kernel) (by decide) ?_
  refine z_aload_n iX8_countOf_78 rfl ?_
  refine z_cvi (y1 := mX8_there) iX8_countOf_79 lX8_302 kX8_there rfl (cm_there G pg nw kp sn ks fo ft fe gt mx re m hh hm) (wm) rfl rfl rfl (Nat.le_of_ble_eq_true rfl) (by decide) ?_
  exact z_ireturn iX8_countOf_82 (rfl) (rfl)
set_option maxRecDepth 20000 in
set_option maxHeartbeats 1000000 in
theorem cm_count_3 (G : zG) (pg nw kp sn ks fo ft fe gt mx : zs) (re : Nat → Int64) (m : zs) (hh : Int64) (hm : mOK m) : zK G mX8_countOf [.ref 49, .int (nI 3)] (wW pg nw kp sn ks fo ft fe gt mx re m hh) (some (.int (mCount m 3))) (wW pg nw kp sn ks fo ft fe gt mx re m hh) := by
  refine zK_of 0 rfl (by decide) trivial (Nat.le_of_ble_eq_true rfl) rfl ?_
  refine z_iload_n iX8_countOf_0 rfl ?_
  refine z_tabIn (off := 82) (tgt := 83) iX8_countOf_1 (by decide +kernel) (by decide +kernel) (by decide +kernel) (by decide) ?_
  refine z_aload_n iX8_countOf_83 rfl ?_
  refine z_aload_n iX8_countOf_84 rfl ?_
  refine z_getf iX8_countOf_85 fX8_25 (wm) (mF_14 _ _) (by decide) ?_
  refine z_cvi (y1 := mX8_sumOf) iX8_countOf_88 lX8_305 kX8_sumOf rfl (cm_sl G pg nw kp sn ks fo ft fe gt mx re m hh hm) (wm) rfl rfl rfl (Nat.le_of_ble_eq_true rfl) (by decide) ?_
  exact z_ireturn iX8_countOf_91 (rfl) (rfl)
set_option maxRecDepth 20000 in
set_option maxHeartbeats 1000000 in
theorem cm_count_4 (G : zG) (pg nw kp sn ks fo ft fe gt mx : zs) (re : Nat → Int64) (m : zs) (hh : Int64) (hm : mOK m) : zK G mX8_countOf [.ref 49, .int (nI 4)] (wW pg nw kp sn ks fo ft fe gt mx re m hh) (some (.int (mCount m 4))) (wW pg nw kp sn ks fo ft fe gt mx re m hh) := by
  refine zK_of 0 rfl (by decide) trivial (Nat.le_of_ble_eq_true rfl) rfl ?_
  refine z_iload_n iX8_countOf_0 rfl ?_
  refine z_tabIn (off := 91) (tgt := 92) iX8_countOf_1 (by decide +kernel) (by decide +kernel) (by decide +kernel) (by decide) ?_
  refine z_aload_n iX8_countOf_92 rfl ?_
  refine z_aload_n iX8_countOf_93 rfl ?_
  refine z_getf iX8_countOf_94 fX8_28 (wm) (mF_15 _ _) (by decide) ?_
  refine z_cvi (y1 := mX8_sumOf) iX8_countOf_97 lX8_305 kX8_sumOf rfl (cm_sw G pg nw kp sn ks fo ft fe gt mx re m hh hm) (wm) rfl rfl rfl (Nat.le_of_ble_eq_true rfl) (by decide) ?_
  exact z_ireturn iX8_countOf_100 (rfl) (rfl)
set_option maxRecDepth 20000 in
set_option maxHeartbeats 1000000 in
theorem cm_count_5 (G : zG) (pg nw kp sn ks fo ft fe gt mx : zs) (re : Nat → Int64) (m : zs) (hh : Int64) (hm : mOK m) : zK G mX8_countOf [.ref 49, .int (nI 5)] (wW pg nw kp sn ks fo ft fe gt mx re m hh) (some (.int (mCount m 5))) (wW pg nw kp sn ks fo ft fe gt mx re m hh) := by
  refine zK_of 0 rfl (by decide) trivial (Nat.le_of_ble_eq_true rfl) rfl ?_
  refine z_iload_n iX8_countOf_0 rfl ?_
  refine z_tabIn (off := 100) (tgt := 101) iX8_countOf_1 (by decide +kernel) (by decide +kernel) (by decide +kernel) (by decide) ?_
  refine z_aload_n iX8_countOf_101 rfl ?_
  refine z_cvi (y1 := mX8_warmest) iX8_countOf_102 lX8_309 kX8_warmest rfl (cm_warmest G pg nw kp sn ks fo ft fe gt mx re m hh hm) (wm) rfl rfl rfl (Nat.le_of_ble_eq_true rfl) (by decide) ?_
  exact z_ireturn iX8_countOf_105 (rfl) (rfl)
set_option maxRecDepth 20000 in
set_option maxHeartbeats 1000000 in
theorem cm_count_6 (G : zG) (pg nw kp sn ks fo ft fe gt mx : zs) (re : Nat → Int64) (m : zs) (hh : Int64) (hm : mOK m) : zK G mX8_countOf [.ref 49, .int (nI 6)] (wW pg nw kp sn ks fo ft fe gt mx re m hh) (some (.int (mCount m 6))) (wW pg nw kp sn ks fo ft fe gt mx re m hh) := by
  refine zK_of 0 rfl (by decide) trivial (Nat.le_of_ble_eq_true rfl) rfl ?_
  refine z_iload_n iX8_countOf_0 rfl ?_
  refine z_tabIn (off := 105) (tgt := 106) iX8_countOf_1 (by decide +kernel) (by decide +kernel) (by decide +kernel) (by decide) ?_
  refine z_aload_n iX8_countOf_106 rfl ?_
  refine z_getf iX8_countOf_107 fX8_116 (wm) (mF_6 _ _) (by decide) ?_
  exact z_ireturn iX8_countOf_110 (rfl) (rfl)
set_option maxRecDepth 20000 in
set_option maxHeartbeats 1000000 in
theorem cm_count_7 (G : zG) (pg nw kp sn ks fo ft fe gt mx : zs) (re : Nat → Int64) (m : zs) (hh : Int64) (hm : mOK m) : zK G mX8_countOf [.ref 49, .int (nI 7)] (wW pg nw kp sn ks fo ft fe gt mx re m hh) (some (.int (mCount m 7))) (wW pg nw kp sn ks fo ft fe gt mx re m hh) := by
  refine zK_of 0 rfl (by decide) trivial (Nat.le_of_ble_eq_true rfl) rfl ?_
  refine z_iload_n iX8_countOf_0 rfl ?_
  refine z_tabIn (off := 110) (tgt := 111) iX8_countOf_1 (by decide +kernel) (by decide +kernel) (by decide +kernel) (by decide) ?_
  refine z_aload_n iX8_countOf_111 rfl ?_
  refine z_getf iX8_countOf_112 fX8_119 (wm) (mF_7 _ _) (by decide) ?_
  exact z_ireturn iX8_countOf_115 (rfl) (rfl)
set_option maxRecDepth 20000 in
set_option maxHeartbeats 1000000 in
theorem cm_count_8 (G : zG) (pg nw kp sn ks fo ft fe gt mx : zs) (re : Nat → Int64) (m : zs) (hh : Int64) (hm : mOK m) : zK G mX8_countOf [.ref 49, .int (nI 8)] (wW pg nw kp sn ks fo ft fe gt mx re m hh) (some (.int (mCount m 8))) (wW pg nw kp sn ks fo ft fe gt mx re m hh) := by
  refine zK_of 0 rfl (by decide) trivial (Nat.le_of_ble_eq_true rfl) rfl ?_
  refine z_iload_n iX8_countOf_0 rfl ?_
  refine z_tabIn (off := 115) (tgt := 116) iX8_countOf_1 (by decide +kernel) (by decide +kernel) (by decide +kernel) (by decide) ?_
  refine z_aload_n iX8_countOf_116 rfl ?_
  refine z_getf iX8_countOf_117 fX8_122 (wm) (mF_8 _ _) (by decide) ?_
  exact z_ireturn iX8_countOf_120 (rfl) (rfl)
set_option maxRecDepth 20000 in
set_option maxHeartbeats 1000000 in
theorem cm_count_9 (G : zG) (pg nw kp sn ks fo ft fe gt mx : zs) (re : Nat → Int64) (m : zs) (hh : Int64) (hm : mOK m) : zK G mX8_countOf [.ref 49, .int (nI 9)] (wW pg nw kp sn ks fo ft fe gt mx re m hh) (some (.int (mCount m 9))) (wW pg nw kp sn ks fo ft fe gt mx re m hh) := by
  refine zK_of 0 rfl (by decide) trivial (Nat.le_of_ble_eq_true rfl) rfl ?_
  refine z_iload_n iX8_countOf_0 rfl ?_
  refine z_tabIn (off := 120) (tgt := 121) iX8_countOf_1 (by decide +kernel) (by decide +kernel) (by decide +kernel) (by decide) ?_
  refine z_aload_n iX8_countOf_121 rfl ?_
  refine z_getf iX8_countOf_122 fX8_125 (wm) (mF_24 _ _) (by decide) ?_
  exact z_ireturn iX8_countOf_125 (rfl) (rfl)
set_option maxRecDepth 20000 in
set_option maxHeartbeats 1000000 in
theorem cm_count_10 (G : zG) (pg nw kp sn ks fo ft fe gt mx : zs) (re : Nat → Int64) (m : zs) (hh : Int64) (hm : mOK m) : zK G mX8_countOf [.ref 49, .int (nI 10)] (wW pg nw kp sn ks fo ft fe gt mx re m hh) (some (.int (mCount m 10))) (wW pg nw kp sn ks fo ft fe gt mx re m hh) := by
  refine zK_of 0 rfl (by decide) trivial (Nat.le_of_ble_eq_true rfl) rfl ?_
  refine z_iload_n iX8_countOf_0 rfl ?_
  refine z_tabIn (off := 125) (tgt := 126) iX8_countOf_1 (by decide +kernel) (by decide +kernel) (by decide +kernel) (by decide) ?_
  refine z_aload_n iX8_countOf_126 rfl ?_
  refine z_getf iX8_countOf_127 fX8_83 (wm) (mF_1 _ _) (by decide) ?_
  exact z_ireturn iX8_countOf_130 (rfl) (rfl)
set_option maxRecDepth 20000 in
set_option maxHeartbeats 1000000 in
theorem cm_count_11 (G : zG) (pg nw kp sn ks fo ft fe gt mx : zs) (re : Nat → Int64) (m : zs) (hh : Int64) (hm : mOK m) : zK G mX8_countOf [.ref 49, .int (nI 11)] (wW pg nw kp sn ks fo ft fe gt mx re m hh) (some (.int (mCount m 11))) (wW pg nw kp sn ks fo ft fe gt mx re m hh) := by
  refine zK_of 0 rfl (by decide) trivial (Nat.le_of_ble_eq_true rfl) rfl ?_
  refine z_iload_n iX8_countOf_0 rfl ?_
  refine z_tabIn (off := 130) (tgt := 131) iX8_countOf_1 (by decide +kernel) (by decide +kernel) (by decide +kernel) (by decide) ?_
  refine z_aload_n iX8_countOf_131 rfl ?_
  refine z_getf iX8_countOf_132 fX8_128 (wm) (mF_9 _ _) (by decide) ?_
  exact z_ireturn iX8_countOf_135 (rfl) (rfl)
set_option maxRecDepth 20000 in
set_option maxHeartbeats 1000000 in
theorem cm_count_12 (G : zG) (pg nw kp sn ks fo ft fe gt mx : zs) (re : Nat → Int64) (m : zs) (hh : Int64) (hm : mOK m) : zK G mX8_countOf [.ref 49, .int (nI 12)] (wW pg nw kp sn ks fo ft fe gt mx re m hh) (some (.int (mCount m 12))) (wW pg nw kp sn ks fo ft fe gt mx re m hh) := by
  refine zK_of 0 rfl (by decide) trivial (Nat.le_of_ble_eq_true rfl) rfl ?_
  refine z_iload_n iX8_countOf_0 rfl ?_
  refine z_tabIn (off := 135) (tgt := 136) iX8_countOf_1 (by decide +kernel) (by decide +kernel) (by decide +kernel) (by decide) ?_
  refine z_aload_n iX8_countOf_136 rfl ?_
  refine z_getf iX8_countOf_137 fX8_256 (wm) (mF_20 _ _) (by decide) ?_
  exact z_ireturn iX8_countOf_140 (rfl) (rfl)
set_option maxRecDepth 20000 in
set_option maxHeartbeats 1000000 in
theorem cm_countOf (G : zG) (pg nw kp sn ks fo ft fe gt mx : zs) (re : Nat → Int64) (m : zs) (hh : Int64) (hm : mOK m) (w : Nat) (hw : w ≤ 12) : zK G mX8_countOf [.ref 49, .int (nI w)] (wW pg nw kp sn ks fo ft fe gt mx re m hh) (some (.int (mCount m w))) (wW pg nw kp sn ks fo ft fe gt mx re m hh) := by
  rcases (show w = 0 ∨ w = 1 ∨ w = 2 ∨ w = 3 ∨ w = 4 ∨ w = 5 ∨ w = 6 ∨ w = 7 ∨ w = 8 ∨ w = 9 ∨ w = 10 ∨ w = 11 ∨ w = 12 by omega) with rfl | rfl | rfl | rfl | rfl | rfl | rfl | rfl | rfl | rfl | rfl | rfl | rfl
  · exact cm_count_0 G pg nw kp sn ks fo ft fe gt mx re m hh hm
  · exact cm_count_1 G pg nw kp sn ks fo ft fe gt mx re m hh hm
  · exact cm_count_2 G pg nw kp sn ks fo ft fe gt mx re m hh hm
  · exact cm_count_3 G pg nw kp sn ks fo ft fe gt mx re m hh hm
  · exact cm_count_4 G pg nw kp sn ks fo ft fe gt mx re m hh hm
  · exact cm_count_5 G pg nw kp sn ks fo ft fe gt mx re m hh hm
  · exact cm_count_6 G pg nw kp sn ks fo ft fe gt mx re m hh hm
  · exact cm_count_7 G pg nw kp sn ks fo ft fe gt mx re m hh hm
  · exact cm_count_8 G pg nw kp sn ks fo ft fe gt mx re m hh hm
  · exact cm_count_9 G pg nw kp sn ks fo ft fe gt mx re m hh hm
  · exact cm_count_10 G pg nw kp sn ks fo ft fe gt mx re m hh hm
  · exact cm_count_11 G pg nw kp sn ks fo ft fe gt mx re m hh hm
  · exact cm_count_12 G pg nw kp sn ks fo ft fe gt mx re m hh hm
set_option maxRecDepth 20000 in
set_option maxHeartbeats 1000000 in
theorem cm_countO (G : zG) (pg nw kp sn ks fo ft fe gt mx : zs) (re : Nat → Int64) (m : zs) (hh : Int64) (k : Int32) (h : ∀ j, j ≤ 12 → ¬ k = nI j) : zK G mX8_countOf [.ref 49, .int k] (wW pg nw kp sn ks fo ft fe gt mx re m hh) (some (.int (-102))) (wW pg nw kp sn ks fo ft fe gt mx re m hh) := by
  refine zK_of 0 rfl (by decide) trivial (Nat.le_of_ble_eq_true rfl) rfl ?_
  refine z_iload_n iX8_countOf_0 rfl ?_
  refine z_tabOut (tgt := 141) iX8_countOf_1 (zsw_out 0 12 (fun j _ h2 => h j h2)) (by decide) ?_
  refine z_bipush iX8_countOf_141 zb_m102 ?_
  exact z_ireturn iX8_countOf_143 (rfl) (rfl)
set_option maxRecDepth 20000 in
set_option maxHeartbeats 1000000 in
theorem cm_countX (G : zG) (pg nw kp sn ks fo ft fe gt mx : zs) (re : Nat → Int64) (m : zs) (hh : Int64) (k v : Int32) (hc : zK G mX8_countOf [.ref 49, .int k] (wW pg nw kp sn ks fo ft fe gt mx re m hh) (some (.int v)) (wW pg nw kp sn ks fo ft fe gt mx re m hh)) : zK G mX8_count [.ref 49, .int k] (wW pg nw kp sn ks fo ft fe gt mx re m hh) (some (.int (v))) (wW pg nw kp sn ks fo ft fe gt mx re m hh) := by
  refine zK_of 0 rfl (by decide) trivial (Nat.le_of_ble_eq_true rfl) rfl ?_
  refine z_aload_n iX8_count_0 rfl ?_
  refine z_iload_n iX8_count_1 rfl ?_
  refine z_cvi (y1 := mX8_countOf) iX8_count_2 lX8_312 kX8_countOf rfl (hc) (wm) rfl rfl rfl (Nat.le_of_ble_eq_true rfl) (by decide) ?_
  exact z_ireturn iX8_count_5 (rfl) (rfl)
set_option maxRecDepth 20000 in
set_option maxHeartbeats 1000000 in
theorem cm_say (G : zG) (pg nw kp sn ks fo ft fe gt mx : zs) (re : Nat → Int64) (m : zs) (hh : Int64) (v : Int64) : zK G mX8_say [.ref 49, .long v] (wW pg nw kp sn ks fo ft fe gt mx re m hh) none (wW pg nw kp sn ks fo ft fe gt mx re m (31 * hh + v)) := by
  refine zK_of 0 rfl (by decide) trivial (Nat.le_of_ble_eq_true rfl) rfl ?_
  refine z_aload_n iX8_say_0 rfl ?_
  refine z_ldc2 iX8_say_1 gX8_315 ?_
  refine z_aload_n iX8_say_4 rfl ?_
  refine z_getf iX8_say_5 fX8_317 (wm) (mF_38 _ _) (by decide) ?_
  refine z_lmul iX8_say_8 ?_
  refine z_lload_n iX8_say_9 rfl ?_
  refine z_ladd iX8_say_10 ?_
  refine z_putf iX8_say_11 fX8_317 (wm) rfl rfl (Nat.le_of_ble_eq_true rfl) (by decide) ?_
  rw [wm_38]
  exact z_return iX8_say_14 (rfl)
