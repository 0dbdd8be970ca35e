theorem mWin_ok {d k q : Int32} (h1 : xIn d 1 60 = true) (h2 : ¬ k < 0) (h3 : xIn q 0 2 = true) : xWinOk d k q = true := by
  unfold xIn at h1 h3
  rw [Bool.and_eq_true, decide_eq_true_eq, decide_eq_true_eq] at h1 h3
  unfold xWinOk
  rw [decide_eq_true_eq]
  rw [nI_0] at h3
  exact ⟨Int32.not_lt.mpr h1.1, h1.2, h2, Int32.not_lt.mpr h3.1, h3.2⟩
theorem mWin_no1 {d k q : Int32} (h1 : xIn d 1 60 = false) : xWinOk d k q = false := by
  unfold xWinOk
  rw [decide_eq_false_iff_not]
  intro h
  have : xIn d 1 60 = true := by
    unfold xIn
    rw [Bool.and_eq_true, decide_eq_true_eq, decide_eq_true_eq]
    exact ⟨Int32.not_lt.mp h.1, h.2.1⟩
  rw [this] at h1
  cases h1
theorem mWin_no2 {d k q : Int32} (h2 : k < 0) : xWinOk d k q = false := by
  unfold xWinOk
  rw [decide_eq_false_iff_not]
  exact fun h => h.2.2.1 h2
theorem mWin_no3 {d k q : Int32} (h3 : xIn q 0 2 = false) : xWinOk d k q = false := by
  unfold xWinOk
  rw [decide_eq_false_iff_not]
  intro h
  have : xIn q 0 2 = true := by
    unfold xIn
    rw [Bool.and_eq_true, decide_eq_true_eq, decide_eq_true_eq, nI_0]
    exact ⟨Int32.not_lt.mp h.2.2.2.1, h.2.2.2.2⟩
  rw [this] at h3
  cases h3
theorem xIn_n {k a b : Nat} (h1 : a ≤ k) (h2 : k ≤ b) (hb : b < 2 ^ 31) (hk : k < 2 ^ 31) : xIn (nI k) a b = true := by
  unfold xIn
  rw [decide_eq_true (nI_le h1 hk), decide_eq_true (nI_le h2 hb)]
  rfl
set_option maxRecDepth 20000 in
set_option maxHeartbeats 1000000 in
theorem lpm_win (G : zG) (pg nw kp sn ks fo ft fe gt mx : zs) (re : Nat → Int64) (hh : Int64) (d k q : Nat) (hd : d ≤ 60) (hq : q ≤ 2) : ∀ (n i : Nat) (s : Nat) (g z : Int32) (x : zs), mOK x → mHP x → rI x 27 = nI s → s < 2147483648 → 0 < rN x 4 → i + n = d → zS G mX8_winters 59 [some (.ref 49), some (.int (nI d)), some (.int (nI k)), some (.int (nI q)), some (.int g), some (.int z), some (.int (nI i)), none, none] [] (wW pg nw kp sn ks fo ft fe gt mx re x hh) (some (.int (mWinV q (mWin n s g z x)))) (wW pg nw kp sn ks fo ft fe gt mx re (mWin n s g z x).2.2.2 hh) := by
  intro n
  induction n with
  | zero =>
    intro i s g z x hx hp hs hk hb hi
    refine z_iload iX8_winters_59 rfl ?_
    refine z_iload_n iX8_winters_61 rfl ?_
    refine zn_ge iX8_winters_62 (by omega) (by omega) (fun q62 => ?_) (fun q62 => absurd q62 (by omega))
    refine z_iload_n iX8_winters_125 rfl ?_
    refine zn_if_ne iX8_winters_126 (by omega) (fun q126 => ?_) (fun q126 => ?_)
    · refine z_iload_n iX8_winters_134 rfl ?_
      refine z_iconst iX8_winters_135 zk_1 ?_
      refine zn_ne iX8_winters_136 (by omega) (by omega) (fun q136 => ?_) (fun q136 => ?_)
      · refine z_aload_n iX8_winters_144 rfl ?_
        refine z_getf iX8_winters_145 fX8_277 (wm) (mF_27 _ _) (by decide) ?_
        exact z_ireturn iX8_winters_148 (by simp only [mWinV, mWin]; first | (rw [if_pos (by omega)]; done) | (rw [if_neg (by omega), if_pos (by omega)]; done) | (rw [if_neg (by omega), if_neg (by omega)]; exact hs)) (rfl)
      · refine z_iload iX8_winters_139 rfl ?_
        refine z_goto iX8_winters_141 ?_
        exact z_ireturn iX8_winters_148 (by simp only [mWinV, mWin]; first | (rw [if_pos (by omega)]; done) | (rw [if_neg (by omega), if_pos (by omega)]; done) | (rw [if_neg (by omega), if_neg (by omega)]; exact hs)) (rfl)
    · refine z_iload iX8_winters_129 rfl ?_
      refine z_goto iX8_winters_131 ?_
      exact z_ireturn iX8_winters_148 (by simp only [mWinV, mWin]; first | (rw [if_pos (by omega)]; done) | (rw [if_neg (by omega), if_pos (by omega)]; done) | (rw [if_neg (by omega), if_neg (by omega)]; exact hs)) (rfl)
  | succ n ih =>
    intro i s g z x hx hp hs hk hb hi
    refine z_iload iX8_winters_59 rfl ?_
    refine z_iload_n iX8_winters_61 rfl ?_
    refine zn_ge iX8_winters_62 (by omega) (by omega) (fun q62 => absurd q62 (by omega)) (fun q62 => ?_)
    have h4 : rN x 4 ≤ 3 := hx.2.2.2.2.1
    have hb3 : nxt (nxt s) / 65536 % rN x 4 < 3 := Nat.lt_of_lt_of_le (Nat.mod_lt _ hb) h4
    have hk1 := nxt_lt s
    have hk2 := nxt_lt (nxt s)
    have hm3 : nxt s / 65536 % 3 < 3 := Nat.mod_lt _ (by decide)
    refine z_iconst iX8_winters_65 zk_1 ?_
    refine z_aload_n iX8_winters_66 rfl ?_
    refine z_iconst iX8_winters_67 zk_3 ?_
    refine z_cvi (y1 := mX8_draw) iX8_winters_68 lX8_287 kX8_draw rfl (cm_draw G pg nw kp sn ks fo ft fe gt mx re x hh s 3 hs hk (by decide) (by decide)) (wm) rfl rfl rfl (Nat.le_of_ble_eq_true rfl) (by decide) ?_
    refine z_iadd iX8_winters_71 ?_
    refine z_top nix_add ?_
    refine z_istore iX8_winters_72 rfl (by decide) ?_
    refine z_aload_n iX8_winters_74 rfl ?_
    refine z_aload_n iX8_winters_75 rfl ?_
    refine z_getf iX8_winters_76 fX8_110 (wm) (mF_4 _ _) (by decide) ?_
    refine z_cvi (y1 := mX8_draw) iX8_winters_79 lX8_287 kX8_draw rfl (cm_draw G pg nw kp sn ks fo ft fe gt mx re (uI x 27 (nI (nxt s))) hh (nxt s) (rN x 4) rfl hk1 hb (by omega)) (wm) rfl rfl rfl (Nat.le_of_ble_eq_true rfl) (by decide) ?_
    refine z_istore iX8_winters_82 rfl (by decide) ?_
    refine z_iload iX8_winters_84 rfl ?_
    refine z_aload_n iX8_winters_86 rfl ?_
    refine z_iload iX8_winters_87 rfl ?_
    refine z_cvi (y1 := mX8_hasLight) iX8_winters_89 lX8_216 kX8_hasLight rfl (cm_hasLight G pg nw kp sn ks fo ft fe gt mx re (mWx s x) hh hx (mWb s x) hb3) (wm) rfl rfl rfl (Nat.le_of_ble_eq_true rfl) (by decide) ?_
    refine zb_if_eq iX8_winters_92 (fun q92 => ?_) (fun q92 => ?_)
    · have ht : mTop (mWx s x) (mWb s x) = none := Option.not_isSome_iff_eq_none.mp (fun e => absurd (q92.symm.trans e) (by decide))
      refine z_iconst iX8_winters_106 zk_0 ?_
      refine z_heap (g2 := wW pg nw kp sn ks fo ft fe gt mx re (mWc s x) hh) (by first | rw [mWc_some ht] | rw [mWc_none ht]) ?_
      refine z_iadd iX8_winters_107 ?_
      refine z_top (v := mWg s g x) (by first | exact (mWg_some ht).symm | exact (mWg_none ht).symm) ?_
      refine z_istore iX8_winters_108 rfl (by decide) ?_
      refine z_iload iX8_winters_110 rfl ?_
      refine z_aload_n iX8_winters_112 rfl ?_
      refine z_cvi (y1 := mX8_dayThen) iX8_winters_113 lX8_190 kX8_dayThen rfl (cm_day G pg nw kp sn ks fo ft fe gt mx re (mWc s x) hh (mWc_ok hx) (mWc_hp hp)) (wm) rfl rfl rfl (Nat.le_of_ble_eq_true rfl) (by decide) ?_
      refine z_iadd iX8_winters_116 ?_
      refine z_istore iX8_winters_117 rfl (by decide) ?_
      refine z_iinc iX8_winters_119 rfl nix_inc rfl (by decide) ?_
      refine z_goto iX8_winters_122 ?_
      have e0 := ih (i + 1) (nxt (nxt s)) (mWg s g x) (z + nI (mDay (mWc s x)).1) (mDay (mWc s x)).2 (mDay_ok (mWc_ok hx)) (mDay_hp (mWc_hp hp)) ((mDay_I _ _).trans (mWc_27 s x)) (nxt_lt _) (by rw [mDay_N, mWc_N]; exact hb) (by omega)
      rw [mWin]
      exact z_weak (zle_w (by simp [zle, zf3])) e0
    · obtain ⟨t, ht⟩ := Option.isSome_iff_exists.mp q92
      refine z_aload_n iX8_winters_95 rfl ?_
      refine z_iload iX8_winters_96 rfl ?_
      refine z_iload iX8_winters_98 rfl ?_
      refine z_cvi (y1 := mX8_cutThen) iX8_winters_100 lX8_219 kX8_cutThen rfl (cm_cut G pg nw kp sn ks fo ft fe gt mx re (mWx s x) hh hx (mWb s x) hb3 (nI (mWmu s)) t ht) (wm) rfl rfl rfl (Nat.le_of_ble_eq_true rfl) (by decide) ?_
      refine z_goto iX8_winters_103 ?_
      refine z_heap (g2 := wW pg nw kp sn ks fo ft fe gt mx re (mWc s x) hh) (by first | rw [mWc_some ht] | rw [mWc_none ht]) ?_
      refine z_iadd iX8_winters_107 ?_
      refine z_top (v := mWg s g x) (by first | exact (mWg_some ht).symm | exact (mWg_none ht).symm) ?_
      refine z_istore iX8_winters_108 rfl (by decide) ?_
      refine z_iload iX8_winters_110 rfl ?_
      refine z_aload_n iX8_winters_112 rfl ?_
      refine z_cvi (y1 := mX8_dayThen) iX8_winters_113 lX8_190 kX8_dayThen rfl (cm_day G pg nw kp sn ks fo ft fe gt mx re (mWc s x) hh (mWc_ok hx) (mWc_hp hp)) (wm) rfl rfl rfl (Nat.le_of_ble_eq_true rfl) (by decide) ?_
      refine z_iadd iX8_winters_116 ?_
      refine z_istore iX8_winters_117 rfl (by decide) ?_
      refine z_iinc iX8_winters_119 rfl nix_inc rfl (by decide) ?_
      refine z_goto iX8_winters_122 ?_
      have e0 := ih (i + 1) (nxt (nxt s)) (mWg s g x) (z + nI (mDay (mWc s x)).1) (mDay (mWc s x)).2 (mDay_ok (mWc_ok hx)) (mDay_hp (mWc_hp hp)) ((mDay_I _ _).trans (mWc_27 s x)) (nxt_lt _) (by rw [mDay_N, mWc_N]; exact hb) (by omega)
      rw [mWin]
      exact z_weak (zle_w (by simp [zle, zf3])) e0
set_option maxRecDepth 20000 in
set_option maxHeartbeats 1000000 in
theorem cm_win0 (G : zG) (pg nw kp sn ks fo ft fe gt mx : zs) (re : Nat → Int64) (m : zs) (hh : Int64) (d k q : Int32) (h : xWinOk d k q = false) : zK G mX8_winters [.ref 49, .int d, .int k, .int q] (wW pg nw kp sn ks fo ft fe gt mx re m hh) (some (.int (-102))) (wW pg nw kp sn ks fo ft fe gt mx re m hh) := by
  refine zK_of 5 rfl (by decide) trivial (Nat.le_of_ble_eq_true rfl) rfl ?_
  refine z_iload_n iX8_winters_0 rfl ?_
  refine z_i2l iX8_winters_1 ?_
  refine z_lconst iX8_winters_2 zl_1 ?_
  refine z_ldc2 iX8_winters_3 gX8_285 ?_
  refine z_csi (y1 := mX8_in) iX8_winters_6 lX8_79 kX8_in rfl (c_in32 G _ d 1 60 (by decide +kernel) (by decide +kernel)) rfl rfl (Nat.le_of_ble_eq_true rfl) ?_
  refine zb_if_eq iX8_winters_9 (fun q9 => ?_) (fun q9 => ?_)
  · refine z_bipush iX8_winters_28 zb_m102 ?_
    exact z_ireturn iX8_winters_30 (rfl) (rfl)
  · refine z_iload_n iX8_winters_12 rfl ?_
    refine z_if_lt iX8_winters_13 (fun q13 => ?_) (fun q13 => ?_)
    · refine z_bipush iX8_winters_28 zb_m102 ?_
      exact z_ireturn iX8_winters_30 (rfl) (rfl)
    · refine z_iload_n iX8_winters_16 rfl ?_
      refine z_i2l iX8_winters_17 ?_
      refine z_lconst iX8_winters_18 zl_0 ?_
      refine z_ldc2 iX8_winters_19 gX8_254 ?_
      refine z_csi (y1 := mX8_in) iX8_winters_22 lX8_79 kX8_in rfl (c_in32 G _ q 0 2 (by decide +kernel) (by decide +kernel)) rfl rfl (Nat.le_of_ble_eq_true rfl) ?_
      refine zb_if_ne iX8_winters_25 (fun q25 => ?_) (fun q25 => ?_)
      · exact absurd h (by rw [mWin_ok q9 q13 q25]; decide)
      · refine z_bipush iX8_winters_28 zb_m102 ?_
        exact z_ireturn iX8_winters_30 (rfl) (rfl)
set_option maxRecDepth 20000 in
set_option maxHeartbeats 1000000 in
theorem cm_win1 (G : zG) (pg nw kp sn ks fo ft fe gt mx : zs) (re : Nat → Int64) (m : zs) (hh : Int64) (hm : mOK m) (d k q : Int32) (h : xWinOk d k q = true) (hb : rN m 4 = 0) : zK G mX8_winters [.ref 49, .int d, .int k, .int q] (wW pg nw kp sn ks fo ft fe gt mx re m hh) (some (.int (-103))) (wW pg nw kp sn ks fo ft fe gt mx re m hh) := by
  refine zK_of 5 rfl (by decide) trivial (Nat.le_of_ble_eq_true rfl) rfl ?_
  refine z_iload_n iX8_winters_0 rfl ?_
  refine z_i2l iX8_winters_1 ?_
  refine z_lconst iX8_winters_2 zl_1 ?_
  refine z_ldc2 iX8_winters_3 gX8_285 ?_
  refine z_csi (y1 := mX8_in) iX8_winters_6 lX8_79 kX8_in rfl (c_in32 G _ d 1 60 (by decide +kernel) (by decide +kernel)) rfl rfl (Nat.le_of_ble_eq_true rfl) ?_
  refine zb_if_eq iX8_winters_9 (fun q9 => ?_) (fun q9 => ?_)
  · exact absurd h (by first | (rw [mWin_no1 q9]; decide) | (rw [mWin_no2 q13]; decide) | (rw [mWin_no3 q25]; decide))
  · refine z_iload_n iX8_winters_12 rfl ?_
    refine z_if_lt iX8_winters_13 (fun q13 => ?_) (fun q13 => ?_)
    · exact absurd h (by first | (rw [mWin_no1 q9]; decide) | (rw [mWin_no2 q13]; decide) | (rw [mWin_no3 q25]; decide))
    · refine z_iload_n iX8_winters_16 rfl ?_
      refine z_i2l iX8_winters_17 ?_
      refine z_lconst iX8_winters_18 zl_0 ?_
      refine z_ldc2 iX8_winters_19 gX8_254 ?_
      refine z_csi (y1 := mX8_in) iX8_winters_22 lX8_79 kX8_in rfl (c_in32 G _ q 0 2 (by decide +kernel) (by decide +kernel)) rfl rfl (Nat.le_of_ble_eq_true rfl) ?_
      refine zb_if_ne iX8_winters_25 (fun q25 => ?_) (fun q25 => ?_)
      · refine z_aload_n iX8_winters_31 rfl ?_
        refine z_cvi (y1 := mX8_lacks) iX8_winters_32 lX8_225 kX8_lacks rfl (cm_lacks G pg nw kp sn ks fo ft fe gt mx re m hh hm) (wm) rfl rfl rfl (Nat.le_of_ble_eq_true rfl) (by decide) ?_
        refine zb_if_eq iX8_winters_35 (fun q35 => absurd hb (of_decide_eq_false q35)) (fun q35 => ?_)
        refine z_bipush iX8_winters_38 zb_m103 ?_
        exact z_ireturn iX8_winters_40 (rfl) (rfl)
      · exact absurd h (by first | (rw [mWin_no1 q9]; decide) | (rw [mWin_no2 q13]; decide) | (rw [mWin_no3 q25]; decide))
set_option maxRecDepth 20000 in
set_option maxHeartbeats 1000000 in
theorem cm_win2 (G : zG) (pg nw kp sn ks fo ft fe gt mx : zs) (re : Nat → Int64) (m : zs) (hh : Int64) (hm : mOK m) (hp : mHP m) (hb : ¬ rN m 4 = 0) (d k q : Nat) (h1 : 1 ≤ d) (h2 : d ≤ 60) (h3 : k < 2147483648) (h4 : q ≤ 2) : zK G mX8_winters [.ref 49, .int (nI d), .int (nI k), .int (nI q)] (wW pg nw kp sn ks fo ft fe gt mx re m hh) (some (.int (mWinV q (mWin d k (nI 0) (nI 0) (mBegin (uI m 27 (nI k))))))) (wW pg nw kp sn ks fo ft fe gt mx re (mWin d k (nI 0) (nI 0) (mBegin (uI m 27 (nI k)))).2.2.2 hh) := by
  refine zK_of 5 rfl (by decide) trivial (Nat.le_of_ble_eq_true rfl) rfl ?_
  refine z_iload_n iX8_winters_0 rfl ?_
  refine z_i2l iX8_winters_1 ?_
  refine z_lconst iX8_winters_2 zl_1 ?_
  refine z_ldc2 iX8_winters_3 gX8_285 ?_
  refine z_csi (y1 := mX8_in) iX8_winters_6 lX8_79 kX8_in rfl (c_in32 G _ _ 1 60 (by decide +kernel) (by decide +kernel)) rfl rfl (Nat.le_of_ble_eq_true rfl) ?_
  refine zb_if_eq iX8_winters_9 (fun q9 => absurd (q9.symm.trans (xIn_n h1 h2 (by decide) (by omega))) (by decide)) (fun q9 => ?_)
  refine z_iload_n iX8_winters_12 rfl ?_
  refine zn_if_lt iX8_winters_13 (by omega) ?_
  refine z_iload_n iX8_winters_16 rfl ?_
  refine z_i2l iX8_winters_17 ?_
  refine z_lconst iX8_winters_18 zl_0 ?_
  refine z_ldc2 iX8_winters_19 gX8_254 ?_
  refine z_csi (y1 := mX8_in) iX8_winters_22 lX8_79 kX8_in rfl (c_in32 G _ _ 0 2 (by decide +kernel) (by decide +kernel)) rfl rfl (Nat.le_of_ble_eq_true rfl) ?_
  refine zb_if_ne iX8_winters_25 (fun q25 => ?_) (fun q25 => absurd (q25.symm.trans (xIn_n (Nat.zero_le q) h4 (by decide) (by omega))) (by decide))
  refine z_aload_n iX8_winters_31 rfl ?_
  refine z_cvi (y1 := mX8_lacks) iX8_winters_32 lX8_225 kX8_lacks rfl (cm_lacks G pg nw kp sn ks fo ft fe gt mx re m hh hm) (wm) rfl rfl rfl (Nat.le_of_ble_eq_true rfl) (by decide) ?_
  refine zb_if_eq iX8_winters_35 (fun q35 => ?_) (fun q35 => absurd (of_decide_eq_true q35) hb)
  refine z_aload_n iX8_winters_41 rfl ?_
  refine z_iload_n iX8_winters_42 rfl ?_
  refine z_putf iX8_winters_43 fX8_277 (wm) rfl rfl (Nat.le_of_ble_eq_true rfl) (by decide) ?_
  rw [wm_27]
  refine z_aload_n iX8_winters_46 rfl ?_
  refine z_cvv (y1 := mX8_begin) iX8_winters_47 lX8_165 kX8_begin rfl (cm_begin G pg nw kp sn ks fo ft fe gt mx re (uI m 27 (nI k)) hh) (wm) rfl rfl rfl (Nat.le_of_ble_eq_true rfl) (by decide) ?_
  refine z_iconst iX8_winters_50 zk_0 ?_
  refine z_istore iX8_winters_51 rfl (by decide) ?_
  refine z_iconst iX8_winters_53 zk_0 ?_
  refine z_istore iX8_winters_54 rfl (by decide) ?_
  refine z_iconst iX8_winters_56 zk_0 ?_
  refine z_istore iX8_winters_57 rfl (by decide) ?_
  exact lpm_win G pg nw kp sn ks fo ft fe gt mx re hh d k q h2 h4 d 0 k (nI 0) (nI 0) (mBegin (uI m 27 (nI k))) hm hp rfl h3 (by show 0 < rN m 4; omega) (Nat.zero_add _)
