def xNo (k : Int32) (n : Nat) : Bool := decide (k < 0) || !decide (k < nI n)
theorem xNo_f {k : Int32} {n : Nat} (h : xNo k n = false) (hn : n < 2 ^ 31) : ∃ c, c < n ∧ k = nI c := by
  unfold xNo at h
  simp only [Bool.or_eq_false_iff, decide_eq_false_iff_not, Bool.not_eq_false', decide_eq_true_eq] at h
  obtain ⟨j, hj, rfl⟩ := nI_of h.1
  exact ⟨j, (nI_ltI hj hn).mp h.2, rfl⟩
theorem xNo_n {c n : Nat} (h : c < n) (hn : n < 2 ^ 31) : xNo (nI c) n = false := by
  unfold xNo
  simp [nI_pos (show c < 2 ^ 31 by omega), (nI_ltI (show c < 2 ^ 31 by omega) hn).mpr h]
set_option maxRecDepth 20000 in
set_option maxHeartbeats 1000000 in
theorem c_with (G : zG) (g : zh) (h : Int64) (v : Int32) : zK G mX7_with [.long h, .int v] g (some (.long (31 * h + v.toInt64))) g := by
  refine zK_of 0 rfl (by decide) trivial (Nat.le_of_ble_eq_true rfl) rfl ?_
  refine z_ldc2 iX7_with_0 gX7_255 ?_
  refine z_lload_n iX7_with_3 rfl ?_
  refine z_lmul iX7_with_4 ?_
  refine z_iload_n iX7_with_5 rfl ?_
  refine z_i2l iX7_with_6 ?_
  refine z_ladd iX7_with_7 ?_
  exact z_lreturn iX7_with_8 (rfl) (rfl)
set_option maxRecDepth 20000 in
set_option maxHeartbeats 1000000 in
theorem c_noBarn (G : zG) (pg nw kp sn ks fo ft fe gt mx : zs) (re : Nat → Int64) (m : zs) (hh : Int64) (hs : bOK nw) : zK G mX7_isNoBarn [.ref 0] (wW pg nw kp sn ks fo ft fe gt mx re m hh) (some (.int (zbo (decide (rN nw 1 = 0))))) (wW pg nw kp sn ks fo ft fe gt mx re m hh) := by
  obtain ⟨h11, h10, h6, h5, h0, h1⟩ := id hs
  refine zK_of 0 rfl (by decide) (zbo_n _) (Nat.le_of_ble_eq_true rfl) rfl ?_
  refine z_aload_n iX7_isNoBarn_0 rfl ?_
  refine z_getf iX7_isNoBarn_1 fX7_19 (wx) (xF_1 _) (by decide) ?_
  refine z_getf iX7_isNoBarn_4 fX7_85 (w3_o) (BF_1 _ _) (by decide) ?_
  refine zn_if_ne iX7_isNoBarn_7 (by omega) (fun q7 => ?_) (fun q7 => ?_)
  · refine z_iconst iX7_isNoBarn_14 zk_0 ?_
    exact z_ireturn iX7_isNoBarn_15 (by first | exact zbo_t (by simp [*]) | exact zbo_f (by simp [*])) (rfl)
  · refine z_iconst iX7_isNoBarn_10 zk_1 ?_
    refine z_goto iX7_isNoBarn_11 ?_
    exact z_ireturn iX7_isNoBarn_15 (by first | exact zbo_t (by simp [*]) | exact zbo_f (by simp [*])) (rfl)
set_option maxRecDepth 20000 in
set_option maxHeartbeats 1000000 in
theorem c_noCart (G : zG) (pg nw kp sn ks fo ft fe gt mx : zs) (re : Nat → Int64) (m : zs) (hh : Int64) (k : Int32) : zK G mX7_isNoCart [.ref 0, .int k] (wW pg nw kp sn ks fo ft fe gt mx re m hh) (some (.int (zbo (xNo k (rN nw 1))))) (wW pg nw kp sn ks fo ft fe gt mx re m hh) := by
  refine zK_of 0 rfl (by decide) (zbo_n _) (Nat.le_of_ble_eq_true rfl) rfl ?_
  refine z_iload_n iX7_isNoCart_0 rfl ?_
  refine z_if_lt iX7_isNoCart_1 (fun q1 => ?_) (fun q1 => ?_)
  · refine z_iconst iX7_isNoCart_15 zk_1 ?_
    refine z_goto iX7_isNoCart_16 ?_
    exact z_ireturn iX7_isNoCart_20 (by first | exact zbo_t (by simp [xNo, *]) | exact zbo_f (by simp [xNo, *])) (rfl)
  · refine z_iload_n iX7_isNoCart_4 rfl ?_
    refine z_aload_n iX7_isNoCart_5 rfl ?_
    refine z_getf iX7_isNoCart_6 fX7_19 (wx) (xF_1 _) (by decide) ?_
    refine z_getf iX7_isNoCart_9 fX7_85 (w3_o) (BF_1 _ _) (by decide) ?_
    refine z_icmp_lt iX7_isNoCart_12 (fun q12 => ?_) (fun q12 => ?_)
    · refine z_iconst iX7_isNoCart_19 zk_0 ?_
      exact z_ireturn iX7_isNoCart_20 (by first | exact zbo_t (by simp [xNo, *]) | exact zbo_f (by simp [xNo, *])) (rfl)
    · refine z_iconst iX7_isNoCart_15 zk_1 ?_
      refine z_goto iX7_isNoCart_16 ?_
      exact z_ireturn iX7_isNoCart_20 (by first | exact zbo_t (by simp [xNo, *]) | exact zbo_f (by simp [xNo, *])) (rfl)
set_option maxRecDepth 20000 in
set_option maxHeartbeats 1000000 in
theorem c_noBay (G : zG) (pg nw kp sn ks fo ft fe gt mx : zs) (re : Nat → Int64) (m : zs) (hh : Int64) (k : Int32) : zK G mX7_isNoBay [.ref 0, .int k] (wW pg nw kp sn ks fo ft fe gt mx re m hh) (some (.int (zbo (xNo k (rN nw 0))))) (wW pg nw kp sn ks fo ft fe gt mx re m hh) := by
  refine zK_of 0 rfl (by decide) (zbo_n _) (Nat.le_of_ble_eq_true rfl) rfl ?_
  refine z_iload_n iX7_isNoBay_0 rfl ?_
  refine z_if_lt iX7_isNoBay_1 (fun q1 => ?_) (fun q1 => ?_)
  · refine z_iconst iX7_isNoBay_15 zk_1 ?_
    refine z_goto iX7_isNoBay_16 ?_
    exact z_ireturn iX7_isNoBay_20 (by first | exact zbo_t (by simp [xNo, *]) | exact zbo_f (by simp [xNo, *])) (rfl)
  · refine z_iload_n iX7_isNoBay_4 rfl ?_
    refine z_aload_n iX7_isNoBay_5 rfl ?_
    refine z_getf iX7_isNoBay_6 fX7_19 (wx) (xF_1 _) (by decide) ?_
    refine z_getf iX7_isNoBay_9 fX7_219 (w3_o) (BF_0 _ _) (by decide) ?_
    refine z_icmp_lt iX7_isNoBay_12 (fun q12 => ?_) (fun q12 => ?_)
    · refine z_iconst iX7_isNoBay_19 zk_0 ?_
      exact z_ireturn iX7_isNoBay_20 (by first | exact zbo_t (by simp [xNo, *]) | exact zbo_f (by simp [xNo, *])) (rfl)
    · refine z_iconst iX7_isNoBay_15 zk_1 ?_
      refine z_goto iX7_isNoBay_16 ?_
      exact z_ireturn iX7_isNoBay_20 (by first | exact zbo_t (by simp [xNo, *]) | exact zbo_f (by simp [xNo, *])) (rfl)
def xLetV (pg : zs) (k : Int32) : Int32 := if k < nI 1 then -102 else if k ≤ nI 126 then (if rN pg 1 < 38 then nI (rN pg 1 + 1) else -104) else -102
def xLetP (pg : zs) (k : Int32) : zs := if k < nI 1 then pg else if k ≤ nI 126 then (if rN pg 1 < 38 then pAdd pg k else pg) else pg
set_option maxRecDepth 20000 in
set_option maxHeartbeats 1000000 in
theorem c_letter (G : zG) (pg nw kp sn ks fo ft fe gt mx : zs) (re : Nat → Int64) (m : zs) (hh : Int64) (hz : rN pg 1 ≤ 38) (k : Int32) : zK G mX7_letter [.ref 0, .int k] (wW pg nw kp sn ks fo ft fe gt mx re m hh) (some (.int (xLetV pg k))) (wW (xLetP pg k) nw kp sn ks fo ft fe gt mx re m hh) := by
  refine zK_of 0 rfl (by decide) trivial (Nat.le_of_ble_eq_true rfl) rfl ?_
  refine z_iload_n iX7_letter_0 rfl ?_
  refine z_iconst iX7_letter_1 zk_1 ?_
  refine z_icmp_lt iX7_letter_2 (fun q2 => ?_) (fun q2 => ?_)
  · refine z_bipush iX7_letter_11 zb_m102 ?_
    exact z_ireturn iX7_letter_13 (by first | (simp [xLetV, *]; done) | (simp [xLetP, *]; done) | (rw [xLetV, if_neg q2, if_pos q8, if_neg (by omega)]; done) | (rw [xLetP, if_neg q2, if_pos q8, if_neg (by omega)]; done) | (rw [xLetV, if_neg q2, if_pos q8, if_pos q23]; rfl) | (rw [xLetP, if_neg q2, if_pos q8, if_pos q23]; done)) (by first | (simp [xLetV, *]; done) | (simp [xLetP, *]; done) | (rw [xLetV, if_neg q2, if_pos q8, if_neg (by omega)]; done) | (rw [xLetP, if_neg q2, if_pos q8, if_neg (by omega)]; done) | (rw [xLetV, if_neg q2, if_pos q8, if_pos q23]; rfl) | (rw [xLetP, if_neg q2, if_pos q8, if_pos q23]; done))
  · refine z_iload_n iX7_letter_5 rfl ?_
    refine z_bipush iX7_letter_6 zb_126 ?_
    refine z_icmp_le iX7_letter_8 (fun q8 => ?_) (fun q8 => ?_)
    · refine z_aload_n iX7_letter_14 rfl ?_
      refine z_getf iX7_letter_15 fX7_12 (wx) (xF_0 _) (by decide) ?_
      refine z_getf iX7_letter_18 fX7_57 (w1_o) (PF_1 _ _) (by decide) ?_
      refine z_bipush iX7_letter_21 zb_38 ?_
      refine zn_lt iX7_letter_23 (by omega) (by omega) (fun q23 => ?_) (fun q23 => ?_)
      · refine z_aload_n iX7_letter_29 rfl ?_
        refine z_getf iX7_letter_30 fX7_12 (wx) (xF_0 _) (by decide) ?_
        refine z_iload_n iX7_letter_33 rfl ?_
        refine z_cvv (y1 := mX4_append) iX7_letter_34 lX7_61 kX4_append rfl (vP1 (c_pAppend G _ 1 (by decide) _ hz q23 k)) (w1_o) rfl rfl rfl (Nat.le_of_ble_eq_true rfl) (by decide) ?_
        refine z_aload_n iX7_letter_37 rfl ?_
        refine z_getf iX7_letter_38 fX7_12 (wx) (xF_0 _) (by decide) ?_
        refine z_getf iX7_letter_41 fX7_57 (w1_o) (PF_1 _ _) (by decide) ?_
        exact z_ireturn iX7_letter_44 (by first | (simp [xLetV, *]; done) | (simp [xLetP, *]; done) | (rw [xLetV, if_neg q2, if_pos q8, if_neg (by omega)]; done) | (rw [xLetP, if_neg q2, if_pos q8, if_neg (by omega)]; done) | (rw [xLetV, if_neg q2, if_pos q8, if_pos q23]; rfl) | (rw [xLetP, if_neg q2, if_pos q8, if_pos q23]; done)) (by first | (simp [xLetV, *]; done) | (simp [xLetP, *]; done) | (rw [xLetV, if_neg q2, if_pos q8, if_neg (by omega)]; done) | (rw [xLetP, if_neg q2, if_pos q8, if_neg (by omega)]; done) | (rw [xLetV, if_neg q2, if_pos q8, if_pos q23]; rfl) | (rw [xLetP, if_neg q2, if_pos q8, if_pos q23]; done))
      · refine z_bipush iX7_letter_26 zb_m104 ?_
        exact z_ireturn iX7_letter_28 (by first | (simp [xLetV, *]; done) | (simp [xLetP, *]; done) | (rw [xLetV, if_neg q2, if_pos q8, if_neg (by omega)]; done) | (rw [xLetP, if_neg q2, if_pos q8, if_neg (by omega)]; done) | (rw [xLetV, if_neg q2, if_pos q8, if_pos q23]; rfl) | (rw [xLetP, if_neg q2, if_pos q8, if_pos q23]; done)) (by first | (simp [xLetV, *]; done) | (simp [xLetP, *]; done) | (rw [xLetV, if_neg q2, if_pos q8, if_neg (by omega)]; done) | (rw [xLetP, if_neg q2, if_pos q8, if_neg (by omega)]; done) | (rw [xLetV, if_neg q2, if_pos q8, if_pos q23]; rfl) | (rw [xLetP, if_neg q2, if_pos q8, if_pos q23]; done))
    · refine z_bipush iX7_letter_11 zb_m102 ?_
      exact z_ireturn iX7_letter_13 (by first | (simp [xLetV, *]; done) | (simp [xLetP, *]; done) | (rw [xLetV, if_neg q2, if_pos q8, if_neg (by omega)]; done) | (rw [xLetP, if_neg q2, if_pos q8, if_neg (by omega)]; done) | (rw [xLetV, if_neg q2, if_pos q8, if_pos q23]; rfl) | (rw [xLetP, if_neg q2, if_pos q8, if_pos q23]; done)) (by first | (simp [xLetV, *]; done) | (simp [xLetP, *]; done) | (rw [xLetV, if_neg q2, if_pos q8, if_neg (by omega)]; done) | (rw [xLetP, if_neg q2, if_pos q8, if_neg (by omega)]; done) | (rw [xLetV, if_neg q2, if_pos q8, if_pos q23]; rfl) | (rw [xLetP, if_neg q2, if_pos q8, if_pos q23]; done))
set_option maxRecDepth 20000 in
set_option maxHeartbeats 1000000 in
theorem c_blank (G : zG) (pg nw kp sn ks fo ft fe gt mx : zs) (re : Nat → Int64) (m : zs) (hh : Int64)  : zK G mX7_blank [.ref 0] (wW pg nw kp sn ks fo ft fe gt mx re m hh) (some (.int (nI (rN pg 1)))) (wW (uN pg 1 0) nw kp sn ks fo ft fe gt mx re m hh) := by
  refine zK_of 1 rfl (by decide) trivial (Nat.le_of_ble_eq_true rfl) rfl ?_
  refine z_aload_n iX7_blank_0 rfl ?_
  refine z_getf iX7_blank_1 fX7_12 (wx) (xF_0 _) (by decide) ?_
  refine z_getf iX7_blank_4 fX7_57 (w1_o) (PF_1 _ _) (by decide) ?_
  refine z_istore_n iX7_blank_7 rfl (by decide) ?_
  refine z_aload_n iX7_blank_8 rfl ?_
  refine z_getf iX7_blank_9 fX7_12 (wx) (xF_0 _) (by decide) ?_
  refine z_iconst iX7_blank_12 zk_0 ?_
  refine z_putf iX7_blank_13 fX7_57 (w1_o) rfl rfl (Nat.le_of_ble_eq_true rfl) (by decide) ?_
  rw [w1_w1]
  refine z_iload_n iX7_blank_16 rfl ?_
  exact z_ireturn iX7_blank_17 (rfl) (rfl)
set_option maxRecDepth 20000 in
set_option maxHeartbeats 1000000 in
theorem c_fault (G : zG) (pg nw kp sn ks fo ft fe gt mx : zs) (re : Nat → Int64) (m : zs) (hh : Int64) (hz : rN pg 1 ≤ 38) : zK G mX7_fault [.ref 0] (wW pg nw kp sn ks fo ft fe gt mx re m hh) (some (.int (nI (pFault pg)))) (wW pg nw kp sn ks fo ft fe gt mx re m hh) := by
  refine zK_of 0 rfl (by decide) trivial (Nat.le_of_ble_eq_true rfl) rfl ?_
  refine z_aload_n iX7_fault_0 rfl ?_
  refine z_getf iX7_fault_1 fX7_12 (wx) (xF_0 _) (by decide) ?_
  refine z_cvi (y1 := mX4_firstFault) iX7_fault_4 lX7_65 kX4_firstFault rfl (vP1 (c_pFault G _ 1 (by decide) _ hz)) (w1_o) rfl rfl rfl (Nat.le_of_ble_eq_true rfl) (by decide) ?_
  exact z_ireturn iX7_fault_7 (rfl) (rfl)
set_option maxRecDepth 20000 in
set_option maxHeartbeats 1000000 in
theorem c_barn0 (G : zG) (pg nw kp sn ks fo ft fe gt mx : zs) (re : Nat → Int64) (m : zs) (hh : Int64) (hz : rN pg 1 ≤ 38) (h : pWhole pg = false) : zK G mX7_barn [.ref 0] (wW pg nw kp sn ks fo ft fe gt mx re m hh) (some (.int (-103))) (wW pg nw kp sn ks fo ft fe gt mx re m hh) := by
  refine zK_of 0 rfl (by decide) trivial (Nat.le_of_ble_eq_true rfl) rfl ?_
  refine z_aload_n iX7_barn_0 rfl ?_
  refine z_getf iX7_barn_1 fX7_12 (wx) (xF_0 _) (by decide) ?_
  refine z_cvi (y1 := mX4_isWhole) iX7_barn_4 lX7_69 kX4_isWhole rfl (vP1 (c_pWhole G _ 1 (by decide) _ hz)) (w1_o) rfl rfl rfl (Nat.le_of_ble_eq_true rfl) (by decide) ?_
  refine zb_if_ne iX7_barn_7 (fun q7 => absurd (q7.symm.trans h) (by decide)) (fun q7 => ?_)
  refine z_bipush iX7_barn_10 zb_m103 ?_
  exact z_ireturn iX7_barn_12 (rfl) (rfl)
set_option maxRecDepth 20000 in
set_option maxHeartbeats 1000000 in
theorem c_barn1 (G : zG) (pg nw kp sn ks fo ft fe gt mx : zs) (re : Nat → Int64) (m : zs) (hh : Int64) (hz : rN pg 1 ≤ 38) (h : pWhole pg = true) (n : Nat) (hn : 4 * n = rN pg 1 + 1) (hg : rGood (rF pg 0) n 0 (0, bEmpty nw)) : zK G mX7_barn [.ref 0] (wW pg nw kp sn ks fo ft fe gt mx re m hh) (some (.int (nI (rN (rRun (rF pg 0) n 0 (0, bEmpty nw)).2 1)))) (wW (uN pg 1 0) ((rRun (rF pg 0) n 0 (0, bEmpty nw)).2) kp (uN sn 3 0) ks fo ft fe gt (uN (uN mx 8 0) 9 (rN mx 9 + 1)) re m hh) := by
  refine zK_of 0 rfl (by decide) trivial (Nat.le_of_ble_eq_true rfl) rfl ?_
  refine z_aload_n iX7_barn_0 rfl ?_
  refine z_getf iX7_barn_1 fX7_12 (wx) (xF_0 _) (by decide) ?_
  refine z_cvi (y1 := mX4_isWhole) iX7_barn_4 lX7_69 kX4_isWhole rfl (vP1 (c_pWhole G _ 1 (by decide) _ hz)) (w1_o) rfl rfl rfl (Nat.le_of_ble_eq_true rfl) (by decide) ?_
  refine zb_if_ne iX7_barn_7 (fun q7 => ?_) (fun q7 => absurd (q7.symm.trans h) (by decide))
  refine z_aload_n iX7_barn_13 rfl ?_
  refine z_getf iX7_barn_14 fX7_12 (wx) (xF_0 _) (by decide) ?_
  refine z_aload_n iX7_barn_17 rfl ?_
  refine z_getf iX7_barn_18 fX7_19 (wx) (xF_1 _) (by decide) ?_
  refine z_cvv (y1 := mX4_readInto) iX7_barn_21 lX7_73 kX4_readInto rfl (c_readInto G pg nw kp sn ks fo ft fe gt mx re m hh hz n hn hg) (w1_o) rfl rfl rfl (Nat.le_of_ble_eq_true rfl) (by decide) ?_
  refine z_aload_n iX7_barn_24 rfl ?_
  refine z_getf iX7_barn_25 fX7_12 (wx) (xF_0 _) (by decide) ?_
  refine z_iconst iX7_barn_28 zk_0 ?_
  refine z_putf iX7_barn_29 fX7_57 (w1_o) rfl rfl (Nat.le_of_ble_eq_true rfl) (by decide) ?_
  rw [w1_w1]
  refine z_aload_n iX7_barn_32 rfl ?_
  refine z_getf iX7_barn_33 fX7_29 (wx) (xF_3 _) (by decide) ?_
  refine z_iconst iX7_barn_36 zk_0 ?_
  refine z_putf iX7_barn_37 fX7_77 (w19_o) rfl rfl (Nat.le_of_ble_eq_true rfl) (by decide) ?_
  rw [w19_w3]
  refine z_aload_n iX7_barn_40 rfl ?_
  refine z_iconst iX7_barn_41 zk_0 ?_
  refine z_putf iX7_barn_42 fX7_78 (wx) rfl rfl (Nat.le_of_ble_eq_true rfl) (by decide) ?_
  rw [wx_8]
  refine z_aload_n iX7_barn_45 rfl ?_
  refine z_dup iX7_barn_46 rfl ?_
  refine z_getf iX7_barn_47 fX7_82 (wx) (xF_9 _) (by decide) ?_
  refine z_iconst iX7_barn_50 zk_1 ?_
  refine z_iadd iX7_barn_51 ?_
  refine z_top nix_add ?_
  refine z_putf iX7_barn_52 fX7_82 (wx) rfl rfl (Nat.le_of_ble_eq_true rfl) (by decide) ?_
  rw [wx_9]
  refine z_aload_n iX7_barn_55 rfl ?_
  refine z_getf iX7_barn_56 fX7_19 (wx) (xF_1 _) (by decide) ?_
  refine z_getf iX7_barn_59 fX7_85 (w3_o) (BF_1 _ _) (by decide) ?_
  exact z_ireturn iX7_barn_62 (rfl) (rfl)
set_option maxRecDepth 20000 in
set_option maxHeartbeats 1000000 in
theorem c_as0 (G : zG) (pg nw kp sn ks fo ft fe gt mx : zs) (re : Nat → Int64) (m : zs) (hh : Int64) (k q : Int32) (h : xNo k (rN nw 1) = true) : zK G mX7_as [.ref 0, .int k, .int q] (wW pg nw kp sn ks fo ft fe gt mx re m hh) (some (.int (-101))) (wW pg nw kp sn ks fo ft fe gt mx re m hh) := by
  refine zK_of 0 rfl (by decide) trivial (Nat.le_of_ble_eq_true rfl) rfl ?_
  refine z_aload_n iX7_as_0 rfl ?_
  refine z_iload_n iX7_as_1 rfl ?_
  refine z_cvi (y1 := mX7_isNoCart) iX7_as_2 lX7_88 kX7_isNoCart rfl (c_noCart G pg nw kp sn ks fo ft fe gt mx re m hh _) (wx) rfl rfl rfl (Nat.le_of_ble_eq_true rfl) (by decide) ?_
  refine zb_if_eq iX7_as_5 (fun q5 => absurd (q5.symm.trans h) (by decide)) (fun q5 => ?_)
  refine z_bipush iX7_as_8 zb_m101 ?_
  exact z_ireturn iX7_as_10 (rfl) (rfl)
def xAs (kd c : Nat) (q : Int32) : Int32 := if q < 0 then -102 else if q < nI 5 then (if kIsA kd q.toNatClampNeg = true then nI c else -1) else -102
set_option maxRecDepth 20000 in
set_option maxHeartbeats 1000000 in
theorem c_as1 (G : zG) (pg nw kp sn ks fo ft fe gt mx : zs) (re : Nat → Int64) (m : zs) (hh : Int64) (hs : bOK nw) (c : Nat) (hc : c < rN nw 1) (q : Int32) : zK G mX7_as [.ref 0, .int (nI c), .int q] (wW pg nw kp sn ks fo ft fe gt mx re m hh) (some (.int (xAs (rA nw 5 c) c q))) (wW pg nw kp sn ks fo ft fe gt mx re m hh) := by
  obtain ⟨h11, h10, h6, h5, h0, h1⟩ := id hs
  have h5c := h5 c
  refine zK_of 0 rfl (by decide) trivial (Nat.le_of_ble_eq_true rfl) rfl ?_
  refine z_aload_n iX7_as_0 rfl ?_
  refine z_iload_n iX7_as_1 rfl ?_
  refine z_cvi (y1 := mX7_isNoCart) iX7_as_2 lX7_88 kX7_isNoCart rfl (c_noCart G pg nw kp sn ks fo ft fe gt mx re m hh _) (wx) rfl rfl rfl (Nat.le_of_ble_eq_true rfl) (by decide) ?_
  refine zb_if_eq iX7_as_5 (fun q5 => ?_) (fun q5 => absurd (q5.symm.trans (xNo_n hc (by omega))) (by decide))
  refine z_iload_n iX7_as_11 rfl ?_
  refine z_if_lt iX7_as_12 (fun q12 => ?_) (fun q12 => ?_)
  · refine z_bipush iX7_as_20 zb_m102 ?_
    exact z_ireturn iX7_as_22 (by simp [xAs, *]) (rfl)
  · refine z_iload_n iX7_as_15 rfl ?_
    refine z_iconst iX7_as_16 zk_5 ?_
    refine z_icmp_lt iX7_as_17 (fun q17 => ?_) (fun q17 => ?_)
    · obtain ⟨j, hj, rfl⟩ := nI_of q12
      have hq2 : j < 2 ^ 31 := hj
      refine z_aload_n iX7_as_23 rfl ?_
      refine z_getf iX7_as_24 fX7_19 (wx) (xF_1 _) (by decide) ?_
      refine z_getf iX7_as_27 fX7_95 (w3_o) (BF_5 _ _) (by decide) ?_
      refine z_iload_n iX7_as_30 rfl ?_
      refine z_iaload iX7_as_31 (w3_5) rfl (by omega) (by decide) (by decide) ?_
      refine z_iload_n iX7_as_32 rfl ?_
      refine z_csi (y1 := mX3_isA) iX7_as_33 lX7_136 kX3_isA rfl (c_isA G _ _ _ (by omega) hq2) rfl rfl (Nat.le_of_ble_eq_true rfl) ?_
      refine zb_if_eq iX7_as_36 (fun q36 => ?_) (fun q36 => ?_)
      · refine z_iconst iX7_as_43 zk_m1 ?_
        exact z_ireturn iX7_as_44 (by simp only [xAs, if_neg q12, if_pos q17, nI_clamp hj]; simp [q36]) (rfl)
      · refine z_iload_n iX7_as_39 rfl ?_
        refine z_goto iX7_as_40 ?_
        exact z_ireturn iX7_as_44 (by simp only [xAs, if_neg q12, if_pos q17, nI_clamp hj]; simp [q36]) (rfl)
    · refine z_bipush iX7_as_20 zb_m102 ?_
      exact z_ireturn iX7_as_22 (by simp [xAs, *]) (rfl)
set_option maxRecDepth 20000 in
set_option maxHeartbeats 1000000 in
theorem c_cut0 (G : zG) (pg nw kp sn ks fo ft fe gt mx : zs) (re : Nat → Int64) (m : zs) (hh : Int64) (k q : Int32) (h : xNo k (rN nw 0) = true) : zK G mX7_cut [.ref 0, .int k, .int q] (wW pg nw kp sn ks fo ft fe gt mx re m hh) (some (.int (-101))) (wW pg nw kp sn ks fo ft fe gt mx re m hh) := by
  refine zK_of 0 rfl (by decide) trivial (Nat.le_of_ble_eq_true rfl) rfl ?_
  refine z_aload_n iX7_cut_0 rfl ?_
  refine z_iload_n iX7_cut_1 rfl ?_
  refine z_cvi (y1 := mX7_isNoBay) iX7_cut_2 lX7_140 kX7_isNoBay rfl (c_noBay G pg nw kp sn ks fo ft fe gt mx re m hh _) (wx) rfl rfl rfl (Nat.le_of_ble_eq_true rfl) (by decide) ?_
  refine zb_if_eq iX7_cut_5 (fun q5 => absurd (q5.symm.trans h) (by decide)) (fun q5 => ?_)
  refine z_bipush iX7_cut_8 zb_m101 ?_
  exact z_ireturn iX7_cut_10 (rfl) (rfl)
def xCutV (nw : zs) (b : Nat) (q : Int32) : Int32 := if q < nI 1 then -102 else if q ≤ nI 3 then (if rA nw 10 b = 0 then -103 else if rI nw 3 < nI 9000 then bGive nw b q else -104) else -102
def xCutB (nw : zs) (b : Nat) (q : Int32) : zs := if q < nI 1 then nw else if q ≤ nI 3 then (if rA nw 10 b = 0 then nw else if rI nw 3 < nI 9000 then bSlice nw b q else nw) else nw
set_option maxRecDepth 20000 in
set_option maxHeartbeats 1000000 in
theorem c_cut1 (G : zG) (pg nw kp sn ks fo ft fe gt mx : zs) (re : Nat → Int64) (m : zs) (hh : Int64) (hs : bOK nw) (c : Nat) (hc : c < rN nw 0) (q : Int32) : zK G mX7_cut [.ref 0, .int (nI c), .int q] (wW pg nw kp sn ks fo ft fe gt mx re m hh) (some (.int (xCutV nw c q))) (wW pg (xCutB nw c q) kp sn ks fo ft fe gt mx re m hh) := by
  obtain ⟨h11, h10, h6, h5, h0, h1⟩ := id hs
  have hh2 := h10 c
  refine zK_of 0 rfl (by decide) trivial (Nat.le_of_ble_eq_true rfl) rfl ?_
  refine z_aload_n iX7_cut_0 rfl ?_
  refine z_iload_n iX7_cut_1 rfl ?_
  refine z_cvi (y1 := mX7_isNoBay) iX7_cut_2 lX7_140 kX7_isNoBay rfl (c_noBay G pg nw kp sn ks fo ft fe gt mx re m hh _) (wx) rfl rfl rfl (Nat.le_of_ble_eq_true rfl) (by decide) ?_
  refine zb_if_eq iX7_cut_5 (fun q5 => ?_) (fun q5 => absurd (q5.symm.trans (xNo_n hc (by omega))) (by decide))
  refine z_iload_n iX7_cut_11 rfl ?_
  refine z_iconst iX7_cut_12 zk_1 ?_
  refine z_icmp_lt iX7_cut_13 (fun q13 => ?_) (fun q13 => ?_)
  · refine z_bipush iX7_cut_21 zb_m102 ?_
    exact z_ireturn iX7_cut_23 (by simp [xCutV, *]) (by simp [xCutB, *])
  · refine z_iload_n iX7_cut_16 rfl ?_
    refine z_iconst iX7_cut_17 zk_3 ?_
    refine z_icmp_le iX7_cut_18 (fun q18 => ?_) (fun q18 => ?_)
    · refine z_aload_n iX7_cut_24 rfl ?_
      refine z_getf iX7_cut_25 fX7_19 (wx) (xF_1 _) (by decide) ?_
      refine z_getf iX7_cut_28 fX7_143 (w3_o) (BF_10 _ _) (by decide) ?_
      refine z_iload_n iX7_cut_31 rfl ?_
      refine z_iaload iX7_cut_32 (w3_10) rfl (by omega) (by decide) (by decide) ?_
      refine zn_if_ne iX7_cut_33 (by omega) (fun q33 => ?_) (fun q33 => ?_)
      · refine z_aload_n iX7_cut_39 rfl ?_
        refine z_getf iX7_cut_40 fX7_19 (wx) (xF_1 _) (by decide) ?_
        refine z_getf iX7_cut_43 fX7_162 (w3_o) (BF_3 _ _) (by decide) ?_
        refine z_sipush iX7_cut_46 zs_9000 ?_
        refine z_icmp_lt iX7_cut_49 (fun q49 => ?_) (fun q49 => ?_)
        · refine z_aload_n iX7_cut_55 rfl ?_
          refine z_getf iX7_cut_56 fX7_19 (wx) (xF_1 _) (by decide) ?_
          refine z_iload_n iX7_cut_59 rfl ?_
          refine z_iload_n iX7_cut_60 rfl ?_
          refine z_cvi (y1 := mX0_slice) iX7_cut_61 lX7_165 kX0_slice rfl (vB3 (c_slice G _ 3 (by decide) _ hs c (by omega) q)) (w3_o) rfl rfl rfl (Nat.le_of_ble_eq_true rfl) (by decide) ?_
          exact z_ireturn iX7_cut_64 (by simp [xCutV, *]) (by simp [xCutB, *])
        · refine z_bipush iX7_cut_52 zb_m104 ?_
          exact z_ireturn iX7_cut_54 (by simp [xCutV, *]) (by simp [xCutB, *])
      · refine z_bipush iX7_cut_36 zb_m103 ?_
        exact z_ireturn iX7_cut_38 (by simp [xCutV, *]) (by simp [xCutB, *])
    · refine z_bipush iX7_cut_21 zb_m102 ?_
      exact z_ireturn iX7_cut_23 (by simp [xCutV, *]) (by simp [xCutB, *])
def xDayV (nw : zs) : Int32 := if rN nw 1 = 0 then -103 else if rN nw 2 < 999 then nI (bDay nw).1 else -104
def xDayB (nw : zs) : zs := if rN nw 1 = 0 then nw else if rN nw 2 < 999 then bD nw else nw
set_option maxRecDepth 20000 in
set_option maxHeartbeats 1000000 in
theorem c_day (G : zG) (pg nw kp sn ks fo ft fe gt mx : zs) (re : Nat → Int64) (m : zs) (hh : Int64) (hs : bOK nw) (hd : rN nw 2 ≤ 999) : zK G mX7_day [.ref 0] (wW pg nw kp sn ks fo ft fe gt mx re m hh) (some (.int (xDayV nw))) (wW pg (xDayB nw) kp sn ks fo ft fe gt mx re m hh) := by
  refine zK_of 0 rfl (by decide) trivial (Nat.le_of_ble_eq_true rfl) rfl ?_
  refine z_aload_n iX7_day_0 rfl ?_
  refine z_cvi (y1 := mX7_isNoBarn) iX7_day_1 lX7_168 kX7_isNoBarn rfl (c_noBarn G pg nw kp sn ks fo ft fe gt mx re m hh hs) (wx) rfl rfl rfl (Nat.le_of_ble_eq_true rfl) (by decide) ?_
  refine zb_if_eq iX7_day_4 (fun q4 => ?_) (fun q4 => ?_)
  · have q0 := of_decide_eq_false q4
    refine z_aload_n iX7_day_10 rfl ?_
    refine z_getf iX7_day_11 fX7_19 (wx) (xF_1 _) (by decide) ?_
    refine z_getf iX7_day_14 fX7_171 (w3_o) (BF_2 _ _) (by decide) ?_
    refine z_sipush iX7_day_17 zs_999 ?_
    refine zn_lt iX7_day_20 (by omega) (by omega) (fun q20 => ?_) (fun q20 => ?_)
    · refine z_aload_n iX7_day_26 rfl ?_
      refine z_getf iX7_day_27 fX7_19 (wx) (xF_1 _) (by decide) ?_
      refine z_cvi (y1 := mX0_passDay) iX7_day_30 lX7_174 kX0_passDay rfl (vB3 (c_passDay G _ 3 (by decide) _ hs)) (w3_o) rfl rfl rfl (Nat.le_of_ble_eq_true rfl) (by decide) ?_
      exact z_ireturn iX7_day_33 (by rw [xDayV, if_neg q0, if_pos q20]) (by rw [xDayB, if_neg q0, if_pos q20]; rfl)
    · refine z_bipush iX7_day_23 zb_m104 ?_
      exact z_ireturn iX7_day_25 (by rw [xDayV, if_neg q0, if_neg (by omega)]) (by rw [xDayB, if_neg q0, if_neg (by omega)])
  · have q0 := of_decide_eq_true q4
    refine z_bipush iX7_day_7 zb_m103 ?_
    exact z_ireturn iX7_day_9 (by rw [xDayV, if_pos q0]) (by rw [xDayB, if_pos q0])
set_option maxRecDepth 20000 in
set_option maxHeartbeats 1000000 in
theorem c_turn0 (G : zG) (pg nw kp sn ks fo ft fe gt mx : zs) (re : Nat → Int64) (m : zs) (hh : Int64) (k : Int32) (h : xNo k (rN nw 0) = true) : zK G mX7_turn [.ref 0, .int k] (wW pg nw kp sn ks fo ft fe gt mx re m hh) (some (.int (-101))) (wW pg nw kp sn ks fo ft fe gt mx re m hh) := by
  refine zK_of 0 rfl (by decide) trivial (Nat.le_of_ble_eq_true rfl) rfl ?_
  refine z_aload_n iX7_turn_0 rfl ?_
  refine z_iload_n iX7_turn_1 rfl ?_
  refine z_cvi (y1 := mX7_isNoBay) iX7_turn_2 lX7_140 kX7_isNoBay rfl (c_noBay G pg nw kp sn ks fo ft fe gt mx re m hh _) (wx) rfl rfl rfl (Nat.le_of_ble_eq_true rfl) (by decide) ?_
  refine zb_if_eq iX7_turn_5 (fun q5 => absurd (q5.symm.trans h) (by decide)) (fun q5 => ?_)
  refine z_bipush iX7_turn_8 zb_m101 ?_
  exact z_ireturn iX7_turn_10 (rfl) (rfl)
def xTurnV (nw : zs) (b : Nat) : Int32 := if rA nw 10 b = 0 then -103 else nI (rA nw 10 b)
def xTurnB (nw : zs) (b : Nat) : zs := if rA nw 10 b = 0 then nw else bTurn nw b
theorem bTurn_10 (s : zs) (b : Nat) : rA (bTurn s b) 10 = rA s 10 := by
  unfold bTurn
  split
  · exact bCool_A _ _ _ _
  · exact bCool_A _ _ s 10
set_option maxRecDepth 20000 in
set_option maxHeartbeats 1000000 in
theorem c_turn1 (G : zG) (pg nw kp sn ks fo ft fe gt mx : zs) (re : Nat → Int64) (m : zs) (hh : Int64) (hs : bOK nw) (c : Nat) (hc : c < rN nw 0) : zK G mX7_turn [.ref 0, .int (nI c)] (wW pg nw kp sn ks fo ft fe gt mx re m hh) (some (.int (xTurnV nw c))) (wW pg (xTurnB nw c) kp sn ks fo ft fe gt mx re m hh) := by
  obtain ⟨h11, h10, h6, h5, h0, h1⟩ := id hs
  have hh2 := h10 c
  refine zK_of 0 rfl (by decide) trivial (Nat.le_of_ble_eq_true rfl) rfl ?_
  refine z_aload_n iX7_turn_0 rfl ?_
  refine z_iload_n iX7_turn_1 rfl ?_
  refine z_cvi (y1 := mX7_isNoBay) iX7_turn_2 lX7_140 kX7_isNoBay rfl (c_noBay G pg nw kp sn ks fo ft fe gt mx re m hh _) (wx) rfl rfl rfl (Nat.le_of_ble_eq_true rfl) (by decide) ?_
  refine zb_if_eq iX7_turn_5 (fun q5 => ?_) (fun q5 => absurd (q5.symm.trans (xNo_n hc (by omega))) (by decide))
  refine z_aload_n iX7_turn_11 rfl ?_
  refine z_getf iX7_turn_12 fX7_19 (wx) (xF_1 _) (by decide) ?_
  refine z_getf iX7_turn_15 fX7_143 (w3_o) (BF_10 _ _) (by decide) ?_
  refine z_iload_n iX7_turn_18 rfl ?_
  refine z_iaload iX7_turn_19 (w3_10) rfl (by omega) (by decide) (by decide) ?_
  refine zn_if_ne iX7_turn_20 (by omega) (fun q20 => ?_) (fun q20 => ?_)
  · refine z_aload_n iX7_turn_26 rfl ?_
    refine z_getf iX7_turn_27 fX7_19 (wx) (xF_1 _) (by decide) ?_
    refine z_iload_n iX7_turn_30 rfl ?_
    refine z_cvv (y1 := mX0_turnOver) iX7_turn_31 lX7_177 kX0_turnOver rfl (vB3 (c_turnOver G _ 3 (by decide) _ hs c (by omega) (by omega))) (w3_o) rfl rfl rfl (Nat.le_of_ble_eq_true rfl) (by decide) ?_
    refine z_aload_n iX7_turn_34 rfl ?_
    refine z_getf iX7_turn_35 fX7_19 (wx) (xF_1 _) (by decide) ?_
    refine z_getf iX7_turn_38 fX7_143 (w3_o) (BF_10 _ _) (by decide) ?_
    refine z_iload_n iX7_turn_41 rfl ?_
    refine z_iaload iX7_turn_42 (w3_10) rfl (by omega) (by decide) (by decide) ?_
    exact z_ireturn iX7_turn_43 (by rw [xTurnV, if_neg q20, bTurn_10]) (by rw [xTurnB, if_neg q20])
  · refine z_bipush iX7_turn_23 zb_m103 ?_
    exact z_ireturn iX7_turn_25 (by rw [xTurnV, if_pos q20]) (by rw [xTurnB, if_pos q20])
set_option maxRecDepth 20000 in
set_option maxHeartbeats 1000000 in
theorem c_rain0 (G : zG) (pg nw kp sn ks fo ft fe gt mx : zs) (re : Nat → Int64) (m : zs) (hh : Int64) (k q : Int32) (h : xNo k (rN nw 1) = true) : zK G mX7_rain [.ref 0, .int k, .int q] (wW pg nw kp sn ks fo ft fe gt mx re m hh) (some (.int (-101))) (wW pg nw kp sn ks fo ft fe gt mx re m hh) := by
  refine zK_of 1 rfl (by decide) trivial (Nat.le_of_ble_eq_true rfl) rfl ?_
  refine z_aload_n iX7_rain_0 rfl ?_
  refine z_iload_n iX7_rain_1 rfl ?_
  refine z_cvi (y1 := mX7_isNoCart) iX7_rain_2 lX7_88 kX7_isNoCart rfl (c_noCart G pg nw kp sn ks fo ft fe gt mx re m hh _) (wx) rfl rfl rfl (Nat.le_of_ble_eq_true rfl) (by decide) ?_
  refine zb_if_eq iX7_rain_5 (fun q5 => absurd (q5.symm.trans h) (by decide)) (fun q5 => ?_)
  refine z_bipush iX7_rain_8 zb_m101 ?_
  exact z_ireturn iX7_rain_10 (rfl) (rfl)
def xRainV (nw : zs) (c : Nat) (q : Int32) : Int32 := if q < 0 then -102 else if q ≤ nI 9 then (if rF nw 7 c = 0 then -103 else rF nw 8 c) else -102
def xRainB (nw : zs) (c : Nat) (q : Int32) : zs := if q < 0 then nw else if q ≤ nI 9 then (if rF nw 7 c = 0 then nw else uF nw 8 (upd (rF nw 8) c q)) else nw
set_option maxRecDepth 20000 in
set_option maxHeartbeats 1000000 in
theorem c_rain1 (G : zG) (pg nw kp sn ks fo ft fe gt mx : zs) (re : Nat → Int64) (m : zs) (hh : Int64) (hs : bOK nw) (c : Nat) (hc : c < rN nw 1) (q : Int32) : zK G mX7_rain [.ref 0, .int (nI c), .int q] (wW pg nw kp sn ks fo ft fe gt mx re m hh) (some (.int (xRainV nw c q))) (wW pg (xRainB nw c q) kp sn ks fo ft fe gt mx re m hh) := by
  obtain ⟨h11, h10, h6, h5, h0, h1⟩ := id hs
  refine zK_of 1 rfl (by decide) trivial (Nat.le_of_ble_eq_true rfl) rfl ?_
  refine z_aload_n iX7_rain_0 rfl ?_
  refine z_iload_n iX7_rain_1 rfl ?_
  refine z_cvi (y1 := mX7_isNoCart) iX7_rain_2 lX7_88 kX7_isNoCart rfl (c_noCart G pg nw kp sn ks fo ft fe gt mx re m hh _) (wx) rfl rfl rfl (Nat.le_of_ble_eq_true rfl) (by decide) ?_
  refine zb_if_eq iX7_rain_5 (fun q5 => ?_) (fun q5 => absurd (q5.symm.trans (xNo_n hc (by omega))) (by decide))
  refine z_iload_n iX7_rain_11 rfl ?_
  refine z_if_lt iX7_rain_12 (fun q12 => ?_) (fun q12 => ?_)
  · refine z_bipush iX7_rain_21 zb_m102 ?_
    exact z_ireturn iX7_rain_23 (by simp [xRainV, *]) (by simp [xRainB, *])
  · refine z_iload_n iX7_rain_15 rfl ?_
    refine z_bipush iX7_rain_16 zb_9 ?_
    refine z_icmp_le iX7_rain_18 (fun q18 => ?_) (fun q18 => ?_)
    · refine z_aload_n iX7_rain_24 rfl ?_
      refine z_getf iX7_rain_25 fX7_19 (wx) (xF_1 _) (by decide) ?_
      refine z_iload_n iX7_rain_28 rfl ?_
      refine z_cvi (y1 := mX0_isGone) iX7_rain_29 lX7_92 kX0_isGone rfl (vB3 (c_isGone G _ 3 (by decide) _ hs c (by omega))) (w3_o) rfl rfl rfl (Nat.le_of_ble_eq_true rfl) (by decide) ?_
      refine zb_if_eq iX7_rain_32 (fun q32 => ?_) (fun q32 => ?_)
      · have q0 := of_decide_eq_false q32
        refine z_aload_n iX7_rain_38 rfl ?_
        refine z_getf iX7_rain_39 fX7_19 (wx) (xF_1 _) (by decide) ?_
        refine z_getf iX7_rain_42 fX7_102 (w3_o) (BF_8 _ _) (by decide) ?_
        refine z_iload_n iX7_rain_45 rfl ?_
        refine z_iaload iX7_rain_46 (w3_8) rfl (by omega) (by decide) (by decide) ?_
        refine z_istore_n iX7_rain_47 rfl (by decide) ?_
        refine z_aload_n iX7_rain_48 rfl ?_
        refine z_getf iX7_rain_49 fX7_19 (wx) (xF_1 _) (by decide) ?_
        refine z_getf iX7_rain_52 fX7_102 (w3_o) (BF_8 _ _) (by decide) ?_
        refine z_iload_n iX7_rain_55 rfl ?_
        refine z_iload_n iX7_rain_56 rfl ?_
        refine z_iastore iX7_rain_57 (w3_8) rfl (by omega) (by decide) (by decide) (by decide) ?_
        rw [w3_w8]
        refine z_iload_n iX7_rain_58 rfl ?_
        exact z_ireturn iX7_rain_59 (by simp [xRainV, *]) (by simp [xRainB, *])
      · have q0 := of_decide_eq_true q32
        refine z_bipush iX7_rain_35 zb_m103 ?_
        exact z_ireturn iX7_rain_37 (by simp [xRainV, *]) (by simp [xRainB, *])
    · refine z_bipush iX7_rain_21 zb_m102 ?_
      exact z_ireturn iX7_rain_23 (by simp [xRainV, *]) (by simp [xRainB, *])
def xLastV (nw : zs) (k : Int32) : Int32 := if k < nI 1 then -102 else if k ≤ nI 6 then (if rN nw 1 = 0 then -103 else nI (fLasts k 0 100 nw).1) else -102
def xLastT (nw ft : zs) (k : Int32) : zs := if k < nI 1 then ft else if k ≤ nI 6 then (if rN nw 1 = 0 then ft else (fLasts k 0 100 nw).2) else ft
set_option maxRecDepth 20000 in
set_option maxHeartbeats 1000000 in
theorem c_lastsX (G : zG) (pg nw kp sn ks fo ft fe gt mx : zs) (re : Nat → Int64) (m : zs) (hh : Int64) (hs : bOK nw) (k : Int32) : zK G mX7_lasts [.ref 0, .int k] (wW pg nw kp sn ks fo ft fe gt mx re m hh) (some (.int (xLastV nw k))) (wW pg nw kp sn ks fo (xLastT nw ft k) fe gt mx re m hh) := by
  refine zK_of 0 rfl (by decide) trivial (Nat.le_of_ble_eq_true rfl) rfl ?_
  refine z_iload_n iX7_lasts_0 rfl ?_
  refine z_iconst iX7_lasts_1 zk_1 ?_
  refine z_icmp_lt iX7_lasts_2 (fun q2 => ?_) (fun q2 => ?_)
  · refine z_bipush iX7_lasts_11 zb_m102 ?_
    exact z_ireturn iX7_lasts_13 (by simp [xLastV, *]) (by simp [xLastT, *])
  · refine z_iload_n iX7_lasts_5 rfl ?_
    refine z_bipush iX7_lasts_6 zb_6 ?_
    refine z_icmp_le iX7_lasts_8 (fun q8 => ?_) (fun q8 => ?_)
    · refine z_aload_n iX7_lasts_14 rfl ?_
      refine z_cvi (y1 := mX7_isNoBarn) iX7_lasts_15 lX7_168 kX7_isNoBarn rfl (c_noBarn G pg nw kp sn ks fo ft fe gt mx re m hh hs) (wx) rfl rfl rfl (Nat.le_of_ble_eq_true rfl) (by decide) ?_
      refine zb_if_eq iX7_lasts_18 (fun q18 => ?_) (fun q18 => ?_)
      · have q0 := of_decide_eq_false q18
        refine z_aload_n iX7_lasts_24 rfl ?_
        refine z_getf iX7_lasts_25 fX7_39 (wx) (xF_5 _) (by decide) ?_
        refine z_aload_n iX7_lasts_28 rfl ?_
        refine z_getf iX7_lasts_29 fX7_19 (wx) (xF_1 _) (by decide) ?_
        refine z_iload_n iX7_lasts_32 rfl ?_
        refine z_cvi (y1 := mX2_daysItLasts) iX7_lasts_33 lX7_180 kX2_daysItLasts rfl (c_lasts G pg nw kp sn ks fo ft fe gt mx re m hh hs k) (wf) rfl rfl rfl (Nat.le_of_ble_eq_true rfl) (by decide) ?_
        exact z_ireturn iX7_lasts_36 (by simp [xLastV, *]) (by simp [xLastT, *])
      · have q0 := of_decide_eq_true q18
        refine z_bipush iX7_lasts_21 zb_m103 ?_
        exact z_ireturn iX7_lasts_23 (by simp [xLastV, *]) (by simp [xLastT, *])
    · refine z_bipush iX7_lasts_11 zb_m102 ?_
      exact z_ireturn iX7_lasts_13 (by simp [xLastV, *]) (by simp [xLastT, *])
def xBurnV (nw : zs) (k : Int32) : Int32 := if k < 0 then -102 else if k ≤ nI 20 then (if rN nw 1 = 0 then -103 else nI (fBits nw (fDays k.toNatClampNeg nw))) else -102
def xBurnT (nw ft : zs) (k : Int32) : zs := if k < 0 then ft else if k ≤ nI 20 then (if rN nw 1 = 0 then ft else fDays k.toNatClampNeg nw) else ft
set_option maxRecDepth 20000 in
set_option maxHeartbeats 1000000 in
theorem c_burntX (G : zG) (pg nw kp sn ks fo ft fe gt mx : zs) (re : Nat → Int64) (m : zs) (hh : Int64) (hs : bOK nw) (k : Int32) : zK G mX7_burnt [.ref 0, .int k] (wW pg nw kp sn ks fo ft fe gt mx re m hh) (some (.int (xBurnV nw k))) (wW pg nw kp sn ks fo (xBurnT nw ft k) fe gt mx re m hh) := by
  refine zK_of 0 rfl (by decide) trivial (Nat.le_of_ble_eq_true rfl) rfl ?_
  refine z_iload_n iX7_burnt_0 rfl ?_
  refine z_if_lt iX7_burnt_1 (fun q1 => ?_) (fun q1 => ?_)
  · refine z_bipush iX7_burnt_10 zb_m102 ?_
    exact z_ireturn iX7_burnt_12 (by simp [xBurnV, *]) (by simp [xBurnT, *])
  · refine z_iload_n iX7_burnt_4 rfl ?_
    refine z_bipush iX7_burnt_5 zb_20 ?_
    refine z_icmp_le iX7_burnt_7 (fun q7 => ?_) (fun q7 => ?_)
    · refine z_aload_n iX7_burnt_13 rfl ?_
      refine z_cvi (y1 := mX7_isNoBarn) iX7_burnt_14 lX7_168 kX7_isNoBarn rfl (c_noBarn G pg nw kp sn ks fo ft fe gt mx re m hh hs) (wx) rfl rfl rfl (Nat.le_of_ble_eq_true rfl) (by decide) ?_
      refine zb_if_eq iX7_burnt_17 (fun q17 => ?_) (fun q17 => ?_)
      · have q0 := of_decide_eq_false q17
        refine z_aload_n iX7_burnt_23 rfl ?_
        refine z_getf iX7_burnt_24 fX7_39 (wx) (xF_5 _) (by decide) ?_
        refine z_aload_n iX7_burnt_27 rfl ?_
        refine z_getf iX7_burnt_28 fX7_19 (wx) (xF_1 _) (by decide) ?_
        refine z_iload_n iX7_burnt_31 rfl ?_
        obtain ⟨j, hj, rfl⟩ := nI_of q1
        refine z_cvi (y1 := mX2_goneBehind) iX7_burnt_32 lX7_203 kX2_goneBehind rfl (c_gone G pg nw kp sn ks fo ft fe gt mx re m hh hs j ((nI_leI hj (by decide)).mp q7)) (wf) rfl rfl rfl (Nat.le_of_ble_eq_true rfl) (by decide) ?_
        exact z_ireturn iX7_burnt_35 (by simp only [xBurnV, if_neg q1, if_pos q7, if_neg q0, nI_clamp hj]) (by simp only [xBurnT, if_neg q1, if_pos q7, if_neg q0, nI_clamp hj])
      · have q0 := of_decide_eq_true q17
        refine z_bipush iX7_burnt_20 zb_m103 ?_
        exact z_ireturn iX7_burnt_22 (by simp [xBurnV, *]) (by simp [xBurnT, *])
    · refine z_bipush iX7_burnt_10 zb_m102 ?_
      exact z_ireturn iX7_burnt_12 (by simp [xBurnV, *]) (by simp [xBurnT, *])
set_option maxRecDepth 20000 in
set_option maxHeartbeats 1000000 in
theorem c_see0 (G : zG) (pg nw kp sn ks fo ft fe gt mx : zs) (re : Nat → Int64) (m : zs) (hh : Int64) (k d w : Int32) (h : xNo k (rN nw 1) = true) : zK G mX7_see [.ref 0, .int k, .int d, .int w] (wW pg nw kp sn ks fo ft fe gt mx re m hh) (some (.int (-101))) (wW pg nw kp sn ks fo ft fe gt mx re m hh) := by
  refine zK_of 0 rfl (by decide) trivial (Nat.le_of_ble_eq_true rfl) rfl ?_
  refine z_aload_n iX7_see_0 rfl ?_
  refine z_iload_n iX7_see_1 rfl ?_
  refine z_cvi (y1 := mX7_isNoCart) iX7_see_2 lX7_88 kX7_isNoCart rfl (c_noCart G pg nw kp sn ks fo ft fe gt mx re m hh _) (wx) rfl rfl rfl (Nat.le_of_ble_eq_true rfl) (by decide) ?_
  refine zb_if_eq iX7_see_5 (fun q5 => absurd (q5.symm.trans h) (by decide)) (fun q5 => ?_)
  refine z_bipush iX7_see_8 zb_m101 ?_
  exact z_ireturn iX7_see_10 (rfl) (rfl)
def xSeeV (nw sn : zs) (c : Nat) (d w : Int32) : Int32 := if d < nI 1 then -102 else if nI 9 < d then -102 else if w < 0 then -102 else if w ≤ nI 30 then (if rF nw 7 c = 0 then -103 else if rN sn 3 < 6 then nI (rN sn 3 + 1) else -104) else -102
def xSeeS (nw sn : zs) (c : Nat) (d w : Int32) : zs := if d < nI 1 then sn else if nI 9 < d then sn else if w < 0 then sn else if w ≤ nI 30 then (if rF nw 7 c = 0 then sn else if rN sn 3 < 6 then sAdd sn c d.toNatClampNeg w else sn) else sn
set_option maxRecDepth 20000 in
set_option maxHeartbeats 1000000 in
theorem c_see1 (G : zG) (pg nw kp sn ks fo ft fe gt mx : zs) (re : Nat → Int64) (m : zs) (hh : Int64) (hs : bOK nw) (hz : rN sn 3 ≤ 6) (c : Nat) (hc : c < rN nw 1) (d w : Int32) : zK G mX7_see [.ref 0, .int (nI c), .int d, .int w] (wW pg nw kp sn ks fo ft fe gt mx re m hh) (some (.int (xSeeV nw sn c d w))) (wW pg nw kp (xSeeS nw sn c d w) ks fo ft fe gt mx re m hh) := by
  obtain ⟨h11, h10, h6, h5, h0, h1⟩ := id hs
  refine zK_of 0 rfl (by decide) trivial (Nat.le_of_ble_eq_true rfl) rfl ?_
  refine z_aload_n iX7_see_0 rfl ?_
  refine z_iload_n iX7_see_1 rfl ?_
  refine z_cvi (y1 := mX7_isNoCart) iX7_see_2 lX7_88 kX7_isNoCart rfl (c_noCart G pg nw kp sn ks fo ft fe gt mx re m hh _) (wx) rfl rfl rfl (Nat.le_of_ble_eq_true rfl) (by decide) ?_
  refine zb_if_eq iX7_see_5 (fun q5 => ?_) (fun q5 => absurd (q5.symm.trans (xNo_n hc (by omega))) (by decide))
  refine z_iload_n iX7_see_11 rfl ?_
  refine z_iconst iX7_see_12 zk_1 ?_
  refine z_icmp_lt iX7_see_13 (fun q13 => ?_) (fun q13 => ?_)
  · refine z_bipush iX7_see_32 zb_m102 ?_
    exact z_ireturn iX7_see_34 (by simp [xSeeV, *]) (by simp [xSeeS, *])
  · refine z_iload_n iX7_see_16 rfl ?_
    refine z_bipush iX7_see_17 zb_9 ?_
    refine z_icmp_gt iX7_see_19 (fun q19 => ?_) (fun q19 => ?_)
    · refine z_bipush iX7_see_32 zb_m102 ?_
      exact z_ireturn iX7_see_34 (by simp [xSeeV, *]) (by simp [xSeeS, *])
    · refine z_iload_n iX7_see_22 rfl ?_
      refine z_if_lt iX7_see_23 (fun q23 => ?_) (fun q23 => ?_)
      · refine z_bipush iX7_see_32 zb_m102 ?_
        exact z_ireturn iX7_see_34 (by simp [xSeeV, *]) (by simp [xSeeS, *])
      · refine z_iload_n iX7_see_26 rfl ?_
        refine z_bipush iX7_see_27 zb_30 ?_
        refine z_icmp_le iX7_see_29 (fun q29 => ?_) (fun q29 => ?_)
        · refine z_aload_n iX7_see_35 rfl ?_
          refine z_getf iX7_see_36 fX7_19 (wx) (xF_1 _) (by decide) ?_
          refine z_iload_n iX7_see_39 rfl ?_
          refine z_cvi (y1 := mX0_isGone) iX7_see_40 lX7_92 kX0_isGone rfl (vB3 (c_isGone G _ 3 (by decide) _ hs c (by omega))) (w3_o) rfl rfl rfl (Nat.le_of_ble_eq_true rfl) (by decide) ?_
          refine zb_if_eq iX7_see_43 (fun q43 => ?_) (fun q43 => ?_)
          · have q0 := of_decide_eq_false q43
            refine z_aload_n iX7_see_49 rfl ?_
            refine z_getf iX7_see_50 fX7_29 (wx) (xF_3 _) (by decide) ?_
            refine z_getf iX7_see_53 fX7_77 (w19_o) (SF_3 _ _) (by decide) ?_
            refine z_bipush iX7_see_56 zb_6 ?_
            refine zn_lt iX7_see_58 (by omega) (by omega) (fun q58 => ?_) (fun q58 => ?_)
            · obtain ⟨j, hj, rfl⟩ := nI_of (x := d) (fun z => q13 (Int32.lt_trans z (by decide +kernel)))
              refine z_aload_n iX7_see_64 rfl ?_
              refine z_getf iX7_see_65 fX7_29 (wx) (xF_3 _) (by decide) ?_
              refine z_iload_n iX7_see_68 rfl ?_
              refine z_iload_n iX7_see_69 rfl ?_
              refine z_iload_n iX7_see_70 rfl ?_
              refine z_cvv (y1 := mX5_append) iX7_see_71 lX7_206 kX5_append rfl (vS19 (c_sAppend G _ 19 (by decide) _ q58 c j w)) (w19_o) rfl rfl rfl (Nat.le_of_ble_eq_true rfl) (by decide) ?_
              refine z_aload_n iX7_see_74 rfl ?_
              refine z_getf iX7_see_75 fX7_29 (wx) (xF_3 _) (by decide) ?_
              refine z_getf iX7_see_78 fX7_77 (w19_o) (SF_3 _ _) (by decide) ?_
              exact z_ireturn iX7_see_81 (by simp only [xSeeV, if_neg q13, if_neg q19, if_neg q23, if_pos q29, if_neg q0, if_pos q58]; rfl) (by simp only [xSeeS, if_neg q13, if_neg q19, if_neg q23, if_pos q29, if_neg q0, if_pos q58, nI_clamp hj])
            · refine z_bipush iX7_see_61 zb_m104 ?_
              exact z_ireturn iX7_see_63 (by simp only [xSeeV, if_neg q13, if_neg q19, if_neg q23, if_pos q29, if_neg q0, if_neg (Nat.not_lt.mpr q58)]) (by simp only [xSeeS, if_neg q13, if_neg q19, if_neg q23, if_pos q29, if_neg q0, if_neg (Nat.not_lt.mpr q58)])
          · have q0 := of_decide_eq_true q43
            refine z_bipush iX7_see_46 zb_m103 ?_
            exact z_ireturn iX7_see_48 (by simp [xSeeV, *]) (by simp [xSeeS, *])
        · refine z_bipush iX7_see_32 zb_m102 ?_
          exact z_ireturn iX7_see_34 (by simp [xSeeV, *]) (by simp [xSeeS, *])
set_option maxRecDepth 20000 in
set_option maxHeartbeats 1000000 in
theorem c_forget (G : zG) (pg nw kp sn ks fo ft fe gt mx : zs) (re : Nat → Int64) (m : zs) (hh : Int64)  : zK G mX7_forget [.ref 0] (wW pg nw kp sn ks fo ft fe gt mx re m hh) (some (.int (nI (rN sn 3)))) (wW pg nw kp (uN sn 3 0) ks fo ft fe gt mx re m hh) := by
  refine zK_of 1 rfl (by decide) trivial (Nat.le_of_ble_eq_true rfl) rfl ?_
  refine z_aload_n iX7_forget_0 rfl ?_
  refine z_getf iX7_forget_1 fX7_29 (wx) (xF_3 _) (by decide) ?_
  refine z_getf iX7_forget_4 fX7_77 (w19_o) (SF_3 _ _) (by decide) ?_
  refine z_istore_n iX7_forget_7 rfl (by decide) ?_
  refine z_aload_n iX7_forget_8 rfl ?_
  refine z_getf iX7_forget_9 fX7_29 (wx) (xF_3 _) (by decide) ?_
  refine z_iconst iX7_forget_12 zk_0 ?_
  refine z_putf iX7_forget_13 fX7_77 (w19_o) rfl rfl (Nat.le_of_ble_eq_true rfl) (by decide) ?_
  rw [w19_w3]
  refine z_iload_n iX7_forget_16 rfl ?_
  exact z_ireturn iX7_forget_17 (rfl) (rfl)
set_option maxRecDepth 20000 in
set_option maxHeartbeats 1000000 in
theorem c_image (G : zG) (pg nw kp sn ks fo ft fe gt mx : zs) (re : Nat → Int64) (m : zs) (hh : Int64) (hs : bOK nw) (h : ¬ rN nw 1 = 0) : zK G mX7_image [.ref 0] (wW pg nw kp sn ks fo ft fe gt mx re m hh) (some (.int (nI (rN nw 2)))) (wW pg nw nw sn sn fo ft fe gt (uN mx 8 1) re m hh) := by
  refine zK_of 0 rfl (by decide) trivial (Nat.le_of_ble_eq_true rfl) rfl ?_
  refine z_aload_n iX7_image_0 rfl ?_
  refine z_cvi (y1 := mX7_isNoBarn) iX7_image_1 lX7_168 kX7_isNoBarn rfl (c_noBarn G pg nw kp sn ks fo ft fe gt mx re m hh hs) (wx) rfl rfl rfl (Nat.le_of_ble_eq_true rfl) (by decide) ?_
  refine zb_if_eq iX7_image_4 (fun q4 => ?_) (fun q4 => absurd (of_decide_eq_true q4) h)
  refine z_aload_n iX7_image_10 rfl ?_
  refine z_getf iX7_image_11 fX7_23 (wx) (xF_2 _) (by decide) ?_
  refine z_aload_n iX7_image_14 rfl ?_
  refine z_getf iX7_image_15 fX7_19 (wx) (xF_1 _) (by decide) ?_
  refine z_cvv (y1 := mX0_copyFrom) iX7_image_18 lX7_213 kX0_copyFrom rfl (c_copy11_3 G pg nw kp sn ks fo ft fe gt mx re m hh) (w11_o) rfl rfl rfl (Nat.le_of_ble_eq_true rfl) (by decide) ?_
  refine z_aload_n iX7_image_21 rfl ?_
  refine z_getf iX7_image_22 fX7_33 (wx) (xF_4 _) (by decide) ?_
  refine z_aload_n iX7_image_25 rfl ?_
  refine z_getf iX7_image_26 fX7_29 (wx) (xF_3 _) (by decide) ?_
  refine z_cvv (y1 := mX5_copyFrom) iX7_image_29 lX7_216 kX5_copyFrom rfl (c_copy23_19 G pg nw _ sn ks fo ft fe gt mx re m hh) (w23_o) rfl rfl rfl (Nat.le_of_ble_eq_true rfl) (by decide) ?_
  refine z_aload_n iX7_image_32 rfl ?_
  refine z_iconst iX7_image_33 zk_1 ?_
  refine z_putf iX7_image_34 fX7_78 (wx) rfl rfl (Nat.le_of_ble_eq_true rfl) (by decide) ?_
  rw [wx_8]
  refine z_aload_n iX7_image_37 rfl ?_
  refine z_getf iX7_image_38 fX7_19 (wx) (xF_1 _) (by decide) ?_
  refine z_getf iX7_image_41 fX7_171 (w3_o) (BF_2 _ _) (by decide) ?_
  exact z_ireturn iX7_image_44 (rfl) (rfl)
set_option maxRecDepth 20000 in
set_option maxHeartbeats 1000000 in
theorem c_image0 (G : zG) (pg nw kp sn ks fo ft fe gt mx : zs) (re : Nat → Int64) (m : zs) (hh : Int64) (hs : bOK nw) (h : rN nw 1 = 0) : zK G mX7_image [.ref 0] (wW pg nw kp sn ks fo ft fe gt mx re m hh) (some (.int (-103))) (wW pg nw kp sn ks fo ft fe gt mx re m hh) := by
  refine zK_of 0 rfl (by decide) trivial (Nat.le_of_ble_eq_true rfl) rfl ?_
  refine z_aload_n iX7_image_0 rfl ?_
  refine z_cvi (y1 := mX7_isNoBarn) iX7_image_1 lX7_168 kX7_isNoBarn rfl (c_noBarn G pg nw kp sn ks fo ft fe gt mx re m hh hs) (wx) rfl rfl rfl (Nat.le_of_ble_eq_true rfl) (by decide) ?_
  refine zb_if_eq iX7_image_4 (fun q4 => absurd h (of_decide_eq_false q4)) (fun q4 => ?_)
  refine z_bipush iX7_image_7 zb_m103 ?_
  exact z_ireturn iX7_image_9 (rfl) (rfl)
set_option maxRecDepth 20000 in
set_option maxHeartbeats 1000000 in
theorem c_restore (G : zG) (pg nw kp sn ks fo ft fe gt mx : zs) (re : Nat → Int64) (m : zs) (hh : Int64) (h8 : rN mx 8 < 2) (h : ¬ rN mx 8 = 0) : zK G mX7_restore [.ref 0] (wW pg nw kp sn ks fo ft fe gt mx re m hh) (some (.int (nI (rN kp 2)))) (wW pg kp kp ks ks fo ft fe gt mx re m hh) := by
  refine zK_of 0 rfl (by decide) trivial (Nat.le_of_ble_eq_true rfl) rfl ?_
  refine z_aload_n iX7_restore_0 rfl ?_
  refine z_getf iX7_restore_1 fX7_78 (wx) (xF_8 _) (by decide) ?_
  refine zn_if_ne iX7_restore_4 (by omega) (fun q4 => ?_) (fun q4 => absurd q4 h)
  refine z_aload_n iX7_restore_10 rfl ?_
  refine z_getf iX7_restore_11 fX7_19 (wx) (xF_1 _) (by decide) ?_
  refine z_aload_n iX7_restore_14 rfl ?_
  refine z_getf iX7_restore_15 fX7_23 (wx) (xF_2 _) (by decide) ?_
  refine z_cvv (y1 := mX0_copyFrom) iX7_restore_18 lX7_213 kX0_copyFrom rfl (c_copy3_11 G pg nw kp sn ks fo ft fe gt mx re m hh) (w3_o) rfl rfl rfl (Nat.le_of_ble_eq_true rfl) (by decide) ?_
  refine z_aload_n iX7_restore_21 rfl ?_
  refine z_getf iX7_restore_22 fX7_29 (wx) (xF_3 _) (by decide) ?_
  refine z_aload_n iX7_restore_25 rfl ?_
  refine z_getf iX7_restore_26 fX7_33 (wx) (xF_4 _) (by decide) ?_
  refine z_cvv (y1 := mX5_copyFrom) iX7_restore_29 lX7_216 kX5_copyFrom rfl (c_copy19_23 G pg _ kp sn ks fo ft fe gt mx re m hh) (w19_o) rfl rfl rfl (Nat.le_of_ble_eq_true rfl) (by decide) ?_
  refine z_aload_n iX7_restore_32 rfl ?_
  refine z_getf iX7_restore_33 fX7_19 (wx) (xF_1 _) (by decide) ?_
  refine z_getf iX7_restore_36 fX7_171 (w3_o) (BF_2 _ _) (by decide) ?_
  exact z_ireturn iX7_restore_39 (rfl) (rfl)
set_option maxRecDepth 20000 in
set_option maxHeartbeats 1000000 in
theorem c_restore0 (G : zG) (pg nw kp sn ks fo ft fe gt mx : zs) (re : Nat → Int64) (m : zs) (hh : Int64) (h8 : rN mx 8 < 2) (h : rN mx 8 = 0) : zK G mX7_restore [.ref 0] (wW pg nw kp sn ks fo ft fe gt mx re m hh) (some (.int (-103))) (wW pg nw kp sn ks fo ft fe gt mx re m hh) := by
  refine zK_of 0 rfl (by decide) trivial (Nat.le_of_ble_eq_true rfl) rfl ?_
  refine z_aload_n iX7_restore_0 rfl ?_
  refine z_getf iX7_restore_1 fX7_78 (wx) (xF_8 _) (by decide) ?_
  refine zn_if_ne iX7_restore_4 (by omega) (fun q4 => absurd h q4) (fun q4 => ?_)
  refine z_bipush iX7_restore_7 zb_m103 ?_
  exact z_ireturn iX7_restore_9 (rfl) (rfl)
def xPlanOk (d q : Int32) : Bool := decide (¬ d < nI 1 ∧ d ≤ nI 4 ∧ (q = 0 ∨ (¬ q < nI 10 ∧ q < nI 14)))
set_option maxRecDepth 20000 in
set_option maxHeartbeats 1000000 in
theorem c_plan0 (G : zG) (pg nw kp sn ks fo ft fe gt mx : zs) (re : Nat → Int64) (m : zs) (hh : Int64) (d q : Int32) (h : xPlanOk d q = false) : zK G mX7_plan [.ref 0, .int d, .int q] (wW pg nw kp sn ks fo ft fe gt mx re m hh) (some (.int (-102))) (wW pg nw kp sn ks fo ft fe gt mx re m hh) := by
  refine zK_of 0 rfl (by decide) trivial (Nat.le_of_ble_eq_true rfl) rfl ?_
  refine z_iload_n iX7_plan_0 rfl ?_
  refine z_iconst iX7_plan_1 zk_1 ?_
  refine z_icmp_lt iX7_plan_2 (fun q2 => ?_) (fun q2 => ?_)
  · refine z_bipush iX7_plan_10 zb_m102 ?_
    exact z_ireturn iX7_plan_12 (rfl) (rfl)
  · refine z_iload_n iX7_plan_5 rfl ?_
    refine z_iconst iX7_plan_6 zk_4 ?_
    refine z_icmp_le iX7_plan_7 (fun q7 => ?_) (fun q7 => ?_)
    · refine z_iload_n iX7_plan_13 rfl ?_
      refine z_if_eq iX7_plan_14 (fun q14 => ?_) (fun q14 => ?_)
      · exact absurd h (by simp [xPlanOk, *])
      · refine z_iload_n iX7_plan_17 rfl ?_
        refine z_bipush iX7_plan_18 zb_10 ?_
        refine z_icmp_lt iX7_plan_20 (fun q20 => ?_) (fun q20 => ?_)
        · refine z_bipush iX7_plan_29 zb_m102 ?_
          exact z_ireturn iX7_plan_31 (rfl) (rfl)
        · refine z_iload_n iX7_plan_23 rfl ?_
          refine z_bipush iX7_plan_24 zb_14 ?_
          refine z_icmp_lt iX7_plan_26 (fun q26 => ?_) (fun q26 => ?_)
          · exact absurd h (by simp [xPlanOk, *])
          · refine z_bipush iX7_plan_29 zb_m102 ?_
            exact z_ireturn iX7_plan_31 (rfl) (rfl)
    · refine z_bipush iX7_plan_10 zb_m102 ?_
      exact z_ireturn iX7_plan_12 (rfl) (rfl)
set_option maxRecDepth 20000 in
set_option maxHeartbeats 1000000 in
theorem c_plan1 (G : zG) (pg nw kp sn ks fo ft fe gt mx : zs) (re : Nat → Int64) (m : zs) (hh : Int64) (hs : bOK nw) (d q : Int32) (h : xPlanOk d q = true) (h0 : rN nw 1 = 0) : zK G mX7_plan [.ref 0, .int d, .int q] (wW pg nw kp sn ks fo ft fe gt mx re m hh) (some (.int (-103))) (wW pg nw kp sn ks fo ft fe gt mx re m hh) := by
  refine zK_of 0 rfl (by decide) trivial (Nat.le_of_ble_eq_true rfl) rfl ?_
  refine z_iload_n iX7_plan_0 rfl ?_
  refine z_iconst iX7_plan_1 zk_1 ?_
  refine z_icmp_lt iX7_plan_2 (fun q2 => ?_) (fun q2 => ?_)
  · exact absurd h (by simp [xPlanOk, *])
  · refine z_iload_n iX7_plan_5 rfl ?_
    refine z_iconst iX7_plan_6 zk_4 ?_
    refine z_icmp_le iX7_plan_7 (fun q7 => ?_) (fun q7 => ?_)
    · refine z_iload_n iX7_plan_13 rfl ?_
      refine z_if_eq iX7_plan_14 (fun q14 => ?_) (fun q14 => ?_)
      · refine z_aload_n iX7_plan_32 rfl ?_
        refine z_cvi (y1 := mX7_isNoBarn) iX7_plan_33 lX7_168 kX7_isNoBarn rfl (c_noBarn G pg nw kp sn ks fo ft fe gt mx re m hh hs) (wx) rfl rfl rfl (Nat.le_of_ble_eq_true rfl) (by decide) ?_
        refine zb_if_eq iX7_plan_36 (fun q36 => absurd h0 (of_decide_eq_false q36)) (fun q36 => ?_)
        refine z_bipush iX7_plan_39 zb_m103 ?_
        exact z_ireturn iX7_plan_41 (rfl) (rfl)
      · refine z_iload_n iX7_plan_17 rfl ?_
        refine z_bipush iX7_plan_18 zb_10 ?_
        refine z_icmp_lt iX7_plan_20 (fun q20 => ?_) (fun q20 => ?_)
        · exact absurd h (by simp [xPlanOk, *])
        · refine z_iload_n iX7_plan_23 rfl ?_
          refine z_bipush iX7_plan_24 zb_14 ?_
          refine z_icmp_lt iX7_plan_26 (fun q26 => ?_) (fun q26 => ?_)
          · refine z_aload_n iX7_plan_32 rfl ?_
            refine z_cvi (y1 := mX7_isNoBarn) iX7_plan_33 lX7_168 kX7_isNoBarn rfl (c_noBarn G pg nw kp sn ks fo ft fe gt mx re m hh hs) (wx) rfl rfl rfl (Nat.le_of_ble_eq_true rfl) (by decide) ?_
            refine zb_if_eq iX7_plan_36 (fun q36 => absurd h0 (of_decide_eq_false q36)) (fun q36 => ?_)
            refine z_bipush iX7_plan_39 zb_m103 ?_
            exact z_ireturn iX7_plan_41 (rfl) (rfl)
          · exact absurd h (by simp [xPlanOk, *])
    · exact absurd h (by simp [xPlanOk, *])
set_option maxRecDepth 20000 in
set_option maxHeartbeats 1000000 in
theorem c_planV (G : zG) (pg nw kp sn ks fo ft fe gt mx : zs) (re : Nat → Int64) (m : zs) (hh : Int64) (hs : bOK nw) (h0 : ¬ rN nw 1 = 0) (d : Nat) (h1 : 1 ≤ d) (h4 : d ≤ 4) : zK G mX7_plan [.ref 0, .int (nI d), .int (nI 0)] (wW pg nw kp sn ks fo ft fe gt mx re m hh) (some (.int (rI (fPlan nw fo ft d).1 1))) (wW pg nw kp sn ks (fPlan nw fo ft d).1 (fPlan nw fo ft d).2 fe gt mx re m hh) := by
  refine zK_of 0 rfl (by decide) trivial (Nat.le_of_ble_eq_true rfl) rfl ?_
  refine z_iload_n iX7_plan_0 rfl ?_
  refine z_iconst iX7_plan_1 zk_1 ?_
  refine zn_lt iX7_plan_2 (by omega) (by omega) (fun q2 => absurd q2 (by omega)) (fun q2 => ?_)
  refine z_iload_n iX7_plan_5 rfl ?_
  refine z_iconst iX7_plan_6 zk_4 ?_
  refine zn_le iX7_plan_7 (by omega) (by omega) (fun q7 => ?_) (fun q7 => absurd q7 (by omega))
  refine z_iload_n iX7_plan_13 rfl ?_
  refine zn_if_eq iX7_plan_14 (by omega) (fun q14 => ?_) (fun q14 => absurd rfl q14)
  refine z_aload_n iX7_plan_32 rfl ?_
  refine z_cvi (y1 := mX7_isNoBarn) iX7_plan_33 lX7_168 kX7_isNoBarn rfl (c_noBarn G pg nw kp sn ks fo ft fe gt mx re m hh hs) (wx) rfl rfl rfl (Nat.le_of_ble_eq_true rfl) (by decide) ?_
  refine zb_if_eq iX7_plan_36 (fun q36 => ?_) (fun q36 => absurd (of_decide_eq_true q36) h0)
  refine z_aload_n iX7_plan_42 rfl ?_
  refine z_getf iX7_plan_43 fX7_39 (wx) (xF_5 _) (by decide) ?_
  refine z_aload_n iX7_plan_46 rfl ?_
  refine z_getf iX7_plan_47 fX7_19 (wx) (xF_1 _) (by decide) ?_
  refine z_iload_n iX7_plan_50 rfl ?_
  refine z_cvv (y1 := mX2_makePlan) iX7_plan_51 lX7_183 kX2_makePlan rfl (c_makePlan G pg nw kp sn ks fo ft fe gt mx re m hh hs d h4) (wf) rfl rfl rfl (Nat.le_of_ble_eq_true rfl) (by decide) ?_
  refine z_iload_n iX7_plan_54 rfl ?_
  refine zn_if_ne iX7_plan_55 (by omega) (fun q55 => absurd rfl q55) (fun q55 => ?_)
  refine z_aload_n iX7_plan_58 rfl ?_
  refine z_getf iX7_plan_59 fX7_39 (wx) (xF_5 _) (by decide) ?_
  refine z_getf iX7_plan_62 fX7_187 (wf) (fF_1 _) (by decide) ?_
  refine z_goto iX7_plan_65 ?_
  exact z_ireturn iX7_plan_80 (rfl) (rfl)
set_option maxRecDepth 20000 in
set_option maxHeartbeats 1000000 in
theorem c_planB (G : zG) (pg nw kp sn ks fo ft fe gt mx : zs) (re : Nat → Int64) (m : zs) (hh : Int64) (hs : bOK nw) (h0 : ¬ rN nw 1 = 0) (d p : Nat) (h1 : 1 ≤ d) (h4 : d ≤ 4) (hp : p < 4) (hb : rN (fPlan nw fo ft d).1 2 < 2 ^ 31) : zK G mX7_plan [.ref 0, .int (nI d), .int (nI (10 + p))] (wW pg nw kp sn ks fo ft fe gt mx re m hh) (some (.int (oI (fPB (fPlan nw fo ft d).1 d p)))) (wW pg nw kp sn ks (fPlan nw fo ft d).1 (fPlan nw fo ft d).2 fe gt mx re m hh) := by
  have e1 : 10 + p - 10 = p := by omega
  refine zK_of 0 rfl (by decide) trivial (Nat.le_of_ble_eq_true rfl) rfl ?_
  refine z_iload_n iX7_plan_0 rfl ?_
  refine z_iconst iX7_plan_1 zk_1 ?_
  refine zn_lt iX7_plan_2 (by omega) (by omega) (fun q2 => absurd q2 (by omega)) (fun q2 => ?_)
  refine z_iload_n iX7_plan_5 rfl ?_
  refine z_iconst iX7_plan_6 zk_4 ?_
  refine zn_le iX7_plan_7 (by omega) (by omega) (fun q7 => ?_) (fun q7 => absurd q7 (by omega))
  refine z_iload_n iX7_plan_13 rfl ?_
  refine zn_if_eq iX7_plan_14 (by omega) (fun q14 => absurd q14 (by omega)) (fun q14 => ?_)
  refine z_iload_n iX7_plan_17 rfl ?_
  refine z_bipush iX7_plan_18 zb_10 ?_
  refine zn_lt iX7_plan_20 (by omega) (by omega) (fun q20 => absurd q20 (by omega)) (fun q20 => ?_)
  refine z_iload_n iX7_plan_23 rfl ?_
  refine z_bipush iX7_plan_24 zb_14 ?_
  refine zn_lt iX7_plan_26 (by omega) (by omega) (fun q26 => ?_) (fun q26 => absurd q26 (by omega))
  refine z_aload_n iX7_plan_32 rfl ?_
  refine z_cvi (y1 := mX7_isNoBarn) iX7_plan_33 lX7_168 kX7_isNoBarn rfl (c_noBarn G pg nw kp sn ks fo ft fe gt mx re m hh hs) (wx) rfl rfl rfl (Nat.le_of_ble_eq_true rfl) (by decide) ?_
  refine zb_if_eq iX7_plan_36 (fun q36 => ?_) (fun q36 => absurd (of_decide_eq_true q36) h0)
  refine z_aload_n iX7_plan_42 rfl ?_
  refine z_getf iX7_plan_43 fX7_39 (wx) (xF_5 _) (by decide) ?_
  refine z_aload_n iX7_plan_46 rfl ?_
  refine z_getf iX7_plan_47 fX7_19 (wx) (xF_1 _) (by decide) ?_
  refine z_iload_n iX7_plan_50 rfl ?_
  refine z_cvv (y1 := mX2_makePlan) iX7_plan_51 lX7_183 kX2_makePlan rfl (c_makePlan G pg nw kp sn ks fo ft fe gt mx re m hh hs d h4) (wf) rfl rfl rfl (Nat.le_of_ble_eq_true rfl) (by decide) ?_
  refine z_iload_n iX7_plan_54 rfl ?_
  refine zn_if_ne iX7_plan_55 (by omega) (fun q55 => ?_) (fun q55 => absurd q55 (by omega))
  refine z_aload_n iX7_plan_68 rfl ?_
  refine z_getf iX7_plan_69 fX7_39 (wx) (xF_5 _) (by decide) ?_
  refine z_iload_n iX7_plan_72 rfl ?_
  refine z_iload_n iX7_plan_73 rfl ?_
  refine z_bipush iX7_plan_74 zb_10 ?_
  refine z_isub iX7_plan_76 ?_
  refine z_top (nix_sub (by omega)) ?_
  rw [e1]
  refine z_cvi (y1 := mX2_plannedBay) iX7_plan_77 lX7_190 kX2_plannedBay rfl (c_plannedBay G pg nw kp sn ks _ _ fe gt mx re m hh d p hb h4 hp) (wf) rfl rfl rfl (Nat.le_of_ble_eq_true rfl) (by decide) ?_
  exact z_ireturn iX7_plan_80 (rfl) (rfl)
set_option maxRecDepth 20000 in
set_option maxHeartbeats 1000000 in
theorem c_share0 (G : zG) (pg nw kp sn ks fo ft fe gt mx : zs) (re : Nat → Int64) (m : zs) (hh : Int64) (k : Int32) (h : k < nI 2 ∨ nI 3 < k) : zK G mX7_share [.ref 0, .int k] (wW pg nw kp sn ks fo ft fe gt mx re m hh) (some (.int (-102))) (wW pg nw kp sn ks fo ft fe gt mx re m hh) := by
  refine zK_of 0 rfl (by decide) trivial (Nat.le_of_ble_eq_true rfl) rfl ?_
  refine z_iload_n iX7_share_0 rfl ?_
  refine z_iconst iX7_share_1 zk_2 ?_
  refine z_icmp_lt iX7_share_2 (fun q2 => ?_) (fun q2 => ?_)
  · refine z_bipush iX7_share_10 zb_m102 ?_
    exact z_ireturn iX7_share_12 (rfl) (rfl)
  · refine z_iload_n iX7_share_5 rfl ?_
    refine z_iconst iX7_share_6 zk_3 ?_
    refine z_icmp_le iX7_share_7 (fun q7 => absurd h (by rintro (z | z); exact q2 z; exact absurd z (Int32.not_lt.mpr q7))) (fun q7 => ?_)
    refine z_bipush iX7_share_10 zb_m102 ?_
    exact z_ireturn iX7_share_12 (rfl) (rfl)
set_option maxRecDepth 20000 in
set_option maxHeartbeats 1000000 in
theorem c_share1 (G : zG) (pg nw kp sn ks fo ft fe gt mx : zs) (re : Nat → Int64) (m : zs) (hh : Int64) (hs : bOK nw) (hc : rN mx 10 ≤ 12) (k : Int32) (h1 : ¬ k < nI 2) (h2 : k ≤ nI 3) (h : rN nw 1 = 0 ∨ rN mx 10 = 12) : zK G mX7_share [.ref 0, .int k] (wW pg nw kp sn ks fo ft fe gt mx re m hh) (some (.int (-103))) (wW pg nw kp sn ks fo ft fe gt mx re m hh) := by
  refine zK_of 0 rfl (by decide) trivial (Nat.le_of_ble_eq_true rfl) rfl ?_
  refine z_iload_n iX7_share_0 rfl ?_
  refine z_iconst iX7_share_1 zk_2 ?_
  refine z_icmp_lt iX7_share_2 (fun q2 => absurd q2 h1) (fun q2 => ?_)
  refine z_iload_n iX7_share_5 rfl ?_
  refine z_iconst iX7_share_6 zk_3 ?_
  refine z_icmp_le iX7_share_7 (fun q7 => ?_) (fun q7 => absurd h2 q7)
  refine z_aload_n iX7_share_13 rfl ?_
  refine z_cvi (y1 := mX7_isNoBarn) iX7_share_14 lX7_168 kX7_isNoBarn rfl (c_noBarn G pg nw kp sn ks fo ft fe gt mx re m hh hs) (wx) rfl rfl rfl (Nat.le_of_ble_eq_true rfl) (by decide) ?_
  refine zb_if_ne iX7_share_17 (fun q17 => ?_) (fun q17 => ?_)
  · refine z_bipush iX7_share_29 zb_m103 ?_
    exact z_ireturn iX7_share_31 (rfl) (rfl)
  · refine z_aload_n iX7_share_20 rfl ?_
    refine z_getf iX7_share_21 fX7_193 (wx) (xF_10 _) (by decide) ?_
    refine z_bipush iX7_share_24 zb_12 ?_
    refine zn_lt iX7_share_26 (by omega) (by omega) (fun q26 => absurd h (by rintro (z | z); exact absurd z (of_decide_eq_false q17); omega)) (fun q26 => ?_)
    refine z_bipush iX7_share_29 zb_m103 ?_
    exact z_ireturn iX7_share_31 (rfl) (rfl)
set_option maxRecDepth 20000 in
set_option maxHeartbeats 1000000 in
theorem c_share2 (G : zG) (pg nw kp sn ks fo ft fe gt mx : zs) (re : Nat → Int64) (m : zs) (hh : Int64) (hs : bOK nw) (h0 : ¬ rN nw 1 = 0) (hc : rN mx 10 < 12) (A : Nat) (hA : bLightAll nw = nI A) (hA2 : A < 1000) : zK G mX7_share [.ref 0, .int (nI 2)] (wW pg nw kp sn ks fo ft fe gt mx re m hh) (some (.int (oI (hSum (hTwo nw (rN nw 1)) 0 (A / 2 + 1))))) (wW pg nw kp sn ks fo ft fe gt (uN mx 10 (rN mx 10 + 1)) re m hh) := by
  refine zK_of 0 rfl (by decide) trivial (Nat.le_of_ble_eq_true rfl) rfl ?_
  refine z_iload_n iX7_share_0 rfl ?_
  refine z_iconst iX7_share_1 zk_2 ?_
  refine zn_lt iX7_share_2 (by omega) (by omega) (fun q2 => absurd q2 (by omega)) (fun q2 => ?_)
  refine z_iload_n iX7_share_5 rfl ?_
  refine z_iconst iX7_share_6 zk_3 ?_
  refine zn_le iX7_share_7 (by omega) (by omega) (fun q7 => ?_) (fun q7 => absurd q7 (by omega))
  refine z_aload_n iX7_share_13 rfl ?_
  refine z_cvi (y1 := mX7_isNoBarn) iX7_share_14 lX7_168 kX7_isNoBarn rfl (c_noBarn G pg nw kp sn ks fo ft fe gt mx re m hh hs) (wx) rfl rfl rfl (Nat.le_of_ble_eq_true rfl) (by decide) ?_
  refine zb_if_ne iX7_share_17 (fun q17 => absurd (of_decide_eq_true q17) h0) (fun q17 => ?_)
  refine z_aload_n iX7_share_20 rfl ?_
  refine z_getf iX7_share_21 fX7_193 (wx) (xF_10 _) (by decide) ?_
  refine z_bipush iX7_share_24 zb_12 ?_
  refine zn_lt iX7_share_26 (by omega) (by omega) (fun q26 => ?_) (fun q26 => absurd q26 (by omega))
  refine z_aload_n iX7_share_32 rfl ?_
  refine z_dup iX7_share_33 rfl ?_
  refine z_getf iX7_share_34 fX7_193 (wx) (xF_10 _) (by decide) ?_
  refine z_iconst iX7_share_37 zk_1 ?_
  refine z_iadd iX7_share_38 ?_
  refine z_top nix_add ?_
  refine z_putf iX7_share_39 fX7_193 (wx) rfl rfl (Nat.le_of_ble_eq_true rfl) (by decide) ?_
  rw [wx_10]
  refine z_iload_n iX7_share_42 rfl ?_
  refine z_iconst iX7_share_43 zk_2 ?_
  refine zn_ne iX7_share_44 (by omega) (by omega) (fun q44 => absurd rfl q44) (fun q44 => ?_)
  refine z_aload_n iX7_share_47 rfl ?_
  refine z_getf iX7_share_48 fX7_53 (wx) (xF_7 _) (by decide) ?_
  refine z_aload_n iX7_share_51 rfl ?_
  refine z_getf iX7_share_52 fX7_19 (wx) (xF_1 _) (by decide) ?_
  refine z_cvi (y1 := mX6_amongTwo) iX7_share_55 lX7_196 kX6_amongTwo rfl (c_amongTwo G pg nw kp sn ks fo ft fe gt _ re m hh hs A hA hA2) (wr) rfl rfl rfl (Nat.le_of_ble_eq_true rfl) (by decide) ?_
  refine z_goto iX7_share_58 ?_
  exact z_ireturn iX7_share_72 (rfl) (rfl)
set_option maxRecDepth 20000 in
set_option maxHeartbeats 1000000 in
theorem c_share3 (G : zG) (pg nw kp sn ks fo ft fe gt mx : zs) (re : Nat → Int64) (m : zs) (hh : Int64) (hs : bOK nw) (h0 : ¬ rN nw 1 = 0) (hc : rN mx 10 < 12) (A : Nat) (hA : bLightAll nw = nI A) (hA2 : A < 1000) (l : Nat → Nat) (hl : ∀ c, c < rN nw 1 → rF nw 7 c = nI (l c) ∧ l c < 100) : zK G mX7_share [.ref 0, .int (nI 3)] (wW pg nw kp sn ks fo ft fe gt mx re m hh) (some (.int (nI (hBest (hThree l (rN nw 1) (vp_updL (zfw hClr 0 28 re) 0 1)) A (if A / 3 < 27 then A / 3 else 27))))) (wW pg nw kp sn ks fo ft fe gt (uN mx 10 (rN mx 10 + 1)) (hThree l (rN nw 1) (vp_updL (zfw hClr 0 28 re) 0 1)) m hh) := by
  refine zK_of 0 rfl (by decide) trivial (Nat.le_of_ble_eq_true rfl) rfl ?_
  refine z_iload_n iX7_share_0 rfl ?_
  refine z_iconst iX7_share_1 zk_2 ?_
  refine zn_lt iX7_share_2 (by omega) (by omega) (fun q2 => absurd q2 (by omega)) (fun q2 => ?_)
  refine z_iload_n iX7_share_5 rfl ?_
  refine z_iconst iX7_share_6 zk_3 ?_
  refine zn_le iX7_share_7 (by omega) (by omega) (fun q7 => ?_) (fun q7 => absurd q7 (by omega))
  refine z_aload_n iX7_share_13 rfl ?_
  refine z_cvi (y1 := mX7_isNoBarn) iX7_share_14 lX7_168 kX7_isNoBarn rfl (c_noBarn G pg nw kp sn ks fo ft fe gt mx re m hh hs) (wx) rfl rfl rfl (Nat.le_of_ble_eq_true rfl) (by decide) ?_
  refine zb_if_ne iX7_share_17 (fun q17 => absurd (of_decide_eq_true q17) h0) (fun q17 => ?_)
  refine z_aload_n iX7_share_20 rfl ?_
  refine z_getf iX7_share_21 fX7_193 (wx) (xF_10 _) (by decide) ?_
  refine z_bipush iX7_share_24 zb_12 ?_
  refine zn_lt iX7_share_26 (by omega) (by omega) (fun q26 => ?_) (fun q26 => absurd q26 (by omega))
  refine z_aload_n iX7_share_32 rfl ?_
  refine z_dup iX7_share_33 rfl ?_
  refine z_getf iX7_share_34 fX7_193 (wx) (xF_10 _) (by decide) ?_
  refine z_iconst iX7_share_37 zk_1 ?_
  refine z_iadd iX7_share_38 ?_
  refine z_top nix_add ?_
  refine z_putf iX7_share_39 fX7_193 (wx) rfl rfl (Nat.le_of_ble_eq_true rfl) (by decide) ?_
  rw [wx_10]
  refine z_iload_n iX7_share_42 rfl ?_
  refine z_iconst iX7_share_43 zk_2 ?_
  refine zn_ne iX7_share_44 (by omega) (by omega) (fun q44 => ?_) (fun q44 => absurd q44 (by omega))
  refine z_aload_n iX7_share_61 rfl ?_
  refine z_getf iX7_share_62 fX7_53 (wx) (xF_7 _) (by decide) ?_
  refine z_aload_n iX7_share_65 rfl ?_
  refine z_getf iX7_share_66 fX7_19 (wx) (xF_1 _) (by decide) ?_
  refine z_cvi (y1 := mX6_amongThree) iX7_share_69 lX7_200 kX6_amongThree rfl (c_amongThree G pg nw kp sn ks fo ft fe gt _ re m hh hs A hA hA2 l hl) (wr) rfl rfl rfl (Nat.le_of_ble_eq_true rfl) (by decide) ?_
  exact z_ireturn iX7_share_72 (rfl) (rfl)
def xWinOk (d k q : Int32) : Bool := decide (¬ d < nI 1 ∧ d ≤ nI 60 ∧ ¬ k < 0 ∧ ¬ q < 0 ∧ q ≤ nI 2)
set_option maxRecDepth 20000 in
set_option maxHeartbeats 1000000 in
theorem c_win0 (G : zG) (pg nw kp sn ks fo ft fe gt mx : zs) (re : Nat → Int64) (m : zs) (hh : Int64) (d k q : Int32) (h : xWinOk d k q = false) : zK G mX7_winters [.ref 0, .int d, .int k, .int q] (wW pg nw kp sn ks fo ft fe gt mx re m hh) (some (.int (-102))) (wW pg nw kp sn ks fo ft fe gt mx re m hh) := by
  refine zK_of 0 rfl (by decide) trivial (Nat.le_of_ble_eq_true rfl) rfl ?_
  refine z_iload_n iX7_winters_0 rfl ?_
  refine z_iconst iX7_winters_1 zk_1 ?_
  refine z_icmp_lt iX7_winters_2 (fun q2 => ?_) (fun q2 => ?_)
  · refine z_bipush iX7_winters_24 zb_m102 ?_
    exact z_ireturn iX7_winters_26 (rfl) (rfl)
  · refine z_iload_n iX7_winters_5 rfl ?_
    refine z_bipush iX7_winters_6 zb_60 ?_
    refine z_icmp_gt iX7_winters_8 (fun q8 => ?_) (fun q8 => ?_)
    · refine z_bipush iX7_winters_24 zb_m102 ?_
      exact z_ireturn iX7_winters_26 (rfl) (rfl)
    · refine z_iload_n iX7_winters_11 rfl ?_
      refine z_if_lt iX7_winters_12 (fun q12 => ?_) (fun q12 => ?_)
      · refine z_bipush iX7_winters_24 zb_m102 ?_
        exact z_ireturn iX7_winters_26 (rfl) (rfl)
      · refine z_iload_n iX7_winters_15 rfl ?_
        refine z_if_lt iX7_winters_16 (fun q16 => ?_) (fun q16 => ?_)
        · refine z_bipush iX7_winters_24 zb_m102 ?_
          exact z_ireturn iX7_winters_26 (rfl) (rfl)
        · refine z_iload_n iX7_winters_19 rfl ?_
          refine z_iconst iX7_winters_20 zk_2 ?_
          refine z_icmp_le iX7_winters_21 (fun q21 => ?_) (fun q21 => ?_)
          · exact absurd h (by simp [xWinOk, *])
          · refine z_bipush iX7_winters_24 zb_m102 ?_
            exact z_ireturn iX7_winters_26 (rfl) (rfl)
set_option maxRecDepth 20000 in
set_option maxHeartbeats 1000000 in
theorem c_win1 (G : zG) (pg nw kp sn ks fo ft fe gt mx : zs) (re : Nat → Int64) (m : zs) (hh : Int64) (hs : bOK nw) (d k q : Int32) (h : xWinOk d k q = true) (h0 : rN nw 1 = 0) : zK G mX7_winters [.ref 0, .int d, .int k, .int q] (wW pg nw kp sn ks fo ft fe gt mx re m hh) (some (.int (-103))) (wW pg nw kp sn ks fo ft fe gt mx re m hh) := by
  refine zK_of 0 rfl (by decide) trivial (Nat.le_of_ble_eq_true rfl) rfl ?_
  refine z_iload_n iX7_winters_0 rfl ?_
  refine z_iconst iX7_winters_1 zk_1 ?_
  refine z_icmp_lt iX7_winters_2 (fun q2 => ?_) (fun q2 => ?_)
  · exact absurd h (by first | (simp [xWinOk, *]; done) | (simp [xWinOk, Int32.not_le.mpr q8]; done))
  · refine z_iload_n iX7_winters_5 rfl ?_
    refine z_bipush iX7_winters_6 zb_60 ?_
    refine z_icmp_gt iX7_winters_8 (fun q8 => ?_) (fun q8 => ?_)
    · exact absurd h (by first | (simp [xWinOk, *]; done) | (simp [xWinOk, Int32.not_le.mpr q8]; done))
    · refine z_iload_n iX7_winters_11 rfl ?_
      refine z_if_lt iX7_winters_12 (fun q12 => ?_) (fun q12 => ?_)
      · exact absurd h (by first | (simp [xWinOk, *]; done) | (simp [xWinOk, Int32.not_le.mpr q8]; done))
      · refine z_iload_n iX7_winters_15 rfl ?_
        refine z_if_lt iX7_winters_16 (fun q16 => ?_) (fun q16 => ?_)
        · exact absurd h (by first | (simp [xWinOk, *]; done) | (simp [xWinOk, Int32.not_le.mpr q8]; done))
        · refine z_iload_n iX7_winters_19 rfl ?_
          refine z_iconst iX7_winters_20 zk_2 ?_
          refine z_icmp_le iX7_winters_21 (fun q21 => ?_) (fun q21 => ?_)
          · refine z_aload_n iX7_winters_27 rfl ?_
            refine z_cvi (y1 := mX7_isNoBarn) iX7_winters_28 lX7_168 kX7_isNoBarn rfl (c_noBarn G pg nw kp sn ks fo ft fe gt mx re m hh hs) (wx) rfl rfl rfl (Nat.le_of_ble_eq_true rfl) (by decide) ?_
            refine zb_if_eq iX7_winters_31 (fun q31 => absurd h0 (of_decide_eq_false q31)) (fun q31 => ?_)
            refine z_bipush iX7_winters_34 zb_m103 ?_
            exact z_ireturn iX7_winters_36 (rfl) (rfl)
          · exact absurd h (by first | (simp [xWinOk, *]; done) | (simp [xWinOk, Int32.not_le.mpr q8]; done))
set_option maxRecDepth 20000 in
set_option maxHeartbeats 1000000 in
theorem c_win2 (G : zG) (pg nw kp sn ks fo ft fe gt mx : zs) (re : Nat → Int64) (m : zs) (hh : Int64) (hs : bOK nw) (h0 : ¬ rN nw 1 = 0) (hb : 0 < rN nw 0) (d k q : Nat) (h1 : 1 ≤ d) (h2 : d ≤ 60) (h3 : k < 2147483648) (h4 : q ≤ 2) : zK G mX7_winters [.ref 0, .int (nI d), .int (nI k), .int (nI q)] (wW pg nw kp sn ks fo ft fe gt mx re m hh) (some (.int (fWinV nw q (fWin d (k, nw))))) (wW pg nw kp sn ks fo (fWin d (k, nw)).2 fe gt mx re m hh) := by
  refine zK_of 0 rfl (by decide) trivial (Nat.le_of_ble_eq_true rfl) rfl ?_
  refine z_iload_n iX7_winters_0 rfl ?_
  refine z_iconst iX7_winters_1 zk_1 ?_
  refine zn_lt iX7_winters_2 (by omega) (by omega) (fun q2 => absurd q2 (by omega)) (fun q2 => ?_)
  refine z_iload_n iX7_winters_5 rfl ?_
  refine z_bipush iX7_winters_6 zb_60 ?_
  refine zn_gt iX7_winters_8 (by omega) (by omega) (fun q8 => absurd q8 (by omega)) (fun q8 => ?_)
  refine z_iload_n iX7_winters_11 rfl ?_
  refine zn_if_lt iX7_winters_12 (by omega) ?_
  refine z_iload_n iX7_winters_15 rfl ?_
  refine zn_if_lt iX7_winters_16 (by omega) ?_
  refine z_iload_n iX7_winters_19 rfl ?_
  refine z_iconst iX7_winters_20 zk_2 ?_
  refine zn_le iX7_winters_21 (by omega) (by omega) (fun q21 => ?_) (fun q21 => absurd q21 (by omega))
  refine z_aload_n iX7_winters_27 rfl ?_
  refine z_cvi (y1 := mX7_isNoBarn) iX7_winters_28 lX7_168 kX7_isNoBarn rfl (c_noBarn G pg nw kp sn ks fo ft fe gt mx re m hh hs) (wx) rfl rfl rfl (Nat.le_of_ble_eq_true rfl) (by decide) ?_
  refine zb_if_eq iX7_winters_31 (fun q31 => ?_) (fun q31 => absurd (of_decide_eq_true q31) h0)
  refine z_aload_n iX7_winters_37 rfl ?_
  refine z_getf iX7_winters_38 fX7_39 (wx) (xF_5 _) (by decide) ?_
  refine z_aload_n iX7_winters_41 rfl ?_
  refine z_getf iX7_winters_42 fX7_19 (wx) (xF_1 _) (by decide) ?_
  refine z_iload_n iX7_winters_45 rfl ?_
  refine z_iload_n iX7_winters_46 rfl ?_
  refine z_iload_n iX7_winters_47 rfl ?_
  refine z_cvi (y1 := mX2_winter) iX7_winters_48 lX7_209 kX2_winter rfl (c_winter G pg nw kp sn ks fo ft fe gt mx re m hh hs hb d k q h2 h3 (by omega)) (wf) rfl rfl rfl (Nat.le_of_ble_eq_true rfl) (by decide) ?_
  exact z_ireturn iX7_winters_51 (rfl) (rfl)
def xCount (pg nw sn mx : zs) (w : Nat) : Int32 := if w = 0 then nI (rN nw 0) else if w = 1 then nI (rN nw 1) else if w = 2 then nI (bLie nw) else if w = 3 then bLightAll nw else if w = 4 then bWetAll nw else if w = 5 then bMostWarm nw else if w = 6 then nI (rN nw 2) else if w = 7 then rI nw 3 else if w = 8 then rI nw 4 else if w = 9 then nI (rN sn 3) else if w = 10 then nI (rN pg 1) else if w = 11 then nI (rN mx 9) else nI (rN mx 10)
set_option maxRecDepth 20000 in
set_option maxHeartbeats 1000000 in
theorem c_count_0 (G : zG) (pg nw kp sn ks fo ft fe gt mx : zs) (re : Nat → Int64) (m : zs) (hh : Int64) (hs : bOK nw) : zK G mX7_count [.ref 0, .int (nI 0)] (wW pg nw kp sn ks fo ft fe gt mx re m hh) (some (.int (xCount pg nw sn mx 0))) (wW pg nw kp sn ks fo ft fe gt mx re m hh) := by
  refine zK_of 0 rfl (by decide) trivial (Nat.le_of_ble_eq_true rfl) rfl ?_
  refine z_iload_n iX7_count_0 rfl ?_
  refine z_tabIn (off := 67) (tgt := 68) iX7_count_1 (by decide +kernel) (by decide +kernel) (by decide +kernel) (by decide) ?_
  refine z_aload_n iX7_count_68 rfl ?_
  refine z_getf iX7_count_69 fX7_19 (wx) (xF_1 _) (by decide) ?_
  refine z_getf iX7_count_72 fX7_219 (w3_o) (BF_0 _ _) (by decide) ?_
  exact z_ireturn iX7_count_75 (rfl) (rfl)
set_option maxRecDepth 20000 in
set_option maxHeartbeats 1000000 in
theorem c_count_1 (G : zG) (pg nw kp sn ks fo ft fe gt mx : zs) (re : Nat → Int64) (m : zs) (hh : Int64) (hs : bOK nw) : zK G mX7_count [.ref 0, .int (nI 1)] (wW pg nw kp sn ks fo ft fe gt mx re m hh) (some (.int (xCount pg nw sn mx 1))) (wW pg nw kp sn ks fo ft fe gt mx re m hh) := by
  refine zK_of 0 rfl (by decide) trivial (Nat.le_of_ble_eq_true rfl) rfl ?_
  refine z_iload_n iX7_count_0 rfl ?_
  refine z_tabIn (off := 75) (tgt := 76) iX7_count_1 (by decide +kernel) (by decide +kernel) (by decide +kernel) (by decide) ?_
  refine z_aload_n iX7_count_76 rfl ?_
  refine z_getf iX7_count_77 fX7_19 (wx) (xF_1 _) (by decide) ?_
  refine z_getf iX7_count_80 fX7_85 (w3_o) (BF_1 _ _) (by decide) ?_
  exact z_ireturn iX7_count_83 (rfl) (rfl)
set_option maxRecDepth 20000 in
set_option maxHeartbeats 1000000 in
theorem c_count_2 (G : zG) (pg nw kp sn ks fo ft fe gt mx : zs) (re : Nat → Int64) (m : zs) (hh : Int64) (hs : bOK nw) : zK G mX7_count [.ref 0, .int (nI 2)] (wW pg nw kp sn ks fo ft fe gt mx re m hh) (some (.int (xCount pg nw sn mx 2))) (wW pg nw kp sn ks fo ft fe gt mx re m hh) := by
  refine zK_of 0 rfl (by decide) trivial (Nat.le_of_ble_eq_true rfl) rfl ?_
  refine z_iload_n iX7_count_0 rfl ?_
  refine z_tabIn (off := 83) (tgt := 84) iX7_count_1 (by decide +kernel) (by decide +kernel) (by decide +kernel) (by decide) ?_
  refine z_aload_n iX7_count_84 rfl ?_
  refine z_getf iX7_count_85 fX7_19 (wx) (xF_1 _) (by decide) ?_
  refine z_cvi (y1 := mX0_howManyLie) iX7_count_88 lX7_222 kX0_howManyLie rfl (vB3 (c_Lie G _ 3 (by decide) _ hs)) (w3_o) rfl rfl rfl (Nat.le_of_ble_eq_true rfl) (by decide) ?_
  exact z_ireturn iX7_count_91 (rfl) (rfl)
set_option maxRecDepth 20000 in
set_option maxHeartbeats 1000000 in
theorem c_count_3 (G : zG) (pg nw kp sn ks fo ft fe gt mx : zs) (re : Nat → Int64) (m : zs) (hh : Int64) (hs : bOK nw) : zK G mX7_count [.ref 0, .int (nI 3)] (wW pg nw kp sn ks fo ft fe gt mx re m hh) (some (.int (xCount pg nw sn mx 3))) (wW pg nw kp sn ks fo ft fe gt mx re m hh) := by
  refine zK_of 0 rfl (by decide) trivial (Nat.le_of_ble_eq_true rfl) rfl ?_
  refine z_iload_n iX7_count_0 rfl ?_
  refine z_tabIn (off := 91) (tgt := 92) iX7_count_1 (by decide +kernel) (by decide +kernel) (by decide +kernel) (by decide) ?_
  refine z_aload_n iX7_count_92 rfl ?_
  refine z_getf iX7_count_93 fX7_19 (wx) (xF_1 _) (by decide) ?_
  refine z_cvi (y1 := mX0_lightOfAll) iX7_count_96 lX7_225 kX0_lightOfAll rfl (vB3 (c_LightAll G _ 3 (by decide) _ hs)) (w3_o) rfl rfl rfl (Nat.le_of_ble_eq_true rfl) (by decide) ?_
  exact z_ireturn iX7_count_99 (rfl) (rfl)
set_option maxRecDepth 20000 in
set_option maxHeartbeats 1000000 in
theorem c_count_4 (G : zG) (pg nw kp sn ks fo ft fe gt mx : zs) (re : Nat → Int64) (m : zs) (hh : Int64) (hs : bOK nw) : zK G mX7_count [.ref 0, .int (nI 4)] (wW pg nw kp sn ks fo ft fe gt mx re m hh) (some (.int (xCount pg nw sn mx 4))) (wW pg nw kp sn ks fo ft fe gt mx re m hh) := by
  refine zK_of 0 rfl (by decide) trivial (Nat.le_of_ble_eq_true rfl) rfl ?_
  refine z_iload_n iX7_count_0 rfl ?_
  refine z_tabIn (off := 99) (tgt := 100) iX7_count_1 (by decide +kernel) (by decide +kernel) (by decide +kernel) (by decide) ?_
  refine z_aload_n iX7_count_100 rfl ?_
  refine z_getf iX7_count_101 fX7_19 (wx) (xF_1 _) (by decide) ?_
  refine z_cvi (y1 := mX0_wetOfAll) iX7_count_104 lX7_228 kX0_wetOfAll rfl (vB3 (c_WetAll G _ 3 (by decide) _ hs)) (w3_o) rfl rfl rfl (Nat.le_of_ble_eq_true rfl) (by decide) ?_
  exact z_ireturn iX7_count_107 (rfl) (rfl)
set_option maxRecDepth 20000 in
set_option maxHeartbeats 1000000 in
theorem c_count_5 (G : zG) (pg nw kp sn ks fo ft fe gt mx : zs) (re : Nat → Int64) (m : zs) (hh : Int64) (hs : bOK nw) : zK G mX7_count [.ref 0, .int (nI 5)] (wW pg nw kp sn ks fo ft fe gt mx re m hh) (some (.int (xCount pg nw sn mx 5))) (wW pg nw kp sn ks fo ft fe gt mx re m hh) := by
  refine zK_of 0 rfl (by decide) trivial (Nat.le_of_ble_eq_true rfl) rfl ?_
  refine z_iload_n iX7_count_0 rfl ?_
  refine z_tabIn (off := 107) (tgt := 108) iX7_count_1 (by decide +kernel) (by decide +kernel) (by decide +kernel) (by decide) ?_
  refine z_aload_n iX7_count_108 rfl ?_
  refine z_getf iX7_count_109 fX7_19 (wx) (xF_1 _) (by decide) ?_
  refine z_cvi (y1 := mX0_mostWarm) iX7_count_112 lX7_231 kX0_mostWarm rfl (vB3 (c_MostWarm G _ 3 (by decide) _ hs)) (w3_o) rfl rfl rfl (Nat.le_of_ble_eq_true rfl) (by decide) ?_
  exact z_ireturn iX7_count_115 (rfl) (rfl)
set_option maxRecDepth 20000 in
set_option maxHeartbeats 1000000 in
theorem c_count_6 (G : zG) (pg nw kp sn ks fo ft fe gt mx : zs) (re : Nat → Int64) (m : zs) (hh : Int64) (hs : bOK nw) : zK G mX7_count [.ref 0, .int (nI 6)] (wW pg nw kp sn ks fo ft fe gt mx re m hh) (some (.int (xCount pg nw sn mx 6))) (wW pg nw kp sn ks fo ft fe gt mx re m hh) := by
  refine zK_of 0 rfl (by decide) trivial (Nat.le_of_ble_eq_true rfl) rfl ?_
  refine z_iload_n iX7_count_0 rfl ?_
  refine z_tabIn (off := 115) (tgt := 116) iX7_count_1 (by decide +kernel) (by decide +kernel) (by decide +kernel) (by decide) ?_
  refine z_aload_n iX7_count_116 rfl ?_
  refine z_getf iX7_count_117 fX7_19 (wx) (xF_1 _) (by decide) ?_
  refine z_getf iX7_count_120 fX7_171 (w3_o) (BF_2 _ _) (by decide) ?_
  exact z_ireturn iX7_count_123 (rfl) (rfl)
set_option maxRecDepth 20000 in
set_option maxHeartbeats 1000000 in
theorem c_count_7 (G : zG) (pg nw kp sn ks fo ft fe gt mx : zs) (re : Nat → Int64) (m : zs) (hh : Int64) (hs : bOK nw) : zK G mX7_count [.ref 0, .int (nI 7)] (wW pg nw kp sn ks fo ft fe gt mx re m hh) (some (.int (xCount pg nw sn mx 7))) (wW pg nw kp sn ks fo ft fe gt mx re m hh) := by
  refine zK_of 0 rfl (by decide) trivial (Nat.le_of_ble_eq_true rfl) rfl ?_
  refine z_iload_n iX7_count_0 rfl ?_
  refine z_tabIn (off := 123) (tgt := 124) iX7_count_1 (by decide +kernel) (by decide +kernel) (by decide +kernel) (by decide) ?_
  refine z_aload_n iX7_count_124 rfl ?_
  refine z_getf iX7_count_125 fX7_19 (wx) (xF_1 _) (by decide) ?_
  refine z_getf iX7_count_128 fX7_162 (w3_o) (BF_3 _ _) (by decide) ?_
  exact z_ireturn iX7_count_131 (rfl) (rfl)
set_option maxRecDepth 20000 in
set_option maxHeartbeats 1000000 in
theorem c_count_8 (G : zG) (pg nw kp sn ks fo ft fe gt mx : zs) (re : Nat → Int64) (m : zs) (hh : Int64) (hs : bOK nw) : zK G mX7_count [.ref 0, .int (nI 8)] (wW pg nw kp sn ks fo ft fe gt mx re m hh) (some (.int (xCount pg nw sn mx 8))) (wW pg nw kp sn ks fo ft fe gt mx re m hh) := by
  refine zK_of 0 rfl (by decide) trivial (Nat.le_of_ble_eq_true rfl) rfl ?_
  refine z_iload_n iX7_count_0 rfl ?_
  refine z_tabIn (off := 131) (tgt := 132) iX7_count_1 (by decide +kernel) (by decide +kernel) (by decide +kernel) (by decide) ?_
  refine z_aload_n iX7_count_132 rfl ?_
  refine z_getf iX7_count_133 fX7_19 (wx) (xF_1 _) (by decide) ?_
  refine z_getf iX7_count_136 fX7_234 (w3_o) (BF_4 _ _) (by decide) ?_
  exact z_ireturn iX7_count_139 (rfl) (rfl)
set_option maxRecDepth 20000 in
set_option maxHeartbeats 1000000 in
theorem c_count_9 (G : zG) (pg nw kp sn ks fo ft fe gt mx : zs) (re : Nat → Int64) (m : zs) (hh : Int64) (hs : bOK nw) : zK G mX7_count [.ref 0, .int (nI 9)] (wW pg nw kp sn ks fo ft fe gt mx re m hh) (some (.int (xCount pg nw sn mx 9))) (wW pg nw kp sn ks fo ft fe gt mx re m hh) := by
  refine zK_of 0 rfl (by decide) trivial (Nat.le_of_ble_eq_true rfl) rfl ?_
  refine z_iload_n iX7_count_0 rfl ?_
  refine z_tabIn (off := 139) (tgt := 140) iX7_count_1 (by decide +kernel) (by decide +kernel) (by decide +kernel) (by decide) ?_
  refine z_aload_n iX7_count_140 rfl ?_
  refine z_getf iX7_count_141 fX7_29 (wx) (xF_3 _) (by decide) ?_
  refine z_getf iX7_count_144 fX7_77 (w19_o) (SF_3 _ _) (by decide) ?_
  exact z_ireturn iX7_count_147 (rfl) (rfl)
set_option maxRecDepth 20000 in
set_option maxHeartbeats 1000000 in
theorem c_count_10 (G : zG) (pg nw kp sn ks fo ft fe gt mx : zs) (re : Nat → Int64) (m : zs) (hh : Int64) (hs : bOK nw) : zK G mX7_count [.ref 0, .int (nI 10)] (wW pg nw kp sn ks fo ft fe gt mx re m hh) (some (.int (xCount pg nw sn mx 10))) (wW pg nw kp sn ks fo ft fe gt mx re m hh) := by
  refine zK_of 0 rfl (by decide) trivial (Nat.le_of_ble_eq_true rfl) rfl ?_
  refine z_iload_n iX7_count_0 rfl ?_
  refine z_tabIn (off := 147) (tgt := 148) iX7_count_1 (by decide +kernel) (by decide +kernel) (by decide +kernel) (by decide) ?_
  refine z_aload_n iX7_count_148 rfl ?_
  refine z_getf iX7_count_149 fX7_12 (wx) (xF_0 _) (by decide) ?_
  refine z_getf iX7_count_152 fX7_57 (w1_o) (PF_1 _ _) (by decide) ?_
  exact z_ireturn iX7_count_155 (rfl) (rfl)
set_option maxRecDepth 20000 in
set_option maxHeartbeats 1000000 in
theorem c_count_11 (G : zG) (pg nw kp sn ks fo ft fe gt mx : zs) (re : Nat → Int64) (m : zs) (hh : Int64) (hs : bOK nw) : zK G mX7_count [.ref 0, .int (nI 11)] (wW pg nw kp sn ks fo ft fe gt mx re m hh) (some (.int (xCount pg nw sn mx 11))) (wW pg nw kp sn ks fo ft fe gt mx re m hh) := by
  refine zK_of 0 rfl (by decide) trivial (Nat.le_of_ble_eq_true rfl) rfl ?_
  refine z_iload_n iX7_count_0 rfl ?_
  refine z_tabIn (off := 155) (tgt := 156) iX7_count_1 (by decide +kernel) (by decide +kernel) (by decide +kernel) (by decide) ?_
  refine z_aload_n iX7_count_156 rfl ?_
  refine z_getf iX7_count_157 fX7_82 (wx) (xF_9 _) (by decide) ?_
  exact z_ireturn iX7_count_160 (rfl) (rfl)
set_option maxRecDepth 20000 in
set_option maxHeartbeats 1000000 in
theorem c_count_12 (G : zG) (pg nw kp sn ks fo ft fe gt mx : zs) (re : Nat → Int64) (m : zs) (hh : Int64) (hs : bOK nw) : zK G mX7_count [.ref 0, .int (nI 12)] (wW pg nw kp sn ks fo ft fe gt mx re m hh) (some (.int (xCount pg nw sn mx 12))) (wW pg nw kp sn ks fo ft fe gt mx re m hh) := by
  refine zK_of 0 rfl (by decide) trivial (Nat.le_of_ble_eq_true rfl) rfl ?_
  refine z_iload_n iX7_count_0 rfl ?_
  refine z_tabIn (off := 160) (tgt := 161) iX7_count_1 (by decide +kernel) (by decide +kernel) (by decide +kernel) (by decide) ?_
  refine z_aload_n iX7_count_161 rfl ?_
  refine z_getf iX7_count_162 fX7_193 (wx) (xF_10 _) (by decide) ?_
  exact z_ireturn iX7_count_165 (rfl) (rfl)
set_option maxRecDepth 20000 in
set_option maxHeartbeats 1000000 in
theorem c_count (G : zG) (pg nw kp sn ks fo ft fe gt mx : zs) (re : Nat → Int64) (m : zs) (hh : Int64) (hs : bOK nw) (w : Nat) (hw : w ≤ 12) : zK G mX7_count [.ref 0, .int (nI w)] (wW pg nw kp sn ks fo ft fe gt mx re m hh) (some (.int (xCount pg nw sn mx w))) (wW pg nw kp sn ks fo ft fe gt mx re m hh) := by
  rcases (show w = 0 ∨ w = 1 ∨ w = 2 ∨ w = 3 ∨ w = 4 ∨ w = 5 ∨ w = 6 ∨ w = 7 ∨ w = 8 ∨ w = 9 ∨ w = 10 ∨ w = 11 ∨ w = 12 by omega) with rfl | rfl | rfl | rfl | rfl | rfl | rfl | rfl | rfl | rfl | rfl | rfl | rfl
  · exact c_count_0 G pg nw kp sn ks fo ft fe gt mx re m hh hs
  · exact c_count_1 G pg nw kp sn ks fo ft fe gt mx re m hh hs
  · exact c_count_2 G pg nw kp sn ks fo ft fe gt mx re m hh hs
  · exact c_count_3 G pg nw kp sn ks fo ft fe gt mx re m hh hs
  · exact c_count_4 G pg nw kp sn ks fo ft fe gt mx re m hh hs
  · exact c_count_5 G pg nw kp sn ks fo ft fe gt mx re m hh hs
  · exact c_count_6 G pg nw kp sn ks fo ft fe gt mx re m hh hs
  · exact c_count_7 G pg nw kp sn ks fo ft fe gt mx re m hh hs
  · exact c_count_8 G pg nw kp sn ks fo ft fe gt mx re m hh hs
  · exact c_count_9 G pg nw kp sn ks fo ft fe gt mx re m hh hs
  · exact c_count_10 G pg nw kp sn ks fo ft fe gt mx re m hh hs
  · exact c_count_11 G pg nw kp sn ks fo ft fe gt mx re m hh hs
  · exact c_count_12 G pg nw kp sn ks fo ft fe gt mx re m hh hs
set_option maxRecDepth 20000 in
set_option maxHeartbeats 1000000 in
theorem c_countO (G : zG) (pg nw kp sn ks fo ft fe gt mx : zs) (re : Nat → Int64) (m : zs) (hh : Int64) (k : Int32) (h : ∀ j, j ≤ 12 → ¬ k = nI j) : zK G mX7_count [.ref 0, .int k] (wW pg nw kp sn ks fo ft fe gt mx re m hh) (some (.int (-102))) (wW pg nw kp sn ks fo ft fe gt mx re m hh) := by
  refine zK_of 0 rfl (by decide) trivial (Nat.le_of_ble_eq_true rfl) rfl ?_
  refine z_iload_n iX7_count_0 rfl ?_
  refine z_tabOut (tgt := 166) iX7_count_1 (zsw_out 0 12 (fun j _ h2 => h j h2)) (by decide) ?_
  refine z_bipush iX7_count_166 zb_m102 ?_
  exact z_ireturn iX7_count_168 (rfl) (rfl)
