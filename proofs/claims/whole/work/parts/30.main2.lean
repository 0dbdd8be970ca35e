set_option maxRecDepth 20000 in
set_option maxHeartbeats 1000000 in
theorem c_cart0 (G : zG) (pg nw kp sn ks fo ft fe gt mx : zs) (re : Nat → Int64) (m : zs) (hh : Int64) (k q : Int32) (h : xNo k (rN nw 1) = true) : zK G mX7_cart [.ref 0, .int k, .int q] (wW pg nw kp sn ks fo ft fe gt mx re m hh) (some (.int (-101))) (wW pg nw kp sn ks fo ft fe gt mx re m hh) := by
  refine zK_of 1 rfl (by decide) trivial (Nat.le_of_ble_eq_true rfl) rfl ?_
  refine z_aload_n iX7_cart_0 rfl ?_
  refine z_iload_n iX7_cart_1 rfl ?_
  refine z_cvi (y1 := mX7_isNoCart) iX7_cart_2 lX7_88 kX7_isNoCart rfl (c_noCart G pg nw kp sn ks fo ft fe gt mx re m hh _) (wx) rfl rfl rfl (Nat.le_of_ble_eq_true rfl) (by decide) ?_
  refine zb_if_eq iX7_cart_5 (fun q5 => absurd (q5.symm.trans h) (by decide)) (fun q5 => ?_)
  refine z_bipush iX7_cart_8 zb_m101 ?_
  exact z_ireturn iX7_cart_10 (rfl) (rfl)
set_option maxRecDepth 20000 in
set_option maxHeartbeats 1000000 in
theorem c_cart_0 (G : zG) (pg nw kp sn ks fo ft fe gt mx : zs) (re : Nat → Int64) (m : zs) (hh : Int64) (hs : bOK nw) (c : Nat) (hc : c < rN nw 1)  : zK G mX7_cart [.ref 0, .int (nI c), .int (nI 0)] (wW pg nw kp sn ks fo ft fe gt mx re m hh) (some (.int (nI (rA nw 5 c)))) (wW pg nw kp sn ks fo ft fe gt mx re m hh) := by
  obtain ⟨h11, h10, h6, h5, h0, h1⟩ := id hs
  have h5c := h5 c
  have h6c := h6 c
  refine zK_of 1 rfl (by decide) trivial (Nat.le_of_ble_eq_true rfl) rfl ?_
  refine z_aload_n iX7_cart_0 rfl ?_
  refine z_iload_n iX7_cart_1 rfl ?_
  refine z_cvi (y1 := mX7_isNoCart) iX7_cart_2 lX7_88 kX7_isNoCart rfl (c_noCart G pg nw kp sn ks fo ft fe gt mx re m hh _) (wx) rfl rfl rfl (Nat.le_of_ble_eq_true rfl) (by decide) ?_
  refine zb_if_eq iX7_cart_5 (fun q5 => ?_) (fun q5 => absurd (q5.symm.trans (xNo_n hc (by omega))) (by decide))
  refine z_aload_n iX7_cart_11 rfl ?_
  refine z_getf iX7_cart_12 fX7_19 (wx) (xF_1 _) (by decide) ?_
  refine z_iload_n iX7_cart_15 rfl ?_
  refine z_cvi (y1 := mX0_isGone) iX7_cart_16 lX7_92 kX0_isGone rfl (vB3 (c_isGone G _ 3 (by decide) _ hs c (by omega))) (w3_o) rfl rfl rfl (Nat.le_of_ble_eq_true rfl) (by decide) ?_
  refine z_istore_n iX7_cart_19 rfl (by decide) ?_
  refine z_iload_n iX7_cart_20 rfl ?_
  refine z_tabIn (off := 67) (tgt := 88) iX7_cart_21 (by decide +kernel) (by decide +kernel) (by decide +kernel) (by decide) ?_
  refine z_aload_n iX7_cart_88 rfl ?_
  refine z_getf iX7_cart_89 fX7_19 (wx) (xF_1 _) (by decide) ?_
  refine z_getf iX7_cart_92 fX7_95 (w3_o) (BF_5 _ _) (by decide) ?_
  refine z_iload_n iX7_cart_95 rfl ?_
  refine z_iaload iX7_cart_96 (w3_5) rfl (by omega) (by decide) (by decide) ?_
  exact z_ireturn iX7_cart_97 (rfl) (rfl)
set_option maxRecDepth 20000 in
set_option maxHeartbeats 1000000 in
theorem c_cart_1 (G : zG) (pg nw kp sn ks fo ft fe gt mx : zs) (re : Nat → Int64) (m : zs) (hh : Int64) (hs : bOK nw) (c : Nat) (hc : c < rN nw 1)  : zK G mX7_cart [.ref 0, .int (nI c), .int (nI 1)] (wW pg nw kp sn ks fo ft fe gt mx re m hh) (some (.int (rF nw 7 c))) (wW pg nw kp sn ks fo ft fe gt mx re m hh) := by
  obtain ⟨h11, h10, h6, h5, h0, h1⟩ := id hs
  have h5c := h5 c
  have h6c := h6 c
  refine zK_of 1 rfl (by decide) trivial (Nat.le_of_ble_eq_true rfl) rfl ?_
  refine z_aload_n iX7_cart_0 rfl ?_
  refine z_iload_n iX7_cart_1 rfl ?_
  refine z_cvi (y1 := mX7_isNoCart) iX7_cart_2 lX7_88 kX7_isNoCart rfl (c_noCart G pg nw kp sn ks fo ft fe gt mx re m hh _) (wx) rfl rfl rfl (Nat.le_of_ble_eq_true rfl) (by decide) ?_
  refine zb_if_eq iX7_cart_5 (fun q5 => ?_) (fun q5 => absurd (q5.symm.trans (xNo_n hc (by omega))) (by decide))
  refine z_aload_n iX7_cart_11 rfl ?_
  refine z_getf iX7_cart_12 fX7_19 (wx) (xF_1 _) (by decide) ?_
  refine z_iload_n iX7_cart_15 rfl ?_
  refine z_cvi (y1 := mX0_isGone) iX7_cart_16 lX7_92 kX0_isGone rfl (vB3 (c_isGone G _ 3 (by decide) _ hs c (by omega))) (w3_o) rfl rfl rfl (Nat.le_of_ble_eq_true rfl) (by decide) ?_
  refine z_istore_n iX7_cart_19 rfl (by decide) ?_
  refine z_iload_n iX7_cart_20 rfl ?_
  refine z_tabIn (off := 77) (tgt := 98) iX7_cart_21 (by decide +kernel) (by decide +kernel) (by decide +kernel) (by decide) ?_
  refine z_aload_n iX7_cart_98 rfl ?_
  refine z_getf iX7_cart_99 fX7_19 (wx) (xF_1 _) (by decide) ?_
  refine z_getf iX7_cart_102 fX7_99 (w3_o) (BF_7 _ _) (by decide) ?_
  refine z_iload_n iX7_cart_105 rfl ?_
  refine z_iaload iX7_cart_106 (w3_7) rfl (by omega) (by decide) (by decide) ?_
  exact z_ireturn iX7_cart_107 (rfl) (rfl)
set_option maxRecDepth 20000 in
set_option maxHeartbeats 1000000 in
theorem c_cart_2 (G : zG) (pg nw kp sn ks fo ft fe gt mx : zs) (re : Nat → Int64) (m : zs) (hh : Int64) (hs : bOK nw) (c : Nat) (hc : c < rN nw 1)  : zK G mX7_cart [.ref 0, .int (nI c), .int (nI 2)] (wW pg nw kp sn ks fo ft fe gt mx re m hh) (some (.int (rF nw 8 c))) (wW pg nw kp sn ks fo ft fe gt mx re m hh) := by
  obtain ⟨h11, h10, h6, h5, h0, h1⟩ := id hs
  have h5c := h5 c
  have h6c := h6 c
  refine zK_of 1 rfl (by decide) trivial (Nat.le_of_ble_eq_true rfl) rfl ?_
  refine z_aload_n iX7_cart_0 rfl ?_
  refine z_iload_n iX7_cart_1 rfl ?_
  refine z_cvi (y1 := mX7_isNoCart) iX7_cart_2 lX7_88 kX7_isNoCart rfl (c_noCart G pg nw kp sn ks fo ft fe gt mx re m hh _) (wx) rfl rfl rfl (Nat.le_of_ble_eq_true rfl) (by decide) ?_
  refine zb_if_eq iX7_cart_5 (fun q5 => ?_) (fun q5 => absurd (q5.symm.trans (xNo_n hc (by omega))) (by decide))
  refine z_aload_n iX7_cart_11 rfl ?_
  refine z_getf iX7_cart_12 fX7_19 (wx) (xF_1 _) (by decide) ?_
  refine z_iload_n iX7_cart_15 rfl ?_
  refine z_cvi (y1 := mX0_isGone) iX7_cart_16 lX7_92 kX0_isGone rfl (vB3 (c_isGone G _ 3 (by decide) _ hs c (by omega))) (w3_o) rfl rfl rfl (Nat.le_of_ble_eq_true rfl) (by decide) ?_
  refine z_istore_n iX7_cart_19 rfl (by decide) ?_
  refine z_iload_n iX7_cart_20 rfl ?_
  refine z_tabIn (off := 87) (tgt := 108) iX7_cart_21 (by decide +kernel) (by decide +kernel) (by decide +kernel) (by decide) ?_
  refine z_aload_n iX7_cart_108 rfl ?_
  refine z_getf iX7_cart_109 fX7_19 (wx) (xF_1 _) (by decide) ?_
  refine z_getf iX7_cart_112 fX7_102 (w3_o) (BF_8 _ _) (by decide) ?_
  refine z_iload_n iX7_cart_115 rfl ?_
  refine z_iaload iX7_cart_116 (w3_8) rfl (by omega) (by decide) (by decide) ?_
  exact z_ireturn iX7_cart_117 (rfl) (rfl)
set_option maxRecDepth 20000 in
set_option maxHeartbeats 1000000 in
theorem c_cart_3 (G : zG) (pg nw kp sn ks fo ft fe gt mx : zs) (re : Nat → Int64) (m : zs) (hh : Int64) (hs : bOK nw) (c : Nat) (hc : c < rN nw 1)  : zK G mX7_cart [.ref 0, .int (nI c), .int (nI 3)] (wW pg nw kp sn ks fo ft fe gt mx re m hh) (some (.int (rF nw 9 c))) (wW pg nw kp sn ks fo ft fe gt mx re m hh) := by
  obtain ⟨h11, h10, h6, h5, h0, h1⟩ := id hs
  have h5c := h5 c
  have h6c := h6 c
  refine zK_of 1 rfl (by decide) trivial (Nat.le_of_ble_eq_true rfl) rfl ?_
  refine z_aload_n iX7_cart_0 rfl ?_
  refine z_iload_n iX7_cart_1 rfl ?_
  refine z_cvi (y1 := mX7_isNoCart) iX7_cart_2 lX7_88 kX7_isNoCart rfl (c_noCart G pg nw kp sn ks fo ft fe gt mx re m hh _) (wx) rfl rfl rfl (Nat.le_of_ble_eq_true rfl) (by decide) ?_
  refine zb_if_eq iX7_cart_5 (fun q5 => ?_) (fun q5 => absurd (q5.symm.trans (xNo_n hc (by omega))) (by decide))
  refine z_aload_n iX7_cart_11 rfl ?_
  refine z_getf iX7_cart_12 fX7_19 (wx) (xF_1 _) (by decide) ?_
  refine z_iload_n iX7_cart_15 rfl ?_
  refine z_cvi (y1 := mX0_isGone) iX7_cart_16 lX7_92 kX0_isGone rfl (vB3 (c_isGone G _ 3 (by decide) _ hs c (by omega))) (w3_o) rfl rfl rfl (Nat.le_of_ble_eq_true rfl) (by decide) ?_
  refine z_istore_n iX7_cart_19 rfl (by decide) ?_
  refine z_iload_n iX7_cart_20 rfl ?_
  refine z_tabIn (off := 97) (tgt := 118) iX7_cart_21 (by decide +kernel) (by decide +kernel) (by decide +kernel) (by decide) ?_
  refine z_aload_n iX7_cart_118 rfl ?_
  refine z_getf iX7_cart_119 fX7_19 (wx) (xF_1 _) (by decide) ?_
  refine z_getf iX7_cart_122 fX7_105 (w3_o) (BF_9 _ _) (by decide) ?_
  refine z_iload_n iX7_cart_125 rfl ?_
  refine z_iaload iX7_cart_126 (w3_9) rfl (by omega) (by decide) (by decide) ?_
  exact z_ireturn iX7_cart_127 (rfl) (rfl)
set_option maxRecDepth 20000 in
set_option maxHeartbeats 1000000 in
theorem c_cart_4 (G : zG) (pg nw kp sn ks fo ft fe gt mx : zs) (re : Nat → Int64) (m : zs) (hh : Int64) (hs : bOK nw) (c : Nat) (hc : c < rN nw 1)  : zK G mX7_cart [.ref 0, .int (nI c), .int (nI 4)] (wW pg nw kp sn ks fo ft fe gt mx re m hh) (some (.int (nI (rA nw 6 c)))) (wW pg nw kp sn ks fo ft fe gt mx re m hh) := by
  obtain ⟨h11, h10, h6, h5, h0, h1⟩ := id hs
  have h5c := h5 c
  have h6c := h6 c
  refine zK_of 1 rfl (by decide) trivial (Nat.le_of_ble_eq_true rfl) rfl ?_
  refine z_aload_n iX7_cart_0 rfl ?_
  refine z_iload_n iX7_cart_1 rfl ?_
  refine z_cvi (y1 := mX7_isNoCart) iX7_cart_2 lX7_88 kX7_isNoCart rfl (c_noCart G pg nw kp sn ks fo ft fe gt mx re m hh _) (wx) rfl rfl rfl (Nat.le_of_ble_eq_true rfl) (by decide) ?_
  refine zb_if_eq iX7_cart_5 (fun q5 => ?_) (fun q5 => absurd (q5.symm.trans (xNo_n hc (by omega))) (by decide))
  refine z_aload_n iX7_cart_11 rfl ?_
  refine z_getf iX7_cart_12 fX7_19 (wx) (xF_1 _) (by decide) ?_
  refine z_iload_n iX7_cart_15 rfl ?_
  refine z_cvi (y1 := mX0_isGone) iX7_cart_16 lX7_92 kX0_isGone rfl (vB3 (c_isGone G _ 3 (by decide) _ hs c (by omega))) (w3_o) rfl rfl rfl (Nat.le_of_ble_eq_true rfl) (by decide) ?_
  refine z_istore_n iX7_cart_19 rfl (by decide) ?_
  refine z_iload_n iX7_cart_20 rfl ?_
  refine z_tabIn (off := 107) (tgt := 128) iX7_cart_21 (by decide +kernel) (by decide +kernel) (by decide +kernel) (by decide) ?_
  refine z_aload_n iX7_cart_128 rfl ?_
  refine z_getf iX7_cart_129 fX7_19 (wx) (xF_1 _) (by decide) ?_
  refine z_getf iX7_cart_132 fX7_108 (w3_o) (BF_6 _ _) (by decide) ?_
  refine z_iload_n iX7_cart_135 rfl ?_
  refine z_iaload iX7_cart_136 (w3_6) rfl (by omega) (by decide) (by decide) ?_
  exact z_ireturn iX7_cart_137 (rfl) (rfl)
set_option maxRecDepth 20000 in
set_option maxHeartbeats 1000000 in
theorem c_cart_9 (G : zG) (pg nw kp sn ks fo ft fe gt mx : zs) (re : Nat → Int64) (m : zs) (hh : Int64) (hs : bOK nw) (c : Nat) (hc : c < rN nw 1)  : zK G mX7_cart [.ref 0, .int (nI c), .int (nI 9)] (wW pg nw kp sn ks fo ft fe gt mx re m hh) (some (.int (-102))) (wW pg nw kp sn ks fo ft fe gt mx re m hh) := by
  obtain ⟨h11, h10, h6, h5, h0, h1⟩ := id hs
  have h5c := h5 c
  have h6c := h6 c
  refine zK_of 1 rfl (by decide) trivial (Nat.le_of_ble_eq_true rfl) rfl ?_
  refine z_aload_n iX7_cart_0 rfl ?_
  refine z_iload_n iX7_cart_1 rfl ?_
  refine z_cvi (y1 := mX7_isNoCart) iX7_cart_2 lX7_88 kX7_isNoCart rfl (c_noCart G pg nw kp sn ks fo ft fe gt mx re m hh _) (wx) rfl rfl rfl (Nat.le_of_ble_eq_true rfl) (by decide) ?_
  refine zb_if_eq iX7_cart_5 (fun q5 => ?_) (fun q5 => absurd (q5.symm.trans (xNo_n hc (by omega))) (by decide))
  refine z_aload_n iX7_cart_11 rfl ?_
  refine z_getf iX7_cart_12 fX7_19 (wx) (xF_1 _) (by decide) ?_
  refine z_iload_n iX7_cart_15 rfl ?_
  refine z_cvi (y1 := mX0_isGone) iX7_cart_16 lX7_92 kX0_isGone rfl (vB3 (c_isGone G _ 3 (by decide) _ hs c (by omega))) (w3_o) rfl rfl rfl (Nat.le_of_ble_eq_true rfl) (by decide) ?_
  refine z_istore_n iX7_cart_19 rfl (by decide) ?_
  refine z_iload_n iX7_cart_20 rfl ?_
  refine z_tabIn (off := 238) (tgt := 259) iX7_cart_21 (by decide +kernel) (by decide +kernel) (by decide +kernel) (by decide) ?_
  refine z_bipush iX7_cart_259 zb_m102 ?_
  exact z_ireturn iX7_cart_261 (rfl) (rfl)
set_option maxRecDepth 20000 in
set_option maxHeartbeats 1000000 in
theorem c_cart_O (G : zG) (pg nw kp sn ks fo ft fe gt mx : zs) (re : Nat → Int64) (m : zs) (hh : Int64) (hs : bOK nw) (c : Nat) (hc : c < rN nw 1) (q : Int32) (h : ∀ j, j ≤ 12 → ¬ q = nI j) : zK G mX7_cart [.ref 0, .int (nI c), .int q] (wW pg nw kp sn ks fo ft fe gt mx re m hh) (some (.int (-102))) (wW pg nw kp sn ks fo ft fe gt mx re m hh) := by
  obtain ⟨h11, h10, h6, h5, h0, h1⟩ := id hs
  have h5c := h5 c
  have h6c := h6 c
  refine zK_of 1 rfl (by decide) trivial (Nat.le_of_ble_eq_true rfl) rfl ?_
  refine z_aload_n iX7_cart_0 rfl ?_
  refine z_iload_n iX7_cart_1 rfl ?_
  refine z_cvi (y1 := mX7_isNoCart) iX7_cart_2 lX7_88 kX7_isNoCart rfl (c_noCart G pg nw kp sn ks fo ft fe gt mx re m hh _) (wx) rfl rfl rfl (Nat.le_of_ble_eq_true rfl) (by decide) ?_
  refine zb_if_eq iX7_cart_5 (fun q5 => ?_) (fun q5 => absurd (q5.symm.trans (xNo_n hc (by omega))) (by decide))
  refine z_aload_n iX7_cart_11 rfl ?_
  refine z_getf iX7_cart_12 fX7_19 (wx) (xF_1 _) (by decide) ?_
  refine z_iload_n iX7_cart_15 rfl ?_
  refine z_cvi (y1 := mX0_isGone) iX7_cart_16 lX7_92 kX0_isGone rfl (vB3 (c_isGone G _ 3 (by decide) _ hs c (by omega))) (w3_o) rfl rfl rfl (Nat.le_of_ble_eq_true rfl) (by decide) ?_
  refine z_istore_n iX7_cart_19 rfl (by decide) ?_
  refine z_iload_n iX7_cart_20 rfl ?_
  refine z_tabOut (tgt := 259) iX7_cart_21 (zsw_out 0 12 (fun j _ h2 => h j h2)) (by decide) ?_
  refine z_bipush iX7_cart_259 zb_m102 ?_
  exact z_ireturn iX7_cart_261 (rfl) (rfl)
set_option maxRecDepth 20000 in
set_option maxHeartbeats 1000000 in
theorem c_cart_5g (G : zG) (pg nw kp sn ks fo ft fe gt mx : zs) (re : Nat → Int64) (m : zs) (hh : Int64) (hs : bOK nw) (c : Nat) (hc : c < rN nw 1) (hg : rF nw 7 c = 0) : zK G mX7_cart [.ref 0, .int (nI c), .int (nI 5)] (wW pg nw kp sn ks fo ft fe gt mx re m hh) (some (.int (-1))) (wW pg nw kp sn ks fo ft fe gt mx re m hh) := by
  obtain ⟨h11, h10, h6, h5, h0, h1⟩ := id hs
  have h5c := h5 c
  have h6c := h6 c
  refine zK_of 1 rfl (by decide) trivial (Nat.le_of_ble_eq_true rfl) rfl ?_
  refine z_aload_n iX7_cart_0 rfl ?_
  refine z_iload_n iX7_cart_1 rfl ?_
  refine z_cvi (y1 := mX7_isNoCart) iX7_cart_2 lX7_88 kX7_isNoCart rfl (c_noCart G pg nw kp sn ks fo ft fe gt mx re m hh _) (wx) rfl rfl rfl (Nat.le_of_ble_eq_true rfl) (by decide) ?_
  refine zb_if_eq iX7_cart_5 (fun q5 => ?_) (fun q5 => absurd (q5.symm.trans (xNo_n hc (by omega))) (by decide))
  refine z_aload_n iX7_cart_11 rfl ?_
  refine z_getf iX7_cart_12 fX7_19 (wx) (xF_1 _) (by decide) ?_
  refine z_iload_n iX7_cart_15 rfl ?_
  refine z_cvi (y1 := mX0_isGone) iX7_cart_16 lX7_92 kX0_isGone rfl (vB3 (c_isGone G _ 3 (by decide) _ hs c (by omega))) (w3_o) rfl rfl rfl (Nat.le_of_ble_eq_true rfl) (by decide) ?_
  refine z_istore_n iX7_cart_19 rfl (by decide) ?_
  refine z_iload_n iX7_cart_20 rfl ?_
  refine z_tabIn (off := 117) (tgt := 138) iX7_cart_21 (by decide +kernel) (by decide +kernel) (by decide +kernel) (by decide) ?_
  refine z_iload_n iX7_cart_138 rfl ?_
  refine zb_if_eq iX7_cart_139 (fun q139 => absurd hg (of_decide_eq_false q139)) (fun q139 => ?_)
  refine z_iconst iX7_cart_142 zk_m1 ?_
  refine z_goto iX7_cart_143 ?_
  exact z_ireturn iX7_cart_154 (rfl) (rfl)
set_option maxRecDepth 20000 in
set_option maxHeartbeats 1000000 in
theorem c_cart_6g (G : zG) (pg nw kp sn ks fo ft fe gt mx : zs) (re : Nat → Int64) (m : zs) (hh : Int64) (hs : bOK nw) (c : Nat) (hc : c < rN nw 1) (hg : rF nw 7 c = 0) : zK G mX7_cart [.ref 0, .int (nI c), .int (nI 6)] (wW pg nw kp sn ks fo ft fe gt mx re m hh) (some (.int (nI 0))) (wW pg nw kp sn ks fo ft fe gt mx re m hh) := by
  obtain ⟨h11, h10, h6, h5, h0, h1⟩ := id hs
  have h5c := h5 c
  have h6c := h6 c
  refine zK_of 1 rfl (by decide) trivial (Nat.le_of_ble_eq_true rfl) rfl ?_
  refine z_aload_n iX7_cart_0 rfl ?_
  refine z_iload_n iX7_cart_1 rfl ?_
  refine z_cvi (y1 := mX7_isNoCart) iX7_cart_2 lX7_88 kX7_isNoCart rfl (c_noCart G pg nw kp sn ks fo ft fe gt mx re m hh _) (wx) rfl rfl rfl (Nat.le_of_ble_eq_true rfl) (by decide) ?_
  refine zb_if_eq iX7_cart_5 (fun q5 => ?_) (fun q5 => absurd (q5.symm.trans (xNo_n hc (by omega))) (by decide))
  refine z_aload_n iX7_cart_11 rfl ?_
  refine z_getf iX7_cart_12 fX7_19 (wx) (xF_1 _) (by decide) ?_
  refine z_iload_n iX7_cart_15 rfl ?_
  refine z_cvi (y1 := mX0_isGone) iX7_cart_16 lX7_92 kX0_isGone rfl (vB3 (c_isGone G _ 3 (by decide) _ hs c (by omega))) (w3_o) rfl rfl rfl (Nat.le_of_ble_eq_true rfl) (by decide) ?_
  refine z_istore_n iX7_cart_19 rfl (by decide) ?_
  refine z_iload_n iX7_cart_20 rfl ?_
  refine z_tabIn (off := 134) (tgt := 155) iX7_cart_21 (by decide +kernel) (by decide +kernel) (by decide +kernel) (by decide) ?_
  refine z_iload_n iX7_cart_155 rfl ?_
  refine zb_if_eq iX7_cart_156 (fun q156 => absurd hg (of_decide_eq_false q156)) (fun q156 => ?_)
  refine z_iconst iX7_cart_159 zk_0 ?_
  refine z_goto iX7_cart_160 ?_
  exact z_ireturn iX7_cart_171 (rfl) (rfl)
set_option maxRecDepth 20000 in
set_option maxHeartbeats 1000000 in
theorem c_cart_7g (G : zG) (pg nw kp sn ks fo ft fe gt mx : zs) (re : Nat → Int64) (m : zs) (hh : Int64) (hs : bOK nw) (c : Nat) (hc : c < rN nw 1) (hg : rF nw 7 c = 0) : zK G mX7_cart [.ref 0, .int (nI c), .int (nI 7)] (wW pg nw kp sn ks fo ft fe gt mx re m hh) (some (.int (-1))) (wW pg nw kp sn ks fo ft fe gt mx re m hh) := by
  obtain ⟨h11, h10, h6, h5, h0, h1⟩ := id hs
  have h5c := h5 c
  have h6c := h6 c
  refine zK_of 1 rfl (by decide) trivial (Nat.le_of_ble_eq_true rfl) rfl ?_
  refine z_aload_n iX7_cart_0 rfl ?_
  refine z_iload_n iX7_cart_1 rfl ?_
  refine z_cvi (y1 := mX7_isNoCart) iX7_cart_2 lX7_88 kX7_isNoCart rfl (c_noCart G pg nw kp sn ks fo ft fe gt mx re m hh _) (wx) rfl rfl rfl (Nat.le_of_ble_eq_true rfl) (by decide) ?_
  refine zb_if_eq iX7_cart_5 (fun q5 => ?_) (fun q5 => absurd (q5.symm.trans (xNo_n hc (by omega))) (by decide))
  refine z_aload_n iX7_cart_11 rfl ?_
  refine z_getf iX7_cart_12 fX7_19 (wx) (xF_1 _) (by decide) ?_
  refine z_iload_n iX7_cart_15 rfl ?_
  refine z_cvi (y1 := mX0_isGone) iX7_cart_16 lX7_92 kX0_isGone rfl (vB3 (c_isGone G _ 3 (by decide) _ hs c (by omega))) (w3_o) rfl rfl rfl (Nat.le_of_ble_eq_true rfl) (by decide) ?_
  refine z_istore_n iX7_cart_19 rfl (by decide) ?_
  refine z_iload_n iX7_cart_20 rfl ?_
  refine z_tabIn (off := 151) (tgt := 172) iX7_cart_21 (by decide +kernel) (by decide +kernel) (by decide +kernel) (by decide) ?_
  refine z_iload_n iX7_cart_172 rfl ?_
  refine zb_if_eq iX7_cart_173 (fun q173 => absurd hg (of_decide_eq_false q173)) (fun q173 => ?_)
  refine z_iconst iX7_cart_176 zk_m1 ?_
  refine z_goto iX7_cart_177 ?_
  exact z_ireturn iX7_cart_196 (rfl) (rfl)
set_option maxRecDepth 20000 in
set_option maxHeartbeats 1000000 in
theorem c_cart_8g (G : zG) (pg nw kp sn ks fo ft fe gt mx : zs) (re : Nat → Int64) (m : zs) (hh : Int64) (hs : bOK nw) (c : Nat) (hc : c < rN nw 1) (hg : rF nw 7 c = 0) : zK G mX7_cart [.ref 0, .int (nI c), .int (nI 8)] (wW pg nw kp sn ks fo ft fe gt mx re m hh) (some (.int (-1))) (wW pg nw kp sn ks fo ft fe gt mx re m hh) := by
  obtain ⟨h11, h10, h6, h5, h0, h1⟩ := id hs
  have h5c := h5 c
  have h6c := h6 c
  refine zK_of 1 rfl (by decide) trivial (Nat.le_of_ble_eq_true rfl) rfl ?_
  refine z_aload_n iX7_cart_0 rfl ?_
  refine z_iload_n iX7_cart_1 rfl ?_
  refine z_cvi (y1 := mX7_isNoCart) iX7_cart_2 lX7_88 kX7_isNoCart rfl (c_noCart G pg nw kp sn ks fo ft fe gt mx re m hh _) (wx) rfl rfl rfl (Nat.le_of_ble_eq_true rfl) (by decide) ?_
  refine zb_if_eq iX7_cart_5 (fun q5 => ?_) (fun q5 => absurd (q5.symm.trans (xNo_n hc (by omega))) (by decide))
  refine z_aload_n iX7_cart_11 rfl ?_
  refine z_getf iX7_cart_12 fX7_19 (wx) (xF_1 _) (by decide) ?_
  refine z_iload_n iX7_cart_15 rfl ?_
  refine z_cvi (y1 := mX0_isGone) iX7_cart_16 lX7_92 kX0_isGone rfl (vB3 (c_isGone G _ 3 (by decide) _ hs c (by omega))) (w3_o) rfl rfl rfl (Nat.le_of_ble_eq_true rfl) (by decide) ?_
  refine z_istore_n iX7_cart_19 rfl (by decide) ?_
  refine z_iload_n iX7_cart_20 rfl ?_
  refine z_tabIn (off := 176) (tgt := 197) iX7_cart_21 (by decide +kernel) (by decide +kernel) (by decide +kernel) (by decide) ?_
  refine z_iload_n iX7_cart_197 rfl ?_
  refine zb_if_eq iX7_cart_198 (fun q198 => absurd hg (of_decide_eq_false q198)) (fun q198 => ?_)
  refine z_iconst iX7_cart_201 zk_m1 ?_
  refine z_goto iX7_cart_202 ?_
  exact z_ireturn iX7_cart_221 (rfl) (rfl)
set_option maxRecDepth 20000 in
set_option maxHeartbeats 1000000 in
theorem c_cart_10g (G : zG) (pg nw kp sn ks fo ft fe gt mx : zs) (re : Nat → Int64) (m : zs) (hh : Int64) (hs : bOK nw) (c : Nat) (hc : c < rN nw 1) (hg : rF nw 7 c = 0) : zK G mX7_cart [.ref 0, .int (nI c), .int (nI 10)] (wW pg nw kp sn ks fo ft fe gt mx re m hh) (some (.int (-1))) (wW pg nw kp sn ks fo ft fe gt mx re m hh) := by
  obtain ⟨h11, h10, h6, h5, h0, h1⟩ := id hs
  have h5c := h5 c
  have h6c := h6 c
  refine zK_of 1 rfl (by decide) trivial (Nat.le_of_ble_eq_true rfl) rfl ?_
  refine z_aload_n iX7_cart_0 rfl ?_
  refine z_iload_n iX7_cart_1 rfl ?_
  refine z_cvi (y1 := mX7_isNoCart) iX7_cart_2 lX7_88 kX7_isNoCart rfl (c_noCart G pg nw kp sn ks fo ft fe gt mx re m hh _) (wx) rfl rfl rfl (Nat.le_of_ble_eq_true rfl) (by decide) ?_
  refine zb_if_eq iX7_cart_5 (fun q5 => ?_) (fun q5 => absurd (q5.symm.trans (xNo_n hc (by omega))) (by decide))
  refine z_aload_n iX7_cart_11 rfl ?_
  refine z_getf iX7_cart_12 fX7_19 (wx) (xF_1 _) (by decide) ?_
  refine z_iload_n iX7_cart_15 rfl ?_
  refine z_cvi (y1 := mX0_isGone) iX7_cart_16 lX7_92 kX0_isGone rfl (vB3 (c_isGone G _ 3 (by decide) _ hs c (by omega))) (w3_o) rfl rfl rfl (Nat.le_of_ble_eq_true rfl) (by decide) ?_
  refine z_istore_n iX7_cart_19 rfl (by decide) ?_
  refine z_iload_n iX7_cart_20 rfl ?_
  refine z_tabIn (off := 201) (tgt := 222) iX7_cart_21 (by decide +kernel) (by decide +kernel) (by decide +kernel) (by decide) ?_
  refine z_iload_n iX7_cart_222 rfl ?_
  refine zb_if_eq iX7_cart_223 (fun q223 => absurd hg (of_decide_eq_false q223)) (fun q223 => ?_)
  refine z_iconst iX7_cart_226 zk_m1 ?_
  refine z_goto iX7_cart_227 ?_
  exact z_ireturn iX7_cart_258 (rfl) (rfl)
set_option maxRecDepth 20000 in
set_option maxHeartbeats 1000000 in
theorem c_cart_11g (G : zG) (pg nw kp sn ks fo ft fe gt mx : zs) (re : Nat → Int64) (m : zs) (hh : Int64) (hs : bOK nw) (c : Nat) (hc : c < rN nw 1) (hg : rF nw 7 c = 0) : zK G mX7_cart [.ref 0, .int (nI c), .int (nI 11)] (wW pg nw kp sn ks fo ft fe gt mx re m hh) (some (.int (-1))) (wW pg nw kp sn ks fo ft fe gt mx re m hh) := by
  obtain ⟨h11, h10, h6, h5, h0, h1⟩ := id hs
  have h5c := h5 c
  have h6c := h6 c
  refine zK_of 1 rfl (by decide) trivial (Nat.le_of_ble_eq_true rfl) rfl ?_
  refine z_aload_n iX7_cart_0 rfl ?_
  refine z_iload_n iX7_cart_1 rfl ?_
  refine z_cvi (y1 := mX7_isNoCart) iX7_cart_2 lX7_88 kX7_isNoCart rfl (c_noCart G pg nw kp sn ks fo ft fe gt mx re m hh _) (wx) rfl rfl rfl (Nat.le_of_ble_eq_true rfl) (by decide) ?_
  refine zb_if_eq iX7_cart_5 (fun q5 => ?_) (fun q5 => absurd (q5.symm.trans (xNo_n hc (by omega))) (by decide))
  refine z_aload_n iX7_cart_11 rfl ?_
  refine z_getf iX7_cart_12 fX7_19 (wx) (xF_1 _) (by decide) ?_
  refine z_iload_n iX7_cart_15 rfl ?_
  refine z_cvi (y1 := mX0_isGone) iX7_cart_16 lX7_92 kX0_isGone rfl (vB3 (c_isGone G _ 3 (by decide) _ hs c (by omega))) (w3_o) rfl rfl rfl (Nat.le_of_ble_eq_true rfl) (by decide) ?_
  refine z_istore_n iX7_cart_19 rfl (by decide) ?_
  refine z_iload_n iX7_cart_20 rfl ?_
  refine z_tabIn (off := 201) (tgt := 222) iX7_cart_21 (by decide +kernel) (by decide +kernel) (by decide +kernel) (by decide) ?_
  refine z_iload_n iX7_cart_222 rfl ?_
  refine zb_if_eq iX7_cart_223 (fun q223 => absurd hg (of_decide_eq_false q223)) (fun q223 => ?_)
  refine z_iconst iX7_cart_226 zk_m1 ?_
  refine z_goto iX7_cart_227 ?_
  exact z_ireturn iX7_cart_258 (rfl) (rfl)
set_option maxRecDepth 20000 in
set_option maxHeartbeats 1000000 in
theorem c_cart_12g (G : zG) (pg nw kp sn ks fo ft fe gt mx : zs) (re : Nat → Int64) (m : zs) (hh : Int64) (hs : bOK nw) (c : Nat) (hc : c < rN nw 1) (hg : rF nw 7 c = 0) : zK G mX7_cart [.ref 0, .int (nI c), .int (nI 12)] (wW pg nw kp sn ks fo ft fe gt mx re m hh) (some (.int (-1))) (wW pg nw kp sn ks fo ft fe gt mx re m hh) := by
  obtain ⟨h11, h10, h6, h5, h0, h1⟩ := id hs
  have h5c := h5 c
  have h6c := h6 c
  refine zK_of 1 rfl (by decide) trivial (Nat.le_of_ble_eq_true rfl) rfl ?_
  refine z_aload_n iX7_cart_0 rfl ?_
  refine z_iload_n iX7_cart_1 rfl ?_
  refine z_cvi (y1 := mX7_isNoCart) iX7_cart_2 lX7_88 kX7_isNoCart rfl (c_noCart G pg nw kp sn ks fo ft fe gt mx re m hh _) (wx) rfl rfl rfl (Nat.le_of_ble_eq_true rfl) (by decide) ?_
  refine zb_if_eq iX7_cart_5 (fun q5 => ?_) (fun q5 => absurd (q5.symm.trans (xNo_n hc (by omega))) (by decide))
  refine z_aload_n iX7_cart_11 rfl ?_
  refine z_getf iX7_cart_12 fX7_19 (wx) (xF_1 _) (by decide) ?_
  refine z_iload_n iX7_cart_15 rfl ?_
  refine z_cvi (y1 := mX0_isGone) iX7_cart_16 lX7_92 kX0_isGone rfl (vB3 (c_isGone G _ 3 (by decide) _ hs c (by omega))) (w3_o) rfl rfl rfl (Nat.le_of_ble_eq_true rfl) (by decide) ?_
  refine z_istore_n iX7_cart_19 rfl (by decide) ?_
  refine z_iload_n iX7_cart_20 rfl ?_
  refine z_tabIn (off := 201) (tgt := 222) iX7_cart_21 (by decide +kernel) (by decide +kernel) (by decide +kernel) (by decide) ?_
  refine z_iload_n iX7_cart_222 rfl ?_
  refine zb_if_eq iX7_cart_223 (fun q223 => absurd hg (of_decide_eq_false q223)) (fun q223 => ?_)
  refine z_iconst iX7_cart_226 zk_m1 ?_
  refine z_goto iX7_cart_227 ?_
  exact z_ireturn iX7_cart_258 (rfl) (rfl)
set_option maxRecDepth 20000 in
set_option maxHeartbeats 1000000 in
theorem c_cart_5a (G : zG) (pg nw kp sn ks fo ft fe gt mx : zs) (re : Nat → Int64) (m : zs) (hh : Int64) (hs : bOK nw) (c : Nat) (hc : c < rN nw 1) (hg : ¬ rF nw 7 c = 0) (p : Nat) (hf : bFind nw c = some p) : zK G mX7_cart [.ref 0, .int (nI c), .int (nI 5)] (wW pg nw kp sn ks fo ft fe gt mx re m hh) (some (.int (nI (rA nw 10 (rA nw 6 c) - 1 - p)))) (wW pg nw kp sn ks fo ft fe gt mx re m hh) := by
  obtain ⟨h11, h10, h6, h5, h0, h1⟩ := id hs
  have h5c := h5 c
  have h6c := h6 c
  refine zK_of 1 rfl (by decide) trivial (Nat.le_of_ble_eq_true rfl) rfl ?_
  refine z_aload_n iX7_cart_0 rfl ?_
  refine z_iload_n iX7_cart_1 rfl ?_
  refine z_cvi (y1 := mX7_isNoCart) iX7_cart_2 lX7_88 kX7_isNoCart rfl (c_noCart G pg nw kp sn ks fo ft fe gt mx re m hh _) (wx) rfl rfl rfl (Nat.le_of_ble_eq_true rfl) (by decide) ?_
  refine zb_if_eq iX7_cart_5 (fun q5 => ?_) (fun q5 => absurd (q5.symm.trans (xNo_n hc (by omega))) (by decide))
  refine z_aload_n iX7_cart_11 rfl ?_
  refine z_getf iX7_cart_12 fX7_19 (wx) (xF_1 _) (by decide) ?_
  refine z_iload_n iX7_cart_15 rfl ?_
  refine z_cvi (y1 := mX0_isGone) iX7_cart_16 lX7_92 kX0_isGone rfl (vB3 (c_isGone G _ 3 (by decide) _ hs c (by omega))) (w3_o) rfl rfl rfl (Nat.le_of_ble_eq_true rfl) (by decide) ?_
  refine z_istore_n iX7_cart_19 rfl (by decide) ?_
  refine z_iload_n iX7_cart_20 rfl ?_
  refine z_tabIn (off := 117) (tgt := 138) iX7_cart_21 (by decide +kernel) (by decide +kernel) (by decide +kernel) (by decide) ?_
  refine z_iload_n iX7_cart_138 rfl ?_
  refine zb_if_eq iX7_cart_139 (fun q139 => ?_) (fun q139 => absurd (of_decide_eq_true q139) hg)
  refine z_aload_n iX7_cart_146 rfl ?_
  refine z_getf iX7_cart_147 fX7_19 (wx) (xF_1 _) (by decide) ?_
  refine z_iload_n iX7_cart_150 rfl ?_
  refine z_cvi (y1 := mX0_howManyOn) iX7_cart_151 lX7_111 kX0_howManyOn rfl (vB3 (c_howManyOn G _ 3 (by decide) _ hs c (by omega) p hf)) (w3_o) rfl rfl rfl (Nat.le_of_ble_eq_true rfl) (by decide) ?_
  exact z_ireturn iX7_cart_154 (rfl) (rfl)
set_option maxRecDepth 20000 in
set_option maxHeartbeats 1000000 in
theorem c_cart_6a (G : zG) (pg nw kp sn ks fo ft fe gt mx : zs) (re : Nat → Int64) (m : zs) (hh : Int64) (hs : bOK nw) (c : Nat) (hc : c < rN nw 1) (hg : ¬ rF nw 7 c = 0) (p : Nat) (hf : bFind nw c = some p) : zK G mX7_cart [.ref 0, .int (nI c), .int (nI 6)] (wW pg nw kp sn ks fo ft fe gt mx re m hh) (some (.int (bGainAt nw (rA nw 6 c) p))) (wW pg nw kp sn ks fo ft fe gt mx re m hh) := by
  obtain ⟨h11, h10, h6, h5, h0, h1⟩ := id hs
  have h5c := h5 c
  have h6c := h6 c
  refine zK_of 1 rfl (by decide) trivial (Nat.le_of_ble_eq_true rfl) rfl ?_
  refine z_aload_n iX7_cart_0 rfl ?_
  refine z_iload_n iX7_cart_1 rfl ?_
  refine z_cvi (y1 := mX7_isNoCart) iX7_cart_2 lX7_88 kX7_isNoCart rfl (c_noCart G pg nw kp sn ks fo ft fe gt mx re m hh _) (wx) rfl rfl rfl (Nat.le_of_ble_eq_true rfl) (by decide) ?_
  refine zb_if_eq iX7_cart_5 (fun q5 => ?_) (fun q5 => absurd (q5.symm.trans (xNo_n hc (by omega))) (by decide))
  refine z_aload_n iX7_cart_11 rfl ?_
  refine z_getf iX7_cart_12 fX7_19 (wx) (xF_1 _) (by decide) ?_
  refine z_iload_n iX7_cart_15 rfl ?_
  refine z_cvi (y1 := mX0_isGone) iX7_cart_16 lX7_92 kX0_isGone rfl (vB3 (c_isGone G _ 3 (by decide) _ hs c (by omega))) (w3_o) rfl rfl rfl (Nat.le_of_ble_eq_true rfl) (by decide) ?_
  refine z_istore_n iX7_cart_19 rfl (by decide) ?_
  refine z_iload_n iX7_cart_20 rfl ?_
  refine z_tabIn (off := 134) (tgt := 155) iX7_cart_21 (by decide +kernel) (by decide +kernel) (by decide +kernel) (by decide) ?_
  refine z_iload_n iX7_cart_155 rfl ?_
  refine zb_if_eq iX7_cart_156 (fun q156 => ?_) (fun q156 => absurd (of_decide_eq_true q156) hg)
  refine z_aload_n iX7_cart_163 rfl ?_
  refine z_getf iX7_cart_164 fX7_19 (wx) (xF_1 _) (by decide) ?_
  refine z_iload_n iX7_cart_167 rfl ?_
  refine z_cvi (y1 := mX0_gain) iX7_cart_168 lX7_115 kX0_gain rfl (vB3 (c_gain G _ 3 (by decide) _ hs c (by omega) p hf)) (w3_o) rfl rfl rfl (Nat.le_of_ble_eq_true rfl) (by decide) ?_
  exact z_ireturn iX7_cart_171 (rfl) (rfl)
set_option maxRecDepth 20000 in
set_option maxHeartbeats 1000000 in
theorem c_cart_7a (G : zG) (pg nw kp sn ks fo ft fe gt mx : zs) (re : Nat → Int64) (m : zs) (hh : Int64) (hs : bOK nw) (c : Nat) (hc : c < rN nw 1) (hg : ¬ rF nw 7 c = 0) (hz : sOK sn) : zK G mX7_cart [.ref 0, .int (nI c), .int (nI 7)] (wW pg nw kp sn ks fo ft fe gt mx re m hh) (some (.int (nI (gWets sn (gAll nw c (gt, fe)).2 c)))) (wW pg nw kp sn ks fo ft (gAll nw c (gt, fe)).2 (gAll nw c (gt, fe)).1 mx re m hh) := by
  obtain ⟨h11, h10, h6, h5, h0, h1⟩ := id hs
  have h5c := h5 c
  have h6c := h6 c
  refine zK_of 1 rfl (by decide) trivial (Nat.le_of_ble_eq_true rfl) rfl ?_
  refine z_aload_n iX7_cart_0 rfl ?_
  refine z_iload_n iX7_cart_1 rfl ?_
  refine z_cvi (y1 := mX7_isNoCart) iX7_cart_2 lX7_88 kX7_isNoCart rfl (c_noCart G pg nw kp sn ks fo ft fe gt mx re m hh _) (wx) rfl rfl rfl (Nat.le_of_ble_eq_true rfl) (by decide) ?_
  refine zb_if_eq iX7_cart_5 (fun q5 => ?_) (fun q5 => absurd (q5.symm.trans (xNo_n hc (by omega))) (by decide))
  refine z_aload_n iX7_cart_11 rfl ?_
  refine z_getf iX7_cart_12 fX7_19 (wx) (xF_1 _) (by decide) ?_
  refine z_iload_n iX7_cart_15 rfl ?_
  refine z_cvi (y1 := mX0_isGone) iX7_cart_16 lX7_92 kX0_isGone rfl (vB3 (c_isGone G _ 3 (by decide) _ hs c (by omega))) (w3_o) rfl rfl rfl (Nat.le_of_ble_eq_true rfl) (by decide) ?_
  refine z_istore_n iX7_cart_19 rfl (by decide) ?_
  refine z_iload_n iX7_cart_20 rfl ?_
  refine z_tabIn (off := 151) (tgt := 172) iX7_cart_21 (by decide +kernel) (by decide +kernel) (by decide +kernel) (by decide) ?_
  refine z_iload_n iX7_cart_172 rfl ?_
  refine zb_if_eq iX7_cart_173 (fun q173 => ?_) (fun q173 => absurd (of_decide_eq_true q173) hg)
  refine z_aload_n iX7_cart_180 rfl ?_
  refine z_getf iX7_cart_181 fX7_46 (wx) (xF_6 _) (by decide) ?_
  refine z_aload_n iX7_cart_184 rfl ?_
  refine z_getf iX7_cart_185 fX7_19 (wx) (xF_1 _) (by decide) ?_
  refine z_aload_n iX7_cart_188 rfl ?_
  refine z_getf iX7_cart_189 fX7_29 (wx) (xF_3 _) (by decide) ?_
  refine z_iload_n iX7_cart_192 rfl ?_
  refine z_cvi (y1 := mX1_wets) iX7_cart_193 lX7_118 kX1_wets rfl (c_wets G pg nw kp sn ks fo ft fe gt mx re m hh hs hz c (by omega)) (we) rfl rfl rfl (Nat.le_of_ble_eq_true rfl) (by decide) ?_
  exact z_ireturn iX7_cart_196 (rfl) (rfl)
set_option maxRecDepth 20000 in
set_option maxHeartbeats 1000000 in
theorem c_cart_8a (G : zG) (pg nw kp sn ks fo ft fe gt mx : zs) (re : Nat → Int64) (m : zs) (hh : Int64) (hs : bOK nw) (c : Nat) (hc : c < rN nw 1) (hg : ¬ rF nw 7 c = 0) (hz : sOK sn) (hq : gWets sn (gAll nw c (gt, fe)).2 c = 0) : zK G mX7_cart [.ref 0, .int (nI c), .int (nI 8)] (wW pg nw kp sn ks fo ft fe gt mx re m hh) (some (.int (-1))) (wW pg nw kp sn ks fo ft (gAll nw c (gt, fe)).2 (gAll nw c (gt, fe)).1 mx re m hh) := by
  obtain ⟨h11, h10, h6, h5, h0, h1⟩ := id hs
  have h5c := h5 c
  have h6c := h6 c
  refine zK_of 1 rfl (by decide) trivial (Nat.le_of_ble_eq_true rfl) rfl ?_
  refine z_aload_n iX7_cart_0 rfl ?_
  refine z_iload_n iX7_cart_1 rfl ?_
  refine z_cvi (y1 := mX7_isNoCart) iX7_cart_2 lX7_88 kX7_isNoCart rfl (c_noCart G pg nw kp sn ks fo ft fe gt mx re m hh _) (wx) rfl rfl rfl (Nat.le_of_ble_eq_true rfl) (by decide) ?_
  refine zb_if_eq iX7_cart_5 (fun q5 => ?_) (fun q5 => absurd (q5.symm.trans (xNo_n hc (by omega))) (by decide))
  refine z_aload_n iX7_cart_11 rfl ?_
  refine z_getf iX7_cart_12 fX7_19 (wx) (xF_1 _) (by decide) ?_
  refine z_iload_n iX7_cart_15 rfl ?_
  refine z_cvi (y1 := mX0_isGone) iX7_cart_16 lX7_92 kX0_isGone rfl (vB3 (c_isGone G _ 3 (by decide) _ hs c (by omega))) (w3_o) rfl rfl rfl (Nat.le_of_ble_eq_true rfl) (by decide) ?_
  refine z_istore_n iX7_cart_19 rfl (by decide) ?_
  refine z_iload_n iX7_cart_20 rfl ?_
  refine z_tabIn (off := 176) (tgt := 197) iX7_cart_21 (by decide +kernel) (by decide +kernel) (by decide +kernel) (by decide) ?_
  refine z_iload_n iX7_cart_197 rfl ?_
  refine zb_if_eq iX7_cart_198 (fun q198 => ?_) (fun q198 => absurd (of_decide_eq_true q198) hg)
  refine z_aload_n iX7_cart_205 rfl ?_
  refine z_getf iX7_cart_206 fX7_46 (wx) (xF_6 _) (by decide) ?_
  refine z_aload_n iX7_cart_209 rfl ?_
  refine z_getf iX7_cart_210 fX7_19 (wx) (xF_1 _) (by decide) ?_
  refine z_aload_n iX7_cart_213 rfl ?_
  refine z_getf iX7_cart_214 fX7_29 (wx) (xF_3 _) (by decide) ?_
  refine z_iload_n iX7_cart_217 rfl ?_
  refine z_cvi (y1 := mX1_bestDay) iX7_cart_218 lX7_122 kX1_bestDay rfl (c_bestDay0 G pg nw kp sn ks fo ft fe gt mx re m hh hs hz c (by omega) hq) (we) rfl rfl rfl (Nat.le_of_ble_eq_true rfl) (by decide) ?_
  exact z_ireturn iX7_cart_221 (rfl) (rfl)
set_option maxRecDepth 20000 in
set_option maxHeartbeats 1000000 in
theorem c_cart_8b (G : zG) (pg nw kp sn ks fo ft fe gt mx : zs) (re : Nat → Int64) (m : zs) (hh : Int64) (hs : bOK nw) (c : Nat) (hc : c < rN nw 1) (hg : ¬ rF nw 7 c = 0) (hz : sOK sn) (t : Nat) (ht : t < 2 ^ 31) (hq : gWets sn (gAll nw c (gt, fe)).2 c = t) (hn : ¬ t = 0) (wn : Nat → Nat) (hw : ∀ j, rF (gAll nw c (gt, fe)).2 1 j = nI (wn j) ∧ wn j ≤ 30) : zK G mX7_cart [.ref 0, .int (nI c), .int (nI 8)] (wW pg nw kp sn ks fo ft fe gt mx re m hh) (some (.int ((gBest t wn (gAll nw c (gt, fe)).2).1))) (wW pg nw kp sn ks fo ft (gBest t wn (gAll nw c (gt, fe)).2).2.2 (gAll nw c (gt, fe)).1 mx re m hh) := by
  obtain ⟨h11, h10, h6, h5, h0, h1⟩ := id hs
  have h5c := h5 c
  have h6c := h6 c
  refine zK_of 1 rfl (by decide) trivial (Nat.le_of_ble_eq_true rfl) rfl ?_
  refine z_aload_n iX7_cart_0 rfl ?_
  refine z_iload_n iX7_cart_1 rfl ?_
  refine z_cvi (y1 := mX7_isNoCart) iX7_cart_2 lX7_88 kX7_isNoCart rfl (c_noCart G pg nw kp sn ks fo ft fe gt mx re m hh _) (wx) rfl rfl rfl (Nat.le_of_ble_eq_true rfl) (by decide) ?_
  refine zb_if_eq iX7_cart_5 (fun q5 => ?_) (fun q5 => absurd (q5.symm.trans (xNo_n hc (by omega))) (by decide))
  refine z_aload_n iX7_cart_11 rfl ?_
  refine z_getf iX7_cart_12 fX7_19 (wx) (xF_1 _) (by decide) ?_
  refine z_iload_n iX7_cart_15 rfl ?_
  refine z_cvi (y1 := mX0_isGone) iX7_cart_16 lX7_92 kX0_isGone rfl (vB3 (c_isGone G _ 3 (by decide) _ hs c (by omega))) (w3_o) rfl rfl rfl (Nat.le_of_ble_eq_true rfl) (by decide) ?_
  refine z_istore_n iX7_cart_19 rfl (by decide) ?_
  refine z_iload_n iX7_cart_20 rfl ?_
  refine z_tabIn (off := 176) (tgt := 197) iX7_cart_21 (by decide +kernel) (by decide +kernel) (by decide +kernel) (by decide) ?_
  refine z_iload_n iX7_cart_197 rfl ?_
  refine zb_if_eq iX7_cart_198 (fun q198 => ?_) (fun q198 => absurd (of_decide_eq_true q198) hg)
  refine z_aload_n iX7_cart_205 rfl ?_
  refine z_getf iX7_cart_206 fX7_46 (wx) (xF_6 _) (by decide) ?_
  refine z_aload_n iX7_cart_209 rfl ?_
  refine z_getf iX7_cart_210 fX7_19 (wx) (xF_1 _) (by decide) ?_
  refine z_aload_n iX7_cart_213 rfl ?_
  refine z_getf iX7_cart_214 fX7_29 (wx) (xF_3 _) (by decide) ?_
  refine z_iload_n iX7_cart_217 rfl ?_
  refine z_cvi (y1 := mX1_bestDay) iX7_cart_218 lX7_122 kX1_bestDay rfl (c_bestDay1 G pg nw kp sn ks fo ft fe gt mx re m hh hs hz c (by omega) t ht hq hn wn hw) (we) rfl rfl rfl (Nat.le_of_ble_eq_true rfl) (by decide) ?_
  exact z_ireturn iX7_cart_221 (rfl) (rfl)
set_option maxRecDepth 20000 in
set_option maxHeartbeats 1000000 in
theorem c_cart_10a (G : zG) (pg nw kp sn ks fo ft fe gt mx : zs) (re : Nat → Int64) (m : zs) (hh : Int64) (hs : bOK nw) (c : Nat) (hc : c < rN nw 1) (hg : ¬ rF nw 7 c = 0)  : zK G mX7_cart [.ref 0, .int (nI c), .int (nI 10)] (wW pg nw kp sn ks fo ft fe gt mx re m hh) (some (.int (kGives (rA nw 5 c) (if rF nw 7 c < nI 1 then rF nw 7 c else nI 1)))) (wW pg nw kp sn ks fo ft fe gt mx re m hh) := by
  obtain ⟨h11, h10, h6, h5, h0, h1⟩ := id hs
  have h5c := h5 c
  have h6c := h6 c
  refine zK_of 1 rfl (by decide) trivial (Nat.le_of_ble_eq_true rfl) rfl ?_
  refine z_aload_n iX7_cart_0 rfl ?_
  refine z_iload_n iX7_cart_1 rfl ?_
  refine z_cvi (y1 := mX7_isNoCart) iX7_cart_2 lX7_88 kX7_isNoCart rfl (c_noCart G pg nw kp sn ks fo ft fe gt mx re m hh _) (wx) rfl rfl rfl (Nat.le_of_ble_eq_true rfl) (by decide) ?_
  refine zb_if_eq iX7_cart_5 (fun q5 => ?_) (fun q5 => absurd (q5.symm.trans (xNo_n hc (by omega))) (by decide))
  refine z_aload_n iX7_cart_11 rfl ?_
  refine z_getf iX7_cart_12 fX7_19 (wx) (xF_1 _) (by decide) ?_
  refine z_iload_n iX7_cart_15 rfl ?_
  refine z_cvi (y1 := mX0_isGone) iX7_cart_16 lX7_92 kX0_isGone rfl (vB3 (c_isGone G _ 3 (by decide) _ hs c (by omega))) (w3_o) rfl rfl rfl (Nat.le_of_ble_eq_true rfl) (by decide) ?_
  refine z_istore_n iX7_cart_19 rfl (by decide) ?_
  refine z_iload_n iX7_cart_20 rfl ?_
  refine z_tabIn (off := 201) (tgt := 222) iX7_cart_21 (by decide +kernel) (by decide +kernel) (by decide +kernel) (by decide) ?_
  refine z_iload_n iX7_cart_222 rfl ?_
  refine zb_if_eq iX7_cart_223 (fun q223 => ?_) (fun q223 => absurd (of_decide_eq_true q223) hg)
  refine z_aload_n iX7_cart_230 rfl ?_
  refine z_getf iX7_cart_231 fX7_19 (wx) (xF_1 _) (by decide) ?_
  refine z_getf iX7_cart_234 fX7_95 (w3_o) (BF_5 _ _) (by decide) ?_
  refine z_iload_n iX7_cart_237 rfl ?_
  refine z_iaload iX7_cart_238 (w3_5) rfl (by omega) (by decide) (by decide) ?_
  refine z_iload_n iX7_cart_239 rfl ?_
  refine z_bipush iX7_cart_240 zb_9 ?_
  refine z_isub iX7_cart_242 ?_
  refine z_top (nix_sub (by omega)) ?_
  refine z_aload_n iX7_cart_243 rfl ?_
  refine z_getf iX7_cart_244 fX7_19 (wx) (xF_1 _) (by decide) ?_
  refine z_getf iX7_cart_247 fX7_99 (w3_o) (BF_7 _ _) (by decide) ?_
  refine z_iload_n iX7_cart_250 rfl ?_
  refine z_iaload iX7_cart_251 (w3_7) rfl (by omega) (by decide) (by decide) ?_
  refine z_mmin iX7_cart_252 lX7_125 (by decide) (Nat.le_of_ble_eq_true rfl) ?_
  refine z_csi (y1 := mX3_gives) iX7_cart_255 lX7_131 kX3_gives rfl (c_gives G _ _ _ (by omega)) rfl rfl (Nat.le_of_ble_eq_true rfl) ?_
  exact z_ireturn iX7_cart_258 (rfl) (rfl)
set_option maxRecDepth 20000 in
set_option maxHeartbeats 1000000 in
theorem c_cart_11a (G : zG) (pg nw kp sn ks fo ft fe gt mx : zs) (re : Nat → Int64) (m : zs) (hh : Int64) (hs : bOK nw) (c : Nat) (hc : c < rN nw 1) (hg : ¬ rF nw 7 c = 0)  : zK G mX7_cart [.ref 0, .int (nI c), .int (nI 11)] (wW pg nw kp sn ks fo ft fe gt mx re m hh) (some (.int (kGives (rA nw 5 c) (if rF nw 7 c < nI 2 then rF nw 7 c else nI 2)))) (wW pg nw kp sn ks fo ft fe gt mx re m hh) := by
  obtain ⟨h11, h10, h6, h5, h0, h1⟩ := id hs
  have h5c := h5 c
  have h6c := h6 c
  refine zK_of 1 rfl (by decide) trivial (Nat.le_of_ble_eq_true rfl) rfl ?_
  refine z_aload_n iX7_cart_0 rfl ?_
  refine z_iload_n iX7_cart_1 rfl ?_
  refine z_cvi (y1 := mX7_isNoCart) iX7_cart_2 lX7_88 kX7_isNoCart rfl (c_noCart G pg nw kp sn ks fo ft fe gt mx re m hh _) (wx) rfl rfl rfl (Nat.le_of_ble_eq_true rfl) (by decide) ?_
  refine zb_if_eq iX7_cart_5 (fun q5 => ?_) (fun q5 => absurd (q5.symm.trans (xNo_n hc (by omega))) (by decide))
  refine z_aload_n iX7_cart_11 rfl ?_
  refine z_getf iX7_cart_12 fX7_19 (wx) (xF_1 _) (by decide) ?_
  refine z_iload_n iX7_cart_15 rfl ?_
  refine z_cvi (y1 := mX0_isGone) iX7_cart_16 lX7_92 kX0_isGone rfl (vB3 (c_isGone G _ 3 (by decide) _ hs c (by omega))) (w3_o) rfl rfl rfl (Nat.le_of_ble_eq_true rfl) (by decide) ?_
  refine z_istore_n iX7_cart_19 rfl (by decide) ?_
  refine z_iload_n iX7_cart_20 rfl ?_
  refine z_tabIn (off := 201) (tgt := 222) iX7_cart_21 (by decide +kernel) (by decide +kernel) (by decide +kernel) (by decide) ?_
  refine z_iload_n iX7_cart_222 rfl ?_
  refine zb_if_eq iX7_cart_223 (fun q223 => ?_) (fun q223 => absurd (of_decide_eq_true q223) hg)
  refine z_aload_n iX7_cart_230 rfl ?_
  refine z_getf iX7_cart_231 fX7_19 (wx) (xF_1 _) (by decide) ?_
  refine z_getf iX7_cart_234 fX7_95 (w3_o) (BF_5 _ _) (by decide) ?_
  refine z_iload_n iX7_cart_237 rfl ?_
  refine z_iaload iX7_cart_238 (w3_5) rfl (by omega) (by decide) (by decide) ?_
  refine z_iload_n iX7_cart_239 rfl ?_
  refine z_bipush iX7_cart_240 zb_9 ?_
  refine z_isub iX7_cart_242 ?_
  refine z_top (nix_sub (by omega)) ?_
  refine z_aload_n iX7_cart_243 rfl ?_
  refine z_getf iX7_cart_244 fX7_19 (wx) (xF_1 _) (by decide) ?_
  refine z_getf iX7_cart_247 fX7_99 (w3_o) (BF_7 _ _) (by decide) ?_
  refine z_iload_n iX7_cart_250 rfl ?_
  refine z_iaload iX7_cart_251 (w3_7) rfl (by omega) (by decide) (by decide) ?_
  refine z_mmin iX7_cart_252 lX7_125 (by decide) (Nat.le_of_ble_eq_true rfl) ?_
  refine z_csi (y1 := mX3_gives) iX7_cart_255 lX7_131 kX3_gives rfl (c_gives G _ _ _ (by omega)) rfl rfl (Nat.le_of_ble_eq_true rfl) ?_
  exact z_ireturn iX7_cart_258 (rfl) (rfl)
set_option maxRecDepth 20000 in
set_option maxHeartbeats 1000000 in
theorem c_cart_12a (G : zG) (pg nw kp sn ks fo ft fe gt mx : zs) (re : Nat → Int64) (m : zs) (hh : Int64) (hs : bOK nw) (c : Nat) (hc : c < rN nw 1) (hg : ¬ rF nw 7 c = 0)  : zK G mX7_cart [.ref 0, .int (nI c), .int (nI 12)] (wW pg nw kp sn ks fo ft fe gt mx re m hh) (some (.int (kGives (rA nw 5 c) (if rF nw 7 c < nI 3 then rF nw 7 c else nI 3)))) (wW pg nw kp sn ks fo ft fe gt mx re m hh) := by
  obtain ⟨h11, h10, h6, h5, h0, h1⟩ := id hs
  have h5c := h5 c
  have h6c := h6 c
  refine zK_of 1 rfl (by decide) trivial (Nat.le_of_ble_eq_true rfl) rfl ?_
  refine z_aload_n iX7_cart_0 rfl ?_
  refine z_iload_n iX7_cart_1 rfl ?_
  refine z_cvi (y1 := mX7_isNoCart) iX7_cart_2 lX7_88 kX7_isNoCart rfl (c_noCart G pg nw kp sn ks fo ft fe gt mx re m hh _) (wx) rfl rfl rfl (Nat.le_of_ble_eq_true rfl) (by decide) ?_
  refine zb_if_eq iX7_cart_5 (fun q5 => ?_) (fun q5 => absurd (q5.symm.trans (xNo_n hc (by omega))) (by decide))
  refine z_aload_n iX7_cart_11 rfl ?_
  refine z_getf iX7_cart_12 fX7_19 (wx) (xF_1 _) (by decide) ?_
  refine z_iload_n iX7_cart_15 rfl ?_
  refine z_cvi (y1 := mX0_isGone) iX7_cart_16 lX7_92 kX0_isGone rfl (vB3 (c_isGone G _ 3 (by decide) _ hs c (by omega))) (w3_o) rfl rfl rfl (Nat.le_of_ble_eq_true rfl) (by decide) ?_
  refine z_istore_n iX7_cart_19 rfl (by decide) ?_
  refine z_iload_n iX7_cart_20 rfl ?_
  refine z_tabIn (off := 201) (tgt := 222) iX7_cart_21 (by decide +kernel) (by decide +kernel) (by decide +kernel) (by decide) ?_
  refine z_iload_n iX7_cart_222 rfl ?_
  refine zb_if_eq iX7_cart_223 (fun q223 => ?_) (fun q223 => absurd (of_decide_eq_true q223) hg)
  refine z_aload_n iX7_cart_230 rfl ?_
  refine z_getf iX7_cart_231 fX7_19 (wx) (xF_1 _) (by decide) ?_
  refine z_getf iX7_cart_234 fX7_95 (w3_o) (BF_5 _ _) (by decide) ?_
  refine z_iload_n iX7_cart_237 rfl ?_
  refine z_iaload iX7_cart_238 (w3_5) rfl (by omega) (by decide) (by decide) ?_
  refine z_iload_n iX7_cart_239 rfl ?_
  refine z_bipush iX7_cart_240 zb_9 ?_
  refine z_isub iX7_cart_242 ?_
  refine z_top (nix_sub (by omega)) ?_
  refine z_aload_n iX7_cart_243 rfl ?_
  refine z_getf iX7_cart_244 fX7_19 (wx) (xF_1 _) (by decide) ?_
  refine z_getf iX7_cart_247 fX7_99 (w3_o) (BF_7 _ _) (by decide) ?_
  refine z_iload_n iX7_cart_250 rfl ?_
  refine z_iaload iX7_cart_251 (w3_7) rfl (by omega) (by decide) (by decide) ?_
  refine z_mmin iX7_cart_252 lX7_125 (by decide) (Nat.le_of_ble_eq_true rfl) ?_
  refine z_csi (y1 := mX3_gives) iX7_cart_255 lX7_131 kX3_gives rfl (c_gives G _ _ _ (by omega)) rfl rfl (Nat.le_of_ble_eq_true rfl) ?_
  exact z_ireturn iX7_cart_258 (rfl) (rfl)
set_option maxRecDepth 20000 in
set_option maxHeartbeats 1000000 in
theorem c_bay0 (G : zG) (pg nw kp sn ks fo ft fe gt mx : zs) (re : Nat → Int64) (m : zs) (hh : Int64) (k q : Int32) (h : xNo k (rN nw 0) = true) : zK G mX7_bay [.ref 0, .int k, .int q] (wW pg nw kp sn ks fo ft fe gt mx re m hh) (some (.int (-101))) (wW pg nw kp sn ks fo ft fe gt mx re m hh) := by
  refine zK_of 0 rfl (by decide) trivial (Nat.le_of_ble_eq_true rfl) rfl ?_
  refine z_aload_n iX7_bay_0 rfl ?_
  refine z_iload_n iX7_bay_1 rfl ?_
  refine z_cvi (y1 := mX7_isNoBay) iX7_bay_2 lX7_140 kX7_isNoBay rfl (c_noBay G pg nw kp sn ks fo ft fe gt mx re m hh _) (wx) rfl rfl rfl (Nat.le_of_ble_eq_true rfl) (by decide) ?_
  refine zb_if_eq iX7_bay_5 (fun q5 => absurd (q5.symm.trans h) (by decide)) (fun q5 => ?_)
  refine z_bipush iX7_bay_8 zb_m101 ?_
  exact z_ireturn iX7_bay_10 (rfl) (rfl)
set_option maxRecDepth 20000 in
set_option maxHeartbeats 1000000 in
theorem c_bay_0 (G : zG) (pg nw kp sn ks fo ft fe gt mx : zs) (re : Nat → Int64) (m : zs) (hh : Int64) (hs : bOK nw) (b : Nat) (hb : b < rN nw 0)  : zK G mX7_bay [.ref 0, .int (nI b), .int (nI 0)] (wW pg nw kp sn ks fo ft fe gt mx re m hh) (some (.int (nI (rA nw 10 b)))) (wW pg nw kp sn ks fo ft fe gt mx re m hh) := by
  obtain ⟨h11, h10, h6, h5, h0, h1⟩ := id hs
  have h10b := h10 b
  refine zK_of 0 rfl (by decide) trivial (Nat.le_of_ble_eq_true rfl) rfl ?_
  refine z_aload_n iX7_bay_0 rfl ?_
  refine z_iload_n iX7_bay_1 rfl ?_
  refine z_cvi (y1 := mX7_isNoBay) iX7_bay_2 lX7_140 kX7_isNoBay rfl (c_noBay G pg nw kp sn ks fo ft fe gt mx re m hh _) (wx) rfl rfl rfl (Nat.le_of_ble_eq_true rfl) (by decide) ?_
  refine zb_if_eq iX7_bay_5 (fun q5 => ?_) (fun q5 => absurd (q5.symm.trans (xNo_n hb (by omega))) (by decide))
  refine z_iload_n iX7_bay_11 rfl ?_
  refine z_tabIn (off := 68) (tgt := 80) iX7_bay_12 (by decide +kernel) (by decide +kernel) (by decide +kernel) (by decide) ?_
  refine z_aload_n iX7_bay_80 rfl ?_
  refine z_getf iX7_bay_81 fX7_19 (wx) (xF_1 _) (by decide) ?_
  refine z_getf iX7_bay_84 fX7_143 (w3_o) (BF_10 _ _) (by decide) ?_
  refine z_iload_n iX7_bay_87 rfl ?_
  refine z_iaload iX7_bay_88 (w3_10) rfl (by omega) (by decide) (by decide) ?_
  exact z_ireturn iX7_bay_89 (rfl) (rfl)
set_option maxRecDepth 20000 in
set_option maxHeartbeats 1000000 in
theorem c_bay_1 (G : zG) (pg nw kp sn ks fo ft fe gt mx : zs) (re : Nat → Int64) (m : zs) (hh : Int64) (hs : bOK nw) (b : Nat) (hb : b < rN nw 0)  : zK G mX7_bay [.ref 0, .int (nI b), .int (nI 1)] (wW pg nw kp sn ks fo ft fe gt mx re m hh) (some (.int (bTop nw b))) (wW pg nw kp sn ks fo ft fe gt mx re m hh) := by
  obtain ⟨h11, h10, h6, h5, h0, h1⟩ := id hs
  have h10b := h10 b
  refine zK_of 0 rfl (by decide) trivial (Nat.le_of_ble_eq_true rfl) rfl ?_
  refine z_aload_n iX7_bay_0 rfl ?_
  refine z_iload_n iX7_bay_1 rfl ?_
  refine z_cvi (y1 := mX7_isNoBay) iX7_bay_2 lX7_140 kX7_isNoBay rfl (c_noBay G pg nw kp sn ks fo ft fe gt mx re m hh _) (wx) rfl rfl rfl (Nat.le_of_ble_eq_true rfl) (by decide) ?_
  refine zb_if_eq iX7_bay_5 (fun q5 => ?_) (fun q5 => absurd (q5.symm.trans (xNo_n hb (by omega))) (by decide))
  refine z_iload_n iX7_bay_11 rfl ?_
  refine z_tabIn (off := 78) (tgt := 90) iX7_bay_12 (by decide +kernel) (by decide +kernel) (by decide +kernel) (by decide) ?_
  refine z_aload_n iX7_bay_90 rfl ?_
  refine z_getf iX7_bay_91 fX7_19 (wx) (xF_1 _) (by decide) ?_
  refine z_iload_n iX7_bay_94 rfl ?_
  refine z_cvi (y1 := mX0_top) iX7_bay_95 lX7_146 kX0_top rfl (vB3 (c_top G _ 3 (by decide) _ hs b (by omega))) (w3_o) rfl rfl rfl (Nat.le_of_ble_eq_true rfl) (by decide) ?_
  exact z_ireturn iX7_bay_98 (rfl) (rfl)
set_option maxRecDepth 20000 in
set_option maxHeartbeats 1000000 in
theorem c_bay_2 (G : zG) (pg nw kp sn ks fo ft fe gt mx : zs) (re : Nat → Int64) (m : zs) (hh : Int64) (hs : bOK nw) (b : Nat) (hb : b < rN nw 0)  : zK G mX7_bay [.ref 0, .int (nI b), .int (nI 2)] (wW pg nw kp sn ks fo ft fe gt mx re m hh) (some (.int (bLightOf nw b))) (wW pg nw kp sn ks fo ft fe gt mx re m hh) := by
  obtain ⟨h11, h10, h6, h5, h0, h1⟩ := id hs
  have h10b := h10 b
  refine zK_of 0 rfl (by decide) trivial (Nat.le_of_ble_eq_true rfl) rfl ?_
  refine z_aload_n iX7_bay_0 rfl ?_
  refine z_iload_n iX7_bay_1 rfl ?_
  refine z_cvi (y1 := mX7_isNoBay) iX7_bay_2 lX7_140 kX7_isNoBay rfl (c_noBay G pg nw kp sn ks fo ft fe gt mx re m hh _) (wx) rfl rfl rfl (Nat.le_of_ble_eq_true rfl) (by decide) ?_
  refine zb_if_eq iX7_bay_5 (fun q5 => ?_) (fun q5 => absurd (q5.symm.trans (xNo_n hb (by omega))) (by decide))
  refine z_iload_n iX7_bay_11 rfl ?_
  refine z_tabIn (off := 87) (tgt := 99) iX7_bay_12 (by decide +kernel) (by decide +kernel) (by decide +kernel) (by decide) ?_
  refine z_aload_n iX7_bay_99 rfl ?_
  refine z_getf iX7_bay_100 fX7_19 (wx) (xF_1 _) (by decide) ?_
  refine z_iload_n iX7_bay_103 rfl ?_
  refine z_cvi (y1 := mX0_lightOf) iX7_bay_104 lX7_149 kX0_lightOf rfl (vB3 (c_lightOf G _ 3 (by decide) _ hs b (by omega))) (w3_o) rfl rfl rfl (Nat.le_of_ble_eq_true rfl) (by decide) ?_
  exact z_ireturn iX7_bay_107 (rfl) (rfl)
set_option maxRecDepth 20000 in
set_option maxHeartbeats 1000000 in
theorem c_bay_3 (G : zG) (pg nw kp sn ks fo ft fe gt mx : zs) (re : Nat → Int64) (m : zs) (hh : Int64) (hs : bOK nw) (b : Nat) (hb : b < rN nw 0)  : zK G mX7_bay [.ref 0, .int (nI b), .int (nI 3)] (wW pg nw kp sn ks fo ft fe gt mx re m hh) (some (.int (nI (fSafe nw ft b).1))) (wW pg nw kp sn ks fo (fSafe nw ft b).2.2 fe gt mx re m hh) := by
  obtain ⟨h11, h10, h6, h5, h0, h1⟩ := id hs
  have h10b := h10 b
  refine zK_of 0 rfl (by decide) trivial (Nat.le_of_ble_eq_true rfl) rfl ?_
  refine z_aload_n iX7_bay_0 rfl ?_
  refine z_iload_n iX7_bay_1 rfl ?_
  refine z_cvi (y1 := mX7_isNoBay) iX7_bay_2 lX7_140 kX7_isNoBay rfl (c_noBay G pg nw kp sn ks fo ft fe gt mx re m hh _) (wx) rfl rfl rfl (Nat.le_of_ble_eq_true rfl) (by decide) ?_
  refine zb_if_eq iX7_bay_5 (fun q5 => ?_) (fun q5 => absurd (q5.symm.trans (xNo_n hb (by omega))) (by decide))
  refine z_iload_n iX7_bay_11 rfl ?_
  refine z_tabIn (off := 96) (tgt := 108) iX7_bay_12 (by decide +kernel) (by decide +kernel) (by decide +kernel) (by decide) ?_
  refine z_aload_n iX7_bay_108 rfl ?_
  refine z_getf iX7_bay_109 fX7_39 (wx) (xF_5 _) (by decide) ?_
  refine z_aload_n iX7_bay_112 rfl ?_
  refine z_getf iX7_bay_113 fX7_19 (wx) (xF_1 _) (by decide) ?_
  refine z_iload_n iX7_bay_116 rfl ?_
  refine z_cvi (y1 := mX2_safe) iX7_bay_117 lX7_152 kX2_safe rfl (c_safe G pg nw kp sn ks fo ft fe gt mx re m hh hs b (by omega)) (wf) rfl rfl rfl (Nat.le_of_ble_eq_true rfl) (by decide) ?_
  exact z_ireturn iX7_bay_120 (rfl) (rfl)
set_option maxRecDepth 20000 in
set_option maxHeartbeats 1000000 in
theorem c_bay_4 (G : zG) (pg nw kp sn ks fo ft fe gt mx : zs) (re : Nat → Int64) (m : zs) (hh : Int64) (hs : bOK nw) (b : Nat) (hb : b < rN nw 0) (hq : (fSafe nw ft b).1 < 2 ^ 30) : zK G mX7_bay [.ref 0, .int (nI b), .int (nI 4)] (wW pg nw kp sn ks fo ft fe gt mx re m hh) (some (.int (bLightSome nw b (fSafe nw ft b).1))) (wW pg nw kp sn ks fo (fSafe nw ft b).2.2 fe gt mx re m hh) := by
  obtain ⟨h11, h10, h6, h5, h0, h1⟩ := id hs
  have h10b := h10 b
  refine zK_of 0 rfl (by decide) trivial (Nat.le_of_ble_eq_true rfl) rfl ?_
  refine z_aload_n iX7_bay_0 rfl ?_
  refine z_iload_n iX7_bay_1 rfl ?_
  refine z_cvi (y1 := mX7_isNoBay) iX7_bay_2 lX7_140 kX7_isNoBay rfl (c_noBay G pg nw kp sn ks fo ft fe gt mx re m hh _) (wx) rfl rfl rfl (Nat.le_of_ble_eq_true rfl) (by decide) ?_
  refine zb_if_eq iX7_bay_5 (fun q5 => ?_) (fun q5 => absurd (q5.symm.trans (xNo_n hb (by omega))) (by decide))
  refine z_iload_n iX7_bay_11 rfl ?_
  refine z_tabIn (off := 109) (tgt := 121) iX7_bay_12 (by decide +kernel) (by decide +kernel) (by decide +kernel) (by decide) ?_
  refine z_aload_n iX7_bay_121 rfl ?_
  refine z_getf iX7_bay_122 fX7_19 (wx) (xF_1 _) (by decide) ?_
  refine z_iload_n iX7_bay_125 rfl ?_
  refine z_aload_n iX7_bay_126 rfl ?_
  refine z_getf iX7_bay_127 fX7_39 (wx) (xF_5 _) (by decide) ?_
  refine z_aload_n iX7_bay_130 rfl ?_
  refine z_getf iX7_bay_131 fX7_19 (wx) (xF_1 _) (by decide) ?_
  refine z_iload_n iX7_bay_134 rfl ?_
  refine z_cvi (y1 := mX2_safe) iX7_bay_135 lX7_152 kX2_safe rfl (c_safe G pg nw kp sn ks fo ft fe gt mx re m hh hs b (by omega)) (wf) rfl rfl rfl (Nat.le_of_ble_eq_true rfl) (by decide) ?_
  refine z_cvi (y1 := mX0_lightOfSome) iX7_bay_138 lX7_156 kX0_lightOfSome rfl (vB3 (c_lightSome G _ 3 (by decide) _ hs b _ (by omega) hq)) (w3_o) rfl rfl rfl (Nat.le_of_ble_eq_true rfl) (by decide) ?_
  exact z_ireturn iX7_bay_141 (rfl) (rfl)
set_option maxRecDepth 20000 in
set_option maxHeartbeats 1000000 in
theorem c_bay_5 (G : zG) (pg nw kp sn ks fo ft fe gt mx : zs) (re : Nat → Int64) (m : zs) (hh : Int64) (hs : bOK nw) (b : Nat) (hb : b < rN nw 0)  : zK G mX7_bay [.ref 0, .int (nI b), .int (nI 5)] (wW pg nw kp sn ks fo ft fe gt mx re m hh) (some (.int (-102))) (wW pg nw kp sn ks fo ft fe gt mx re m hh) := by
  obtain ⟨h11, h10, h6, h5, h0, h1⟩ := id hs
  have h10b := h10 b
  refine zK_of 0 rfl (by decide) trivial (Nat.le_of_ble_eq_true rfl) rfl ?_
  refine z_aload_n iX7_bay_0 rfl ?_
  refine z_iload_n iX7_bay_1 rfl ?_
  refine z_cvi (y1 := mX7_isNoBay) iX7_bay_2 lX7_140 kX7_isNoBay rfl (c_noBay G pg nw kp sn ks fo ft fe gt mx re m hh _) (wx) rfl rfl rfl (Nat.le_of_ble_eq_true rfl) (by decide) ?_
  refine zb_if_eq iX7_bay_5 (fun q5 => ?_) (fun q5 => absurd (q5.symm.trans (xNo_n hb (by omega))) (by decide))
  refine z_iload_n iX7_bay_11 rfl ?_
  refine z_tabIn (off := 143) (tgt := 155) iX7_bay_12 (by decide +kernel) (by decide +kernel) (by decide +kernel) (by decide) ?_
  refine z_bipush iX7_bay_155 zb_m102 ?_
  exact z_ireturn iX7_bay_157 (rfl) (rfl)
set_option maxRecDepth 20000 in
set_option maxHeartbeats 1000000 in
theorem c_bay_6 (G : zG) (pg nw kp sn ks fo ft fe gt mx : zs) (re : Nat → Int64) (m : zs) (hh : Int64) (hs : bOK nw) (b : Nat) (hb : b < rN nw 0)  : zK G mX7_bay [.ref 0, .int (nI b), .int (nI 6)] (wW pg nw kp sn ks fo ft fe gt mx re m hh) (some (.int (-102))) (wW pg nw kp sn ks fo ft fe gt mx re m hh) := by
  obtain ⟨h11, h10, h6, h5, h0, h1⟩ := id hs
  have h10b := h10 b
  refine zK_of 0 rfl (by decide) trivial (Nat.le_of_ble_eq_true rfl) rfl ?_
  refine z_aload_n iX7_bay_0 rfl ?_
  refine z_iload_n iX7_bay_1 rfl ?_
  refine z_cvi (y1 := mX7_isNoBay) iX7_bay_2 lX7_140 kX7_isNoBay rfl (c_noBay G pg nw kp sn ks fo ft fe gt mx re m hh _) (wx) rfl rfl rfl (Nat.le_of_ble_eq_true rfl) (by decide) ?_
  refine zb_if_eq iX7_bay_5 (fun q5 => ?_) (fun q5 => absurd (q5.symm.trans (xNo_n hb (by omega))) (by decide))
  refine z_iload_n iX7_bay_11 rfl ?_
  refine z_tabIn (off := 143) (tgt := 155) iX7_bay_12 (by decide +kernel) (by decide +kernel) (by decide +kernel) (by decide) ?_
  refine z_bipush iX7_bay_155 zb_m102 ?_
  exact z_ireturn iX7_bay_157 (rfl) (rfl)
set_option maxRecDepth 20000 in
set_option maxHeartbeats 1000000 in
theorem c_bay_7 (G : zG) (pg nw kp sn ks fo ft fe gt mx : zs) (re : Nat → Int64) (m : zs) (hh : Int64) (hs : bOK nw) (b : Nat) (hb : b < rN nw 0)  : zK G mX7_bay [.ref 0, .int (nI b), .int (nI 7)] (wW pg nw kp sn ks fo ft fe gt mx re m hh) (some (.int (-102))) (wW pg nw kp sn ks fo ft fe gt mx re m hh) := by
  obtain ⟨h11, h10, h6, h5, h0, h1⟩ := id hs
  have h10b := h10 b
  refine zK_of 0 rfl (by decide) trivial (Nat.le_of_ble_eq_true rfl) rfl ?_
  refine z_aload_n iX7_bay_0 rfl ?_
  refine z_iload_n iX7_bay_1 rfl ?_
  refine z_cvi (y1 := mX7_isNoBay) iX7_bay_2 lX7_140 kX7_isNoBay rfl (c_noBay G pg nw kp sn ks fo ft fe gt mx re m hh _) (wx) rfl rfl rfl (Nat.le_of_ble_eq_true rfl) (by decide) ?_
  refine zb_if_eq iX7_bay_5 (fun q5 => ?_) (fun q5 => absurd (q5.symm.trans (xNo_n hb (by omega))) (by decide))
  refine z_iload_n iX7_bay_11 rfl ?_
  refine z_tabIn (off := 143) (tgt := 155) iX7_bay_12 (by decide +kernel) (by decide +kernel) (by decide +kernel) (by decide) ?_
  refine z_bipush iX7_bay_155 zb_m102 ?_
  exact z_ireturn iX7_bay_157 (rfl) (rfl)
set_option maxRecDepth 20000 in
set_option maxHeartbeats 1000000 in
theorem c_bay_8 (G : zG) (pg nw kp sn ks fo ft fe gt mx : zs) (re : Nat → Int64) (m : zs) (hh : Int64) (hs : bOK nw) (b : Nat) (hb : b < rN nw 0)  : zK G mX7_bay [.ref 0, .int (nI b), .int (nI 8)] (wW pg nw kp sn ks fo ft fe gt mx re m hh) (some (.int (-102))) (wW pg nw kp sn ks fo ft fe gt mx re m hh) := by
  obtain ⟨h11, h10, h6, h5, h0, h1⟩ := id hs
  have h10b := h10 b
  refine zK_of 0 rfl (by decide) trivial (Nat.le_of_ble_eq_true rfl) rfl ?_
  refine z_aload_n iX7_bay_0 rfl ?_
  refine z_iload_n iX7_bay_1 rfl ?_
  refine z_cvi (y1 := mX7_isNoBay) iX7_bay_2 lX7_140 kX7_isNoBay rfl (c_noBay G pg nw kp sn ks fo ft fe gt mx re m hh _) (wx) rfl rfl rfl (Nat.le_of_ble_eq_true rfl) (by decide) ?_
  refine zb_if_eq iX7_bay_5 (fun q5 => ?_) (fun q5 => absurd (q5.symm.trans (xNo_n hb (by omega))) (by decide))
  refine z_iload_n iX7_bay_11 rfl ?_
  refine z_tabIn (off := 143) (tgt := 155) iX7_bay_12 (by decide +kernel) (by decide +kernel) (by decide +kernel) (by decide) ?_
  refine z_bipush iX7_bay_155 zb_m102 ?_
  exact z_ireturn iX7_bay_157 (rfl) (rfl)
set_option maxRecDepth 20000 in
set_option maxHeartbeats 1000000 in
theorem c_bay_9 (G : zG) (pg nw kp sn ks fo ft fe gt mx : zs) (re : Nat → Int64) (m : zs) (hh : Int64) (hs : bOK nw) (b : Nat) (hb : b < rN nw 0)  : zK G mX7_bay [.ref 0, .int (nI b), .int (nI 9)] (wW pg nw kp sn ks fo ft fe gt mx re m hh) (some (.int (-102))) (wW pg nw kp sn ks fo ft fe gt mx re m hh) := by
  obtain ⟨h11, h10, h6, h5, h0, h1⟩ := id hs
  have h10b := h10 b
  refine zK_of 0 rfl (by decide) trivial (Nat.le_of_ble_eq_true rfl) rfl ?_
  refine z_aload_n iX7_bay_0 rfl ?_
  refine z_iload_n iX7_bay_1 rfl ?_
  refine z_cvi (y1 := mX7_isNoBay) iX7_bay_2 lX7_140 kX7_isNoBay rfl (c_noBay G pg nw kp sn ks fo ft fe gt mx re m hh _) (wx) rfl rfl rfl (Nat.le_of_ble_eq_true rfl) (by decide) ?_
  refine zb_if_eq iX7_bay_5 (fun q5 => ?_) (fun q5 => absurd (q5.symm.trans (xNo_n hb (by omega))) (by decide))
  refine z_iload_n iX7_bay_11 rfl ?_
  refine z_tabIn (off := 143) (tgt := 155) iX7_bay_12 (by decide +kernel) (by decide +kernel) (by decide +kernel) (by decide) ?_
  refine z_bipush iX7_bay_155 zb_m102 ?_
  exact z_ireturn iX7_bay_157 (rfl) (rfl)
set_option maxRecDepth 20000 in
set_option maxHeartbeats 1000000 in
theorem c_bay_10 (G : zG) (pg nw kp sn ks fo ft fe gt mx : zs) (re : Nat → Int64) (m : zs) (hh : Int64) (hs : bOK nw) (b : Nat) (hb : b < rN nw 0)  : zK G mX7_bay [.ref 0, .int (nI b), .int (nI 10)] (wW pg nw kp sn ks fo ft fe gt mx re m hh) (some (.int (bAt nw b 0))) (wW pg nw kp sn ks fo ft fe gt mx re m hh) := by
  obtain ⟨h11, h10, h6, h5, h0, h1⟩ := id hs
  have h10b := h10 b
  refine zK_of 0 rfl (by decide) trivial (Nat.le_of_ble_eq_true rfl) rfl ?_
  refine z_aload_n iX7_bay_0 rfl ?_
  refine z_iload_n iX7_bay_1 rfl ?_
  refine z_cvi (y1 := mX7_isNoBay) iX7_bay_2 lX7_140 kX7_isNoBay rfl (c_noBay G pg nw kp sn ks fo ft fe gt mx re m hh _) (wx) rfl rfl rfl (Nat.le_of_ble_eq_true rfl) (by decide) ?_
  refine zb_if_eq iX7_bay_5 (fun q5 => ?_) (fun q5 => absurd (q5.symm.trans (xNo_n hb (by omega))) (by decide))
  refine z_iload_n iX7_bay_11 rfl ?_
  refine z_tabIn (off := 130) (tgt := 142) iX7_bay_12 (by decide +kernel) (by decide +kernel) (by decide +kernel) (by decide) ?_
  refine z_aload_n iX7_bay_142 rfl ?_
  refine z_getf iX7_bay_143 fX7_19 (wx) (xF_1 _) (by decide) ?_
  refine z_iload_n iX7_bay_146 rfl ?_
  refine z_iload_n iX7_bay_147 rfl ?_
  refine z_bipush iX7_bay_148 zb_10 ?_
  refine z_isub iX7_bay_150 ?_
  refine z_top (nix_sub (by omega)) ?_
  refine z_cvi (y1 := mX0_at) iX7_bay_151 lX7_159 kX0_at rfl (vB3 (c_at G _ 3 (by decide) _ hs b 0 (by omega) (by decide))) (w3_o) rfl rfl rfl (Nat.le_of_ble_eq_true rfl) (by decide) ?_
  exact z_ireturn iX7_bay_154 (rfl) (rfl)
set_option maxRecDepth 20000 in
set_option maxHeartbeats 1000000 in
theorem c_bay_11 (G : zG) (pg nw kp sn ks fo ft fe gt mx : zs) (re : Nat → Int64) (m : zs) (hh : Int64) (hs : bOK nw) (b : Nat) (hb : b < rN nw 0)  : zK G mX7_bay [.ref 0, .int (nI b), .int (nI 11)] (wW pg nw kp sn ks fo ft fe gt mx re m hh) (some (.int (bAt nw b 1))) (wW pg nw kp sn ks fo ft fe gt mx re m hh) := by
  obtain ⟨h11, h10, h6, h5, h0, h1⟩ := id hs
  have h10b := h10 b
  refine zK_of 0 rfl (by decide) trivial (Nat.le_of_ble_eq_true rfl) rfl ?_
  refine z_aload_n iX7_bay_0 rfl ?_
  refine z_iload_n iX7_bay_1 rfl ?_
  refine z_cvi (y1 := mX7_isNoBay) iX7_bay_2 lX7_140 kX7_isNoBay rfl (c_noBay G pg nw kp sn ks fo ft fe gt mx re m hh _) (wx) rfl rfl rfl (Nat.le_of_ble_eq_true rfl) (by decide) ?_
  refine zb_if_eq iX7_bay_5 (fun q5 => ?_) (fun q5 => absurd (q5.symm.trans (xNo_n hb (by omega))) (by decide))
  refine z_iload_n iX7_bay_11 rfl ?_
  refine z_tabIn (off := 130) (tgt := 142) iX7_bay_12 (by decide +kernel) (by decide +kernel) (by decide +kernel) (by decide) ?_
  refine z_aload_n iX7_bay_142 rfl ?_
  refine z_getf iX7_bay_143 fX7_19 (wx) (xF_1 _) (by decide) ?_
  refine z_iload_n iX7_bay_146 rfl ?_
  refine z_iload_n iX7_bay_147 rfl ?_
  refine z_bipush iX7_bay_148 zb_10 ?_
  refine z_isub iX7_bay_150 ?_
  refine z_top (nix_sub (by omega)) ?_
  refine z_cvi (y1 := mX0_at) iX7_bay_151 lX7_159 kX0_at rfl (vB3 (c_at G _ 3 (by decide) _ hs b 1 (by omega) (by decide))) (w3_o) rfl rfl rfl (Nat.le_of_ble_eq_true rfl) (by decide) ?_
  exact z_ireturn iX7_bay_154 (rfl) (rfl)
set_option maxRecDepth 20000 in
set_option maxHeartbeats 1000000 in
theorem c_bay_12 (G : zG) (pg nw kp sn ks fo ft fe gt mx : zs) (re : Nat → Int64) (m : zs) (hh : Int64) (hs : bOK nw) (b : Nat) (hb : b < rN nw 0)  : zK G mX7_bay [.ref 0, .int (nI b), .int (nI 12)] (wW pg nw kp sn ks fo ft fe gt mx re m hh) (some (.int (bAt nw b 2))) (wW pg nw kp sn ks fo ft fe gt mx re m hh) := by
  obtain ⟨h11, h10, h6, h5, h0, h1⟩ := id hs
  have h10b := h10 b
  refine zK_of 0 rfl (by decide) trivial (Nat.le_of_ble_eq_true rfl) rfl ?_
  refine z_aload_n iX7_bay_0 rfl ?_
  refine z_iload_n iX7_bay_1 rfl ?_
  refine z_cvi (y1 := mX7_isNoBay) iX7_bay_2 lX7_140 kX7_isNoBay rfl (c_noBay G pg nw kp sn ks fo ft fe gt mx re m hh _) (wx) rfl rfl rfl (Nat.le_of_ble_eq_true rfl) (by decide) ?_
  refine zb_if_eq iX7_bay_5 (fun q5 => ?_) (fun q5 => absurd (q5.symm.trans (xNo_n hb (by omega))) (by decide))
  refine z_iload_n iX7_bay_11 rfl ?_
  refine z_tabIn (off := 130) (tgt := 142) iX7_bay_12 (by decide +kernel) (by decide +kernel) (by decide +kernel) (by decide) ?_
  refine z_aload_n iX7_bay_142 rfl ?_
  refine z_getf iX7_bay_143 fX7_19 (wx) (xF_1 _) (by decide) ?_
  refine z_iload_n iX7_bay_146 rfl ?_
  refine z_iload_n iX7_bay_147 rfl ?_
  refine z_bipush iX7_bay_148 zb_10 ?_
  refine z_isub iX7_bay_150 ?_
  refine z_top (nix_sub (by omega)) ?_
  refine z_cvi (y1 := mX0_at) iX7_bay_151 lX7_159 kX0_at rfl (vB3 (c_at G _ 3 (by decide) _ hs b 2 (by omega) (by decide))) (w3_o) rfl rfl rfl (Nat.le_of_ble_eq_true rfl) (by decide) ?_
  exact z_ireturn iX7_bay_154 (rfl) (rfl)
set_option maxRecDepth 20000 in
set_option maxHeartbeats 1000000 in
theorem c_bay_O (G : zG) (pg nw kp sn ks fo ft fe gt mx : zs) (re : Nat → Int64) (m : zs) (hh : Int64) (hs : bOK nw) (b : Nat) (hb : b < rN nw 0) (q : Int32) (h : ∀ j, j ≤ 12 → ¬ q = nI j) : zK G mX7_bay [.ref 0, .int (nI b), .int q] (wW pg nw kp sn ks fo ft fe gt mx re m hh) (some (.int (-102))) (wW pg nw kp sn ks fo ft fe gt mx re m hh) := by
  obtain ⟨h11, h10, h6, h5, h0, h1⟩ := id hs
  have h10b := h10 b
  refine zK_of 0 rfl (by decide) trivial (Nat.le_of_ble_eq_true rfl) rfl ?_
  refine z_aload_n iX7_bay_0 rfl ?_
  refine z_iload_n iX7_bay_1 rfl ?_
  refine z_cvi (y1 := mX7_isNoBay) iX7_bay_2 lX7_140 kX7_isNoBay rfl (c_noBay G pg nw kp sn ks fo ft fe gt mx re m hh _) (wx) rfl rfl rfl (Nat.le_of_ble_eq_true rfl) (by decide) ?_
  refine zb_if_eq iX7_bay_5 (fun q5 => ?_) (fun q5 => absurd (q5.symm.trans (xNo_n hb (by omega))) (by decide))
  refine z_iload_n iX7_bay_11 rfl ?_
  refine z_tabOut (tgt := 155) iX7_bay_12 (zsw_out 0 12 (fun j _ h2 => h j h2)) (by decide) ?_
  refine z_bipush iX7_bay_155 zb_m102 ?_
  exact z_ireturn iX7_bay_157 (rfl) (rfl)
