def dgV (h : Int64) (v : Int32) : Int64 := 31 * h + v.toInt64
def dgN (C : Nat → Int32) (w : Nat) (h : Int64) : Int64 := dgV h (C w)
def dgBw (B : Nat → Nat → Int32) (b w : Nat) (h : Int64) : Int64 := if w < 5 ∨ 9 < w then dgV h (B b w) else h
def dgB (B : Nat → Nat → Int32) (b : Nat) (h : Int64) : Int64 := zfw (dgBw B b) 0 13 h
def dgCw (A : Nat → Nat → Int32) (c w : Nat) (h : Int64) : Int64 := if w = 9 then h else dgV h (A c w)
def dgC (A : Nat → Nat → Int32) (c : Nat) (h : Int64) : Int64 := zfw (dgCw A c) 0 13 h
def dgS (v : Nat → Int32) (h : Int64) : Int64 := dgV (dgV (dgV (dgV (dgV h (v 0)) (v 1)) (v 2)) (v 3)) (v 4)
def dgE (f : Nat → Int32) (NP : Nat) (C : Nat → Int32) (h : Int64) : Int64 := zfw (dgN C) 0 13 (zfw (dgN f) 0 NP h)
def dgM (f : Nat → Int32) (NP NB : Nat) (C v : Nat → Int32) (h : Int64) : Int64 := dgE f NP C (if NB = 0 then h else dgS v h)
def dgAll (f : Nat → Int32) (NP NB NC : Nat) (C v : Nat → Int32) (A B : Nat → Nat → Int32) : Int64 := dgM f NP NB C v (zfw (dgB B) 0 NB (zfw (dgC A) 0 NC 1201))
set_option maxRecDepth 20000 in
set_option maxHeartbeats 1000000 in
theorem cm_sayBarn (G : zG) (pg nw kp sn ks fo ft fe gt mx : zs) (re : Nat → Int64) (m : zs) (hh : Int64) (t1 t2 t3 t4 t5 : zs) (v : Nat → Int32) (h1 : ∀ hh, zK G mX8_lastsOf [.ref 49, .int (nI 2)] (wW pg nw kp sn ks fo ft fe gt mx re m hh) (some (.int (v 0))) (wW pg nw kp sn ks fo ft fe gt mx re t1 hh)) (h2 : ∀ hh, zK G mX8_planOf [.ref 49, .int (nI 2), .int (nI 0)] (wW pg nw kp sn ks fo ft fe gt mx re t1 hh) (some (.int (v 1))) (wW pg nw kp sn ks fo ft fe gt mx re t2 hh)) (h3 : ∀ hh, zK G mX8_planOf [.ref 49, .int (nI 2), .int (nI 10)] (wW pg nw kp sn ks fo ft fe gt mx re t2 hh) (some (.int (v 2))) (wW pg nw kp sn ks fo ft fe gt mx re t3 hh)) (h4 : ∀ hh, zK G mX8_planOf [.ref 49, .int (nI 2), .int (nI 11)] (wW pg nw kp sn ks fo ft fe gt mx re t3 hh) (some (.int (v 3))) (wW pg nw kp sn ks fo ft fe gt mx re t4 hh)) (h5 : ∀ hh, zK G mX8_burntOf [.ref 49, .int (nI 9)] (wW pg nw kp sn ks fo ft fe gt mx re t4 hh) (some (.int (v 4))) (wW pg nw kp sn ks fo ft fe gt mx re t5 hh)) : zK G mX8_sayBarn [.ref 49] (wW pg nw kp sn ks fo ft fe gt mx re m hh) none (wW pg nw kp sn ks fo ft fe gt mx re t5 (dgS v hh)) := by
  refine zK_of 0 rfl (by decide) trivial (Nat.le_of_ble_eq_true rfl) rfl ?_
  refine z_aload_n iX8_sayBarn_0 rfl ?_
  refine z_aload_n iX8_sayBarn_1 rfl ?_
  refine z_iconst iX8_sayBarn_2 zk_2 ?_
  refine z_cvi (y1 := mX8_lastsOf) iX8_sayBarn_3 lX8_236 kX8_lastsOf rfl (h1 hh) (wm) rfl rfl rfl (Nat.le_of_ble_eq_true rfl) (by decide) ?_
  refine z_i2l iX8_sayBarn_6 ?_
  refine z_cvv (y1 := mX8_say) iX8_sayBarn_7 lX8_321 kX8_say rfl (cm_say G pg nw kp sn ks fo ft fe gt mx re t1 hh _) (wm) rfl rfl rfl (Nat.le_of_ble_eq_true rfl) (by decide) ?_
  refine z_aload_n iX8_sayBarn_10 rfl ?_
  refine z_aload_n iX8_sayBarn_11 rfl ?_
  refine z_iconst iX8_sayBarn_12 zk_2 ?_
  refine z_iconst iX8_sayBarn_13 zk_0 ?_
  refine z_cvi (y1 := mX8_planOf) iX8_sayBarn_14 lX8_251 kX8_planOf rfl (h2 (dgV hh (v 0))) (wm) rfl rfl rfl (Nat.le_of_ble_eq_true rfl) (by decide) ?_
  refine z_i2l iX8_sayBarn_17 ?_
  refine z_cvv (y1 := mX8_say) iX8_sayBarn_18 lX8_321 kX8_say rfl (cm_say G pg nw kp sn ks fo ft fe gt mx re t2 (dgV hh (v 0)) _) (wm) rfl rfl rfl (Nat.le_of_ble_eq_true rfl) (by decide) ?_
  refine z_aload_n iX8_sayBarn_21 rfl ?_
  refine z_aload_n iX8_sayBarn_22 rfl ?_
  refine z_iconst iX8_sayBarn_23 zk_2 ?_
  refine z_bipush iX8_sayBarn_24 zb_10 ?_
  refine z_cvi (y1 := mX8_planOf) iX8_sayBarn_26 lX8_251 kX8_planOf rfl (h3 (dgV (dgV hh (v 0)) (v 1))) (wm) rfl rfl rfl (Nat.le_of_ble_eq_true rfl) (by decide) ?_
  refine z_i2l iX8_sayBarn_29 ?_
  refine z_cvv (y1 := mX8_say) iX8_sayBarn_30 lX8_321 kX8_say rfl (cm_say G pg nw kp sn ks fo ft fe gt mx re t3 (dgV (dgV hh (v 0)) (v 1)) _) (wm) rfl rfl rfl (Nat.le_of_ble_eq_true rfl) (by decide) ?_
  refine z_aload_n iX8_sayBarn_33 rfl ?_
  refine z_aload_n iX8_sayBarn_34 rfl ?_
  refine z_iconst iX8_sayBarn_35 zk_2 ?_
  refine z_bipush iX8_sayBarn_36 zb_11 ?_
  refine z_cvi (y1 := mX8_planOf) iX8_sayBarn_38 lX8_251 kX8_planOf rfl (h4 (dgV (dgV (dgV hh (v 0)) (v 1)) (v 2))) (wm) rfl rfl rfl (Nat.le_of_ble_eq_true rfl) (by decide) ?_
  refine z_i2l iX8_sayBarn_41 ?_
  refine z_cvv (y1 := mX8_say) iX8_sayBarn_42 lX8_321 kX8_say rfl (cm_say G pg nw kp sn ks fo ft fe gt mx re t4 (dgV (dgV (dgV hh (v 0)) (v 1)) (v 2)) _) (wm) rfl rfl rfl (Nat.le_of_ble_eq_true rfl) (by decide) ?_
  refine z_aload_n iX8_sayBarn_45 rfl ?_
  refine z_aload_n iX8_sayBarn_46 rfl ?_
  refine z_bipush iX8_sayBarn_47 zb_9 ?_
  refine z_cvi (y1 := mX8_burntOf) iX8_sayBarn_49 lX8_264 kX8_burntOf rfl (h5 (dgV (dgV (dgV (dgV hh (v 0)) (v 1)) (v 2)) (v 3))) (wm) rfl rfl rfl (Nat.le_of_ble_eq_true rfl) (by decide) ?_
  refine z_i2l iX8_sayBarn_52 ?_
  refine z_cvv (y1 := mX8_say) iX8_sayBarn_53 lX8_321 kX8_say rfl (cm_say G pg nw kp sn ks fo ft fe gt mx re t5 (dgV (dgV (dgV (dgV hh (v 0)) (v 1)) (v 2)) (v 3)) _) (wm) rfl rfl rfl (Nat.le_of_ble_eq_true rfl) (by decide) ?_
  exact z_return iX8_sayBarn_56 (rfl)
set_option maxRecDepth 20000 in
set_option maxHeartbeats 1000000 in
theorem lpd_n (G : zG) (pg nw kp sn ks fo ft fe gt mx : zs) (re : Nat → Int64) (P : zs → Prop) (NC NB NP : Nat) (f : Nat → Int32) (hP : ∀ x, P x → rN x 5 = NC ∧ rN x 4 = NB ∧ rN x 1 = NP ∧ rF x 0 = f ∧ mOK x) (h9 : NC ≤ 9) (h3 : NB ≤ 3) (h38 : NP ≤ 38) (C : Nat → Int32) (hN : ∀ x w hh, P x → w ≤ 12 → zK G mX8_countOf [.ref 49, .int (nI w)] (wW pg nw kp sn ks fo ft fe gt mx re x hh) (some (.int (C w))) (wW pg nw kp sn ks fo ft fe gt mx re x hh)) : ∀ (n i : Nat) (x : zs) (h : Int64), P x → i + n = 13 → ∃ t, P t ∧ zS G mX8_digest 146 [some (.ref 49), some (.int (nI i)), none] [] (wW pg nw kp sn ks fo ft fe gt mx re x h) (some (.long (zfw (dgN C) i n h))) (wW pg nw kp sn ks fo ft fe gt mx re t (zfw (dgN C) i n h)) := by
  intro n
  induction n with
  | zero =>
    intro i x h hx hi
    obtain ⟨x5, x4, x1, x0, xo⟩ := hP x hx
    refine ⟨x, hx, ?_⟩
    refine z_iload_n iX8_digest_146 rfl ?_
    refine z_bipush iX8_digest_147 zb_13 ?_
    refine zn_ge iX8_digest_149 (by omega) (by omega) (fun q149 => ?_) (fun q149 => absurd q149 (by omega))
    refine z_aload_n iX8_digest_168 rfl ?_
    refine z_getf iX8_digest_169 fX8_317 (wm) (mF_38 _ _) (by decide) ?_
    exact z_lreturn iX8_digest_172 (rfl) (rfl)
  | succ n ih =>
    intro i x h hx hi
    obtain ⟨x5, x4, x1, x0, xo⟩ := hP x hx
    obtain ⟨t, ht, hz⟩ := ih (i + 1) x (dgV h (C i)) hx (by omega)
    refine ⟨t, ht, ?_⟩
    refine z_iload_n iX8_digest_146 rfl ?_
    refine z_bipush iX8_digest_147 zb_13 ?_
    refine zn_ge iX8_digest_149 (by omega) (by omega) (fun q149 => absurd q149 (by omega)) (fun q149 => ?_)
    refine z_aload_n iX8_digest_152 rfl ?_
    refine z_aload_n iX8_digest_153 rfl ?_
    refine z_iload_n iX8_digest_154 rfl ?_
    refine z_cvi (y1 := mX8_countOf) iX8_digest_155 lX8_312 kX8_countOf rfl (hN x i _ hx (by omega)) (wm) rfl rfl rfl (Nat.le_of_ble_eq_true rfl) (by decide) ?_
    refine z_i2l iX8_digest_158 ?_
    refine z_cvv (y1 := mX8_say) iX8_digest_159 lX8_321 kX8_say rfl (cm_say G pg nw kp sn ks fo ft fe gt mx re x h _) (wm) rfl rfl rfl (Nat.le_of_ble_eq_true rfl) (by decide) ?_
    refine z_iinc iX8_digest_162 rfl nix_inc rfl (by decide) ?_
    refine z_goto iX8_digest_165 ?_
    exact hz
set_option maxRecDepth 20000 in
set_option maxHeartbeats 1000000 in
theorem lpd_p (G : zG) (pg nw kp sn ks fo ft fe gt mx : zs) (re : Nat → Int64) (P : zs → Prop) (NC NB NP : Nat) (f : Nat → Int32) (hP : ∀ x, P x → rN x 5 = NC ∧ rN x 4 = NB ∧ rN x 1 = NP ∧ rF x 0 = f ∧ mOK x) (h9 : NC ≤ 9) (h3 : NB ≤ 3) (h38 : NP ≤ 38) (C : Nat → Int32) (hN : ∀ x w hh, P x → w ≤ 12 → zK G mX8_countOf [.ref 49, .int (nI w)] (wW pg nw kp sn ks fo ft fe gt mx re x hh) (some (.int (C w))) (wW pg nw kp sn ks fo ft fe gt mx re x hh)) : ∀ (n i : Nat) (x : zs) (h : Int64), P x → i + n = NP → ∃ t, P t ∧ zS G mX8_digest 119 [some (.ref 49), some (.int (nI i)), none] [] (wW pg nw kp sn ks fo ft fe gt mx re x h) (some (.long (zfw (dgN C) 0 13 (zfw (dgN f) i n h)))) (wW pg nw kp sn ks fo ft fe gt mx re t (zfw (dgN C) 0 13 (zfw (dgN f) i n h))) := by
  intro n
  induction n with
  | zero =>
    intro i x h hx hi
    obtain ⟨x5, x4, x1, x0, xo⟩ := hP x hx
    obtain ⟨t, ht, hz⟩ := lpd_n G pg nw kp sn ks fo ft fe gt mx re P NC NB NP f hP h9 h3 h38 C hN 13 0 x h hx rfl
    refine ⟨t, ht, ?_⟩
    refine z_iload_n iX8_digest_119 rfl ?_
    refine z_aload_n iX8_digest_120 rfl ?_
    refine z_getf iX8_digest_121 fX8_83 (wm) (mF_1 _ _) (by decide) ?_
    refine zn_ge iX8_digest_124 (by omega) (by omega) (fun q124 => ?_) (fun q124 => absurd q124 (by omega))
    refine z_iconst iX8_digest_144 zk_0 ?_
    refine z_istore_n iX8_digest_145 rfl (by decide) ?_
    exact hz
  | succ n ih =>
    intro i x h hx hi
    obtain ⟨x5, x4, x1, x0, xo⟩ := hP x hx
    obtain ⟨t, ht, hz⟩ := ih (i + 1) x (dgV h (f i)) hx (by omega)
    refine ⟨t, ht, ?_⟩
    refine z_iload_n iX8_digest_119 rfl ?_
    refine z_aload_n iX8_digest_120 rfl ?_
    refine z_getf iX8_digest_121 fX8_83 (wm) (mF_1 _ _) (by decide) ?_
    refine zn_ge iX8_digest_124 (by omega) (by omega) (fun q124 => absurd q124 (by omega)) (fun q124 => ?_)
    refine z_aload_n iX8_digest_127 rfl ?_
    refine z_aload_n iX8_digest_128 rfl ?_
    refine z_getf iX8_digest_129 fX8_7 (wm) (mF_0 _ _) (by decide) ?_
    refine z_iload_n iX8_digest_132 rfl ?_
    refine z_iaload iX8_digest_133 (wm0) rfl (by omega) (by decide) (by decide) ?_
    rw [x0]
    refine z_i2l iX8_digest_134 ?_
    refine z_cvv (y1 := mX8_say) iX8_digest_135 lX8_321 kX8_say rfl (cm_say G pg nw kp sn ks fo ft fe gt mx re x h _) (wm) rfl rfl rfl (Nat.le_of_ble_eq_true rfl) (by decide) ?_
    refine z_iinc iX8_digest_138 rfl nix_inc rfl (by decide) ?_
    refine z_goto iX8_digest_141 ?_
    exact hz
set_option maxRecDepth 20000 in
set_option maxHeartbeats 1000000 in
theorem lpd_s (G : zG) (pg nw kp sn ks fo ft fe gt mx : zs) (re : Nat → Int64) (P : zs → Prop) (NC NB NP : Nat) (f : Nat → Int32) (hP : ∀ x, P x → rN x 5 = NC ∧ rN x 4 = NB ∧ rN x 1 = NP ∧ rF x 0 = f ∧ mOK x) (h9 : NC ≤ 9) (h3 : NB ≤ 3) (h38 : NP ≤ 38) (C : Nat → Int32) (hN : ∀ x w hh, P x → w ≤ 12 → zK G mX8_countOf [.ref 49, .int (nI w)] (wW pg nw kp sn ks fo ft fe gt mx re x hh) (some (.int (C w))) (wW pg nw kp sn ks fo ft fe gt mx re x hh)) (v : Nat → Int32) (hS : ∀ x hh, P x → ¬ NB = 0 → ∃ t, P t ∧ zK G mX8_sayBarn [.ref 49] (wW pg nw kp sn ks fo ft fe gt mx re x hh) none (wW pg nw kp sn ks fo ft fe gt mx re t (dgS v hh))) : ∀ (x : zs) (h : Int64), P x → ∃ t, P t ∧ zS G mX8_digest 106 [some (.ref 49), none, none] [] (wW pg nw kp sn ks fo ft fe gt mx re x h) (some (.long (dgM f NP NB C v h))) (wW pg nw kp sn ks fo ft fe gt mx re t (dgM f NP NB C v h)) := by
  intro x h hx
  obtain ⟨x5, x4, x1, x0, xo⟩ := hP x hx
  unfold dgM
  by_cases hb : NB = 0
  · rw [if_pos hb]
    obtain ⟨t, ht, hz⟩ := lpd_p G pg nw kp sn ks fo ft fe gt mx re P NC NB NP f hP h9 h3 h38 C hN NP 0 x h hx (Nat.zero_add _)
    refine ⟨t, ht, ?_⟩
    refine z_aload_n iX8_digest_106 rfl ?_
    refine z_cvi (y1 := mX8_lacks) iX8_digest_107 lX8_225 kX8_lacks rfl (cm_lacks G pg nw kp sn ks fo ft fe gt mx re x h xo) (wm) rfl rfl rfl (Nat.le_of_ble_eq_true rfl) (by decide) ?_
    refine zb_if_ne iX8_digest_110 (fun q110 => ?_) (fun q110 => absurd (x4.trans hb) (of_decide_eq_false q110))
    refine z_iconst iX8_digest_117 zk_0 ?_
    refine z_istore_n iX8_digest_118 rfl (by decide) ?_
    exact z_weak (zle_w (by simp [zle, zf3])) hz
  · rw [if_neg hb]
    obtain ⟨t1, p1, c1⟩ := hS x h hx hb
    obtain ⟨t, ht, hz⟩ := lpd_p G pg nw kp sn ks fo ft fe gt mx re P NC NB NP f hP h9 h3 h38 C hN NP 0 t1 (dgS v h) p1 (Nat.zero_add _)
    refine ⟨t, ht, ?_⟩
    refine z_aload_n iX8_digest_106 rfl ?_
    refine z_cvi (y1 := mX8_lacks) iX8_digest_107 lX8_225 kX8_lacks rfl (cm_lacks G pg nw kp sn ks fo ft fe gt mx re x h xo) (wm) rfl rfl rfl (Nat.le_of_ble_eq_true rfl) (by decide) ?_
    refine zb_if_ne iX8_digest_110 (fun q110 => absurd (x4.symm.trans (of_decide_eq_true q110)) hb) (fun q110 => ?_)
    refine z_aload_n iX8_digest_113 rfl ?_
    refine z_cvv (y1 := mX8_sayBarn) iX8_digest_114 lX8_327 kX8_sayBarn rfl (c1) (wm) rfl rfl rfl (Nat.le_of_ble_eq_true rfl) (by decide) ?_
    refine z_iconst iX8_digest_117 zk_0 ?_
    refine z_istore_n iX8_digest_118 rfl (by decide) ?_
    exact z_weak (zle_w (by simp [zle, zf3])) hz
set_option maxRecDepth 20000 in
set_option maxHeartbeats 1000000 in
theorem lpd_bi (G : zG) (pg nw kp sn ks fo ft fe gt mx : zs) (re : Nat → Int64) (P : zs → Prop) (NC NB NP : Nat) (f : Nat → Int32) (hP : ∀ x, P x → rN x 5 = NC ∧ rN x 4 = NB ∧ rN x 1 = NP ∧ rF x 0 = f ∧ mOK x) (h9 : NC ≤ 9) (h3 : NB ≤ 3) (h38 : NP ≤ 38) (B : Nat → Nat → Int32) (hB : ∀ x c w, P x → c < NB → w ≤ 12 → (w < 5 ∨ 9 < w) → ∃ t, P t ∧ ∀ hh, zK G mX8_tellBay [.ref 49, .int (nI c), .int (nI w)] (wW pg nw kp sn ks fo ft fe gt mx re x hh) (some (.int (B c w))) (wW pg nw kp sn ks fo ft fe gt mx re t hh)) (c : Nat) (hc : c < NB) (R : Int64 → Int64) (K : ∀ (x : zs) (h : Int64), P x → ∃ t, P t ∧ zS G mX8_digest 100 [some (.ref 49), some (.int (nI c)), none] [] (wW pg nw kp sn ks fo ft fe gt mx re x h) (some (.long (R h))) (wW pg nw kp sn ks fo ft fe gt mx re t (R h))) : ∀ (n i : Nat) (x : zs) (h : Int64), P x → i + n = 13 → ∃ t, P t ∧ zS G mX8_digest 66 [some (.ref 49), some (.int (nI c)), some (.int (nI i))] [] (wW pg nw kp sn ks fo ft fe gt mx re x h) (some (.long (R (zfw (dgBw B c) i n h)))) (wW pg nw kp sn ks fo ft fe gt mx re t (R (zfw (dgBw B c) i n h))) := by
  intro n
  induction n with
  | zero =>
    intro i x h hx hi
    obtain ⟨x5, x4, x1, x0, xo⟩ := hP x hx
    obtain ⟨t, ht, hz⟩ := K x h hx
    refine ⟨t, ht, ?_⟩
    refine z_iload_n iX8_digest_66 rfl ?_
    refine z_bipush iX8_digest_67 zb_13 ?_
    refine zn_ge iX8_digest_69 (by omega) (by omega) (fun q69 => ?_) (fun q69 => absurd q69 (by omega))
    exact z_weak (zle_w (by simp [zle, zf3])) hz
  | succ n ih =>
    intro i x h hx hi
    obtain ⟨x5, x4, x1, x0, xo⟩ := hP x hx
    rcases (show i < 5 ∨ 9 < i ∨ (5 ≤ i ∧ i ≤ 9) by omega) with e | e | e
    · skip
      obtain ⟨t1, p1, c1⟩ := hB x c i hx hc (by omega) (Or.inl e)
      obtain ⟨t, ht, hz⟩ := ih (i + 1) t1 (dgV h (B c i)) p1 (by omega)
      refine ⟨t, ht, ?_⟩
      rw [zfw, show dgBw B c i h = dgV h (B c i) from if_pos (Or.inl e)]
      refine z_iload_n iX8_digest_66 rfl ?_
      refine z_bipush iX8_digest_67 zb_13 ?_
      refine zn_ge iX8_digest_69 (by omega) (by omega) (fun q69 => absurd q69 (by omega)) (fun q69 => ?_)
      refine z_iload_n iX8_digest_72 rfl ?_
      refine z_iconst iX8_digest_73 zk_5 ?_
      refine zn_lt iX8_digest_74 (by omega) (by omega) (fun q74 => ?_) (fun q74 => absurd q74 (by omega))
      refine z_aload_n iX8_digest_83 rfl ?_
      refine z_aload_n iX8_digest_84 rfl ?_
      refine z_iload_n iX8_digest_85 rfl ?_
      refine z_iload_n iX8_digest_86 rfl ?_
      refine z_cvi (y1 := mX8_tellBay) iX8_digest_87 lX8_211 kX8_tellBay rfl (c1 h) (wm) rfl rfl rfl (Nat.le_of_ble_eq_true rfl) (by decide) ?_
      refine z_i2l iX8_digest_90 ?_
      refine z_cvv (y1 := mX8_say) iX8_digest_91 lX8_321 kX8_say rfl (cm_say G pg nw kp sn ks fo ft fe gt mx re t1 h _) (wm) rfl rfl rfl (Nat.le_of_ble_eq_true rfl) (by decide) ?_
      refine z_iinc iX8_digest_94 rfl nix_inc rfl (by decide) ?_
      refine z_goto iX8_digest_97 ?_
      exact hz
    · skip
      obtain ⟨t1, p1, c1⟩ := hB x c i hx hc (by omega) (Or.inr e)
      obtain ⟨t, ht, hz⟩ := ih (i + 1) t1 (dgV h (B c i)) p1 (by omega)
      refine ⟨t, ht, ?_⟩
      rw [zfw, show dgBw B c i h = dgV h (B c i) from if_pos (Or.inr e)]
      refine z_iload_n iX8_digest_66 rfl ?_
      refine z_bipush iX8_digest_67 zb_13 ?_
      refine zn_ge iX8_digest_69 (by omega) (by omega) (fun q69 => absurd q69 (by omega)) (fun q69 => ?_)
      refine z_iload_n iX8_digest_72 rfl ?_
      refine z_iconst iX8_digest_73 zk_5 ?_
      refine zn_lt iX8_digest_74 (by omega) (by omega) (fun q74 => absurd q74 (by omega)) (fun q74 => ?_)
      refine z_iload_n iX8_digest_77 rfl ?_
      refine z_bipush iX8_digest_78 zb_9 ?_
      refine zn_le iX8_digest_80 (by omega) (by omega) (fun q80 => absurd q80 (by omega)) (fun q80 => ?_)
      refine z_aload_n iX8_digest_83 rfl ?_
      refine z_aload_n iX8_digest_84 rfl ?_
      refine z_iload_n iX8_digest_85 rfl ?_
      refine z_iload_n iX8_digest_86 rfl ?_
      refine z_cvi (y1 := mX8_tellBay) iX8_digest_87 lX8_211 kX8_tellBay rfl (c1 h) (wm) rfl rfl rfl (Nat.le_of_ble_eq_true rfl) (by decide) ?_
      refine z_i2l iX8_digest_90 ?_
      refine z_cvv (y1 := mX8_say) iX8_digest_91 lX8_321 kX8_say rfl (cm_say G pg nw kp sn ks fo ft fe gt mx re t1 h _) (wm) rfl rfl rfl (Nat.le_of_ble_eq_true rfl) (by decide) ?_
      refine z_iinc iX8_digest_94 rfl nix_inc rfl (by decide) ?_
      refine z_goto iX8_digest_97 ?_
      exact hz
    · obtain ⟨t, ht, hz⟩ := ih (i + 1) x h hx (by omega)
      refine ⟨t, ht, ?_⟩
      rw [zfw, show dgBw B c i h = h from if_neg (by omega)]
      refine z_iload_n iX8_digest_66 rfl ?_
      refine z_bipush iX8_digest_67 zb_13 ?_
      refine zn_ge iX8_digest_69 (by omega) (by omega) (fun q69 => absurd q69 (by omega)) (fun q69 => ?_)
      refine z_iload_n iX8_digest_72 rfl ?_
      refine z_iconst iX8_digest_73 zk_5 ?_
      refine zn_lt iX8_digest_74 (by omega) (by omega) (fun q74 => absurd q74 (by omega)) (fun q74 => ?_)
      refine z_iload_n iX8_digest_77 rfl ?_
      refine z_bipush iX8_digest_78 zb_9 ?_
      refine zn_le iX8_digest_80 (by omega) (by omega) (fun q80 => ?_) (fun q80 => absurd q80 (by omega))
      refine z_iinc iX8_digest_94 rfl nix_inc rfl (by decide) ?_
      refine z_goto iX8_digest_97 ?_
      exact hz
set_option maxRecDepth 20000 in
set_option maxHeartbeats 1000000 in
theorem lpd_bo (G : zG) (pg nw kp sn ks fo ft fe gt mx : zs) (re : Nat → Int64) (P : zs → Prop) (NC NB NP : Nat) (f : Nat → Int32) (hP : ∀ x, P x → rN x 5 = NC ∧ rN x 4 = NB ∧ rN x 1 = NP ∧ rF x 0 = f ∧ mOK x) (h9 : NC ≤ 9) (h3 : NB ≤ 3) (h38 : NP ≤ 38) (B : Nat → Nat → Int32) (hB : ∀ x c w, P x → c < NB → w ≤ 12 → (w < 5 ∨ 9 < w) → ∃ t, P t ∧ ∀ hh, zK G mX8_tellBay [.ref 49, .int (nI c), .int (nI w)] (wW pg nw kp sn ks fo ft fe gt mx re x hh) (some (.int (B c w))) (wW pg nw kp sn ks fo ft fe gt mx re t hh)) (R : Int64 → Int64) (K : ∀ (x : zs) (h : Int64), P x → ∃ t, P t ∧ zS G mX8_digest 106 [some (.ref 49), none, none] [] (wW pg nw kp sn ks fo ft fe gt mx re x h) (some (.long (R h))) (wW pg nw kp sn ks fo ft fe gt mx re t (R h))) : ∀ (n i : Nat) (x : zs) (h : Int64), P x → i + n = NB → ∃ t, P t ∧ zS G mX8_digest 56 [some (.ref 49), some (.int (nI i)), none] [] (wW pg nw kp sn ks fo ft fe gt mx re x h) (some (.long (R (zfw (dgB B) i n h)))) (wW pg nw kp sn ks fo ft fe gt mx re t (R (zfw (dgB B) i n h))) := by
  intro n
  induction n with
  | zero =>
    intro i x h hx hi
    obtain ⟨x5, x4, x1, x0, xo⟩ := hP x hx
    obtain ⟨t, ht, hz⟩ := K x h hx
    refine ⟨t, ht, ?_⟩
    refine z_iload_n iX8_digest_56 rfl ?_
    refine z_aload_n iX8_digest_57 rfl ?_
    refine z_getf iX8_digest_58 fX8_110 (wm) (mF_4 _ _) (by decide) ?_
    refine zn_ge iX8_digest_61 (by omega) (by omega) (fun q61 => ?_) (fun q61 => absurd q61 (by omega))
    exact z_weak (zle_w (by simp [zle, zf3])) hz
  | succ n ih =>
    intro i x h hx hi
    obtain ⟨x5, x4, x1, x0, xo⟩ := hP x hx
    have hK : ∀ (x : zs) (h : Int64), P x → ∃ t, P t ∧ zS G mX8_digest 100 [some (.ref 49), some (.int (nI i)), none] [] (wW pg nw kp sn ks fo ft fe gt mx re x h) (some (.long (R (zfw (dgB B) (i + 1) n h)))) (wW pg nw kp sn ks fo ft fe gt mx re t (R (zfw (dgB B) (i + 1) n h))) := by
      intro x h hx
      obtain ⟨t, ht, hz⟩ := ih (i + 1) x h hx (by omega)
      refine ⟨t, ht, ?_⟩
      refine z_iinc iX8_digest_100 rfl nix_inc rfl (by decide) ?_
      refine z_goto iX8_digest_103 ?_
      exact hz
    obtain ⟨t, ht, hz⟩ := lpd_bi G pg nw kp sn ks fo ft fe gt mx re P NC NB NP f hP h9 h3 h38 B hB i (by omega) (fun h => R (zfw (dgB B) (i + 1) n h)) hK 13 0 x h hx rfl
    refine ⟨t, ht, ?_⟩
    refine z_iload_n iX8_digest_56 rfl ?_
    refine z_aload_n iX8_digest_57 rfl ?_
    refine z_getf iX8_digest_58 fX8_110 (wm) (mF_4 _ _) (by decide) ?_
    refine zn_ge iX8_digest_61 (by omega) (by omega) (fun q61 => absurd q61 (by omega)) (fun q61 => ?_)
    refine z_iconst iX8_digest_64 zk_0 ?_
    refine z_istore_n iX8_digest_65 rfl (by decide) ?_
    exact hz
set_option maxRecDepth 20000 in
set_option maxHeartbeats 1000000 in
theorem lpd_ci (G : zG) (pg nw kp sn ks fo ft fe gt mx : zs) (re : Nat → Int64) (P : zs → Prop) (NC NB NP : Nat) (f : Nat → Int32) (hP : ∀ x, P x → rN x 5 = NC ∧ rN x 4 = NB ∧ rN x 1 = NP ∧ rF x 0 = f ∧ mOK x) (h9 : NC ≤ 9) (h3 : NB ≤ 3) (h38 : NP ≤ 38) (A : Nat → Nat → Int32) (hA : ∀ x c w, P x → c < NC → w ≤ 12 → ¬ w = 9 → ∃ t, P t ∧ ∀ hh, zK G mX8_tellCart [.ref 49, .int (nI c), .int (nI w)] (wW pg nw kp sn ks fo ft fe gt mx re x hh) (some (.int (A c w))) (wW pg nw kp sn ks fo ft fe gt mx re t hh)) (c : Nat) (hc : c < NC) (R : Int64 → Int64) (K : ∀ (x : zs) (h : Int64), P x → ∃ t, P t ∧ zS G mX8_digest 48 [some (.ref 49), some (.int (nI c)), none] [] (wW pg nw kp sn ks fo ft fe gt mx re x h) (some (.long (R h))) (wW pg nw kp sn ks fo ft fe gt mx re t (R h))) : ∀ (n i : Nat) (x : zs) (h : Int64), P x → i + n = 13 → ∃ t, P t ∧ zS G mX8_digest 19 [some (.ref 49), some (.int (nI c)), some (.int (nI i))] [] (wW pg nw kp sn ks fo ft fe gt mx re x h) (some (.long (R (zfw (dgCw A c) i n h)))) (wW pg nw kp sn ks fo ft fe gt mx re t (R (zfw (dgCw A c) i n h))) := by
  intro n
  induction n with
  | zero =>
    intro i x h hx hi
    obtain ⟨x5, x4, x1, x0, xo⟩ := hP x hx
    obtain ⟨t, ht, hz⟩ := K x h hx
    refine ⟨t, ht, ?_⟩
    refine z_iload_n iX8_digest_19 rfl ?_
    refine z_bipush iX8_digest_20 zb_13 ?_
    refine zn_ge iX8_digest_22 (by omega) (by omega) (fun q22 => ?_) (fun q22 => absurd q22 (by omega))
    exact z_weak (zle_w (by simp [zle, zf3])) hz
  | succ n ih =>
    intro i x h hx hi
    obtain ⟨x5, x4, x1, x0, xo⟩ := hP x hx
    by_cases e : i = 9
    · obtain ⟨t, ht, hz⟩ := ih (i + 1) x h hx (by omega)
      refine ⟨t, ht, ?_⟩
      rw [zfw, show dgCw A c i h = h from if_pos e]
      refine z_iload_n iX8_digest_19 rfl ?_
      refine z_bipush iX8_digest_20 zb_13 ?_
      refine zn_ge iX8_digest_22 (by omega) (by omega) (fun q22 => absurd q22 (by omega)) (fun q22 => ?_)
      refine z_iload_n iX8_digest_25 rfl ?_
      refine z_bipush iX8_digest_26 zb_9 ?_
      refine zn_eq iX8_digest_28 (by omega) (by omega) (fun q28 => ?_) (fun q28 => absurd q28 (by omega))
      refine z_iinc iX8_digest_42 rfl nix_inc rfl (by decide) ?_
      refine z_goto iX8_digest_45 ?_
      exact hz
    · obtain ⟨t1, p1, c1⟩ := hA x c i hx hc (by omega) e
      obtain ⟨t, ht, hz⟩ := ih (i + 1) t1 (dgV h (A c i)) p1 (by omega)
      refine ⟨t, ht, ?_⟩
      rw [zfw, show dgCw A c i h = dgV h (A c i) from if_neg e]
      refine z_iload_n iX8_digest_19 rfl ?_
      refine z_bipush iX8_digest_20 zb_13 ?_
      refine zn_ge iX8_digest_22 (by omega) (by omega) (fun q22 => absurd q22 (by omega)) (fun q22 => ?_)
      refine z_iload_n iX8_digest_25 rfl ?_
      refine z_bipush iX8_digest_26 zb_9 ?_
      refine zn_eq iX8_digest_28 (by omega) (by omega) (fun q28 => absurd q28 (by omega)) (fun q28 => ?_)
      refine z_aload_n iX8_digest_31 rfl ?_
      refine z_aload_n iX8_digest_32 rfl ?_
      refine z_iload_n iX8_digest_33 rfl ?_
      refine z_iload_n iX8_digest_34 rfl ?_
      refine z_cvi (y1 := mX8_tellCart) iX8_digest_35 lX8_182 kX8_tellCart rfl (c1 h) (wm) rfl rfl rfl (Nat.le_of_ble_eq_true rfl) (by decide) ?_
      refine z_i2l iX8_digest_38 ?_
      refine z_cvv (y1 := mX8_say) iX8_digest_39 lX8_321 kX8_say rfl (cm_say G pg nw kp sn ks fo ft fe gt mx re t1 h _) (wm) rfl rfl rfl (Nat.le_of_ble_eq_true rfl) (by decide) ?_
      refine z_iinc iX8_digest_42 rfl nix_inc rfl (by decide) ?_
      refine z_goto iX8_digest_45 ?_
      exact hz
set_option maxRecDepth 20000 in
set_option maxHeartbeats 1000000 in
theorem lpd_co (G : zG) (pg nw kp sn ks fo ft fe gt mx : zs) (re : Nat → Int64) (P : zs → Prop) (NC NB NP : Nat) (f : Nat → Int32) (hP : ∀ x, P x → rN x 5 = NC ∧ rN x 4 = NB ∧ rN x 1 = NP ∧ rF x 0 = f ∧ mOK x) (h9 : NC ≤ 9) (h3 : NB ≤ 3) (h38 : NP ≤ 38) (A : Nat → Nat → Int32) (hA : ∀ x c w, P x → c < NC → w ≤ 12 → ¬ w = 9 → ∃ t, P t ∧ ∀ hh, zK G mX8_tellCart [.ref 49, .int (nI c), .int (nI w)] (wW pg nw kp sn ks fo ft fe gt mx re x hh) (some (.int (A c w))) (wW pg nw kp sn ks fo ft fe gt mx re t hh)) (R : Int64 → Int64) (K : ∀ (x : zs) (h : Int64), P x → ∃ t, P t ∧ zS G mX8_digest 54 [some (.ref 49), none, none] [] (wW pg nw kp sn ks fo ft fe gt mx re x h) (some (.long (R h))) (wW pg nw kp sn ks fo ft fe gt mx re t (R h))) : ∀ (n i : Nat) (x : zs) (h : Int64), P x → i + n = NC → ∃ t, P t ∧ zS G mX8_digest 9 [some (.ref 49), some (.int (nI i)), none] [] (wW pg nw kp sn ks fo ft fe gt mx re x h) (some (.long (R (zfw (dgC A) i n h)))) (wW pg nw kp sn ks fo ft fe gt mx re t (R (zfw (dgC A) i n h))) := by
  intro n
  induction n with
  | zero =>
    intro i x h hx hi
    obtain ⟨x5, x4, x1, x0, xo⟩ := hP x hx
    obtain ⟨t, ht, hz⟩ := K x h hx
    refine ⟨t, ht, ?_⟩
    refine z_iload_n iX8_digest_9 rfl ?_
    refine z_aload_n iX8_digest_10 rfl ?_
    refine z_getf iX8_digest_11 fX8_113 (wm) (mF_5 _ _) (by decide) ?_
    refine zn_ge iX8_digest_14 (by omega) (by omega) (fun q14 => ?_) (fun q14 => absurd q14 (by omega))
    exact z_weak (zle_w (by simp [zle, zf3])) hz
  | succ n ih =>
    intro i x h hx hi
    obtain ⟨x5, x4, x1, x0, xo⟩ := hP x hx
    have hK : ∀ (x : zs) (h : Int64), P x → ∃ t, P t ∧ zS G mX8_digest 48 [some (.ref 49), some (.int (nI i)), none] [] (wW pg nw kp sn ks fo ft fe gt mx re x h) (some (.long (R (zfw (dgC A) (i + 1) n h)))) (wW pg nw kp sn ks fo ft fe gt mx re t (R (zfw (dgC A) (i + 1) n h))) := by
      intro x h hx
      obtain ⟨t, ht, hz⟩ := ih (i + 1) x h hx (by omega)
      refine ⟨t, ht, ?_⟩
      refine z_iinc iX8_digest_48 rfl nix_inc rfl (by decide) ?_
      refine z_goto iX8_digest_51 ?_
      exact hz
    obtain ⟨t, ht, hz⟩ := lpd_ci G pg nw kp sn ks fo ft fe gt mx re P NC NB NP f hP h9 h3 h38 A hA i (by omega) (fun h => R (zfw (dgC A) (i + 1) n h)) hK 13 0 x h hx rfl
    refine ⟨t, ht, ?_⟩
    refine z_iload_n iX8_digest_9 rfl ?_
    refine z_aload_n iX8_digest_10 rfl ?_
    refine z_getf iX8_digest_11 fX8_113 (wm) (mF_5 _ _) (by decide) ?_
    refine zn_ge iX8_digest_14 (by omega) (by omega) (fun q14 => absurd q14 (by omega)) (fun q14 => ?_)
    refine z_iconst iX8_digest_17 zk_0 ?_
    refine z_istore_n iX8_digest_18 rfl (by decide) ?_
    exact hz
set_option maxRecDepth 20000 in
set_option maxHeartbeats 1000000 in
theorem cm_digest (G : zG) (pg nw kp sn ks fo ft fe gt mx : zs) (re : Nat → Int64) (P : zs → Prop) (NC NB NP : Nat) (f : Nat → Int32) (hP : ∀ x, P x → rN x 5 = NC ∧ rN x 4 = NB ∧ rN x 1 = NP ∧ rF x 0 = f ∧ mOK x) (h9 : NC ≤ 9) (h3 : NB ≤ 3) (h38 : NP ≤ 38) (C : Nat → Int32) (hN : ∀ x w hh, P x → w ≤ 12 → zK G mX8_countOf [.ref 49, .int (nI w)] (wW pg nw kp sn ks fo ft fe gt mx re x hh) (some (.int (C w))) (wW pg nw kp sn ks fo ft fe gt mx re x hh)) (v : Nat → Int32) (hS : ∀ x hh, P x → ¬ NB = 0 → ∃ t, P t ∧ zK G mX8_sayBarn [.ref 49] (wW pg nw kp sn ks fo ft fe gt mx re x hh) none (wW pg nw kp sn ks fo ft fe gt mx re t (dgS v hh))) (A : Nat → Nat → Int32) (hA : ∀ x c w, P x → c < NC → w ≤ 12 → ¬ w = 9 → ∃ t, P t ∧ ∀ hh, zK G mX8_tellCart [.ref 49, .int (nI c), .int (nI w)] (wW pg nw kp sn ks fo ft fe gt mx re x hh) (some (.int (A c w))) (wW pg nw kp sn ks fo ft fe gt mx re t hh)) (B : Nat → Nat → Int32) (hB : ∀ x c w, P x → c < NB → w ≤ 12 → (w < 5 ∨ 9 < w) → ∃ t, P t ∧ ∀ hh, zK G mX8_tellBay [.ref 49, .int (nI c), .int (nI w)] (wW pg nw kp sn ks fo ft fe gt mx re x hh) (some (.int (B c w))) (wW pg nw kp sn ks fo ft fe gt mx re t hh)) (x : zs) (h : Int64) (hx : P x) : ∃ t, P t ∧ zK G mX8_digest [.ref 49] (wW pg nw kp sn ks fo ft fe gt mx re x h) (some (.long (dgAll f NP NB NC C v A B))) (wW pg nw kp sn ks fo ft fe gt mx re t (dgAll f NP NB NC C v A B)) := by
  have hK : ∀ (x : zs) (h : Int64), P x → ∃ t, P t ∧ zS G mX8_digest 54 [some (.ref 49), none, none] [] (wW pg nw kp sn ks fo ft fe gt mx re x h) (some (.long (dgM f NP NB C v (zfw (dgB B) 0 NB h)))) (wW pg nw kp sn ks fo ft fe gt mx re t (dgM f NP NB C v (zfw (dgB B) 0 NB h))) := by
    intro x h hx
    obtain ⟨t, ht, hz⟩ := lpd_bo G pg nw kp sn ks fo ft fe gt mx re P NC NB NP f hP h9 h3 h38 B hB (fun h => dgM f NP NB C v h) (fun x h hx => lpd_s G pg nw kp sn ks fo ft fe gt mx re P NC NB NP f hP h9 h3 h38 C hN v hS x h hx) NB 0 x h hx (Nat.zero_add _)
    refine ⟨t, ht, ?_⟩
    refine z_iconst iX8_digest_54 zk_0 ?_
    refine z_istore_n iX8_digest_55 rfl (by decide) ?_
    exact z_weak (zle_w (by simp [zle, zf3])) hz
  obtain ⟨t, ht, hz⟩ := lpd_co G pg nw kp sn ks fo ft fe gt mx re P NC NB NP f hP h9 h3 h38 A hA (fun h => dgM f NP NB C v (zfw (dgB B) 0 NB h)) hK NC 0 x 1201 hx (Nat.zero_add _)
  refine ⟨t, ht, ?_⟩
  refine zK_of 2 rfl (by decide) trivial (Nat.le_of_ble_eq_true rfl) rfl ?_
  refine z_aload_n iX8_digest_0 rfl ?_
  refine z_ldc2 iX8_digest_1 gX8_325 ?_
  refine z_putf iX8_digest_4 fX8_317 (wm) rfl rfl (Nat.le_of_ble_eq_true rfl) (by decide) ?_
  rw [wm_38]
  refine z_iconst iX8_digest_7 zk_0 ?_
  refine z_istore_n iX8_digest_8 rfl (by decide) ?_
  exact hz
