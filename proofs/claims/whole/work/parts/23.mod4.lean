theorem mMany_of {s t : zs} (h13 : rA t 13 = rA s 13) (h12 : rA t 12 = rA s 12) (h14 : rF t 14 = rF s 14) (b : Nat) : mMany t b = mMany s b := by
  unfold mMany
  rw [h12]
  congr 1
  unfold mMF
  rw [h13, h14]
theorem mBegin_F (m : zs) (k : Nat) (hk : k < 17) : rF (mBegin m) k = rF m k := by
  unfold mBegin
  rw [rF_uF, if_neg (by omega), rF_uF, if_neg (by omega), rF_uF, if_neg (by omega)]
theorem mGain_of : True := trivial
theorem mWA_F : ∀ (n i : Nat) (x : zs) (k : Nat), k ≠ 19 → rF (zfw (fun k x => uF x 19 (upd (rF x 19) k (rF x 19 k + mGain x k))) i n x) k = rF x k
  | 0, _, _, _, _ => rfl
  | n + 1, i, x, k, hk => (mWA_F n (i + 1) _ k hk).trans (by rw [rF_uF, if_neg hk])
theorem mGo_F (x : zs) (j k : Nat) (hk : k < 17) : rF (mGo x j) k = rF x k := by
  unfold mGo
  rw [rF_uF, if_neg (by omega), rF_uF, if_neg (by omega), rF_uF, if_neg (by omega)]
theorem mDry_F (x : zs) (j k : Nat) (hk : k < 17) : rF (mDry x j) k = rF x k := by
  unfold mDry
  rw [rF_uF, if_neg (by omega)]
theorem mDTL_F : ∀ (n i : Nat) (x : zs) (k : Nat), k < 17 → rF (zfw mDT i n x) k = rF x k
  | 0, _, _, _, _ => rfl
  | n + 1, i, x, k, hk => (mDTL_F n (i + 1) _ k hk).trans (by unfold mDT; split; rfl; exact mDry_F _ _ _ hk)
theorem mBPL_F (b : Nat) : ∀ (n i : Nat) (x : Nat × Nat × zs) (k : Nat), k < 17 → rF (zfw (mBP b) i n x).2.2 k = rF x.2.2 k
  | 0, _, _, _, _ => rfl
  | n + 1, i, x, k, hk => (mBPL_F b n (i + 1) _ k hk).trans (by unfold mBP; split; rfl; split; rfl; exact mGo_F _ _ _ hk)
theorem mBBL_F : ∀ (n i : Nat) (x : Nat × zs) (k : Nat), k < 17 → rF (zfw mBB i n x).2 k = rF x.2 k
  | 0, _, _, _, _ => rfl
  | n + 1, i, x, k, hk => (mBBL_F n (i + 1) _ k hk).trans (mBPL_F i _ 0 _ k hk)
theorem mDay_F (m : zs) (k : Nat) (hk : k < 17) : rF (mDay m).2 k = rF m k := (mDTL_F _ _ _ k hk).trans ((mBBL_F _ _ _ k hk).trans (mWA_F _ _ _ k (by omega)))
theorem mDsL_F : ∀ (n i : Nat) (x : zs) (k : Nat), k < 17 → rF (zfw (fun _ x => (mDay x).2) i n x) k = rF x k
  | 0, _, _, _, _ => rfl
  | n + 1, i, x, k, hk => (mDsL_F n (i + 1) _ k hk).trans (mDay_F x k hk)
theorem mGFL_F (m : zs) (b t : Nat) : ∀ (n i : Nat) (x : zs) (k : Nat), k < 17 → rF (zfw (mGF m b t) i n x) k = rF x k
  | 0, _, _, _, _ => rfl
  | n + 1, i, x, k, hk => (mGFL_F m b t n (i + 1) _ k hk).trans (by unfold mGF; split; exact mGo_F _ _ _ hk; rfl)
theorem mSafeS_A (m : zs) (b t k : Nat) : rA (mSafeS m b t) k = rA m k := (mDsL_A _ _ _ k).trans ((mGFL_A _ _ _ _ _ _ k).trans rfl)
theorem mSafeS_N (m : zs) (b t k : Nat) : rN (mSafeS m b t) k = rN m k := (mDsL_N _ _ _ k).trans ((mGFL_N _ _ _ _ _ _ k).trans rfl)
theorem mSafeS_F (m : zs) (b t k : Nat) (hk : k < 17) : rF (mSafeS m b t) k = rF m k := (mDsL_F _ _ _ k hk).trans ((mGFL_F _ _ _ _ _ _ k hk).trans (mBegin_F m k hk))
def mSame (x m : zs) : Prop := (∀ k, rA x k = rA m k) ∧ (∀ k, rN x k = rN m k) ∧ ∀ k, k < 17 → rF x k = rF m k
theorem mSame.trans {x y z : zs} (h : mSame x y) (h2 : mSame y z) : mSame x z := ⟨fun k => (h.1 k).trans (h2.1 k), fun k => (h.2.1 k).trans (h2.2.1 k), fun k hk => (h.2.2 k hk).trans (h2.2.2 k hk)⟩
theorem mSame.ok {x m : zs} (h : mSame x m) (hm : mOK m) : mOK x := mOK_of hm h.1 (fun k _ => h.2.1 k)
theorem mSame.hp {x m : zs} (h : mSame x m) (hm : mHP m) : mHP x := mHP_of hm h.1 (h.2.1 5)
theorem mSame.set {x m : zs} (h : mSame x m) {b t : Nat} (hm : mSetOk m b t) : mSetOk x b t := fun q h1 h2 => by rw [mAt_of (h.1 13) (h.1 12) (h.2.2 14 (by decide))]; exact hm q h1 h2
theorem mSafeS_same (m : zs) (b t : Nat) : mSame (mSafeS m b t) m := ⟨mSafeS_A m b t, mSafeS_N m b t, mSafeS_F m b t⟩
def mSLs (x : zs) (b t : Nat) (z : Option Nat) : Bool := match z with
  | none => true
  | some c => !decide (mLS x b c ≤ mLS x b t)
def mSafeF (b t : Nat) (x : Option Nat × zs) : Option Nat × zs := if mSLs x.2 b t x.1 = true then (if mSafeV x.2 b t = true then some t else x.1, mSafeS x.2 b t) else x
def mSafe (m : zs) (b : Nat) : Option Nat × zs := zfw (mSafeF b) 0 (1 * 2 ^ mMany m b) (none, m)
set_option maxRecDepth 20000 in
set_option maxHeartbeats 2000000 in
theorem lpm_safe (G : zG) (pg nw kp sn ks fo ft fe gt mx : zs) (re : Nat → Int64) (m : zs) (hh : Int64) (hm : mOK m) (hp : mHP m) (b : Nat) (hb : b < 3) (h3 : mMany m b ≤ 3) (P : Nat) (hP : 1 * 2 ^ mMany m b = P) (hP2 : P ≤ 8) (hset : ∀ t, t < P → mSetOk m b t) : ∀ (n i : Nat) (x : Option Nat × zs), i + n = P → mSame x.2 m → (∀ c, x.1 = some c → c < i) → zS G mX8_safeOf 4 [some (.ref 49), some (.int (nI b)), some (.int (oI x.1)), some (.int (nI i)), none] [] (wW pg nw kp sn ks fo ft fe gt mx re x.2 hh) (some (.int (oI (zfw (mSafeF b) i n x).1))) (wW pg nw kp sn ks fo ft fe gt mx re (zfw (mSafeF b) i n x).2 hh) := by
  intro n
  induction n with
  | zero =>
    intro i x hi hx hz
    refine z_iload_n iX8_safeOf_4 rfl ?_
    refine z_iconst iX8_safeOf_5 zk_1 ?_
    refine z_aload_n iX8_safeOf_6 rfl ?_
    refine z_iload_n iX8_safeOf_7 rfl ?_
    refine z_cvi (y1 := mX8_thereMany) iX8_safeOf_8 lX8_193 kX8_thereMany rfl (cm_many G pg nw kp sn ks fo ft fe gt mx re x.2 hh (hx.ok hm) b hb) (wm) rfl rfl rfl (Nat.le_of_ble_eq_true rfl) (by decide) ?_
    rw [mMany_of (hx.1 13) (hx.1 12) (hx.2.2 14 (by decide))]
    refine z_ishl iX8_safeOf_11 ?_
    refine z_top ((nix_shl (by omega) (zp1 (by omega))).trans (congrArg nI hP)) ?_
    refine zn_ge iX8_safeOf_12 (by omega) (by omega) (fun q12 => ?_) (fun q12 => absurd q12 (by omega))
    refine z_iload_n iX8_safeOf_68 rfl ?_
    exact z_ireturn iX8_safeOf_69 (rfl) (rfl)
  | succ n ih0 =>
    intro i x hi hx hz
    have ih : ∀ (i : Nat) (z : Option Nat) (w : zs) (j : Option Value) (v : Int32), v = oI z → i + n = P → mSame w m → (∀ c, z = some c → c < i) → zS G mX8_safeOf 4 [some (.ref 49), some (.int (nI b)), some (.int v), some (.int (nI i)), j] [] (wW pg nw kp sn ks fo ft fe gt mx re w hh) (some (.int (oI (zfw (mSafeF b) i n (z, w)).1))) (wW pg nw kp sn ks fo ft fe gt mx re (zfw (mSafeF b) i n (z, w)).2 hh) := fun i z w j v hv h1 h2 h3 => by subst hv; exact z_weak (zle_w (by simp [zle])) (ih0 i (z, w) h1 h2 h3)
    cases hz1 : x.1 with
    | none =>
      have hl : mSLs x.2 b i x.1 = true := by rw [hz1]; rfl
      rw [oI_none]
      refine z_iload_n iX8_safeOf_4 rfl ?_
      refine z_iconst iX8_safeOf_5 zk_1 ?_
      refine z_aload_n iX8_safeOf_6 rfl ?_
      refine z_iload_n iX8_safeOf_7 rfl ?_
      refine z_cvi (y1 := mX8_thereMany) iX8_safeOf_8 lX8_193 kX8_thereMany rfl (cm_many G pg nw kp sn ks fo ft fe gt mx re x.2 hh (hx.ok hm) b hb) (wm) rfl rfl rfl (Nat.le_of_ble_eq_true rfl) (by decide) ?_
      rw [mMany_of (hx.1 13) (hx.1 12) (hx.2.2 14 (by decide))]
      refine z_ishl iX8_safeOf_11 ?_
      refine z_top ((nix_shl (by omega) (zp1 (by omega))).trans (congrArg nI hP)) ?_
      refine zn_ge iX8_safeOf_12 (by omega) (by omega) (fun q12 => absurd q12 (by omega)) (fun q12 => ?_)
      refine z_iload_n iX8_safeOf_15 rfl ?_
      refine z_iconst iX8_safeOf_16 zk_m1 ?_
      refine z_icmp_eq iX8_safeOf_17 (fun q17 => ?_) (fun q17 => absurd rfl q17)
      refine z_iconst iX8_safeOf_35 zk_1 ?_
      refine z_goto iX8_safeOf_36 ?_
      refine z_istore iX8_safeOf_40 rfl (by decide) ?_
      refine z_iload iX8_safeOf_42 rfl ?_
      refine zn_if_eq iX8_safeOf_44 (by omega) (fun q44 => absurd q44 (by decide)) (fun q44 => ?_)
      refine z_aload_n iX8_safeOf_47 rfl ?_
      refine z_iload_n iX8_safeOf_48 rfl ?_
      refine z_iload_n iX8_safeOf_49 rfl ?_
      refine z_cvi (y1 := mX8_isSafe) iX8_safeOf_50 lX8_199 kX8_isSafe rfl (cm_isSafe G pg nw kp sn ks fo ft fe gt mx re x.2 hh (hx.ok hm) (hx.hp hp) b i hb (by omega) (hx.set (hset i (by omega)))) (wm) rfl rfl rfl (Nat.le_of_ble_eq_true rfl) (by decide) ?_
      refine zb_if_eq iX8_safeOf_53 (fun q53 => ?_) (fun q53 => ?_)
      · refine z_iload_n iX8_safeOf_60 rfl ?_
        refine z_istore_n iX8_safeOf_61 rfl (by decide) ?_
        refine z_iinc iX8_safeOf_62 rfl nix_inc rfl (by decide) ?_
        refine z_goto iX8_safeOf_65 ?_
        first
          | (have e1 : mSafeF b i x = (some i, mSafeS x.2 b i) := by rw [mSafeF, if_pos hl, if_pos q53]
             rw [zfw, e1]
             exact ih (i + 1) (some i) (mSafeS x.2 b i) _ _ (oI_some i).symm (by omega) ((mSafeS_same _ _ _).trans hx) (fun c hc => by cases hc <;> omega))
          | (have e1 : mSafeF b i x = (none, mSafeS x.2 b i) := by rw [mSafeF, if_pos hl, if_neg (by rw [q53]; decide), hz1]
             rw [zfw, e1]
             exact ih (i + 1) none (mSafeS x.2 b i) _ _ oI_none.symm (by omega) ((mSafeS_same _ _ _).trans hx) (fun c hc => by cases hc <;> omega))
      · refine z_iload_n iX8_safeOf_56 rfl ?_
        refine z_goto iX8_safeOf_57 ?_
        refine z_istore_n iX8_safeOf_61 rfl (by decide) ?_
        refine z_iinc iX8_safeOf_62 rfl nix_inc rfl (by decide) ?_
        refine z_goto iX8_safeOf_65 ?_
        first
          | (have e1 : mSafeF b i x = (some i, mSafeS x.2 b i) := by rw [mSafeF, if_pos hl, if_pos q53]
             rw [zfw, e1]
             exact ih (i + 1) (some i) (mSafeS x.2 b i) _ _ (oI_some i).symm (by omega) ((mSafeS_same _ _ _).trans hx) (fun c hc => by cases hc <;> omega))
          | (have e1 : mSafeF b i x = (none, mSafeS x.2 b i) := by rw [mSafeF, if_pos hl, if_neg (by rw [q53]; decide), hz1]
             rw [zfw, e1]
             exact ih (i + 1) none (mSafeS x.2 b i) _ _ oI_none.symm (by omega) ((mSafeS_same _ _ _).trans hx) (fun c hc => by cases hc <;> omega))
    | some c =>
      have hc := hz c hz1
      rw [oI_some]
      by_cases hle : mLS x.2 b c ≤ mLS x.2 b i
      · have hl : ¬ mSLs x.2 b i x.1 = true := by rw [hz1]; simp [mSLs, hle]
        refine z_iload_n iX8_safeOf_4 rfl ?_
        refine z_iconst iX8_safeOf_5 zk_1 ?_
        refine z_aload_n iX8_safeOf_6 rfl ?_
        refine z_iload_n iX8_safeOf_7 rfl ?_
        refine z_cvi (y1 := mX8_thereMany) iX8_safeOf_8 lX8_193 kX8_thereMany rfl (cm_many G pg nw kp sn ks fo ft fe gt mx re x.2 hh (hx.ok hm) b hb) (wm) rfl rfl rfl (Nat.le_of_ble_eq_true rfl) (by decide) ?_
        rw [mMany_of (hx.1 13) (hx.1 12) (hx.2.2 14 (by decide))]
        refine z_ishl iX8_safeOf_11 ?_
        refine z_top ((nix_shl (by omega) (zp1 (by omega))).trans (congrArg nI hP)) ?_
        refine zn_ge iX8_safeOf_12 (by omega) (by omega) (fun q12 => absurd q12 (by omega)) (fun q12 => ?_)
        refine z_iload_n iX8_safeOf_15 rfl ?_
        refine z_iconst iX8_safeOf_16 zk_m1 ?_
        refine z_icmp_eq iX8_safeOf_17 (fun q17 => absurd q17 (nI_m1 (by omega))) (fun q17 => ?_)
        refine z_aload_n iX8_safeOf_20 rfl ?_
        refine z_iload_n iX8_safeOf_21 rfl ?_
        refine z_iload_n iX8_safeOf_22 rfl ?_
        refine z_cvi (y1 := mX8_lightOfSet) iX8_safeOf_23 lX8_196 kX8_lightOfSet rfl (cm_ls G pg nw kp sn ks fo ft fe gt mx re x.2 hh (hx.ok hm) b i hb (by omega) (hx.set (hset i (by omega)))) (wm) rfl rfl rfl (Nat.le_of_ble_eq_true rfl) (by decide) ?_
        refine z_aload_n iX8_safeOf_26 rfl ?_
        refine z_iload_n iX8_safeOf_27 rfl ?_
        refine z_iload_n iX8_safeOf_28 rfl ?_
        refine z_cvi (y1 := mX8_lightOfSet) iX8_safeOf_29 lX8_196 kX8_lightOfSet rfl (cm_ls G pg nw kp sn ks fo ft fe gt mx re x.2 hh (hx.ok hm) b c hb (by omega) (hx.set (hset c (by omega)))) (wm) rfl rfl rfl (Nat.le_of_ble_eq_true rfl) (by decide) ?_
        refine z_icmp_ge iX8_safeOf_32 (fun q32 => ?_) (fun q32 => absurd hle q32)
        refine z_iconst iX8_safeOf_39 zk_0 ?_
        refine z_istore iX8_safeOf_40 rfl (by decide) ?_
        refine z_iload iX8_safeOf_42 rfl ?_
        refine zn_if_eq iX8_safeOf_44 (by omega) (fun q44 => ?_) (fun q44 => absurd rfl q44)
        refine z_iload_n iX8_safeOf_60 rfl ?_
        refine z_istore_n iX8_safeOf_61 rfl (by decide) ?_
        refine z_iinc iX8_safeOf_62 rfl nix_inc rfl (by decide) ?_
        refine z_goto iX8_safeOf_65 ?_
        have e1 : mSafeF b i x = x := by rw [mSafeF, if_neg hl]
        rw [zfw, e1]
        refine z_weak ?_ (ih (i + 1) x.1 x.2 none (nI c) (by rw [hz1]; rfl) (by omega) hx (fun c hc => by have := hz c hc; omega))
        exact zle_w (by simp [zle, zf3] <;> rfl)
      · have hl : mSLs x.2 b i x.1 = true := by rw [hz1]; simp [mSLs]; exact Int32.not_le.mp hle
        refine z_iload_n iX8_safeOf_4 rfl ?_
        refine z_iconst iX8_safeOf_5 zk_1 ?_
        refine z_aload_n iX8_safeOf_6 rfl ?_
        refine z_iload_n iX8_safeOf_7 rfl ?_
        refine z_cvi (y1 := mX8_thereMany) iX8_safeOf_8 lX8_193 kX8_thereMany rfl (cm_many G pg nw kp sn ks fo ft fe gt mx re x.2 hh (hx.ok hm) b hb) (wm) rfl rfl rfl (Nat.le_of_ble_eq_true rfl) (by decide) ?_
        rw [mMany_of (hx.1 13) (hx.1 12) (hx.2.2 14 (by decide))]
        refine z_ishl iX8_safeOf_11 ?_
        refine z_top ((nix_shl (by omega) (zp1 (by omega))).trans (congrArg nI hP)) ?_
        refine zn_ge iX8_safeOf_12 (by omega) (by omega) (fun q12 => absurd q12 (by omega)) (fun q12 => ?_)
        refine z_iload_n iX8_safeOf_15 rfl ?_
        refine z_iconst iX8_safeOf_16 zk_m1 ?_
        refine z_icmp_eq iX8_safeOf_17 (fun q17 => absurd q17 (nI_m1 (by omega))) (fun q17 => ?_)
        refine z_aload_n iX8_safeOf_20 rfl ?_
        refine z_iload_n iX8_safeOf_21 rfl ?_
        refine z_iload_n iX8_safeOf_22 rfl ?_
        refine z_cvi (y1 := mX8_lightOfSet) iX8_safeOf_23 lX8_196 kX8_lightOfSet rfl (cm_ls G pg nw kp sn ks fo ft fe gt mx re x.2 hh (hx.ok hm) b i hb (by omega) (hx.set (hset i (by omega)))) (wm) rfl rfl rfl (Nat.le_of_ble_eq_true rfl) (by decide) ?_
        refine z_aload_n iX8_safeOf_26 rfl ?_
        refine z_iload_n iX8_safeOf_27 rfl ?_
        refine z_iload_n iX8_safeOf_28 rfl ?_
        refine z_cvi (y1 := mX8_lightOfSet) iX8_safeOf_29 lX8_196 kX8_lightOfSet rfl (cm_ls G pg nw kp sn ks fo ft fe gt mx re x.2 hh (hx.ok hm) b c hb (by omega) (hx.set (hset c (by omega)))) (wm) rfl rfl rfl (Nat.le_of_ble_eq_true rfl) (by decide) ?_
        refine z_icmp_ge iX8_safeOf_32 (fun q32 => absurd q32 hle) (fun q32 => ?_)
        refine z_iconst iX8_safeOf_35 zk_1 ?_
        refine z_goto iX8_safeOf_36 ?_
        refine z_istore iX8_safeOf_40 rfl (by decide) ?_
        refine z_iload iX8_safeOf_42 rfl ?_
        refine zn_if_eq iX8_safeOf_44 (by omega) (fun q44 => absurd q44 (by decide)) (fun q44 => ?_)
        refine z_aload_n iX8_safeOf_47 rfl ?_
        refine z_iload_n iX8_safeOf_48 rfl ?_
        refine z_iload_n iX8_safeOf_49 rfl ?_
        refine z_cvi (y1 := mX8_isSafe) iX8_safeOf_50 lX8_199 kX8_isSafe rfl (cm_isSafe G pg nw kp sn ks fo ft fe gt mx re x.2 hh (hx.ok hm) (hx.hp hp) b i hb (by omega) (hx.set (hset i (by omega)))) (wm) rfl rfl rfl (Nat.le_of_ble_eq_true rfl) (by decide) ?_
        refine zb_if_eq iX8_safeOf_53 (fun q53 => ?_) (fun q53 => ?_)
        · refine z_iload_n iX8_safeOf_60 rfl ?_
          refine z_istore_n iX8_safeOf_61 rfl (by decide) ?_
          refine z_iinc iX8_safeOf_62 rfl nix_inc rfl (by decide) ?_
          refine z_goto iX8_safeOf_65 ?_
          first
            | (have e1 : mSafeF b i x = (some i, mSafeS x.2 b i) := by rw [mSafeF, if_pos hl, if_pos q53]
               rw [zfw, e1]
               exact ih (i + 1) (some i) (mSafeS x.2 b i) _ _ (oI_some i).symm (by omega) ((mSafeS_same _ _ _).trans hx) (fun c hc => by cases hc <;> omega))
            | (have e1 : mSafeF b i x = (some c, mSafeS x.2 b i) := by rw [mSafeF, if_pos hl, if_neg (by rw [q53]; decide), hz1]
               rw [zfw, e1]
               exact ih (i + 1) (some c) (mSafeS x.2 b i) _ _ (oI_some c).symm (by omega) ((mSafeS_same _ _ _).trans hx) (fun c hc => by cases hc <;> omega))
        · refine z_iload_n iX8_safeOf_56 rfl ?_
          refine z_goto iX8_safeOf_57 ?_
          refine z_istore_n iX8_safeOf_61 rfl (by decide) ?_
          refine z_iinc iX8_safeOf_62 rfl nix_inc rfl (by decide) ?_
          refine z_goto iX8_safeOf_65 ?_
          first
            | (have e1 : mSafeF b i x = (some i, mSafeS x.2 b i) := by rw [mSafeF, if_pos hl, if_pos q53]
               rw [zfw, e1]
               exact ih (i + 1) (some i) (mSafeS x.2 b i) _ _ (oI_some i).symm (by omega) ((mSafeS_same _ _ _).trans hx) (fun c hc => by cases hc <;> omega))
            | (have e1 : mSafeF b i x = (some c, mSafeS x.2 b i) := by rw [mSafeF, if_pos hl, if_neg (by rw [q53]; decide), hz1]
               rw [zfw, e1]
               exact ih (i + 1) (some c) (mSafeS x.2 b i) _ _ (oI_some c).symm (by omega) ((mSafeS_same _ _ _).trans hx) (fun c hc => by cases hc <;> omega))
set_option maxRecDepth 20000 in
set_option maxHeartbeats 2000000 in
theorem cm_safe (G : zG) (pg nw kp sn ks fo ft fe gt mx : zs) (re : Nat → Int64) (m : zs) (hh : Int64) (hm : mOK m) (hp : mHP m) (b : Nat) (hb : b < 3) (h3 : mMany m b ≤ 3) (hset : ∀ t, t < 1 * 2 ^ mMany m b → mSetOk m b t) : zK G mX8_safeOf [.ref 49, .int (nI b)] (wW pg nw kp sn ks fo ft fe gt mx re m hh) (some (.int (oI (mSafe m b).1))) (wW pg nw kp sn ks fo ft fe gt mx re (mSafe m b).2 hh) := by
  refine zK_of 3 rfl (by decide) trivial (Nat.le_of_ble_eq_true rfl) rfl ?_
  refine z_iconst iX8_safeOf_0 zk_m1 ?_
  refine z_istore_n iX8_safeOf_1 rfl (by decide) ?_
  refine z_iconst iX8_safeOf_2 zk_0 ?_
  refine z_istore_n iX8_safeOf_3 rfl (by decide) ?_
  exact lpm_safe G pg nw kp sn ks fo ft fe gt mx re m hh hm hp b hb h3 _ rfl (zpow3 h3) hset _ 0 (none, m) (Nat.zero_add _) ⟨fun _ => rfl, fun _ => rfl, fun _ _ => rfl⟩ (fun c hc => by cases hc)
def mFeed (much : Int32) : Nat → Int32 × zs → Option (Int32 × zs)
  | 0, _ => none
  | n + 1, x => if much ≤ x.1 then some x else match mLeast x.2 with
    | none => some x
    | some b => match mTop x.2 b with
      | none => none
      | some k => mFeed much n (x.1 + kGives (rA x.2 10 k) (mLess x.2 k (nI 1)), mCut x.2 b k (nI 1))
theorem mFeed_same (much : Int32) : ∀ (n : Nat) (x y : Int32 × zs), mFeed much n x = some y → mOK x.2 → mHP x.2 → mOK y.2 ∧ mHP y.2
  | 0, _, _, h, _, _ => by cases h
  | n + 1, x, y, h, h1, h2 => by
    unfold mFeed at h
    split at h
    · cases h; exact ⟨h1, h2⟩
    · split at h
      · cases h; exact ⟨h1, h2⟩
      · split at h
        · cases h
        · exact mFeed_same much n _ y h (mCut_ok h1 _ _ _) (mCut_hp h2 _ _ _)
set_option maxRecDepth 20000 in
set_option maxHeartbeats 2000000 in
theorem lpm_feed (G : zG) (pg nw kp sn ks fo ft fe gt mx : zs) (re : Nat → Int64) (hh : Int64) (much : Int32) (d : Nat) (r : Option Value) (g2 : zh) : ∀ (n : Nat) (x y : Int32 × zs), mFeed much n x = some y → mOK x.2 → (zS G mX8_lastsOf 50 [some (.ref 49), some (.int much), some (.int (nI d)), some (.int y.1), none] [] (wW pg nw kp sn ks fo ft fe gt mx re y.2 hh) r g2) → zS G mX8_lastsOf 20 [some (.ref 49), some (.int much), some (.int (nI d)), some (.int x.1), some (.int (oI (mLeast x.2)))] [] (wW pg nw kp sn ks fo ft fe gt mx re x.2 hh) r g2 := by
  intro n
  induction n with
  | zero => intro x y h; cases h
  | succ n ih =>
    intro x y h hx hk
    unfold mFeed at h
    by_cases hmu : much ≤ x.1
    · rw [if_pos hmu] at h
      cases h
      refine z_iload_n iX8_lastsOf_20 rfl ?_
      refine z_iload_n iX8_lastsOf_21 rfl ?_
      refine z_icmp_ge iX8_lastsOf_22 (fun q22 => ?_) (fun q22 => absurd hmu q22)
      refine z_weak ?_ hk
      exact zle_w (by simp [zle, zf3] <;> rfl)
    · rw [if_neg hmu] at h
      cases hl : mLeast x.2 with
      | none =>
        rw [hl] at h
        cases h
        rw [oI_none]
        refine z_iload_n iX8_lastsOf_20 rfl ?_
        refine z_iload_n iX8_lastsOf_21 rfl ?_
        refine z_icmp_ge iX8_lastsOf_22 (fun q22 => absurd q22 hmu) (fun q22 => ?_)
        refine z_iload iX8_lastsOf_25 rfl ?_
        refine z_iconst iX8_lastsOf_27 zk_m1 ?_
        refine z_icmp_eq iX8_lastsOf_28 (fun q28 => ?_) (fun q28 => absurd rfl q28)
        refine z_weak ?_ hk
        exact zle_w (by simp [zle, zf3] <;> rfl)
      | some b =>
        rw [hl] at h
        have hb := mLeast_ok hl
        have o4 := hx.2.2.2.2.1
        obtain ⟨k, hk1⟩ : ∃ k, mTop x.2 b = some k := by
          cases hh2 : mTop x.2 b with
          | none => exact absurd hh2 hb.2
          | some k => exact ⟨k, rfl⟩
        dsimp only at h
        rw [hk1] at h
        rw [oI_some]
        refine z_iload_n iX8_lastsOf_20 rfl ?_
        refine z_iload_n iX8_lastsOf_21 rfl ?_
        refine z_icmp_ge iX8_lastsOf_22 (fun q22 => absurd q22 hmu) (fun q22 => ?_)
        refine z_iload iX8_lastsOf_25 rfl ?_
        refine z_iconst iX8_lastsOf_27 zk_m1 ?_
        refine z_icmp_eq iX8_lastsOf_28 (fun q28 => absurd q28 (nI_m1 (by omega))) (fun q28 => ?_)
        refine z_iload_n iX8_lastsOf_31 rfl ?_
        refine z_aload_n iX8_lastsOf_32 rfl ?_
        refine z_iload iX8_lastsOf_33 rfl ?_
        refine z_iconst iX8_lastsOf_35 zk_1 ?_
        refine z_cvi (y1 := mX8_cutThen) iX8_lastsOf_36 lX8_219 kX8_cutThen rfl (cm_cut G pg nw kp sn ks fo ft fe gt mx re x.2 hh hx b (by omega) (nI 1) k hk1) (wm) rfl rfl rfl (Nat.le_of_ble_eq_true rfl) (by decide) ?_
        refine z_iadd iX8_lastsOf_39 ?_
        refine z_istore_n iX8_lastsOf_40 rfl (by decide) ?_
        refine z_aload_n iX8_lastsOf_41 rfl ?_
        refine z_cvi (y1 := mX8_leastTop) iX8_lastsOf_42 lX8_231 kX8_leastTop rfl (cm_least G pg nw kp sn ks fo ft fe gt mx re _ hh (mCut_ok hx b k (nI 1))) (wm) rfl rfl rfl (Nat.le_of_ble_eq_true rfl) (by decide) ?_
        refine z_istore iX8_lastsOf_45 rfl (by decide) ?_
        refine z_goto iX8_lastsOf_47 ?_
        exact ih (x.1 + kGives (rA x.2 10 k) (mLess x.2 k (nI 1)), mCut x.2 b k (nI 1)) y h (mCut_ok hx b k (nI 1)) hk
def mLasts (much : Int32) : Nat → Nat → zs → Option (Nat × zs)
  | i, 0, x => some (i, x)
  | i, n + 1, x => match mFeed much 82 (nI 0, x) with
    | none => none
    | some y => if much ≤ y.1 then mLasts much (i + 1) n (mDay y.2).2 else some (i, y.2)
set_option maxRecDepth 20000 in
set_option maxHeartbeats 2000000 in
theorem lpm_lasts (G : zG) (pg nw kp sn ks fo ft fe gt mx : zs) (re : Nat → Int64) (hh : Int64) (much : Int32) : ∀ (n i : Nat) (x : zs) (r : Nat × zs), mOK x → mHP x → i + n = 100 → mLasts much i n x = some r → zS G mX8_lastsOf 6 [some (.ref 49), some (.int much), some (.int (nI i)), none, none] [] (wW pg nw kp sn ks fo ft fe gt mx re x hh) (some (.int (nI r.1))) (wW pg nw kp sn ks fo ft fe gt mx re r.2 hh) := by
  intro n
  induction n with
  | zero =>
    intro i x r hx hp hi hr
    cases hr
    refine z_iload_n iX8_lastsOf_6 rfl ?_
    refine z_bipush iX8_lastsOf_7 zb_100 ?_
    refine zn_ge iX8_lastsOf_9 (by omega) (by omega) (fun q9 => ?_) (fun q9 => absurd q9 (by omega))
    refine z_bipush iX8_lastsOf_68 zb_100 ?_
    exact z_ireturn iX8_lastsOf_70 (by rw [← hi]; rfl) (rfl)
  | succ n ih =>
    intro i x r hx hp hi hr
    unfold mLasts at hr
    obtain ⟨y, hy⟩ : ∃ y, mFeed much 82 (nI 0, x) = some y := by
      cases h : mFeed much 82 (nI 0, x) with
      | none => rw [h] at hr; cases hr
      | some y => exact ⟨y, rfl⟩
    rw [hy] at hr
    dsimp only at hr
    have hy2 := mFeed_same much 82 _ _ hy hx hp
    refine z_iload_n iX8_lastsOf_6 rfl ?_
    refine z_bipush iX8_lastsOf_7 zb_100 ?_
    refine zn_ge iX8_lastsOf_9 (by omega) (by omega) (fun q9 => absurd q9 (by omega)) (fun q9 => ?_)
    refine z_iconst iX8_lastsOf_12 zk_0 ?_
    refine z_istore_n iX8_lastsOf_13 rfl (by decide) ?_
    refine z_aload_n iX8_lastsOf_14 rfl ?_
    refine z_cvi (y1 := mX8_leastTop) iX8_lastsOf_15 lX8_231 kX8_leastTop rfl (cm_least G pg nw kp sn ks fo ft fe gt mx re _ hh hx) (wm) rfl rfl rfl (Nat.le_of_ble_eq_true rfl) (by decide) ?_
    refine z_istore iX8_lastsOf_18 rfl (by decide) ?_
    refine lpm_feed G pg nw kp sn ks fo ft fe gt mx re hh much i _ _ 82 (nI 0, x) y hy hx ?_
    refine z_iload_n iX8_lastsOf_50 rfl ?_
    refine z_iload_n iX8_lastsOf_51 rfl ?_
    refine z_icmp_ge iX8_lastsOf_52 (fun q52 => ?_) (fun q52 => ?_)
    · rw [if_pos q52] at hr
      refine z_aload_n iX8_lastsOf_57 rfl ?_
      refine z_cvi (y1 := mX8_dayThen) iX8_lastsOf_58 lX8_190 kX8_dayThen rfl (cm_day G pg nw kp sn ks fo ft fe gt mx re _ hh hy2.1 hy2.2) (wm) rfl rfl rfl (Nat.le_of_ble_eq_true rfl) (by decide) ?_
      refine z_pop iX8_lastsOf_61 rfl ?_
      refine z_iinc iX8_lastsOf_62 rfl nix_inc rfl (by decide) ?_
      refine z_goto iX8_lastsOf_65 ?_
      refine z_weak ?_ (ih (i + 1) _ r (mDay_ok hy2.1) (mDay_hp hy2.2) (by omega) hr)
      exact zle_w (by simp [zle, zf3] <;> rfl)
    · rw [if_neg q52] at hr
      cases hr
      refine z_iload_n iX8_lastsOf_55 rfl ?_
      exact z_ireturn iX8_lastsOf_56 rfl rfl
set_option maxRecDepth 20000 in
set_option maxHeartbeats 2000000 in
theorem cm_lastsOf (G : zG) (pg nw kp sn ks fo ft fe gt mx : zs) (re : Nat → Int64) (m : zs) (hh : Int64) (hm : mOK m) (hp : mHP m) (much : Int32) (r : Nat × zs) (hr : mLasts much 0 100 (mBegin m) = some r) : zK G mX8_lastsOf [.ref 49, .int much] (wW pg nw kp sn ks fo ft fe gt mx re m hh) (some (.int (nI r.1))) (wW pg nw kp sn ks fo ft fe gt mx re r.2 hh) := by
  refine zK_of 3 rfl (by decide) trivial (Nat.le_of_ble_eq_true rfl) rfl ?_
  refine z_aload_n iX8_lastsOf_0 rfl ?_
  refine z_cvv (y1 := mX8_begin) iX8_lastsOf_1 lX8_165 kX8_begin rfl (cm_begin G pg nw kp sn ks fo ft fe gt mx re m hh) (wm) rfl rfl rfl (Nat.le_of_ble_eq_true rfl) (by decide) ?_
  refine z_iconst iX8_lastsOf_4 zk_0 ?_
  refine z_istore_n iX8_lastsOf_5 rfl (by decide) ?_
  exact lpm_lasts G pg nw kp sn ks fo ft fe gt mx re hh much 100 0 (mBegin m) r hm hp rfl hr
