def mOf (k : Nat) : Nat := if k ≤ 1 then 1 else k / 3
def m3 (k : Nat) : Prop := k = 1 ∨ k = 3 ∨ k = 9 ∨ k = 27
theorem m3_ok {k : Nat} (h : m3 k) : 0 < k ∧ k ≤ 27 := by unfold m3 at h; omega
theorem mOf_ok {k : Nat} (h : m3 k) : m3 (mOf k) := by
  unfold m3 at h
  rcases h with rfl | rfl | rfl | rfl <;> (unfold m3 mOf; simp)
def mP3 (n : Nat) (x : Nat) : Nat := zfw (fun _ x => x * 3) 0 n x
theorem zfw_c {α : Type} (f : α → α) : ∀ (n i j : Nat) (x : α), zfw (fun _ x => f x) i n x = zfw (fun _ x => f x) j n x
  | 0, _, _, _ => rfl
  | n + 1, i, j, x => zfw_c f n (i + 1) (j + 1) (f x)
theorem mP3_ok {d : Nat} (h1 : 1 ≤ d) (h4 : d ≤ 4) : m3 (mP3 (d - 1) 1) := by
  rcases (show d = 1 ∨ d = 2 ∨ d = 3 ∨ d = 4 by omega) with rfl | rfl | rfl | rfl <;> simp [m3, mP3, zfw]
theorem mP3_81 {d : Nat} (h4 : d ≤ 4) : mP3 d 1 ≤ 81 := by
  rcases (show d = 0 ∨ d = 1 ∨ d = 2 ∨ d = 3 ∨ d = 4 by omega) with rfl | rfl | rfl | rfl | rfl <;> decide
def mWorth (row : Nat) : Nat → Nat → Int32 → zs → Int32 × zs
  | 0, _, sum, x => (sum + mLA x, x)
  | n + 1, k, sum, x => match mLeast x with
    | none => if row / k % 3 = 0 then mWorth row n (mOf k) sum (mDay x).2 else (-1, x)
    | some _ => if rN x 4 ≤ row / k % 3 then (-1, x) else match mTop x (row / k % 3) with
      | none => (-1, x)
      | some c => mWorth row n (mOf k) (sum + kGives (rA x 10 c) (mLess x c (nI 3))) (mDay (mCut x (row / k % 3) c (nI 3))).2
set_option maxRecDepth 20000 in
set_option maxHeartbeats 1000000 in
theorem lpm_worth (G : zG) (pg nw kp sn ks fo ft fe gt mx : zs) (re : Nat → Int64) (hh : Int64) (row d : Nat) (hr : row < 2 ^ 31) (hd : d ≤ 4) : ∀ (n i k : Nat) (sum : Int32) (x : zs), m3 k → mOK x → mHP x → i + n = d → zS G mX8_worthOf 31 [some (.ref 49), some (.int (nI row)), some (.int (nI d)), some (.int (nI k)), some (.int sum), some (.int (nI i)), none] [] (wW pg nw kp sn ks fo ft fe gt mx re x hh) (some (.int (mWorth row n k sum x).1)) (wW pg nw kp sn ks fo ft fe gt mx re (mWorth row n k sum x).2 hh) := by
  intro n
  induction n with
  | zero =>
    intro i k sum x hk hx hp hi
    refine z_iload iX8_worthOf_31 rfl ?_
    refine z_iload_n iX8_worthOf_33 rfl ?_
    refine zn_ge iX8_worthOf_34 (by omega) (by omega) (fun q34 => ?_) (fun q34 => absurd q34 (by omega))
    refine z_iload iX8_worthOf_115 rfl ?_
    refine z_aload_n iX8_worthOf_117 rfl ?_
    refine z_cvi (y1 := mX8_lightAll) iX8_worthOf_118 lX8_239 kX8_lightAll rfl (cm_lightAll G pg nw kp sn ks fo ft fe gt mx re x hh hx) (wm) rfl rfl rfl (Nat.le_of_ble_eq_true rfl) (by decide) ?_
    refine z_iadd iX8_worthOf_121 ?_
    exact z_ireturn iX8_worthOf_122 (rfl) (rfl)
  | succ n ih =>
    intro i k sum x hk hx hp hi
    obtain ⟨o13, o12, o11, o10, o4, o5⟩ := id hx
    have hd3 : row / k % 3 < 3 := Nat.mod_lt _ (by decide)
    have hk2 := m3_ok hk
    have hdv : row / k ≤ row := Nat.div_le_self _ _
    cases hl : mLeast x with
    | none =>
      have e0 : mWorth row (n + 1) k sum x = if row / k % 3 = 0 then mWorth row n (mOf k) sum (mDay x).2 else (-1, x) := by rw [mWorth, hl]
      refine z_iload iX8_worthOf_31 rfl ?_
      refine z_iload_n iX8_worthOf_33 rfl ?_
      refine zn_ge iX8_worthOf_34 (by omega) (by omega) (fun q34 => absurd q34 (by omega)) (fun q34 => ?_)
      refine z_iload_n iX8_worthOf_37 rfl ?_
      refine z_iload_n iX8_worthOf_38 rfl ?_
      refine z_idiv iX8_worthOf_39 (nix_ne hk2.1 (by omega)) ?_
      refine z_top (nix_div (by omega) (by omega) (by omega)) ?_
      refine z_iconst iX8_worthOf_40 zk_3 ?_
      refine z_irem iX8_worthOf_41 (by decide +kernel) ?_
      refine z_top (nix_rem (by omega) (by omega) (by omega)) ?_
      refine z_istore iX8_worthOf_42 rfl (by decide) ?_
      refine z_iload_n iX8_worthOf_44 rfl ?_
      refine z_iconst iX8_worthOf_45 zk_1 ?_
      refine zn_le iX8_worthOf_46 (by omega) (by omega) (fun q46 => ?_) (fun q46 => ?_)
      · refine z_iconst iX8_worthOf_55 zk_1 ?_
        refine z_istore_n iX8_worthOf_56 rfl (by decide) ?_
        refine z_aload_n iX8_worthOf_57 rfl ?_
        refine z_cvi (y1 := mX8_leastTop) iX8_worthOf_58 lX8_231 kX8_leastTop rfl (cm_least G pg nw kp sn ks fo ft fe gt mx re x hh hx) (wm) rfl rfl rfl (Nat.le_of_ble_eq_true rfl) (by decide) ?_
        rw [hl, oI_none]
        refine z_iconst iX8_worthOf_61 zk_m1 ?_
        refine z_icmp_ne iX8_worthOf_62 (fun q62 => absurd rfl q62) (fun q62 => ?_)
        refine z_iload iX8_worthOf_65 rfl ?_
        refine zn_if_le iX8_worthOf_67 (by omega) (fun q67 => ?_) (fun q67 => ?_)
        · refine z_aload_n iX8_worthOf_104 rfl ?_
          refine z_cvi (y1 := mX8_dayThen) iX8_worthOf_105 lX8_190 kX8_dayThen rfl (cm_day G pg nw kp sn ks fo ft fe gt mx re x hh hx hp) (wm) rfl rfl rfl (Nat.le_of_ble_eq_true rfl) (by decide) ?_
          refine z_pop iX8_worthOf_108 rfl ?_
          refine z_iinc iX8_worthOf_109 rfl nix_inc rfl (by decide) ?_
          refine z_goto iX8_worthOf_112 ?_
          have e1 := e0.trans (if_pos q67)
          first
            | (have e2 : mOf k = 1 := if_pos q46
               have k1 := ih (i + 1) (mOf k) sum (mDay x).2 (mOf_ok hk) (mDay_ok hx) (mDay_hp hp) (by omega)
               rw [e2] at k1
               rw [e1, e2]
               refine z_weak ?_ k1
               exact zle_w (by simp [zle, zf3] <;> rfl))
            | (have e2 : mOf k = k / 3 := if_neg (Nat.not_le.mpr q46)
               have k1 := ih (i + 1) (mOf k) sum (mDay x).2 (mOf_ok hk) (mDay_ok hx) (mDay_hp hp) (by omega)
               rw [e2] at k1
               rw [e1, e2]
               refine z_weak ?_ k1
               exact zle_w (by simp [zle, zf3] <;> rfl))
        · refine z_iconst iX8_worthOf_70 zk_m1 ?_
          exact z_ireturn iX8_worthOf_71 (by rw [e0, if_neg (by omega)]) (by rw [e0, if_neg (by omega)])
      · refine z_iload_n iX8_worthOf_49 rfl ?_
        refine z_iconst iX8_worthOf_50 zk_3 ?_
        refine z_idiv iX8_worthOf_51 (by decide +kernel) ?_
        refine z_top (nix_div (by omega) (by omega) (by omega)) ?_
        refine z_goto iX8_worthOf_52 ?_
        refine z_istore_n iX8_worthOf_56 rfl (by decide) ?_
        refine z_aload_n iX8_worthOf_57 rfl ?_
        refine z_cvi (y1 := mX8_leastTop) iX8_worthOf_58 lX8_231 kX8_leastTop rfl (cm_least G pg nw kp sn ks fo ft fe gt mx re x hh hx) (wm) rfl rfl rfl (Nat.le_of_ble_eq_true rfl) (by decide) ?_
        rw [hl, oI_none]
        refine z_iconst iX8_worthOf_61 zk_m1 ?_
        refine z_icmp_ne iX8_worthOf_62 (fun q62 => absurd rfl q62) (fun q62 => ?_)
        refine z_iload iX8_worthOf_65 rfl ?_
        refine zn_if_le iX8_worthOf_67 (by omega) (fun q67 => ?_) (fun q67 => ?_)
        · refine z_aload_n iX8_worthOf_104 rfl ?_
          refine z_cvi (y1 := mX8_dayThen) iX8_worthOf_105 lX8_190 kX8_dayThen rfl (cm_day G pg nw kp sn ks fo ft fe gt mx re x hh hx hp) (wm) rfl rfl rfl (Nat.le_of_ble_eq_true rfl) (by decide) ?_
          refine z_pop iX8_worthOf_108 rfl ?_
          refine z_iinc iX8_worthOf_109 rfl nix_inc rfl (by decide) ?_
          refine z_goto iX8_worthOf_112 ?_
          have e1 := e0.trans (if_pos q67)
          first
            | (have e2 : mOf k = 1 := if_pos q46
               have k1 := ih (i + 1) (mOf k) sum (mDay x).2 (mOf_ok hk) (mDay_ok hx) (mDay_hp hp) (by omega)
               rw [e2] at k1
               rw [e1, e2]
               refine z_weak ?_ k1
               exact zle_w (by simp [zle, zf3] <;> rfl))
            | (have e2 : mOf k = k / 3 := if_neg (Nat.not_le.mpr q46)
               have k1 := ih (i + 1) (mOf k) sum (mDay x).2 (mOf_ok hk) (mDay_ok hx) (mDay_hp hp) (by omega)
               rw [e2] at k1
               rw [e1, e2]
               refine z_weak ?_ k1
               exact zle_w (by simp [zle, zf3] <;> rfl))
        · refine z_iconst iX8_worthOf_70 zk_m1 ?_
          exact z_ireturn iX8_worthOf_71 (by rw [e0, if_neg (by omega)]) (by rw [e0, if_neg (by omega)])
    | some b0 =>
      have hb0 := mLeast_ok hl
      by_cases hbb : rN x 4 ≤ row / k % 3
      · have e1 : mWorth row (n + 1) k sum x = (-1, x) := by rw [mWorth, hl]; dsimp only; rw [if_pos hbb]
        refine z_iload iX8_worthOf_31 rfl ?_
        refine z_iload_n iX8_worthOf_33 rfl ?_
        refine zn_ge iX8_worthOf_34 (by omega) (by omega) (fun q34 => absurd q34 (by omega)) (fun q34 => ?_)
        refine z_iload_n iX8_worthOf_37 rfl ?_
        refine z_iload_n iX8_worthOf_38 rfl ?_
        refine z_idiv iX8_worthOf_39 (nix_ne hk2.1 (by omega)) ?_
        refine z_top (nix_div (by omega) (by omega) (by omega)) ?_
        refine z_iconst iX8_worthOf_40 zk_3 ?_
        refine z_irem iX8_worthOf_41 (by decide +kernel) ?_
        refine z_top (nix_rem (by omega) (by omega) (by omega)) ?_
        refine z_istore iX8_worthOf_42 rfl (by decide) ?_
        refine z_iload_n iX8_worthOf_44 rfl ?_
        refine z_iconst iX8_worthOf_45 zk_1 ?_
        refine zn_le iX8_worthOf_46 (by omega) (by omega) (fun q46 => ?_) (fun q46 => ?_)
        · refine z_iconst iX8_worthOf_55 zk_1 ?_
          refine z_istore_n iX8_worthOf_56 rfl (by decide) ?_
          refine z_aload_n iX8_worthOf_57 rfl ?_
          refine z_cvi (y1 := mX8_leastTop) iX8_worthOf_58 lX8_231 kX8_leastTop rfl (cm_least G pg nw kp sn ks fo ft fe gt mx re x hh hx) (wm) rfl rfl rfl (Nat.le_of_ble_eq_true rfl) (by decide) ?_
          rw [hl, oI_some]
          refine z_iconst iX8_worthOf_61 zk_m1 ?_
          refine z_icmp_ne iX8_worthOf_62 (fun q62 => ?_) (fun q62 => absurd q62 (nI_m1 (by omega)))
          refine z_iload iX8_worthOf_72 rfl ?_
          refine z_aload_n iX8_worthOf_74 rfl ?_
          refine z_getf iX8_worthOf_75 fX8_110 (wm) (mF_4 _ _) (by decide) ?_
          refine zn_ge iX8_worthOf_78 (by omega) (by omega) (fun q78 => ?_) (fun q78 => absurd q78 (by omega))
          refine z_iconst iX8_worthOf_90 zk_m1 ?_
          exact z_ireturn iX8_worthOf_91 (by rw [e1]) (by rw [e1])
        · refine z_iload_n iX8_worthOf_49 rfl ?_
          refine z_iconst iX8_worthOf_50 zk_3 ?_
          refine z_idiv iX8_worthOf_51 (by decide +kernel) ?_
          refine z_top (nix_div (by omega) (by omega) (by omega)) ?_
          refine z_goto iX8_worthOf_52 ?_
          refine z_istore_n iX8_worthOf_56 rfl (by decide) ?_
          refine z_aload_n iX8_worthOf_57 rfl ?_
          refine z_cvi (y1 := mX8_leastTop) iX8_worthOf_58 lX8_231 kX8_leastTop rfl (cm_least G pg nw kp sn ks fo ft fe gt mx re x hh hx) (wm) rfl rfl rfl (Nat.le_of_ble_eq_true rfl) (by decide) ?_
          rw [hl, oI_some]
          refine z_iconst iX8_worthOf_61 zk_m1 ?_
          refine z_icmp_ne iX8_worthOf_62 (fun q62 => ?_) (fun q62 => absurd q62 (nI_m1 (by omega)))
          refine z_iload iX8_worthOf_72 rfl ?_
          refine z_aload_n iX8_worthOf_74 rfl ?_
          refine z_getf iX8_worthOf_75 fX8_110 (wm) (mF_4 _ _) (by decide) ?_
          refine zn_ge iX8_worthOf_78 (by omega) (by omega) (fun q78 => ?_) (fun q78 => absurd q78 (by omega))
          refine z_iconst iX8_worthOf_90 zk_m1 ?_
          exact z_ireturn iX8_worthOf_91 (by rw [e1]) (by rw [e1])
      · cases ht : mTop x (row / k % 3) with
        | none =>
          have e1 : mWorth row (n + 1) k sum x = (-1, x) := by rw [mWorth, hl]; dsimp only; rw [if_neg hbb, ht]
          refine z_iload iX8_worthOf_31 rfl ?_
          refine z_iload_n iX8_worthOf_33 rfl ?_
          refine zn_ge iX8_worthOf_34 (by omega) (by omega) (fun q34 => absurd q34 (by omega)) (fun q34 => ?_)
          refine z_iload_n iX8_worthOf_37 rfl ?_
          refine z_iload_n iX8_worthOf_38 rfl ?_
          refine z_idiv iX8_worthOf_39 (nix_ne hk2.1 (by omega)) ?_
          refine z_top (nix_div (by omega) (by omega) (by omega)) ?_
          refine z_iconst iX8_worthOf_40 zk_3 ?_
          refine z_irem iX8_worthOf_41 (by decide +kernel) ?_
          refine z_top (nix_rem (by omega) (by omega) (by omega)) ?_
          refine z_istore iX8_worthOf_42 rfl (by decide) ?_
          refine z_iload_n iX8_worthOf_44 rfl ?_
          refine z_iconst iX8_worthOf_45 zk_1 ?_
          refine zn_le iX8_worthOf_46 (by omega) (by omega) (fun q46 => ?_) (fun q46 => ?_)
          · refine z_iconst iX8_worthOf_55 zk_1 ?_
            refine z_istore_n iX8_worthOf_56 rfl (by decide) ?_
            refine z_aload_n iX8_worthOf_57 rfl ?_
            refine z_cvi (y1 := mX8_leastTop) iX8_worthOf_58 lX8_231 kX8_leastTop rfl (cm_least G pg nw kp sn ks fo ft fe gt mx re x hh hx) (wm) rfl rfl rfl (Nat.le_of_ble_eq_true rfl) (by decide) ?_
            rw [hl, oI_some]
            refine z_iconst iX8_worthOf_61 zk_m1 ?_
            refine z_icmp_ne iX8_worthOf_62 (fun q62 => ?_) (fun q62 => absurd q62 (nI_m1 (by omega)))
            refine z_iload iX8_worthOf_72 rfl ?_
            refine z_aload_n iX8_worthOf_74 rfl ?_
            refine z_getf iX8_worthOf_75 fX8_110 (wm) (mF_4 _ _) (by decide) ?_
            refine zn_ge iX8_worthOf_78 (by omega) (by omega) (fun q78 => absurd q78 (by omega)) (fun q78 => ?_)
            refine z_aload_n iX8_worthOf_81 rfl ?_
            refine z_iload iX8_worthOf_82 rfl ?_
            refine z_cvi (y1 := mX8_hasLight) iX8_worthOf_84 lX8_216 kX8_hasLight rfl (cm_hasLight G pg nw kp sn ks fo ft fe gt mx re x hh hx (row / k % 3) (by omega)) (wm) rfl rfl rfl (Nat.le_of_ble_eq_true rfl) (by decide) ?_
            rw [ht]
            refine zb_if_ne iX8_worthOf_87 (fun q87 => absurd q87 (by simp)) (fun q87 => ?_)
            refine z_iconst iX8_worthOf_90 zk_m1 ?_
            exact z_ireturn iX8_worthOf_91 (by rw [e1]) (by rw [e1])
          · refine z_iload_n iX8_worthOf_49 rfl ?_
            refine z_iconst iX8_worthOf_50 zk_3 ?_
            refine z_idiv iX8_worthOf_51 (by decide +kernel) ?_
            refine z_top (nix_div (by omega) (by omega) (by omega)) ?_
            refine z_goto iX8_worthOf_52 ?_
            refine z_istore_n iX8_worthOf_56 rfl (by decide) ?_
            refine z_aload_n iX8_worthOf_57 rfl ?_
            refine z_cvi (y1 := mX8_leastTop) iX8_worthOf_58 lX8_231 kX8_leastTop rfl (cm_least G pg nw kp sn ks fo ft fe gt mx re x hh hx) (wm) rfl rfl rfl (Nat.le_of_ble_eq_true rfl) (by decide) ?_
            rw [hl, oI_some]
            refine z_iconst iX8_worthOf_61 zk_m1 ?_
            refine z_icmp_ne iX8_worthOf_62 (fun q62 => ?_) (fun q62 => absurd q62 (nI_m1 (by omega)))
            refine z_iload iX8_worthOf_72 rfl ?_
            refine z_aload_n iX8_worthOf_74 rfl ?_
            refine z_getf iX8_worthOf_75 fX8_110 (wm) (mF_4 _ _) (by decide) ?_
            refine zn_ge iX8_worthOf_78 (by omega) (by omega) (fun q78 => absurd q78 (by omega)) (fun q78 => ?_)
            refine z_aload_n iX8_worthOf_81 rfl ?_
            refine z_iload iX8_worthOf_82 rfl ?_
            refine z_cvi (y1 := mX8_hasLight) iX8_worthOf_84 lX8_216 kX8_hasLight rfl (cm_hasLight G pg nw kp sn ks fo ft fe gt mx re x hh hx (row / k % 3) (by omega)) (wm) rfl rfl rfl (Nat.le_of_ble_eq_true rfl) (by decide) ?_
            rw [ht]
            refine zb_if_ne iX8_worthOf_87 (fun q87 => absurd q87 (by simp)) (fun q87 => ?_)
            refine z_iconst iX8_worthOf_90 zk_m1 ?_
            exact z_ireturn iX8_worthOf_91 (by rw [e1]) (by rw [e1])
        | some c =>
          have e1 : mWorth row (n + 1) k sum x = mWorth row n (mOf k) (sum + kGives (rA x 10 c) (mLess x c (nI 3))) (mDay (mCut x (row / k % 3) c (nI 3))).2 := by rw [mWorth, hl]; dsimp only; rw [if_neg hbb, ht]
          refine z_iload iX8_worthOf_31 rfl ?_
          refine z_iload_n iX8_worthOf_33 rfl ?_
          refine zn_ge iX8_worthOf_34 (by omega) (by omega) (fun q34 => absurd q34 (by omega)) (fun q34 => ?_)
          refine z_iload_n iX8_worthOf_37 rfl ?_
          refine z_iload_n iX8_worthOf_38 rfl ?_
          refine z_idiv iX8_worthOf_39 (nix_ne hk2.1 (by omega)) ?_
          refine z_top (nix_div (by omega) (by omega) (by omega)) ?_
          refine z_iconst iX8_worthOf_40 zk_3 ?_
          refine z_irem iX8_worthOf_41 (by decide +kernel) ?_
          refine z_top (nix_rem (by omega) (by omega) (by omega)) ?_
          refine z_istore iX8_worthOf_42 rfl (by decide) ?_
          refine z_iload_n iX8_worthOf_44 rfl ?_
          refine z_iconst iX8_worthOf_45 zk_1 ?_
          refine zn_le iX8_worthOf_46 (by omega) (by omega) (fun q46 => ?_) (fun q46 => ?_)
          · refine z_iconst iX8_worthOf_55 zk_1 ?_
            refine z_istore_n iX8_worthOf_56 rfl (by decide) ?_
            refine z_aload_n iX8_worthOf_57 rfl ?_
            refine z_cvi (y1 := mX8_leastTop) iX8_worthOf_58 lX8_231 kX8_leastTop rfl (cm_least G pg nw kp sn ks fo ft fe gt mx re x hh hx) (wm) rfl rfl rfl (Nat.le_of_ble_eq_true rfl) (by decide) ?_
            rw [hl, oI_some]
            refine z_iconst iX8_worthOf_61 zk_m1 ?_
            refine z_icmp_ne iX8_worthOf_62 (fun q62 => ?_) (fun q62 => absurd q62 (nI_m1 (by omega)))
            refine z_iload iX8_worthOf_72 rfl ?_
            refine z_aload_n iX8_worthOf_74 rfl ?_
            refine z_getf iX8_worthOf_75 fX8_110 (wm) (mF_4 _ _) (by decide) ?_
            refine zn_ge iX8_worthOf_78 (by omega) (by omega) (fun q78 => absurd q78 (by omega)) (fun q78 => ?_)
            refine z_aload_n iX8_worthOf_81 rfl ?_
            refine z_iload iX8_worthOf_82 rfl ?_
            refine z_cvi (y1 := mX8_hasLight) iX8_worthOf_84 lX8_216 kX8_hasLight rfl (cm_hasLight G pg nw kp sn ks fo ft fe gt mx re x hh hx (row / k % 3) (by omega)) (wm) rfl rfl rfl (Nat.le_of_ble_eq_true rfl) (by decide) ?_
            rw [ht]
            refine zb_if_ne iX8_worthOf_87 (fun q87 => ?_) (fun q87 => absurd q87 (by simp))
            refine z_iload iX8_worthOf_92 rfl ?_
            refine z_aload_n iX8_worthOf_94 rfl ?_
            refine z_iload iX8_worthOf_95 rfl ?_
            refine z_iconst iX8_worthOf_97 zk_3 ?_
            refine z_cvi (y1 := mX8_cutThen) iX8_worthOf_98 lX8_219 kX8_cutThen rfl (cm_cut G pg nw kp sn ks fo ft fe gt mx re x hh hx (row / k % 3) (by omega) (nI 3) c ht) (wm) rfl rfl rfl (Nat.le_of_ble_eq_true rfl) (by decide) ?_
            refine z_iadd iX8_worthOf_101 ?_
            refine z_istore iX8_worthOf_102 rfl (by decide) ?_
            refine z_aload_n iX8_worthOf_104 rfl ?_
            refine z_cvi (y1 := mX8_dayThen) iX8_worthOf_105 lX8_190 kX8_dayThen rfl (cm_day G pg nw kp sn ks fo ft fe gt mx re _ hh (mCut_ok hx _ _ _) (mCut_hp hp _ _ _)) (wm) rfl rfl rfl (Nat.le_of_ble_eq_true rfl) (by decide) ?_
            refine z_pop iX8_worthOf_108 rfl ?_
            refine z_iinc iX8_worthOf_109 rfl nix_inc rfl (by decide) ?_
            refine z_goto iX8_worthOf_112 ?_
            first
              | (have e2 : mOf k = 1 := if_pos q46
                 have k1 := ih (i + 1) (mOf k) (sum + kGives (rA x 10 c) (mLess x c (nI 3))) (mDay (mCut x (row / k % 3) c (nI 3))).2 (mOf_ok hk) (mDay_ok (mCut_ok hx _ _ _)) (mDay_hp (mCut_hp hp _ _ _)) (by omega)
                 rw [e2] at k1
                 rw [e1, e2]
                 refine z_weak ?_ k1
                 exact zle_w (by simp [zle, zf3] <;> rfl))
              | (have e2 : mOf k = k / 3 := if_neg (Nat.not_le.mpr q46)
                 have k1 := ih (i + 1) (mOf k) (sum + kGives (rA x 10 c) (mLess x c (nI 3))) (mDay (mCut x (row / k % 3) c (nI 3))).2 (mOf_ok hk) (mDay_ok (mCut_ok hx _ _ _)) (mDay_hp (mCut_hp hp _ _ _)) (by omega)
                 rw [e2] at k1
                 rw [e1, e2]
                 refine z_weak ?_ k1
                 exact zle_w (by simp [zle, zf3] <;> rfl))
          · refine z_iload_n iX8_worthOf_49 rfl ?_
            refine z_iconst iX8_worthOf_50 zk_3 ?_
            refine z_idiv iX8_worthOf_51 (by decide +kernel) ?_
            refine z_top (nix_div (by omega) (by omega) (by omega)) ?_
            refine z_goto iX8_worthOf_52 ?_
            refine z_istore_n iX8_worthOf_56 rfl (by decide) ?_
            refine z_aload_n iX8_worthOf_57 rfl ?_
            refine z_cvi (y1 := mX8_leastTop) iX8_worthOf_58 lX8_231 kX8_leastTop rfl (cm_least G pg nw kp sn ks fo ft fe gt mx re x hh hx) (wm) rfl rfl rfl (Nat.le_of_ble_eq_true rfl) (by decide) ?_
            rw [hl, oI_some]
            refine z_iconst iX8_worthOf_61 zk_m1 ?_
            refine z_icmp_ne iX8_worthOf_62 (fun q62 => ?_) (fun q62 => absurd q62 (nI_m1 (by omega)))
            refine z_iload iX8_worthOf_72 rfl ?_
            refine z_aload_n iX8_worthOf_74 rfl ?_
            refine z_getf iX8_worthOf_75 fX8_110 (wm) (mF_4 _ _) (by decide) ?_
            refine zn_ge iX8_worthOf_78 (by omega) (by omega) (fun q78 => absurd q78 (by omega)) (fun q78 => ?_)
            refine z_aload_n iX8_worthOf_81 rfl ?_
            refine z_iload iX8_worthOf_82 rfl ?_
            refine z_cvi (y1 := mX8_hasLight) iX8_worthOf_84 lX8_216 kX8_hasLight rfl (cm_hasLight G pg nw kp sn ks fo ft fe gt mx re x hh hx (row / k % 3) (by omega)) (wm) rfl rfl rfl (Nat.le_of_ble_eq_true rfl) (by decide) ?_
            rw [ht]
            refine zb_if_ne iX8_worthOf_87 (fun q87 => ?_) (fun q87 => absurd q87 (by simp))
            refine z_iload iX8_worthOf_92 rfl ?_
            refine z_aload_n iX8_worthOf_94 rfl ?_
            refine z_iload iX8_worthOf_95 rfl ?_
            refine z_iconst iX8_worthOf_97 zk_3 ?_
            refine z_cvi (y1 := mX8_cutThen) iX8_worthOf_98 lX8_219 kX8_cutThen rfl (cm_cut G pg nw kp sn ks fo ft fe gt mx re x hh hx (row / k % 3) (by omega) (nI 3) c ht) (wm) rfl rfl rfl (Nat.le_of_ble_eq_true rfl) (by decide) ?_
            refine z_iadd iX8_worthOf_101 ?_
            refine z_istore iX8_worthOf_102 rfl (by decide) ?_
            refine z_aload_n iX8_worthOf_104 rfl ?_
            refine z_cvi (y1 := mX8_dayThen) iX8_worthOf_105 lX8_190 kX8_dayThen rfl (cm_day G pg nw kp sn ks fo ft fe gt mx re _ hh (mCut_ok hx _ _ _) (mCut_hp hp _ _ _)) (wm) rfl rfl rfl (Nat.le_of_ble_eq_true rfl) (by decide) ?_
            refine z_pop iX8_worthOf_108 rfl ?_
            refine z_iinc iX8_worthOf_109 rfl nix_inc rfl (by decide) ?_
            refine z_goto iX8_worthOf_112 ?_
            first
              | (have e2 : mOf k = 1 := if_pos q46
                 have k1 := ih (i + 1) (mOf k) (sum + kGives (rA x 10 c) (mLess x c (nI 3))) (mDay (mCut x (row / k % 3) c (nI 3))).2 (mOf_ok hk) (mDay_ok (mCut_ok hx _ _ _)) (mDay_hp (mCut_hp hp _ _ _)) (by omega)
                 rw [e2] at k1
                 rw [e1, e2]
                 refine z_weak ?_ k1
                 exact zle_w (by simp [zle, zf3] <;> rfl))
              | (have e2 : mOf k = k / 3 := if_neg (Nat.not_le.mpr q46)
                 have k1 := ih (i + 1) (mOf k) (sum + kGives (rA x 10 c) (mLess x c (nI 3))) (mDay (mCut x (row / k % 3) c (nI 3))).2 (mOf_ok hk) (mDay_ok (mCut_ok hx _ _ _)) (mDay_hp (mCut_hp hp _ _ _)) (by omega)
                 rw [e2] at k1
                 rw [e1, e2]
                 refine z_weak ?_ k1
                 exact zle_w (by simp [zle, zf3] <;> rfl))
set_option maxRecDepth 20000 in
set_option maxHeartbeats 1000000 in
theorem lpm_w0 (G : zG) (pg nw kp sn ks fo ft fe gt mx : zs) (re : Nat → Int64) (hh : Int64) (row d : Nat) (hr : row < 2 ^ 31) (hd : d ≤ 4) (x : zs) (hx : mOK x) (hp : mHP x) (K : Nat) (hK : m3 K) : ∀ (n i : Nat) (k : Nat), 1 ≤ i → i + n = d → zfw (fun _ x => x * 3) i n k = K → zS G mX8_worthOf 9 [some (.ref 49), some (.int (nI row)), some (.int (nI d)), some (.int (nI k)), some (.int (nI i)), none, none] [] (wW pg nw kp sn ks fo ft fe gt mx re x hh) (some (.int (mWorth row d K (nI 0) x).1)) (wW pg nw kp sn ks fo ft fe gt mx re (mWorth row d K (nI 0) x).2 hh) := by
  intro n
  induction n with
  | zero =>
    intro i k h1 hi hz
    cases hz
    refine z_iload iX8_worthOf_9 rfl ?_
    refine z_iload_n iX8_worthOf_11 rfl ?_
    refine zn_ge iX8_worthOf_12 (by omega) (by omega) (fun q12 => ?_) (fun q12 => absurd q12 (by omega))
    refine z_iconst iX8_worthOf_25 zk_0 ?_
    refine z_istore iX8_worthOf_26 rfl (by decide) ?_
    refine z_iconst iX8_worthOf_28 zk_0 ?_
    refine z_istore iX8_worthOf_29 rfl (by decide) ?_
    exact lpm_worth G pg nw kp sn ks fo ft fe gt mx re hh row d hr hd d 0 _ (nI 0) x hK hx hp (Nat.zero_add _)
  | succ n ih =>
    intro i k h1 hi hz
    refine z_iload iX8_worthOf_9 rfl ?_
    refine z_iload_n iX8_worthOf_11 rfl ?_
    refine zn_ge iX8_worthOf_12 (by omega) (by omega) (fun q12 => absurd q12 (by omega)) (fun q12 => ?_)
    refine z_iload_n iX8_worthOf_15 rfl ?_
    refine z_iconst iX8_worthOf_16 zk_3 ?_
    refine z_imul iX8_worthOf_17 ?_
    refine z_top nix_mul ?_
    refine z_istore_n iX8_worthOf_18 rfl (by decide) ?_
    refine z_iinc iX8_worthOf_19 rfl nix_inc rfl (by decide) ?_
    refine z_goto iX8_worthOf_22 ?_
    exact ih (i + 1) (k * 3) (by omega) (by omega) hz
set_option maxRecDepth 20000 in
set_option maxHeartbeats 1000000 in
theorem cm_worth (G : zG) (pg nw kp sn ks fo ft fe gt mx : zs) (re : Nat → Int64) (m : zs) (hh : Int64) (hm : mOK m) (hp : mHP m) (row d : Nat) (hr : row < 2 ^ 31) (h1 : 1 ≤ d) (h4 : d ≤ 4) : zK G mX8_worthOf [.ref 49, .int (nI row), .int (nI d)] (wW pg nw kp sn ks fo ft fe gt mx re m hh) (some (.int ((mWorth row d (mP3 (d - 1) 1) (nI 0) (mBegin m)).1))) (wW pg nw kp sn ks fo ft fe gt mx re (mWorth row d (mP3 (d - 1) 1) (nI 0) (mBegin m)).2 hh) := by
  refine zK_of 4 rfl (by decide) trivial (Nat.le_of_ble_eq_true rfl) rfl ?_
  refine z_aload_n iX8_worthOf_0 rfl ?_
  refine z_cvv (y1 := mX8_begin) iX8_worthOf_1 lX8_165 kX8_begin rfl (cm_begin G pg nw kp sn ks fo ft fe gt mx re m hh) (wm) rfl rfl rfl (Nat.le_of_ble_eq_true rfl) (by decide) ?_
  refine z_iconst iX8_worthOf_4 zk_1 ?_
  refine z_istore_n iX8_worthOf_5 rfl (by decide) ?_
  refine z_iconst iX8_worthOf_6 zk_1 ?_
  refine z_istore iX8_worthOf_7 rfl (by decide) ?_
  exact lpm_w0 G pg nw kp sn ks fo ft fe gt mx re hh row d hr h4 (mBegin m) hm hp _ (mP3_ok h1 h4) (d - 1) 1 1 (Nat.le_refl _) (by omega) (zfw_c (fun x => x * 3) (d - 1) 1 0 1)
theorem mWorth_same (row : Nat) : ∀ (n k : Nat) (sum : Int32) (x : zs), (∀ j, rA (mWorth row n k sum x).2 j = rA x j) ∧ (∀ j, rN (mWorth row n k sum x).2 j = rN x j)
  | 0, _, _, _ => ⟨fun _ => rfl, fun _ => rfl⟩
  | n + 1, k, sum, x => by
    unfold mWorth
    split
    · split
      · have h := mWorth_same row n (mOf k) sum (mDay x).2
        exact ⟨fun j => (h.1 j).trans (mDay_A _ _), fun j => (h.2 j).trans (mDay_N _ _)⟩
      · exact ⟨fun _ => rfl, fun _ => rfl⟩
    · split
      · exact ⟨fun _ => rfl, fun _ => rfl⟩
      · split
        · exact ⟨fun _ => rfl, fun _ => rfl⟩
        · rename_i c _
          have h := mWorth_same row n (mOf k) (sum + kGives (rA x 10 c) (mLess x c (nI 3))) (mDay (mCut x (row / k % 3) c (nI 3))).2
          exact ⟨fun j => (h.1 j).trans ((mDay_A _ _).trans (mCut_A _ _ _ _ _)), fun j => (h.2 j).trans ((mDay_N _ _).trans (mCut_N _ _ _ _ _))⟩
set_option maxRecDepth 20000 in
set_option maxHeartbeats 1000000 in
theorem cm_draw (G : zG) (pg nw kp sn ks fo ft fe gt mx : zs) (re : Nat → Int64) (m : zs) (hh : Int64) (s d : Nat) (hs : rI m 27 = nI s) (h : s < 2147483648) (h0 : 0 < d) (hd : d < 2 ^ 31) : zK G mX8_draw [.ref 49, .int (nI d)] (wW pg nw kp sn ks fo ft fe gt mx re m hh) (some (.int (nI (nxt s / 65536 % d)))) (wW pg nw kp sn ks fo ft fe gt mx re (uI m 27 (nI (nxt s))) hh) := by
  have hn := nxt_lt s
  refine zK_of 0 rfl (by decide) trivial (Nat.le_of_ble_eq_true rfl) rfl ?_
  refine z_aload_n iX8_draw_0 rfl ?_
  refine z_ldc2 iX8_draw_1 gX8_275 ?_
  refine z_aload_n iX8_draw_4 rfl ?_
  refine z_getf iX8_draw_5 fX8_277 (wm) (mF_27 _ _) (by decide) ?_
  rw [hs]
  refine z_i2l iX8_draw_8 ?_
  rw [nI_lN (by omega)]
  refine z_lmul iX8_draw_9 ?_
  refine z_ldc2 iX8_draw_10 gX8_280 ?_
  refine z_ladd iX8_draw_13 ?_
  refine z_ldc2 iX8_draw_14 gX8_282 ?_
  refine z_land iX8_draw_17 ?_
  rw [nxt_L h]
  refine z_l2i iX8_draw_18 ?_
  rw [lN_i]
  refine z_putf iX8_draw_19 fX8_277 (wm) rfl rfl (Nat.le_of_ble_eq_true rfl) (by decide) ?_
  rw [wm_27]
  refine z_aload_n iX8_draw_22 rfl ?_
  refine z_getf iX8_draw_23 fX8_277 (wm) (mF_27 _ _) (by decide) ?_
  refine z_ldcw iX8_draw_26 gX8_284 ?_
  refine z_top (show (65536 : Int32) = nI 65536 by decide +kernel) ?_
  refine z_top2 (show rI (uI m 27 (nI (nxt s))) 27 = nI (nxt s) by rw [rI_uI, if_pos rfl]) ?_
  refine z_idiv iX8_draw_29 (by decide +kernel) ?_
  refine z_top (nix_div (by omega) (by omega) (by omega)) ?_
  refine z_iload_n iX8_draw_30 rfl ?_
  refine z_irem iX8_draw_31 (nix_ne h0 hd) ?_
  refine z_top (nix_rem (by omega) (by omega) (by omega)) ?_
  exact z_ireturn iX8_draw_32 (rfl) (rfl)
def mBitF (m : zs) (x : zs) : Nat → Nat → Nat := fun k bits => if rF m 14 k ≤ 0 then bits ||| 0 else if rF x 17 k = 0 then bits ||| 1 * 2 ^ k else bits ||| 0
def mBits (x : zs) : Nat := zfw (mBitF x x) 0 (rN x 5) 0
set_option maxRecDepth 20000 in
set_option maxHeartbeats 1000000 in
theorem lpm_bits (G : zG) (pg nw kp sn ks fo ft fe gt mx : zs) (re : Nat → Int64) (hh : Int64) (d : Nat) (x : zs) (hx : mOK x) : ∀ (n i : Nat) (bits : Nat), i + n = rN x 5 → zS G mX8_burntOf 26 [some (.ref 49), some (.int (nI d)), some (.int (nI bits)), some (.int (nI i))] [] (wW pg nw kp sn ks fo ft fe gt mx re x hh) (some (.int (nI (zfw (mBitF x x) i n bits)))) (wW pg nw kp sn ks fo ft fe gt mx re x hh) := by
  obtain ⟨o13, o12, o11, o10, o4, o5⟩ := id hx
  intro n
  induction n with
  | zero =>
    intro i bits hi
    refine z_iload_n iX8_burntOf_26 rfl ?_
    refine z_aload_n iX8_burntOf_27 rfl ?_
    refine z_getf iX8_burntOf_28 fX8_113 (wm) (mF_5 _ _) (by decide) ?_
    refine zn_ge iX8_burntOf_31 (by omega) (by omega) (fun q31 => ?_) (fun q31 => absurd q31 (by omega))
    refine z_iload_n iX8_burntOf_68 rfl ?_
    exact z_ireturn iX8_burntOf_69 (rfl) (rfl)
  | succ n ih =>
    intro i bits hi
    refine z_iload_n iX8_burntOf_26 rfl ?_
    refine z_aload_n iX8_burntOf_27 rfl ?_
    refine z_getf iX8_burntOf_28 fX8_113 (wm) (mF_5 _ _) (by decide) ?_
    refine zn_ge iX8_burntOf_31 (by omega) (by omega) (fun q31 => absurd q31 (by omega)) (fun q31 => ?_)
    refine z_iload_n iX8_burntOf_34 rfl ?_
    refine z_aload_n iX8_burntOf_35 rfl ?_
    refine z_getf iX8_burntOf_36 fX8_25 (wm) (mF_14 _ _) (by decide) ?_
    refine z_iload_n iX8_burntOf_39 rfl ?_
    refine z_iaload iX8_burntOf_40 (wm14) rfl (by omega) (by decide) (by decide) ?_
    refine z_if_le iX8_burntOf_41 (fun q41 => ?_) (fun q41 => ?_)
    · refine z_iconst iX8_burntOf_59 zk_0 ?_
      refine z_ior iX8_burntOf_60 ?_
      refine z_top nix_or ?_
      refine z_istore_n iX8_burntOf_61 rfl (by decide) ?_
      refine z_iinc iX8_burntOf_62 rfl nix_inc rfl (by decide) ?_
      refine z_goto iX8_burntOf_65 ?_
      first
        | (have e1 : mBitF x x i bits = bits ||| 0 := by rw [mBitF, if_pos q41]
           rw [zfw, e1]
           exact ih (i + 1) _ (by omega))
        | (have e1 : mBitF x x i bits = bits ||| 1 * 2 ^ i := by rw [mBitF, if_neg q41, if_pos q50]
           rw [zfw, e1]
           exact ih (i + 1) _ (by omega))
        | (have e1 : mBitF x x i bits = bits ||| 0 := by rw [mBitF, if_neg q41, if_neg q50]
           rw [zfw, e1]
           exact ih (i + 1) _ (by omega))
    · refine z_aload_n iX8_burntOf_44 rfl ?_
      refine z_getf iX8_burntOf_45 fX8_34 (wm) (mF_17 _ _) (by decide) ?_
      refine z_iload_n iX8_burntOf_48 rfl ?_
      refine z_iaload iX8_burntOf_49 (wm17) rfl (by omega) (by decide) (by decide) ?_
      refine z_if_ne iX8_burntOf_50 (fun q50 => ?_) (fun q50 => ?_)
      · refine z_iconst iX8_burntOf_59 zk_0 ?_
        refine z_ior iX8_burntOf_60 ?_
        refine z_top nix_or ?_
        refine z_istore_n iX8_burntOf_61 rfl (by decide) ?_
        refine z_iinc iX8_burntOf_62 rfl nix_inc rfl (by decide) ?_
        refine z_goto iX8_burntOf_65 ?_
        first
          | (have e1 : mBitF x x i bits = bits ||| 0 := by rw [mBitF, if_pos q41]
             rw [zfw, e1]
             exact ih (i + 1) _ (by omega))
          | (have e1 : mBitF x x i bits = bits ||| 1 * 2 ^ i := by rw [mBitF, if_neg q41, if_pos q50]
             rw [zfw, e1]
             exact ih (i + 1) _ (by omega))
          | (have e1 : mBitF x x i bits = bits ||| 0 := by rw [mBitF, if_neg q41, if_neg q50]
             rw [zfw, e1]
             exact ih (i + 1) _ (by omega))
      · refine z_iconst iX8_burntOf_53 zk_1 ?_
        refine z_iload_n iX8_burntOf_54 rfl ?_
        refine z_ishl iX8_burntOf_55 ?_
        refine z_top (nix_shl (by omega) (zp1 (by omega))) ?_
        refine z_goto iX8_burntOf_56 ?_
        refine z_ior iX8_burntOf_60 ?_
        refine z_top nix_or ?_
        refine z_istore_n iX8_burntOf_61 rfl (by decide) ?_
        refine z_iinc iX8_burntOf_62 rfl nix_inc rfl (by decide) ?_
        refine z_goto iX8_burntOf_65 ?_
        first
          | (have e1 : mBitF x x i bits = bits ||| 0 := by rw [mBitF, if_pos q41]
             rw [zfw, e1]
             exact ih (i + 1) _ (by omega))
          | (have e1 : mBitF x x i bits = bits ||| 1 * 2 ^ i := by rw [mBitF, if_neg q41, if_pos q50]
             rw [zfw, e1]
             exact ih (i + 1) _ (by omega))
          | (have e1 : mBitF x x i bits = bits ||| 0 := by rw [mBitF, if_neg q41, if_neg q50]
             rw [zfw, e1]
             exact ih (i + 1) _ (by omega))
set_option maxRecDepth 20000 in
set_option maxHeartbeats 1000000 in
theorem lpm_burnt (G : zG) (pg nw kp sn ks fo ft fe gt mx : zs) (re : Nat → Int64) (hh : Int64) (d : Nat) (hd : d ≤ 20) : ∀ (n i : Nat) (x : zs), mOK x → mHP x → i + n = d → zS G mX8_burntOf 6 [some (.ref 49), some (.int (nI d)), some (.int (nI i)), none] [] (wW pg nw kp sn ks fo ft fe gt mx re x hh) (some (.int (nI (mBits (zfw (fun _ x => (mDay x).2) i n x))))) (wW pg nw kp sn ks fo ft fe gt mx re (zfw (fun _ x => (mDay x).2) i n x) hh) := by
  intro n
  induction n with
  | zero =>
    intro i x hx hp hi
    refine z_iload_n iX8_burntOf_6 rfl ?_
    refine z_iload_n iX8_burntOf_7 rfl ?_
    refine zn_ge iX8_burntOf_8 (by omega) (by omega) (fun q8 => ?_) (fun q8 => absurd q8 (by omega))
    refine z_iconst iX8_burntOf_22 zk_0 ?_
    refine z_istore_n iX8_burntOf_23 rfl (by decide) ?_
    refine z_iconst iX8_burntOf_24 zk_0 ?_
    refine z_istore_n iX8_burntOf_25 rfl (by decide) ?_
    exact lpm_bits G pg nw kp sn ks fo ft fe gt mx re hh d x hx _ 0 0 (Nat.zero_add _)
  | succ n ih =>
    intro i x hx hp hi
    refine z_iload_n iX8_burntOf_6 rfl ?_
    refine z_iload_n iX8_burntOf_7 rfl ?_
    refine zn_ge iX8_burntOf_8 (by omega) (by omega) (fun q8 => absurd q8 (by omega)) (fun q8 => ?_)
    refine z_aload_n iX8_burntOf_11 rfl ?_
    refine z_cvi (y1 := mX8_dayThen) iX8_burntOf_12 lX8_190 kX8_dayThen rfl (cm_day G pg nw kp sn ks fo ft fe gt mx re x hh hx hp) (wm) rfl rfl rfl (Nat.le_of_ble_eq_true rfl) (by decide) ?_
    refine z_pop iX8_burntOf_15 rfl ?_
    refine z_iinc iX8_burntOf_16 rfl nix_inc rfl (by decide) ?_
    refine z_goto iX8_burntOf_19 ?_
    exact ih (i + 1) _ (mDay_ok hx) (mDay_hp hp) (by omega)
set_option maxRecDepth 20000 in
set_option maxHeartbeats 1000000 in
theorem cm_burntOf (G : zG) (pg nw kp sn ks fo ft fe gt mx : zs) (re : Nat → Int64) (m : zs) (hh : Int64) (hm : mOK m) (hp : mHP m) (d : Nat) (hd : d ≤ 20) : zK G mX8_burntOf [.ref 49, .int (nI d)] (wW pg nw kp sn ks fo ft fe gt mx re m hh) (some (.int (nI (mBits (mDs d (mBegin m)))))) (wW pg nw kp sn ks fo ft fe gt mx re (mDs d (mBegin m)) hh) := by
  refine zK_of 2 rfl (by decide) trivial (Nat.le_of_ble_eq_true rfl) rfl ?_
  refine z_aload_n iX8_burntOf_0 rfl ?_
  refine z_cvv (y1 := mX8_begin) iX8_burntOf_1 lX8_165 kX8_begin rfl (cm_begin G pg nw kp sn ks fo ft fe gt mx re m hh) (wm) rfl rfl rfl (Nat.le_of_ble_eq_true rfl) (by decide) ?_
  refine z_iconst iX8_burntOf_4 zk_0 ?_
  refine z_istore_n iX8_burntOf_5 rfl (by decide) ?_
  exact lpm_burnt G pg nw kp sn ks fo ft fe gt mx re hh d hd _ 0 (mBegin m) hm hp (Nat.zero_add _)
