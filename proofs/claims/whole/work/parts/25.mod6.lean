def mWo (d i : Nat) (x : zs) : Int32 × zs := mWorth i d (mP3 (d - 1) 1) (nI 0) (mBegin x)
theorem mWo_ok {d i : Nat} {x : zs} (h : mOK x) : mOK (mWo d i x).2 := mOK_of h (fun k => ((mWorth_same i d _ _ _).1 k).trans rfl) (fun k _ => ((mWorth_same i d _ _ _).2 k).trans rfl)
theorem mWo_hp {d i : Nat} {x : zs} (h : mHP x) : mHP (mWo d i x).2 := mHP_of h (fun k => ((mWorth_same i d _ _ _).1 k).trans rfl) (((mWorth_same i d _ _ _).2 5).trans rfl)
def mPlanL (d : Nat) : Nat → Nat → Int32 → Nat → zs → Int32 × Nat × zs
  | 0, _, mo, be, x => (mo, be, x)
  | n + 1, i, mo, be, x => if (mWo d i x).1 ≤ mo then mPlanL d n (i + 1) mo be (mWo d i x).2 else mPlanL d n (i + 1) (mWo d i x).1 i (mWo d i x).2
theorem mPlanL_ok (d : Nat) : ∀ (n i : Nat) (mo : Int32) (be : Nat) (x : zs), mOK x → mHP x → mOK (mPlanL d n i mo be x).2.2 ∧ mHP (mPlanL d n i mo be x).2.2
  | 0, _, _, _, _, h1, h2 => ⟨h1, h2⟩
  | n + 1, i, mo, be, x, h1, h2 => by
    unfold mPlanL
    split <;> exact mPlanL_ok d n _ _ _ _ (mWo_ok h1) (mWo_hp h2)
theorem mPlanL_lt (d : Nat) : ∀ (n i : Nat) (mo : Int32) (be : Nat) (x : zs), be < i + n ∨ be = 0 → (mPlanL d n i mo be x).2.1 < i + n ∨ (mPlanL d n i mo be x).2.1 = 0
  | 0, _, _, _, _, h => h
  | n + 1, i, mo, be, x, h => by
    unfold mPlanL
    split
    · have := mPlanL_lt d n (i + 1) mo be (mWo d i x).2 (by omega); omega
    · have := mPlanL_lt d n (i + 1) (mWo d i x).1 i (mWo d i x).2 (by omega); omega
set_option maxRecDepth 20000 in
set_option maxHeartbeats 1000000 in
theorem lpm_pl (G : zG) (pg nw kp sn ks fo ft fe gt mx : zs) (re : Nat → Int64) (hh : Int64) (d w P : Nat) (h1 : 1 ≤ d) (h4 : d ≤ 4) (hP : P ≤ 81) (R : Option Value) (g2 : zh) : ∀ (n i : Nat) (mo : Int32) (be : Nat) (x : zs), mOK x → mHP x → i + n = P → (∀ r, r = mPlanL d n i mo be x → zS G mX8_planOf 66 [some (.ref 49), some (.int (nI d)), some (.int (nI w)), some (.int (nI P)), some (.int r.1), some (.int (nI r.2.1)), none, none] [] (wW pg nw kp sn ks fo ft fe gt mx re r.2.2 hh) R g2) → zS G mX8_planOf 30 [some (.ref 49), some (.int (nI d)), some (.int (nI w)), some (.int (nI P)), some (.int mo), some (.int (nI be)), some (.int (nI i)), none] [] (wW pg nw kp sn ks fo ft fe gt mx re x hh) R (g2) := by
  intro n
  induction n with
  | zero =>
    intro i mo be x hx hp hi hk
    refine z_iload iX8_planOf_30 rfl ?_
    refine z_iload_n iX8_planOf_32 rfl ?_
    refine zn_ge iX8_planOf_33 (by omega) (by omega) (fun q33 => ?_) (fun q33 => absurd q33 (by omega))
    refine z_weak ?_ (hk (mo, be, x) rfl)
    exact zle_w (by simp [zle, zf3] <;> rfl)
  | succ n ih =>
    intro i mo be x hx hp hi hk
    refine z_iload iX8_planOf_30 rfl ?_
    refine z_iload_n iX8_planOf_32 rfl ?_
    refine zn_ge iX8_planOf_33 (by omega) (by omega) (fun q33 => absurd q33 (by omega)) (fun q33 => ?_)
    refine z_aload_n iX8_planOf_36 rfl ?_
    refine z_iload iX8_planOf_37 rfl ?_
    refine z_iload_n iX8_planOf_39 rfl ?_
    refine z_cvi (y1 := mX8_worthOf) iX8_planOf_40 lX8_242 kX8_worthOf rfl (cm_worth G pg nw kp sn ks fo ft fe gt mx re x hh hx hp i d (by omega) h1 h4) (wm) rfl rfl rfl (Nat.le_of_ble_eq_true rfl) (by decide) ?_
    refine z_heap (g2 := wW pg nw kp sn ks fo ft fe gt mx re (mWo d i x).2 hh) rfl ?_
    refine z_top (v := (mWo d i x).1) rfl ?_
    refine z_istore iX8_planOf_43 rfl (by decide) ?_
    refine z_iload iX8_planOf_45 rfl ?_
    refine z_iload iX8_planOf_47 rfl ?_
    refine z_icmp_le iX8_planOf_49 (fun q49 => ?_) (fun q49 => ?_)
    · refine z_iinc iX8_planOf_60 rfl nix_inc rfl (by decide) ?_
      refine z_goto iX8_planOf_63 ?_
      first
        | (rw [mPlanL, if_pos q49] at hk
           refine z_weak ?_ (ih (i + 1) mo be _ (mWo_ok hx) (mWo_hp hp) (by omega) hk)
           exact zle_w (by simp [zle, zf3] <;> rfl))
        | (rw [mPlanL, if_neg q49] at hk
           refine z_weak ?_ (ih (i + 1) _ i _ (mWo_ok hx) (mWo_hp hp) (by omega) hk)
           exact zle_w (by simp [zle, zf3] <;> rfl))
    · refine z_iload iX8_planOf_52 rfl ?_
      refine z_istore iX8_planOf_54 rfl (by decide) ?_
      refine z_iload iX8_planOf_56 rfl ?_
      refine z_istore iX8_planOf_58 rfl (by decide) ?_
      refine z_iinc iX8_planOf_60 rfl nix_inc rfl (by decide) ?_
      refine z_goto iX8_planOf_63 ?_
      first
        | (rw [mPlanL, if_pos q49] at hk
           refine z_weak ?_ (ih (i + 1) mo be _ (mWo_ok hx) (mWo_hp hp) (by omega) hk)
           exact zle_w (by simp [zle, zf3] <;> rfl))
        | (rw [mPlanL, if_neg q49] at hk
           refine z_weak ?_ (ih (i + 1) _ i _ (mWo_ok hx) (mWo_hp hp) (by omega) hk)
           exact zle_w (by simp [zle, zf3] <;> rfl))
set_option maxRecDepth 20000 in
set_option maxHeartbeats 1000000 in
theorem lpm_p0 (G : zG) (pg nw kp sn ks fo ft fe gt mx : zs) (re : Nat → Int64) (hh : Int64) (d w : Nat) (h1 : 1 ≤ d) (h4 : d ≤ 4) (R : Option Value) (g2 : zh) (x : zs) (hx : mOK x) (hp : mHP x) (P : Nat) (hP : P ≤ 81) (hk : ∀ r, r = mPlanL d P 0 (-1) 0 x → zS G mX8_planOf 66 [some (.ref 49), some (.int (nI d)), some (.int (nI w)), some (.int (nI P)), some (.int r.1), some (.int (nI r.2.1)), none, none] [] (wW pg nw kp sn ks fo ft fe gt mx re r.2.2 hh) R g2) : ∀ (n i : Nat) (k : Nat), i + n = d → zfw (fun _ x => x * 3) i n k = P → zS G mX8_planOf 5 [some (.ref 49), some (.int (nI d)), some (.int (nI w)), some (.int (nI k)), some (.int (nI i)), none, none, none] [] (wW pg nw kp sn ks fo ft fe gt mx re x hh) R (g2) := by
  intro n
  induction n with
  | zero =>
    intro i k hi hz
    cases hz
    refine z_iload iX8_planOf_5 rfl ?_
    refine z_iload_n iX8_planOf_7 rfl ?_
    refine zn_ge iX8_planOf_8 (by omega) (by omega) (fun q8 => ?_) (fun q8 => absurd q8 (by omega))
    refine z_iconst iX8_planOf_21 zk_m1 ?_
    refine z_istore iX8_planOf_22 rfl (by decide) ?_
    refine z_iconst iX8_planOf_24 zk_0 ?_
    refine z_istore iX8_planOf_25 rfl (by decide) ?_
    refine z_iconst iX8_planOf_27 zk_0 ?_
    refine z_istore iX8_planOf_28 rfl (by decide) ?_
    exact lpm_pl G pg nw kp sn ks fo ft fe gt mx re hh d w k h1 h4 hP R g2 k 0 (-1) 0 x hx hp (Nat.zero_add _) hk
  | succ n ih =>
    intro i k hi hz
    refine z_iload iX8_planOf_5 rfl ?_
    refine z_iload_n iX8_planOf_7 rfl ?_
    refine zn_ge iX8_planOf_8 (by omega) (by omega) (fun q8 => absurd q8 (by omega)) (fun q8 => ?_)
    refine z_iload_n iX8_planOf_11 rfl ?_
    refine z_iconst iX8_planOf_12 zk_3 ?_
    refine z_imul iX8_planOf_13 ?_
    refine z_top nix_mul ?_
    refine z_istore_n iX8_planOf_14 rfl (by decide) ?_
    refine z_iinc iX8_planOf_15 rfl nix_inc rfl (by decide) ?_
    refine z_goto iX8_planOf_18 ?_
    exact ih (i + 1) (k * 3) (by omega) hz
set_option maxRecDepth 20000 in
set_option maxHeartbeats 1000000 in
theorem cm_planV (G : zG) (pg nw kp sn ks fo ft fe gt mx : zs) (re : Nat → Int64) (m : zs) (hh : Int64) (hm : mOK m) (hp : mHP m) (d : Nat) (h1 : 1 ≤ d) (h4 : d ≤ 4) : zK G mX8_planOf [.ref 49, .int (nI d), .int (nI 0)] (wW pg nw kp sn ks fo ft fe gt mx re m hh) (some (.int ((mPlanL d (mP3 d 1) 0 (-1) 0 m).1))) (wW pg nw kp sn ks fo ft fe gt mx re (mPlanL d (mP3 d 1) 0 (-1) 0 m).2.2 hh) := by
  refine zK_of 5 rfl (by decide) trivial (Nat.le_of_ble_eq_true rfl) rfl ?_
  refine z_iconst iX8_planOf_0 zk_1 ?_
  refine z_istore_n iX8_planOf_1 rfl (by decide) ?_
  refine z_iconst iX8_planOf_2 zk_0 ?_
  refine z_istore iX8_planOf_3 rfl (by decide) ?_
  refine lpm_p0 G pg nw kp sn ks fo ft fe gt mx re hh d 0 h1 h4 _ _ m hm hp _ (mP3_81 h4) (fun r e => ?_) d 0 1 (Nat.zero_add _) rfl
  subst e
  refine z_iload_n iX8_planOf_66 rfl ?_
  refine zn_if_ne iX8_planOf_67 (by decide) (fun q67 => absurd rfl q67) (fun q67 => ?_)
  refine z_iload iX8_planOf_70 rfl ?_
  exact z_ireturn iX8_planOf_72 rfl rfl
def mChos (row : Nat) : Nat → Nat → Option Nat → zs → Option (Option Nat × zs)
  | 0, _, t, x => some (t, x)
  | n + 1, k, _, x => match mLeast x with
    | none => mChos row n (mOf k) none (mDay x).2
    | some _ => match mTop x (row / k % 3) with
      | none => none
      | some c => mChos row n (mOf k) (some (row / k % 3)) (mDay (mCut x (row / k % 3) c (nI 3))).2
set_option maxRecDepth 20000 in
set_option maxHeartbeats 1000000 in
theorem lpm_ch (G : zG) (pg nw kp sn ks fo ft fe gt mx : zs) (re : Nat → Int64) (hh : Int64) (row d q : Nat) (hr0 : row < 2 ^ 31) (hq : q < 4) : ∀ (n i k : Nat) (t : Option Nat) (x : zs) (r : Option Nat × zs), m3 k → mOK x → mHP x → i + n = q + 1 → mChos row n k t x = some r → zS G mX8_chosenAt 34 [some (.ref 49), some (.int (nI row)), some (.int (nI d)), some (.int (nI q)), some (.int (nI k)), some (.int (oI t)), some (.int (nI i)), none] [] (wW pg nw kp sn ks fo ft fe gt mx re x hh) (some (.int (oI r.1))) (wW pg nw kp sn ks fo ft fe gt mx re r.2 hh) := by
  intro n
  induction n with
  | zero =>
    intro i k t x r hk hx hp hi hr
    cases hr
    refine z_iload iX8_chosenAt_34 rfl ?_
    refine z_iload_n iX8_chosenAt_36 rfl ?_
    refine zn_gt iX8_chosenAt_37 (by omega) (by omega) (fun q37 => ?_) (fun q37 => absurd q37 (by omega))
    refine z_iload iX8_chosenAt_105 rfl ?_
    exact z_ireturn iX8_chosenAt_107 (rfl) (rfl)
  | succ n ih =>
    intro i k t x r hk hx hp hi hr
    obtain ⟨o13, o12, o11, o10, o4, o5⟩ := id hx
    have hd3 : row / k % 3 < 3 := Nat.mod_lt _ (by decide)
    have hk2 := m3_ok hk
    have hdv : row / k ≤ row := Nat.div_le_self _ _
    unfold mChos at hr
    cases hl : mLeast x with
    | none =>
      rw [hl] at hr
      dsimp only at hr
      refine z_iload iX8_chosenAt_34 rfl ?_
      refine z_iload_n iX8_chosenAt_36 rfl ?_
      refine zn_gt iX8_chosenAt_37 (by omega) (by omega) (fun q37 => absurd q37 (by omega)) (fun q37 => ?_)
      refine z_iload_n iX8_chosenAt_40 rfl ?_
      refine z_iload iX8_chosenAt_41 rfl ?_
      refine z_idiv iX8_chosenAt_43 (nix_ne hk2.1 (by omega)) ?_
      refine z_top (nix_div (by omega) (by omega) (by omega)) ?_
      refine z_iconst iX8_chosenAt_44 zk_3 ?_
      refine z_irem iX8_chosenAt_45 (by decide +kernel) ?_
      refine z_top (nix_rem (by omega) (by omega) (by omega)) ?_
      refine z_istore iX8_chosenAt_46 rfl (by decide) ?_
      refine z_iload iX8_chosenAt_48 rfl ?_
      refine z_iconst iX8_chosenAt_50 zk_1 ?_
      refine zn_le iX8_chosenAt_51 (by omega) (by omega) (fun q51 => ?_) (fun q51 => ?_)
      · refine z_iconst iX8_chosenAt_61 zk_1 ?_
        refine z_istore iX8_chosenAt_62 rfl (by decide) ?_
        refine z_aload_n iX8_chosenAt_64 rfl ?_
        refine z_cvi (y1 := mX8_leastTop) iX8_chosenAt_65 lX8_231 kX8_leastTop rfl (cm_least G pg nw kp sn ks fo ft fe gt mx re x hh hx) (wm) rfl rfl rfl (Nat.le_of_ble_eq_true rfl) (by decide) ?_
        rw [hl, oI_none]
        refine z_iconst iX8_chosenAt_68 zk_m1 ?_
        refine z_icmp_ne iX8_chosenAt_69 (fun q69 => absurd rfl q69) (fun q69 => ?_)
        refine z_iconst iX8_chosenAt_72 zk_m1 ?_
        refine z_goto iX8_chosenAt_73 ?_
        refine z_istore iX8_chosenAt_78 rfl (by decide) ?_
        refine z_iload iX8_chosenAt_80 rfl ?_
        refine z_iconst iX8_chosenAt_82 zk_m1 ?_
        refine z_icmp_eq iX8_chosenAt_83 (fun q83 => ?_) (fun q83 => absurd rfl q83)
        refine z_aload_n iX8_chosenAt_94 rfl ?_
        refine z_cvi (y1 := mX8_dayThen) iX8_chosenAt_95 lX8_190 kX8_dayThen rfl (cm_day G pg nw kp sn ks fo ft fe gt mx re x hh hx hp) (wm) rfl rfl rfl (Nat.le_of_ble_eq_true rfl) (by decide) ?_
        refine z_pop iX8_chosenAt_98 rfl ?_
        refine z_iinc iX8_chosenAt_99 rfl nix_inc rfl (by decide) ?_
        refine z_goto iX8_chosenAt_102 ?_
        first
          | (have e2 : mOf k = 1 := if_pos q51
             rw [e2] at hr
             have k1 := ih (i + 1) (1) none (mDay x).2 r (by rw [← e2]; exact mOf_ok hk) (mDay_ok hx) (mDay_hp hp) (by omega) hr
             refine z_weak ?_ k1
             exact zle_w (by simp [zle, zf3] <;> rfl))
          | (have e2 : mOf k = k / 3 := if_neg (Nat.not_le.mpr q51)
             rw [e2] at hr
             have k1 := ih (i + 1) (k / 3) none (mDay x).2 r (by rw [← e2]; exact mOf_ok hk) (mDay_ok hx) (mDay_hp hp) (by omega) hr
             refine z_weak ?_ k1
             exact zle_w (by simp [zle, zf3] <;> rfl))
      · refine z_iload iX8_chosenAt_54 rfl ?_
        refine z_iconst iX8_chosenAt_56 zk_3 ?_
        refine z_idiv iX8_chosenAt_57 (by decide +kernel) ?_
        refine z_top (nix_div (by omega) (by omega) (by omega)) ?_
        refine z_goto iX8_chosenAt_58 ?_
        refine z_istore iX8_chosenAt_62 rfl (by decide) ?_
        refine z_aload_n iX8_chosenAt_64 rfl ?_
        refine z_cvi (y1 := mX8_leastTop) iX8_chosenAt_65 lX8_231 kX8_leastTop rfl (cm_least G pg nw kp sn ks fo ft fe gt mx re x hh hx) (wm) rfl rfl rfl (Nat.le_of_ble_eq_true rfl) (by decide) ?_
        rw [hl, oI_none]
        refine z_iconst iX8_chosenAt_68 zk_m1 ?_
        refine z_icmp_ne iX8_chosenAt_69 (fun q69 => absurd rfl q69) (fun q69 => ?_)
        refine z_iconst iX8_chosenAt_72 zk_m1 ?_
        refine z_goto iX8_chosenAt_73 ?_
        refine z_istore iX8_chosenAt_78 rfl (by decide) ?_
        refine z_iload iX8_chosenAt_80 rfl ?_
        refine z_iconst iX8_chosenAt_82 zk_m1 ?_
        refine z_icmp_eq iX8_chosenAt_83 (fun q83 => ?_) (fun q83 => absurd rfl q83)
        refine z_aload_n iX8_chosenAt_94 rfl ?_
        refine z_cvi (y1 := mX8_dayThen) iX8_chosenAt_95 lX8_190 kX8_dayThen rfl (cm_day G pg nw kp sn ks fo ft fe gt mx re x hh hx hp) (wm) rfl rfl rfl (Nat.le_of_ble_eq_true rfl) (by decide) ?_
        refine z_pop iX8_chosenAt_98 rfl ?_
        refine z_iinc iX8_chosenAt_99 rfl nix_inc rfl (by decide) ?_
        refine z_goto iX8_chosenAt_102 ?_
        first
          | (have e2 : mOf k = 1 := if_pos q51
             rw [e2] at hr
             have k1 := ih (i + 1) (1) none (mDay x).2 r (by rw [← e2]; exact mOf_ok hk) (mDay_ok hx) (mDay_hp hp) (by omega) hr
             refine z_weak ?_ k1
             exact zle_w (by simp [zle, zf3] <;> rfl))
          | (have e2 : mOf k = k / 3 := if_neg (Nat.not_le.mpr q51)
             rw [e2] at hr
             have k1 := ih (i + 1) (k / 3) none (mDay x).2 r (by rw [← e2]; exact mOf_ok hk) (mDay_ok hx) (mDay_hp hp) (by omega) hr
             refine z_weak ?_ k1
             exact zle_w (by simp [zle, zf3] <;> rfl))
    | some b0 =>
      rw [hl] at hr
      dsimp only at hr
      have hb0 := mLeast_ok hl
      cases ht : mTop x (row / k % 3) with
      | none => rw [ht] at hr; cases hr
      | some c =>
        rw [ht] at hr
        dsimp only at hr
        refine z_iload iX8_chosenAt_34 rfl ?_
        refine z_iload_n iX8_chosenAt_36 rfl ?_
        refine zn_gt iX8_chosenAt_37 (by omega) (by omega) (fun q37 => absurd q37 (by omega)) (fun q37 => ?_)
        refine z_iload_n iX8_chosenAt_40 rfl ?_
        refine z_iload iX8_chosenAt_41 rfl ?_
        refine z_idiv iX8_chosenAt_43 (nix_ne hk2.1 (by omega)) ?_
        refine z_top (nix_div (by omega) (by omega) (by omega)) ?_
        refine z_iconst iX8_chosenAt_44 zk_3 ?_
        refine z_irem iX8_chosenAt_45 (by decide +kernel) ?_
        refine z_top (nix_rem (by omega) (by omega) (by omega)) ?_
        refine z_istore iX8_chosenAt_46 rfl (by decide) ?_
        refine z_iload iX8_chosenAt_48 rfl ?_
        refine z_iconst iX8_chosenAt_50 zk_1 ?_
        refine zn_le iX8_chosenAt_51 (by omega) (by omega) (fun q51 => ?_) (fun q51 => ?_)
        · refine z_iconst iX8_chosenAt_61 zk_1 ?_
          refine z_istore iX8_chosenAt_62 rfl (by decide) ?_
          refine z_aload_n iX8_chosenAt_64 rfl ?_
          refine z_cvi (y1 := mX8_leastTop) iX8_chosenAt_65 lX8_231 kX8_leastTop rfl (cm_least G pg nw kp sn ks fo ft fe gt mx re x hh hx) (wm) rfl rfl rfl (Nat.le_of_ble_eq_true rfl) (by decide) ?_
          rw [hl, oI_some]
          refine z_iconst iX8_chosenAt_68 zk_m1 ?_
          refine z_icmp_ne iX8_chosenAt_69 (fun q69 => ?_) (fun q69 => absurd q69 (nI_m1 (by omega)))
          refine z_iload iX8_chosenAt_76 rfl ?_
          refine z_istore iX8_chosenAt_78 rfl (by decide) ?_
          refine z_iload iX8_chosenAt_80 rfl ?_
          refine z_iconst iX8_chosenAt_82 zk_m1 ?_
          refine z_icmp_eq iX8_chosenAt_83 (fun q83 => absurd q83 (nI_m1 (by omega))) (fun q83 => ?_)
          refine z_aload_n iX8_chosenAt_86 rfl ?_
          refine z_iload iX8_chosenAt_87 rfl ?_
          refine z_iconst iX8_chosenAt_89 zk_3 ?_
          refine z_cvi (y1 := mX8_cutThen) iX8_chosenAt_90 lX8_219 kX8_cutThen rfl (cm_cut G pg nw kp sn ks fo ft fe gt mx re x hh hx (row / k % 3) (by omega) (nI 3) c ht) (wm) rfl rfl rfl (Nat.le_of_ble_eq_true rfl) (by decide) ?_
          refine z_pop iX8_chosenAt_93 rfl ?_
          refine z_aload_n iX8_chosenAt_94 rfl ?_
          refine z_cvi (y1 := mX8_dayThen) iX8_chosenAt_95 lX8_190 kX8_dayThen rfl (cm_day G pg nw kp sn ks fo ft fe gt mx re _ hh (mCut_ok hx _ _ _) (mCut_hp hp _ _ _)) (wm) rfl rfl rfl (Nat.le_of_ble_eq_true rfl) (by decide) ?_
          refine z_pop iX8_chosenAt_98 rfl ?_
          refine z_iinc iX8_chosenAt_99 rfl nix_inc rfl (by decide) ?_
          refine z_goto iX8_chosenAt_102 ?_
          first
            | (have e2 : mOf k = 1 := if_pos q51
               rw [e2] at hr
               have k1 := ih (i + 1) (1) (some (row / k % 3)) (mDay (mCut x (row / k % 3) c (nI 3))).2 r (by rw [← e2]; exact mOf_ok hk) (mDay_ok (mCut_ok hx _ _ _)) (mDay_hp (mCut_hp hp _ _ _)) (by omega) hr
               refine z_weak ?_ k1
               exact zle_w (by simp [zle, zf3] <;> rfl))
            | (have e2 : mOf k = k / 3 := if_neg (Nat.not_le.mpr q51)
               rw [e2] at hr
               have k1 := ih (i + 1) (k / 3) (some (row / k % 3)) (mDay (mCut x (row / k % 3) c (nI 3))).2 r (by rw [← e2]; exact mOf_ok hk) (mDay_ok (mCut_ok hx _ _ _)) (mDay_hp (mCut_hp hp _ _ _)) (by omega) hr
               refine z_weak ?_ k1
               exact zle_w (by simp [zle, zf3] <;> rfl))
        · refine z_iload iX8_chosenAt_54 rfl ?_
          refine z_iconst iX8_chosenAt_56 zk_3 ?_
          refine z_idiv iX8_chosenAt_57 (by decide +kernel) ?_
          refine z_top (nix_div (by omega) (by omega) (by omega)) ?_
          refine z_goto iX8_chosenAt_58 ?_
          refine z_istore iX8_chosenAt_62 rfl (by decide) ?_
          refine z_aload_n iX8_chosenAt_64 rfl ?_
          refine z_cvi (y1 := mX8_leastTop) iX8_chosenAt_65 lX8_231 kX8_leastTop rfl (cm_least G pg nw kp sn ks fo ft fe gt mx re x hh hx) (wm) rfl rfl rfl (Nat.le_of_ble_eq_true rfl) (by decide) ?_
          rw [hl, oI_some]
          refine z_iconst iX8_chosenAt_68 zk_m1 ?_
          refine z_icmp_ne iX8_chosenAt_69 (fun q69 => ?_) (fun q69 => absurd q69 (nI_m1 (by omega)))
          refine z_iload iX8_chosenAt_76 rfl ?_
          refine z_istore iX8_chosenAt_78 rfl (by decide) ?_
          refine z_iload iX8_chosenAt_80 rfl ?_
          refine z_iconst iX8_chosenAt_82 zk_m1 ?_
          refine z_icmp_eq iX8_chosenAt_83 (fun q83 => absurd q83 (nI_m1 (by omega))) (fun q83 => ?_)
          refine z_aload_n iX8_chosenAt_86 rfl ?_
          refine z_iload iX8_chosenAt_87 rfl ?_
          refine z_iconst iX8_chosenAt_89 zk_3 ?_
          refine z_cvi (y1 := mX8_cutThen) iX8_chosenAt_90 lX8_219 kX8_cutThen rfl (cm_cut G pg nw kp sn ks fo ft fe gt mx re x hh hx (row / k % 3) (by omega) (nI 3) c ht) (wm) rfl rfl rfl (Nat.le_of_ble_eq_true rfl) (by decide) ?_
          refine z_pop iX8_chosenAt_93 rfl ?_
          refine z_aload_n iX8_chosenAt_94 rfl ?_
          refine z_cvi (y1 := mX8_dayThen) iX8_chosenAt_95 lX8_190 kX8_dayThen rfl (cm_day G pg nw kp sn ks fo ft fe gt mx re _ hh (mCut_ok hx _ _ _) (mCut_hp hp _ _ _)) (wm) rfl rfl rfl (Nat.le_of_ble_eq_true rfl) (by decide) ?_
          refine z_pop iX8_chosenAt_98 rfl ?_
          refine z_iinc iX8_chosenAt_99 rfl nix_inc rfl (by decide) ?_
          refine z_goto iX8_chosenAt_102 ?_
          first
            | (have e2 : mOf k = 1 := if_pos q51
               rw [e2] at hr
               have k1 := ih (i + 1) (1) (some (row / k % 3)) (mDay (mCut x (row / k % 3) c (nI 3))).2 r (by rw [← e2]; exact mOf_ok hk) (mDay_ok (mCut_ok hx _ _ _)) (mDay_hp (mCut_hp hp _ _ _)) (by omega) hr
               refine z_weak ?_ k1
               exact zle_w (by simp [zle, zf3] <;> rfl))
            | (have e2 : mOf k = k / 3 := if_neg (Nat.not_le.mpr q51)
               rw [e2] at hr
               have k1 := ih (i + 1) (k / 3) (some (row / k % 3)) (mDay (mCut x (row / k % 3) c (nI 3))).2 r (by rw [← e2]; exact mOf_ok hk) (mDay_ok (mCut_ok hx _ _ _)) (mDay_hp (mCut_hp hp _ _ _)) (by omega) hr
               refine z_weak ?_ k1
               exact zle_w (by simp [zle, zf3] <;> rfl))
set_option maxRecDepth 20000 in
set_option maxHeartbeats 1000000 in
theorem lpm_ch0 (G : zG) (pg nw kp sn ks fo ft fe gt mx : zs) (re : Nat → Int64) (hh : Int64) (row d q : Nat) (hr0 : row < 2 ^ 31) (hq : q < 4) (hd : d ≤ 4) (x : zs) (hx : mOK x) (hp : mHP x) (K : Nat) (hK : m3 K) (r : Option Nat × zs) (hr : mChos row (q + 1) K none x = some r) : ∀ (n i : Nat) (k : Nat), 1 ≤ i → i + n = d → zfw (fun _ x => x * 3) i n k = K → zS G mX8_chosenAt 10 [some (.ref 49), some (.int (nI row)), some (.int (nI d)), some (.int (nI q)), some (.int (nI k)), some (.int (nI i)), none, none] [] (wW pg nw kp sn ks fo ft fe gt mx re x hh) (some (.int (oI r.1))) (wW pg nw kp sn ks fo ft fe gt mx re r.2 hh) := by
  intro n
  induction n with
  | zero =>
    intro i k h1 hi hz
    cases hz
    refine z_iload iX8_chosenAt_10 rfl ?_
    refine z_iload_n iX8_chosenAt_12 rfl ?_
    refine zn_ge iX8_chosenAt_13 (by omega) (by omega) (fun q13 => ?_) (fun q13 => absurd q13 (by omega))
    refine z_iconst iX8_chosenAt_28 zk_m1 ?_
    refine z_istore iX8_chosenAt_29 rfl (by decide) ?_
    refine z_iconst iX8_chosenAt_31 zk_0 ?_
    refine z_istore iX8_chosenAt_32 rfl (by decide) ?_
    exact lpm_ch G pg nw kp sn ks fo ft fe gt mx re hh row d q hr0 hq (q + 1) 0 k none x r hK hx hp (Nat.zero_add _) hr
  | succ n ih =>
    intro i k h1 hi hz
    refine z_iload iX8_chosenAt_10 rfl ?_
    refine z_iload_n iX8_chosenAt_12 rfl ?_
    refine zn_ge iX8_chosenAt_13 (by omega) (by omega) (fun q13 => absurd q13 (by omega)) (fun q13 => ?_)
    refine z_iload iX8_chosenAt_16 rfl ?_
    refine z_iconst iX8_chosenAt_18 zk_3 ?_
    refine z_imul iX8_chosenAt_19 ?_
    refine z_top nix_mul ?_
    refine z_istore iX8_chosenAt_20 rfl (by decide) ?_
    refine z_iinc iX8_chosenAt_22 rfl nix_inc rfl (by decide) ?_
    refine z_goto iX8_chosenAt_25 ?_
    exact ih (i + 1) (k * 3) (by omega) (by omega) hz
set_option maxRecDepth 20000 in
set_option maxHeartbeats 1000000 in
theorem cm_chosen (G : zG) (pg nw kp sn ks fo ft fe gt mx : zs) (re : Nat → Int64) (m : zs) (hh : Int64) (hm : mOK m) (hp : mHP m) (row d q : Nat) (hr0 : row < 2 ^ 31) (hq : q < 4) (h1 : 1 ≤ d) (h4 : d ≤ 4) (r : Option Nat × zs) (hr : mChos row (q + 1) (mP3 (d - 1) 1) none (mBegin m) = some r) : zK G mX8_chosenAt [.ref 49, .int (nI row), .int (nI d), .int (nI q)] (wW pg nw kp sn ks fo ft fe gt mx re m hh) (some (.int (oI r.1))) (wW pg nw kp sn ks fo ft fe gt mx re r.2 hh) := by
  refine zK_of 4 rfl (by decide) trivial (Nat.le_of_ble_eq_true rfl) rfl ?_
  refine z_aload_n iX8_chosenAt_0 rfl ?_
  refine z_cvv (y1 := mX8_begin) iX8_chosenAt_1 lX8_165 kX8_begin rfl (cm_begin G pg nw kp sn ks fo ft fe gt mx re m hh) (wm) rfl rfl rfl (Nat.le_of_ble_eq_true rfl) (by decide) ?_
  refine z_iconst iX8_chosenAt_4 zk_1 ?_
  refine z_istore iX8_chosenAt_5 rfl (by decide) ?_
  refine z_iconst iX8_chosenAt_7 zk_1 ?_
  refine z_istore iX8_chosenAt_8 rfl (by decide) ?_
  exact lpm_ch0 G pg nw kp sn ks fo ft fe gt mx re hh row d q hr0 hq h4 (mBegin m) hm hp _ (mP3_ok h1 h4) r hr (d - 1) 1 1 (Nat.le_refl _) (by omega) (zfw_c (fun x => x * 3) (d - 1) 1 0 1)
set_option maxRecDepth 20000 in
set_option maxHeartbeats 1000000 in
theorem cm_planN (G : zG) (pg nw kp sn ks fo ft fe gt mx : zs) (re : Nat → Int64) (m : zs) (hh : Int64) (hm : mOK m) (hp : mHP m) (d p : Nat) (h1 : 1 ≤ d) (h4 : d ≤ 4) (hpd : d ≤ p) (hp4 : p < 4) : zK G mX8_planOf [.ref 49, .int (nI d), .int (nI (10 + p))] (wW pg nw kp sn ks fo ft fe gt mx re m hh) (some (.int (-1))) (wW pg nw kp sn ks fo ft fe gt mx re (mPlanL d (mP3 d 1) 0 (-1) 0 m).2.2 hh) := by
  refine zK_of 5 rfl (by decide) trivial (Nat.le_of_ble_eq_true rfl) rfl ?_
  refine z_iconst iX8_planOf_0 zk_1 ?_
  refine z_istore_n iX8_planOf_1 rfl (by decide) ?_
  refine z_iconst iX8_planOf_2 zk_0 ?_
  refine z_istore iX8_planOf_3 rfl (by decide) ?_
  refine lpm_p0 G pg nw kp sn ks fo ft fe gt mx re hh d (10 + p) h1 h4 _ _ m hm hp _ (mP3_81 h4) (fun r2 e => ?_) d 0 1 (Nat.zero_add _) rfl
  subst e
  refine z_iload_n iX8_planOf_66 rfl ?_
  refine zn_if_ne iX8_planOf_67 (by omega) (fun q67 => ?_) (fun q67 => absurd q67 (by omega))
  refine z_iload_n iX8_planOf_73 rfl ?_
  refine z_bipush iX8_planOf_74 zb_10 ?_
  refine z_isub iX8_planOf_76 ?_
  refine z_top (nix_sub (by omega)) ?_
  refine z_iload_n iX8_planOf_77 rfl ?_
  refine zn_ge iX8_planOf_78 (by omega) (by omega) (fun q78 => ?_) (fun q78 => absurd q78 (by omega))
  refine z_iconst iX8_planOf_95 zk_m1 ?_
  exact z_ireturn iX8_planOf_96 (rfl) (rfl)
set_option maxRecDepth 20000 in
set_option maxHeartbeats 1000000 in
theorem cm_planB (G : zG) (pg nw kp sn ks fo ft fe gt mx : zs) (re : Nat → Int64) (m : zs) (hh : Int64) (hm : mOK m) (hp : mHP m) (d p : Nat) (h1 : 1 ≤ d) (h4 : d ≤ 4) (hpd : p < d) (r : Option Nat × zs) (hr : mChos (mPlanL d (mP3 d 1) 0 (-1) 0 m).2.1 (p + 1) (mP3 (d - 1) 1) none (mBegin (mPlanL d (mP3 d 1) 0 (-1) 0 m).2.2) = some r) : zK G mX8_planOf [.ref 49, .int (nI d), .int (nI (10 + p))] (wW pg nw kp sn ks fo ft fe gt mx re m hh) (some (.int (oI r.1))) (wW pg nw kp sn ks fo ft fe gt mx re r.2 hh) := by
  refine zK_of 5 rfl (by decide) trivial (Nat.le_of_ble_eq_true rfl) rfl ?_
  refine z_iconst iX8_planOf_0 zk_1 ?_
  refine z_istore_n iX8_planOf_1 rfl (by decide) ?_
  refine z_iconst iX8_planOf_2 zk_0 ?_
  refine z_istore iX8_planOf_3 rfl (by decide) ?_
  have hok := mPlanL_ok d (mP3 d 1) 0 (-1) 0 m hm hp
  have hlt := mPlanL_lt d (mP3 d 1) 0 (-1) 0 m (Or.inr rfl)
  have h81 := mP3_81 h4
  have ep : 10 + p - 10 = p := by omega
  refine lpm_p0 G pg nw kp sn ks fo ft fe gt mx re hh d (10 + p) h1 h4 _ _ m hm hp _ (mP3_81 h4) (fun r2 e => ?_) d 0 1 (Nat.zero_add _) rfl
  subst e
  refine z_iload_n iX8_planOf_66 rfl ?_
  refine zn_if_ne iX8_planOf_67 (by omega) (fun q67 => ?_) (fun q67 => absurd q67 (by omega))
  refine z_iload_n iX8_planOf_73 rfl ?_
  refine z_bipush iX8_planOf_74 zb_10 ?_
  refine z_isub iX8_planOf_76 ?_
  refine z_top (nix_sub (by omega)) ?_
  refine z_iload_n iX8_planOf_77 rfl ?_
  refine zn_ge iX8_planOf_78 (by omega) (by omega) (fun q78 => absurd q78 (by omega)) (fun q78 => ?_)
  refine z_aload_n iX8_planOf_81 rfl ?_
  refine z_iload iX8_planOf_82 rfl ?_
  refine z_iload_n iX8_planOf_84 rfl ?_
  refine z_iload_n iX8_planOf_85 rfl ?_
  refine z_bipush iX8_planOf_86 zb_10 ?_
  refine z_isub iX8_planOf_88 ?_
  refine z_top (nix_sub (by omega)) ?_
  rw [ep]
  refine z_cvi (y1 := mX8_chosenAt) iX8_planOf_89 lX8_245 kX8_chosenAt rfl (cm_chosen G pg nw kp sn ks fo ft fe gt mx re _ hh hok.1 hok.2 _ d p (by omega) (by omega) h1 h4 r hr) (wm) rfl rfl rfl (Nat.le_of_ble_eq_true rfl) (by decide) ?_
  refine z_goto iX8_planOf_92 ?_
  exact z_ireturn iX8_planOf_96 (rfl) (rfl)
def mWD (x : zs) : zs := mDTs (mWA x)
theorem mWD_A (x : zs) (k : Nat) : rA (mWD x) k = rA x k := (mDTL_A _ _ _ k).trans (mWA_A _ _ _ k)
theorem mWD_N (x : zs) (k : Nat) : rN (mWD x) k = rN x k := (mDTL_N _ _ _ k).trans (mWA_N _ _ _ k)
def mWyF (c so j : Nat) (x : zs) : zs := uF (mWD x) 26 (upd (rF (mWD x) 26) (9 * so + j) (if rF (mWD x) 19 c ≤ nI 30 then rF (mWD x) 19 c else nI 30))
def mW0 (c so : Nat) (x : zs) : zs := uF (mBegin x) 18 (upd (rF (mBegin x) 18) c (nI so))
def mWySo (c so : Nat) (x : zs) : zs := zfw (mWyF c so) 0 9 (mW0 c so x)
def mWays (m : zs) (c : Nat) : zs := zfw (mWySo c) 0 10 m
theorem mWyL_A (c so : Nat) : ∀ (n i : Nat) (x : zs) (k : Nat), rA (zfw (mWyF c so) i n x) k = rA x k
  | 0, _, _, _ => rfl
  | n + 1, i, x, k => (mWyL_A c so n (i + 1) _ k).trans (mWD_A x k)
theorem mWyL_N (c so : Nat) : ∀ (n i : Nat) (x : zs) (k : Nat), rN (zfw (mWyF c so) i n x) k = rN x k
  | 0, _, _, _ => rfl
  | n + 1, i, x, k => (mWyL_N c so n (i + 1) _ k).trans (mWD_N x k)
theorem mWyF_ok {c so j : Nat} {x : zs} (h : mOK x) : mOK (mWyF c so j x) := mOK_of h (mWD_A x) (fun k _ => mWD_N x k)
theorem mWyF_hp {c so j : Nat} {x : zs} (h : mHP x) : mHP (mWyF c so j x) := mHP_of h (mWD_A x) (mWD_N x 5)
theorem mWySo_ok {c so : Nat} {x : zs} (h : mOK x) : mOK (mWySo c so x) := mOK_of h (fun k => (mWyL_A c so 9 0 _ k).trans rfl) (fun k _ => (mWyL_N c so 9 0 _ k).trans rfl)
theorem mWySo_hp {c so : Nat} {x : zs} (h : mHP x) : mHP (mWySo c so x) := mHP_of h (fun k => (mWyL_A c so 9 0 _ k).trans rfl) ((mWyL_N c so 9 0 _ 5).trans rfl)
set_option maxRecDepth 20000 in
set_option maxHeartbeats 1000000 in
theorem lpm_wy (G : zG) (pg nw kp sn ks fo ft fe gt mx : zs) (re : Nat → Int64) (hh : Int64) (c so : Nat) (hc : c < 9) (hso : so < 10) (R : Option Value) (g2 : zh) : ∀ (n i : Nat) (x : zs), mOK x → mHP x → i + n = 9 → (∀ y, y = zfw (mWyF c so) i n x → zS G mX8_layWays 74 [some (.ref 49), some (.int (nI c)), some (.int (nI so)), none] [] (wW pg nw kp sn ks fo ft fe gt mx re y hh) R g2) → zS G mX8_layWays 21 [some (.ref 49), some (.int (nI c)), some (.int (nI so)), some (.int (nI i))] [] (wW pg nw kp sn ks fo ft fe gt mx re x hh) R (g2) := by
  intro n
  induction n with
  | zero =>
    intro i x hx hp hi hk
    refine z_iload_n iX8_layWays_21 rfl ?_
    refine z_bipush iX8_layWays_22 zb_9 ?_
    refine zn_ge iX8_layWays_24 (by omega) (by omega) (fun q24 => ?_) (fun q24 => absurd q24 (by omega))
    refine z_weak ?_ (hk _ rfl)
    exact zle_w (by simp [zle, zf3] <;> rfl)
  | succ n ih =>
    intro i x hx hp hi hk
    refine z_iload_n iX8_layWays_21 rfl ?_
    refine z_bipush iX8_layWays_22 zb_9 ?_
    refine zn_ge iX8_layWays_24 (by omega) (by omega) (fun q24 => absurd q24 (by omega)) (fun q24 => ?_)
    refine z_aload_n iX8_layWays_27 rfl ?_
    refine z_cvv (y1 := mX8_warmAll) iX8_layWays_28 lX8_159 kX8_warmAll rfl (cm_warmAll G pg nw kp sn ks fo ft fe gt mx re x hh hx hp) (wm) rfl rfl rfl (Nat.le_of_ble_eq_true rfl) (by decide) ?_
    refine z_aload_n iX8_layWays_31 rfl ?_
    refine z_cvv (y1 := mX8_dryTops) iX8_layWays_32 lX8_162 kX8_dryTops rfl (cm_dryTops G pg nw kp sn ks fo ft fe gt mx re _ hh (mOK_of hx (mWA_A _ _ _) (fun k _ => mWA_N _ _ _ k))) (wm) rfl rfl rfl (Nat.le_of_ble_eq_true rfl) (by decide) ?_
    refine z_heap (g2 := wW pg nw kp sn ks fo ft fe gt mx re (mWD x) hh) rfl ?_
    refine z_aload_n iX8_layWays_35 rfl ?_
    refine z_getf iX8_layWays_36 fX8_55 (wm) (mF_26 _ _) (by decide) ?_
    refine z_bipush iX8_layWays_39 zb_9 ?_
    refine z_iload_n iX8_layWays_41 rfl ?_
    refine z_imul iX8_layWays_42 ?_
    refine z_top nix_mul ?_
    refine z_iload_n iX8_layWays_43 rfl ?_
    refine z_iadd iX8_layWays_44 ?_
    refine z_top nix_add ?_
    refine z_aload_n iX8_layWays_45 rfl ?_
    refine z_getf iX8_layWays_46 fX8_40 (wm) (mF_19 _ _) (by decide) ?_
    refine z_iload_n iX8_layWays_49 rfl ?_
    refine z_iaload iX8_layWays_50 (wm19) rfl (by omega) (by decide) (by decide) ?_
    refine z_bipush iX8_layWays_51 zb_30 ?_
    refine z_icmp_le iX8_layWays_53 (fun q53 => ?_) (fun q53 => ?_)
    · refine z_aload_n iX8_layWays_61 rfl ?_
      refine z_getf iX8_layWays_62 fX8_40 (wm) (mF_19 _ _) (by decide) ?_
      refine z_iload_n iX8_layWays_65 rfl ?_
      refine z_iaload iX8_layWays_66 (wm19) rfl (by omega) (by decide) (by decide) ?_
      refine z_iastore iX8_layWays_67 (wm26) rfl (by omega) (by decide) (by decide) (by decide) ?_
      rw [wm_26]
      refine z_iinc iX8_layWays_68 rfl nix_inc rfl (by decide) ?_
      refine z_goto iX8_layWays_71 ?_
      first
        | (have e1 : mWyF c so i x = uF (mWD x) 26 (upd (rF (mWD x) 26) (9 * so + i) (rF (mWD x) 19 c)) := by rw [mWyF, if_pos q53]
           have k1 := ih (i + 1) (mWyF c so i x) (mWyF_ok hx) (mWyF_hp hp) (by omega) (by rw [zfw] at hk; exact hk)
           rw [e1] at k1
           exact k1)
        | (have e1 : mWyF c so i x = uF (mWD x) 26 (upd (rF (mWD x) 26) (9 * so + i) (nI 30)) := by rw [mWyF, if_neg q53]
           have k1 := ih (i + 1) (mWyF c so i x) (mWyF_ok hx) (mWyF_hp hp) (by omega) (by rw [zfw] at hk; exact hk)
           rw [e1] at k1
           exact k1)
    · refine z_bipush iX8_layWays_56 zb_30 ?_
      refine z_goto iX8_layWays_58 ?_
      refine z_iastore iX8_layWays_67 (wm26) rfl (by omega) (by decide) (by decide) (by decide) ?_
      rw [wm_26]
      refine z_iinc iX8_layWays_68 rfl nix_inc rfl (by decide) ?_
      refine z_goto iX8_layWays_71 ?_
      first
        | (have e1 : mWyF c so i x = uF (mWD x) 26 (upd (rF (mWD x) 26) (9 * so + i) (rF (mWD x) 19 c)) := by rw [mWyF, if_pos q53]
           have k1 := ih (i + 1) (mWyF c so i x) (mWyF_ok hx) (mWyF_hp hp) (by omega) (by rw [zfw] at hk; exact hk)
           rw [e1] at k1
           exact k1)
        | (have e1 : mWyF c so i x = uF (mWD x) 26 (upd (rF (mWD x) 26) (9 * so + i) (nI 30)) := by rw [mWyF, if_neg q53]
           have k1 := ih (i + 1) (mWyF c so i x) (mWyF_ok hx) (mWyF_hp hp) (by omega) (by rw [zfw] at hk; exact hk)
           rw [e1] at k1
           exact k1)
set_option maxRecDepth 20000 in
set_option maxHeartbeats 1000000 in
theorem lpm_wys (G : zG) (pg nw kp sn ks fo ft fe gt mx : zs) (re : Nat → Int64) (hh : Int64) (c : Nat) (hc : c < 9) : ∀ (n i : Nat) (x : zs), mOK x → mHP x → i + n = 10 → zS G mX8_layWays 2 [some (.ref 49), some (.int (nI c)), some (.int (nI i)), none] [] (wW pg nw kp sn ks fo ft fe gt mx re x hh) none (wW pg nw kp sn ks fo ft fe gt mx re (zfw (mWySo c) i n x) hh) := by
  intro n
  induction n with
  | zero =>
    intro i x hx hp hi
    refine z_iload_n iX8_layWays_2 rfl ?_
    refine z_bipush iX8_layWays_3 zb_10 ?_
    refine zn_ge iX8_layWays_5 (by omega) (by omega) (fun q5 => ?_) (fun q5 => absurd q5 (by omega))
    exact z_return iX8_layWays_80 (rfl)
  | succ n ih =>
    intro i x hx hp hi
    refine z_iload_n iX8_layWays_2 rfl ?_
    refine z_bipush iX8_layWays_3 zb_10 ?_
    refine zn_ge iX8_layWays_5 (by omega) (by omega) (fun q5 => absurd q5 (by omega)) (fun q5 => ?_)
    refine z_aload_n iX8_layWays_8 rfl ?_
    refine z_cvv (y1 := mX8_begin) iX8_layWays_9 lX8_165 kX8_begin rfl (cm_begin G pg nw kp sn ks fo ft fe gt mx re x hh) (wm) rfl rfl rfl (Nat.le_of_ble_eq_true rfl) (by decide) ?_
    refine z_aload_n iX8_layWays_12 rfl ?_
    refine z_getf iX8_layWays_13 fX8_37 (wm) (mF_18 _ _) (by decide) ?_
    refine z_iload_n iX8_layWays_16 rfl ?_
    refine z_iload_n iX8_layWays_17 rfl ?_
    refine z_iastore iX8_layWays_18 (wm18) rfl (by omega) (by decide) (by decide) (by decide) ?_
    rw [wm_18]
    refine z_iconst iX8_layWays_19 zk_0 ?_
    refine z_istore_n iX8_layWays_20 rfl (by decide) ?_
    refine lpm_wy G pg nw kp sn ks fo ft fe gt mx re hh c i hc (by omega) _ _ 9 0 (mW0 c i x) hx hp rfl (fun y e => ?_)
    subst e
    refine z_iinc iX8_layWays_74 rfl nix_inc rfl (by decide) ?_
    refine z_goto iX8_layWays_77 ?_
    exact ih (i + 1) (mWySo c i x) (mWySo_ok hx) (mWySo_hp hp) (by omega)
set_option maxRecDepth 20000 in
set_option maxHeartbeats 1000000 in
theorem cm_layWays (G : zG) (pg nw kp sn ks fo ft fe gt mx : zs) (re : Nat → Int64) (m : zs) (hh : Int64) (hm : mOK m) (hp : mHP m) (c : Nat) (hc : c < 9) : zK G mX8_layWays [.ref 49, .int (nI c)] (wW pg nw kp sn ks fo ft fe gt mx re m hh) none (wW pg nw kp sn ks fo ft fe gt mx re (mWays m c) hh) := by
  refine zK_of 2 rfl (by decide) trivial (Nat.le_of_ble_eq_true rfl) rfl ?_
  refine z_iconst iX8_layWays_0 zk_0 ?_
  refine z_istore_n iX8_layWays_1 rfl (by decide) ?_
  exact lpm_wys G pg nw kp sn ks fo ft fe gt mx re hh c hc 10 0 m hm hp rfl
