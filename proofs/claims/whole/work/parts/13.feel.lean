def gV (x : zs) (c : Nat) : Int32 := if rF x 9 c < nI 30 then rF x 9 c else nI 30
def gDay (b c w d : Nat) (x : zs × zs) : zs × zs := (bDry (bWarm x.1 b) b, uF x.2 1 (upd (rF x.2 1) (w * 9 + d - 1) (gV (bDry (bWarm x.1 b) b) c)))
def gWet (nw : zs) (c w : Nat) (x : zs × zs) : zs × zs := zfw (gDay (rA nw 6 c) c w) 1 9 (uF nw 8 (upd (rF nw 8) c (nI w)), x.2)
def gAll (nw : zs) (c : Nat) (x : zs × zs) : zs × zs := zfw (gWet nw c) 0 10 x
set_option maxRecDepth 20000 in
set_option maxHeartbeats 1000000 in
theorem lp_gday (G : zG) (pg nw kp sn ks fo ft mx : zs) (re : Nat → Int64) (m : zs) (hh : Int64) (b c w : Nat) (hb : b < 3) (hc : c < 9) (hw : w < 10) (r : Option Value) (g2 : zh) : ∀ (n i : Nat) (x : zs × zs), bOK x.1 → i + n = 10 → 1 ≤ i → (∀ x1, x1 = zfw (gDay b c w) i n x → zS G mX1_tryAll 97 [some (.ref 36), some (.ref 3), some (.int (nI c)), some (.int (nI b)), some (.int (nI w)), none] [] (wW pg nw kp sn ks fo ft x1.2 x1.1 mx re m hh) r g2) → zS G mX1_tryAll 39 [some (.ref 36), some (.ref 3), some (.int (nI c)), some (.int (nI b)), some (.int (nI w)), some (.int (nI i))] [] (wW pg nw kp sn ks fo ft x.2 x.1 mx re m hh) r (g2) := by
  intro n
  induction n with
  | zero =>
    intro i x hs hi h1 hk
    refine z_iload iX1_tryAll_39 rfl ?_
    refine z_bipush iX1_tryAll_41 zb_9 ?_
    refine zn_gt iX1_tryAll_43 (by omega) (by omega) (fun q43 => ?_) (fun q43 => absurd q43 (by omega))
    refine z_weak ?_ (hk _ rfl)
    exact zle_w (by simp [zle, zf3] <;> rfl)
  | succ n ih =>
    intro i x hs hi h1 hk
    have k1 := bWarm_ok hs b
    refine z_iload iX1_tryAll_39 rfl ?_
    refine z_bipush iX1_tryAll_41 zb_9 ?_
    refine zn_gt iX1_tryAll_43 (by omega) (by omega) (fun q43 => absurd q43 (by omega)) (fun q43 => ?_)
    refine z_aload_n iX1_tryAll_46 rfl ?_
    refine z_getf iX1_tryAll_47 fX1_12 (we) (rfl) (by decide) ?_
    refine z_iload_n iX1_tryAll_50 rfl ?_
    refine z_cvv (y1 := mX0_warmBay) iX1_tryAll_51 lX1_47 kX0_warmBay rfl (vB37 (c_warmBay G _ 37 (by decide) _ hs b hb)) (w37_o) rfl rfl rfl (Nat.le_of_ble_eq_true rfl) (by decide) ?_
    refine z_aload_n iX1_tryAll_54 rfl ?_
    refine z_getf iX1_tryAll_55 fX1_12 (we) (rfl) (by decide) ?_
    refine z_iload_n iX1_tryAll_58 rfl ?_
    refine z_cvv (y1 := mX0_dryTop) iX1_tryAll_59 lX1_51 kX0_dryTop rfl (vB37 (c_dryTop G _ 37 (by decide) _ k1 b hb)) (w37_o) rfl rfl rfl (Nat.le_of_ble_eq_true rfl) (by decide) ?_
    refine z_aload_n iX1_tryAll_62 rfl ?_
    refine z_getf iX1_tryAll_63 fX1_18 (we) (rfl) (by decide) ?_
    refine z_iload iX1_tryAll_66 rfl ?_
    refine z_bipush iX1_tryAll_68 zb_9 ?_
    refine z_imul iX1_tryAll_70 ?_
    refine z_top nix_mul ?_
    refine z_iload iX1_tryAll_71 rfl ?_
    refine z_iadd iX1_tryAll_73 ?_
    refine z_top nix_add ?_
    refine z_iconst iX1_tryAll_74 zk_1 ?_
    refine z_isub iX1_tryAll_75 ?_
    refine z_top (nix_sub (by omega)) ?_
    refine z_bipush iX1_tryAll_76 zb_30 ?_
    refine z_aload_n iX1_tryAll_78 rfl ?_
    refine z_getf iX1_tryAll_79 fX1_12 (we) (rfl) (by decide) ?_
    refine z_getf iX1_tryAll_82 fX1_54 (w37_o) (BF_9 _ _) (by decide) ?_
    refine z_iload_n iX1_tryAll_85 rfl ?_
    refine z_iaload iX1_tryAll_86 (w37_9) rfl (by omega) (by decide) (by decide) ?_
    refine z_mmin iX1_tryAll_87 lX1_57 (by decide) (Nat.le_of_ble_eq_true rfl) ?_
    refine z_iastore iX1_tryAll_90 (we1) rfl (by omega) (by decide) (by decide) (by decide) ?_
    rw [we_1]
    refine z_iinc iX1_tryAll_91 rfl nix_inc rfl (by decide) ?_
    refine z_goto iX1_tryAll_94 ?_
    exact ih (i + 1) (gDay b c w i x) (bDry_ok k1 b) (by omega) (by omega) (fun x1 e => hk x1 e)
set_option maxRecDepth 20000 in
set_option maxHeartbeats 1000000 in
theorem lp_gwet (G : zG) (pg nw kp sn ks fo ft mx : zs) (re : Nat → Int64) (m : zs) (hh : Int64) (hs : bOK nw) (c : Nat) (hc : c < 9) : ∀ (n i : Nat) (x : zs × zs), i + n = 10 → zS G mX1_tryAll 10 [some (.ref 36), some (.ref 3), some (.int (nI c)), some (.int (nI (rA nw 6 c))), some (.int (nI i)), none] [] (wW pg nw kp sn ks fo ft x.2 x.1 mx re m hh) none (wW pg nw kp sn ks fo ft (zfw (gWet nw c) i n x).2 (zfw (gWet nw c) i n x).1 mx re m hh) := by
  have hb := hs.2.2.1 c
  intro n
  induction n with
  | zero =>
    intro i x hi
    refine z_iload iX1_tryAll_10 rfl ?_
    refine z_bipush iX1_tryAll_12 zb_10 ?_
    refine zn_ge iX1_tryAll_14 (by omega) (by omega) (fun q14 => ?_) (fun q14 => absurd q14 (by omega))
    exact z_return iX1_tryAll_103 (rfl)
  | succ n ih =>
    intro i x hi
    refine z_iload iX1_tryAll_10 rfl ?_
    refine z_bipush iX1_tryAll_12 zb_10 ?_
    refine zn_ge iX1_tryAll_14 (by omega) (by omega) (fun q14 => absurd q14 (by omega)) (fun q14 => ?_)
    refine z_aload_n iX1_tryAll_17 rfl ?_
    refine z_getf iX1_tryAll_18 fX1_12 (we) (rfl) (by decide) ?_
    refine z_aload_n iX1_tryAll_21 rfl ?_
    refine z_cvv (y1 := mX0_copyFrom) iX1_tryAll_22 lX1_40 kX0_copyFrom rfl (c_copy37_3 G pg nw kp sn ks fo ft x.2 x.1 mx re m hh) (w37_o) rfl rfl rfl (Nat.le_of_ble_eq_true rfl) (by decide) ?_
    refine z_aload_n iX1_tryAll_25 rfl ?_
    refine z_getf iX1_tryAll_26 fX1_12 (we) (rfl) (by decide) ?_
    refine z_getf iX1_tryAll_29 fX1_44 (w37_o) (BF_8 _ _) (by decide) ?_
    refine z_iload_n iX1_tryAll_32 rfl ?_
    refine z_iload iX1_tryAll_33 rfl ?_
    refine z_iastore iX1_tryAll_35 (w37_8) rfl (by omega) (by decide) (by decide) (by decide) ?_
    rw [w37_w8]
    refine z_iconst iX1_tryAll_36 zk_1 ?_
    refine z_istore iX1_tryAll_37 rfl (by decide) ?_
    refine lp_gday G pg nw kp sn ks fo ft mx re m hh (rA nw 6 c) c i hb hc (by omega) _ _ 9 1 (uF nw 8 (upd (rF nw 8) c (nI i)), x.2) hs rfl (Nat.le_refl _) (fun x1 e => ?_)
    subst e
    refine z_iinc iX1_tryAll_97 rfl nix_inc rfl (by decide) ?_
    refine z_goto iX1_tryAll_100 ?_
    exact ih (i + 1) (gWet nw c i x) (by omega)
set_option maxRecDepth 20000 in
set_option maxHeartbeats 1000000 in
theorem c_tryAll (G : zG) (pg nw kp sn ks fo ft fe gt mx : zs) (re : Nat → Int64) (m : zs) (hh : Int64) (hs : bOK nw) (c : Nat) (hc : c < 9) : zK G mX1_tryAll [.ref 36, .ref 3, .int (nI c)] (wW pg nw kp sn ks fo ft fe gt mx re m hh) none (wW pg nw kp sn ks fo ft (gAll nw c (gt, fe)).2 (gAll nw c (gt, fe)).1 mx re m hh) := by
  have hb := hs.2.2.1 c
  refine zK_of 3 rfl (by decide) trivial (Nat.le_of_ble_eq_true rfl) rfl ?_
  refine z_aload_n iX1_tryAll_0 rfl ?_
  refine z_getf iX1_tryAll_1 fX1_37 (w3_o) (BF_6 _ _) (by decide) ?_
  refine z_iload_n iX1_tryAll_4 rfl ?_
  refine z_iaload iX1_tryAll_5 (w3_6) rfl (by omega) (by decide) (by decide) ?_
  refine z_istore_n iX1_tryAll_6 rfl (by decide) ?_
  refine z_iconst iX1_tryAll_7 zk_0 ?_
  refine z_istore iX1_tryAll_8 rfl (by decide) ?_
  exact lp_gwet G pg nw kp sn ks fo ft mx re m hh hs c hc 10 0 (gt, fe) rfl
def sOK (sn : zs) : Prop := rN sn 3 ≤ 6 ∧ (∀ j, rA sn 0 j < 9) ∧ (∀ j, j < rN sn 3 → 1 ≤ rA sn 1 j) ∧ ∀ j, rA sn 1 j ≤ 9
def gBad (sn fe : zs) (c w : Nat) : Nat → Bool := fun k => decide (rA sn 0 k = c) && !decide (rF fe 1 (w * 9 + rA sn 1 k - 1) = rF sn 2 k)
def gFit (sn fe : zs) (c w : Nat) : Bool := (zfind (gBad sn fe c w) 0 (rN sn 3)).isNone
set_option maxRecDepth 20000 in
set_option maxHeartbeats 1000000 in
theorem lp_fits (G : zG) (pg nw kp sn ks fo ft fe gt mx : zs) (re : Nat → Int64) (m : zs) (hh : Int64) (hs : sOK sn) (c w : Nat) (hc : c < 9) (hw : w < 10) : ∀ (n i : Nat) (z : Option Nat), i + n = rN sn 3 → zfind (gBad sn fe c w) i n = z → zS G mX1_fits 3 [some (.ref 36), some (.ref 19), some (.int (nI c)), some (.int (nI w)), some (.int (nI i))] [] (wW pg nw kp sn ks fo ft fe gt mx re m hh) (some (.int (zbo z.isNone))) (wW pg nw kp sn ks fo ft fe gt mx re m hh) := by
  obtain ⟨s1, s2, s3, s4⟩ := id hs
  intro n
  induction n with
  | zero =>
    intro i z hi hz
    cases hz
    refine z_iload iX1_fits_3 rfl ?_
    refine z_aload_n iX1_fits_5 rfl ?_
    refine z_getf iX1_fits_6 fX1_66 (w19_o) (SF_3 _ _) (by decide) ?_
    refine zn_ge iX1_fits_9 (by omega) (by omega) (fun q9 => ?_) (fun q9 => absurd q9 (by omega))
    refine z_iconst iX1_fits_60 zk_1 ?_
    exact z_ireturn iX1_fits_61 (rfl) (rfl)
  | succ n ih =>
    intro i z hi hz
    refine z_iload iX1_fits_3 rfl ?_
    refine z_aload_n iX1_fits_5 rfl ?_
    refine z_getf iX1_fits_6 fX1_66 (w19_o) (SF_3 _ _) (by decide) ?_
    refine zn_ge iX1_fits_9 (by omega) (by omega) (fun q9 => absurd q9 (by omega)) (fun q9 => ?_)
    have t1 := s2 i
    have t2 := s3 i (by omega)
    have t3 := s4 i
    refine z_aload_n iX1_fits_12 rfl ?_
    refine z_getf iX1_fits_13 fX1_72 (w19_o) (SF_0 _ _) (by decide) ?_
    refine z_iload iX1_fits_16 rfl ?_
    refine z_iaload iX1_fits_18 (w19_0) rfl (by omega) (by decide) (by decide) ?_
    refine z_iload_n iX1_fits_19 rfl ?_
    refine zn_ne iX1_fits_20 (by omega) (by omega) (fun q20 => ?_) (fun q20 => ?_)
    · refine z_iinc iX1_fits_54 rfl nix_inc rfl (by decide) ?_
      refine z_goto iX1_fits_57 ?_
      unfold zfind at hz
      rw [if_neg (by simp [gBad, *])] at hz
      exact ih (i + 1) z (by omega) hz
    · refine z_aload_n iX1_fits_23 rfl ?_
      refine z_getf iX1_fits_24 fX1_18 (we) (rfl) (by decide) ?_
      refine z_iload_n iX1_fits_27 rfl ?_
      refine z_bipush iX1_fits_28 zb_9 ?_
      refine z_imul iX1_fits_30 ?_
      refine z_top nix_mul ?_
      refine z_aload_n iX1_fits_31 rfl ?_
      refine z_getf iX1_fits_32 fX1_75 (w19_o) (SF_1 _ _) (by decide) ?_
      refine z_iload iX1_fits_35 rfl ?_
      refine z_iaload iX1_fits_37 (w19_1) rfl (by omega) (by decide) (by decide) ?_
      refine z_iadd iX1_fits_38 ?_
      refine z_top nix_add ?_
      refine z_iconst iX1_fits_39 zk_1 ?_
      refine z_isub iX1_fits_40 ?_
      refine z_top (nix_sub (by omega)) ?_
      refine z_iaload iX1_fits_41 (we1) rfl (by omega) (by decide) (by decide) ?_
      refine z_aload_n iX1_fits_42 rfl ?_
      refine z_getf iX1_fits_43 fX1_78 (w19_o) (SF_2 _ _) (by decide) ?_
      refine z_iload iX1_fits_46 rfl ?_
      refine z_iaload iX1_fits_48 (w19_2) rfl (by omega) (by decide) (by decide) ?_
      refine z_icmp_eq iX1_fits_49 (fun q49 => ?_) (fun q49 => ?_)
      · refine z_iinc iX1_fits_54 rfl nix_inc rfl (by decide) ?_
        refine z_goto iX1_fits_57 ?_
        unfold zfind at hz
        rw [if_neg (by simp [gBad, *])] at hz
        exact ih (i + 1) z (by omega) hz
      · unfold zfind at hz
        rw [if_pos (by simp [gBad, *])] at hz
        subst hz
        refine z_iconst iX1_fits_52 zk_0 ?_
        exact z_ireturn iX1_fits_53 (rfl) (rfl)
set_option maxRecDepth 20000 in
set_option maxHeartbeats 1000000 in
theorem c_fits (G : zG) (pg nw kp sn ks fo ft fe gt mx : zs) (re : Nat → Int64) (m : zs) (hh : Int64) (hs : sOK sn) (c w : Nat) (hc : c < 9) (hw : w < 10) : zK G mX1_fits [.ref 36, .ref 19, .int (nI c), .int (nI w)] (wW pg nw kp sn ks fo ft fe gt mx re m hh) (some (.int (zbo (gFit sn fe c w)))) (wW pg nw kp sn ks fo ft fe gt mx re m hh) := by
  refine zK_of 1 rfl (by decide) (zbo_n _) (Nat.le_of_ble_eq_true rfl) rfl ?_
  refine z_iconst iX1_fits_0 zk_0 ?_
  refine z_istore iX1_fits_1 rfl (by decide) ?_
  exact lp_fits G pg nw kp sn ks fo ft fe gt mx re m hh hs c w hc hw _ 0 _ (Nat.zero_add _) rfl
def gWets (sn fe : zs) (c : Nat) : Nat := zfw (fun w bits => if gFit sn fe c w = true then bits ||| 1 * 2 ^ w else bits) 0 10 0
set_option maxRecDepth 20000 in
set_option maxHeartbeats 1000000 in
theorem lp_wets (G : zG) (pg nw kp sn ks fo ft fe gt mx : zs) (re : Nat → Int64) (m : zs) (hh : Int64) (hs : sOK sn) (c : Nat) (hc : c < 9) : ∀ (n i : Nat) (x : Nat), i + n = 10 → zS G mX1_wetsThatFit 5 [some (.ref 36), some (.ref 19), some (.int (nI c)), some (.int (nI x)), some (.int (nI i))] [] (wW pg nw kp sn ks fo ft fe gt mx re m hh) (some (.int (nI (zfw (fun w bits => if gFit sn fe c w = true then bits ||| 1 * 2 ^ w else bits) i n x)))) (wW pg nw kp sn ks fo ft fe gt mx re m hh) := by
  intro n
  induction n with
  | zero =>
    intro i x hi
    refine z_iload iX1_wetsThatFit_5 rfl ?_
    refine z_bipush iX1_wetsThatFit_7 zb_10 ?_
    refine zn_ge iX1_wetsThatFit_9 (by omega) (by omega) (fun q9 => ?_) (fun q9 => absurd q9 (by omega))
    refine z_iload_n iX1_wetsThatFit_36 rfl ?_
    exact z_ireturn iX1_wetsThatFit_37 (rfl) (rfl)
  | succ n ih =>
    intro i x hi
    refine z_iload iX1_wetsThatFit_5 rfl ?_
    refine z_bipush iX1_wetsThatFit_7 zb_10 ?_
    refine zn_ge iX1_wetsThatFit_9 (by omega) (by omega) (fun q9 => absurd q9 (by omega)) (fun q9 => ?_)
    refine z_aload_n iX1_wetsThatFit_12 rfl ?_
    refine z_aload_n iX1_wetsThatFit_13 rfl ?_
    refine z_iload_n iX1_wetsThatFit_14 rfl ?_
    refine z_iload iX1_wetsThatFit_15 rfl ?_
    refine z_cvi (y1 := mX1_fits) iX1_wetsThatFit_17 lX1_62 kX1_fits rfl (c_fits G pg nw kp sn ks fo ft fe gt mx re m hh hs c i hc (by omega)) (we) rfl rfl rfl (Nat.le_of_ble_eq_true rfl) (by decide) ?_
    refine zb_if_eq iX1_wetsThatFit_20 (fun q20 => ?_) (fun q20 => ?_)
    · refine z_iinc iX1_wetsThatFit_30 rfl nix_inc rfl (by decide) ?_
      refine z_goto iX1_wetsThatFit_33 ?_
      first
        | (simp only [zfw, if_pos q20]
           exact ih (i + 1) _ (by omega))
        | (simp only [zfw, q20, Bool.false_eq_true, if_false]
           exact ih (i + 1) _ (by omega))
    · refine z_iload_n iX1_wetsThatFit_23 rfl ?_
      refine z_iconst iX1_wetsThatFit_24 zk_1 ?_
      refine z_iload iX1_wetsThatFit_25 rfl ?_
      refine z_ishl iX1_wetsThatFit_27 ?_
      refine z_top (nix_shl (by omega) (zp1 (by omega))) ?_
      refine z_ior iX1_wetsThatFit_28 ?_
      refine z_top nix_or ?_
      refine z_istore_n iX1_wetsThatFit_29 rfl (by decide) ?_
      refine z_iinc iX1_wetsThatFit_30 rfl nix_inc rfl (by decide) ?_
      refine z_goto iX1_wetsThatFit_33 ?_
      first
        | (simp only [zfw, if_pos q20]
           exact ih (i + 1) _ (by omega))
        | (simp only [zfw, q20, Bool.false_eq_true, if_false]
           exact ih (i + 1) _ (by omega))
set_option maxRecDepth 20000 in
set_option maxHeartbeats 1000000 in
theorem c_wetsFit (G : zG) (pg nw kp sn ks fo ft fe gt mx : zs) (re : Nat → Int64) (m : zs) (hh : Int64) (hs : sOK sn) (c : Nat) (hc : c < 9) : zK G mX1_wetsThatFit [.ref 36, .ref 19, .int (nI c)] (wW pg nw kp sn ks fo ft fe gt mx re m hh) (some (.int (nI (gWets sn fe c)))) (wW pg nw kp sn ks fo ft fe gt mx re m hh) := by
  refine zK_of 2 rfl (by decide) trivial (Nat.le_of_ble_eq_true rfl) rfl ?_
  refine z_iconst iX1_wetsThatFit_0 zk_0 ?_
  refine z_istore_n iX1_wetsThatFit_1 rfl (by decide) ?_
  refine z_iconst iX1_wetsThatFit_2 zk_0 ?_
  refine z_istore iX1_wetsThatFit_3 rfl (by decide) ?_
  exact lp_wets G pg nw kp sn ks fo ft fe gt mx re m hh hs c hc 10 0 0 rfl
set_option maxRecDepth 20000 in
set_option maxHeartbeats 1000000 in
theorem c_wets (G : zG) (pg nw kp sn ks fo ft fe gt mx : zs) (re : Nat → Int64) (m : zs) (hh : Int64) (hb : bOK nw) (hs : sOK sn) (c : Nat) (hc : c < 9) : zK G mX1_wets [.ref 36, .ref 3, .ref 19, .int (nI c)] (wW pg nw kp sn ks fo ft fe gt mx re m hh) (some (.int (nI (gWets sn (gAll nw c (gt, fe)).2 c)))) (wW pg nw kp sn ks fo ft (gAll nw c (gt, fe)).2 (gAll nw c (gt, fe)).1 mx re m hh) := by
  refine zK_of 0 rfl (by decide) trivial (Nat.le_of_ble_eq_true rfl) rfl ?_
  refine z_aload_n iX1_wets_0 rfl ?_
  refine z_aload_n iX1_wets_1 rfl ?_
  refine z_iload_n iX1_wets_2 rfl ?_
  refine z_cvv (y1 := mX1_tryAll) iX1_wets_3 lX1_25 kX1_tryAll rfl (c_tryAll G pg nw kp sn ks fo ft fe gt mx re m hh hb c hc) (we) rfl rfl rfl (Nat.le_of_ble_eq_true rfl) (by decide) ?_
  refine z_aload_n iX1_wets_6 rfl ?_
  refine z_aload_n iX1_wets_7 rfl ?_
  refine z_iload_n iX1_wets_8 rfl ?_
  refine z_cvi (y1 := mX1_wetsThatFit) iX1_wets_9 lX1_29 kX1_wetsThatFit rfl (c_wetsFit G pg nw kp sn ks fo ft _ _ mx re m hh hs c hc) (we) rfl rfl rfl (Nat.le_of_ble_eq_true rfl) (by decide) ?_
  exact z_ireturn iX1_wets_12 (rfl) (rfl)
def gClr : Nat → zs → zs := fun k e => uF e 2 (upd (rF e 2) k (nI 0))
theorem gClr_1 : ∀ (n i : Nat) (e : zs), rF (zfw gClr i n e) 1 = rF e 1
  | 0, _, _ => rfl
  | n + 1, i, e => (gClr_1 n (i + 1) _).trans rfl
def gUp (e : zs) (k : Nat) : zs := uF e 2 (upd (rF e 2) k (rF e 2 k + nI 1))
def gWorstStep (t d : Nat) (wn : Nat → Nat) (w : Nat) (x : Int32 × zs) : Int32 × zs := if t / 2 ^ w % 2 = 1 then (if x.1 < rF (gUp x.2 (wn (w * 9 + d - 1))) 2 (wn (w * 9 + d - 1)) then rF (gUp x.2 (wn (w * 9 + d - 1))) 2 (wn (w * 9 + d - 1)) else x.1, gUp x.2 (wn (w * 9 + d - 1))) else x
def gWorst (t d : Nat) (wn : Nat → Nat) (e : zs) : Int32 × zs := zfw (gWorstStep t d wn) 0 10 (nI 0, zfw gClr 0 31 e)
theorem gWorstStep_1 {t d : Nat} {wn : Nat → Nat} {w : Nat} {x : Int32 × zs} : rF (gWorstStep t d wn w x).2 1 = rF x.2 1 := by
  unfold gWorstStep
  split <;> rfl
theorem gWorstL_1 (t d : Nat) (wn : Nat → Nat) : ∀ (n i : Nat) (x : Int32 × zs), rF (zfw (gWorstStep t d wn) i n x).2 1 = rF x.2 1
  | 0, _, _ => rfl
  | n + 1, i, x => (gWorstL_1 t d wn n (i + 1) _).trans gWorstStep_1
theorem gWorst_1 (t d : Nat) (wn : Nat → Nat) (e : zs) : rF (gWorst t d wn e).2 1 = rF e 1 := (gWorstL_1 t d wn 10 0 _).trans (gClr_1 31 0 e)
set_option maxRecDepth 20000 in
set_option maxHeartbeats 1000000 in
theorem lp_worst (G : zG) (pg nw kp sn ks fo ft gt mx : zs) (re : Nat → Int64) (m : zs) (hh : Int64) (t d : Nat) (ht : t < 2 ^ 31) (hd : 1 ≤ d ∧ d ≤ 9) (f : Nat → Int32) (wn : Nat → Nat) (hw : ∀ j, f j = nI (wn j) ∧ wn j ≤ 30) : ∀ (n i : Nat) (x : Int32 × zs), rF x.2 1 = f → i + n = 10 → zS G mX1_leftAtWorst 26 [some (.ref 36), some (.int (nI t)), some (.int (nI d)), some (.int x.1), some (.int (nI i)), none] [] (wW pg nw kp sn ks fo ft x.2 gt mx re m hh) (some (.int (zfw (gWorstStep t d wn) i n x).1)) (wW pg nw kp sn ks fo ft (zfw (gWorstStep t d wn) i n x).2 gt mx re m hh) := by
  intro n
  induction n with
  | zero =>
    intro i x he hi
    refine z_iload iX1_leftAtWorst_26 rfl ?_
    refine z_bipush iX1_leftAtWorst_28 zb_10 ?_
    refine zn_ge iX1_leftAtWorst_30 (by omega) (by omega) (fun q30 => ?_) (fun q30 => absurd q30 (by omega))
    refine z_iload_n iX1_leftAtWorst_88 rfl ?_
    exact z_ireturn iX1_leftAtWorst_89 (rfl) (rfl)
  | succ n ih =>
    intro i x he hi
    refine z_iload iX1_leftAtWorst_26 rfl ?_
    refine z_bipush iX1_leftAtWorst_28 zb_10 ?_
    refine zn_ge iX1_leftAtWorst_30 (by omega) (by omega) (fun q30 => absurd q30 (by omega)) (fun q30 => ?_)
    refine z_iload_n iX1_leftAtWorst_33 rfl ?_
    refine z_iload iX1_leftAtWorst_34 rfl ?_
    refine z_ishr iX1_leftAtWorst_36 ?_
    refine z_top (nix_shr (by omega) (by omega)) ?_
    refine z_iconst iX1_leftAtWorst_37 zk_1 ?_
    refine z_iand iX1_leftAtWorst_38 ?_
    refine z_top nix_and1 ?_
    refine z_iconst iX1_leftAtWorst_39 zk_1 ?_
    refine zn_ne iX1_leftAtWorst_40 (by omega) (by omega) (fun q40 => ?_) (fun q40 => ?_)
    · refine z_iinc iX1_leftAtWorst_82 rfl nix_inc rfl (by decide) ?_
      refine z_goto iX1_leftAtWorst_85 ?_
      first
        | (have k1 := ih (i + 1) (gWorstStep t d wn i x) (by rw [gWorstStep_1]; exact he) (by omega)
           rw [zfw]
           have e1 : gWorstStep t d wn i x = (if x.1 < rF (gUp x.2 (wn (i * 9 + d - 1))) 2 (wn (i * 9 + d - 1)) then rF (gUp x.2 (wn (i * 9 + d - 1))) 2 (wn (i * 9 + d - 1)) else x.1, gUp x.2 (wn (i * 9 + d - 1))) := by rw [gWorstStep, if_pos q40]
           rw [e1] at k1 ⊢
           refine z_weak ?_ k1
           exact zle_w (by simp [zle, zf3] <;> rfl))
        | (have k1 := ih (i + 1) (gWorstStep t d wn i x) (by rw [gWorstStep_1]; exact he) (by omega)
           rw [zfw]
           have e1 : gWorstStep t d wn i x = x := by rw [gWorstStep, if_neg q40]
           rw [e1] at k1 ⊢
           refine z_weak ?_ k1
           exact zle_w (by simp [zle, zf3] <;> rfl))
    · refine z_aload_n iX1_leftAtWorst_43 rfl ?_
      refine z_getf iX1_leftAtWorst_44 fX1_18 (we) (rfl) (by decide) ?_
      refine z_iload iX1_leftAtWorst_47 rfl ?_
      refine z_bipush iX1_leftAtWorst_49 zb_9 ?_
      refine z_imul iX1_leftAtWorst_51 ?_
      refine z_top nix_mul ?_
      refine z_iload_n iX1_leftAtWorst_52 rfl ?_
      refine z_iadd iX1_leftAtWorst_53 ?_
      refine z_top nix_add ?_
      refine z_iconst iX1_leftAtWorst_54 zk_1 ?_
      refine z_isub iX1_leftAtWorst_55 ?_
      refine z_top (nix_sub (by omega)) ?_
      refine z_iaload iX1_leftAtWorst_56 (we1) rfl (by omega) (by decide) (by decide) ?_
      rw [he, (hw _).1]
      have hw2 := (hw (i * 9 + d - 1)).2
      refine z_istore iX1_leftAtWorst_57 rfl (by decide) ?_
      refine z_aload_n iX1_leftAtWorst_59 rfl ?_
      refine z_getf iX1_leftAtWorst_60 fX1_22 (we) (rfl) (by decide) ?_
      refine z_iload iX1_leftAtWorst_63 rfl ?_
      refine z_dup2 iX1_leftAtWorst_65 rfl rfl ?_
      refine z_iaload iX1_leftAtWorst_66 (we2) rfl (by omega) (by decide) (by decide) ?_
      refine z_iconst iX1_leftAtWorst_67 zk_1 ?_
      refine z_iadd iX1_leftAtWorst_68 ?_
      refine z_iastore iX1_leftAtWorst_69 (we2) rfl (by omega) (by decide) (by decide) (by decide) ?_
      rw [we_2]
      refine z_iload_n iX1_leftAtWorst_70 rfl ?_
      refine z_aload_n iX1_leftAtWorst_71 rfl ?_
      refine z_getf iX1_leftAtWorst_72 fX1_22 (we) (rfl) (by decide) ?_
      refine z_iload iX1_leftAtWorst_75 rfl ?_
      refine z_iaload iX1_leftAtWorst_77 (we2) rfl (by omega) (by decide) (by decide) ?_
      refine z_mmax iX1_leftAtWorst_78 lX1_79 (by decide) (Nat.le_of_ble_eq_true rfl) ?_
      refine z_istore_n iX1_leftAtWorst_81 rfl (by decide) ?_
      refine z_iinc iX1_leftAtWorst_82 rfl nix_inc rfl (by decide) ?_
      refine z_goto iX1_leftAtWorst_85 ?_
      first
        | (have k1 := ih (i + 1) (gWorstStep t d wn i x) (by rw [gWorstStep_1]; exact he) (by omega)
           rw [zfw]
           have e1 : gWorstStep t d wn i x = (if x.1 < rF (gUp x.2 (wn (i * 9 + d - 1))) 2 (wn (i * 9 + d - 1)) then rF (gUp x.2 (wn (i * 9 + d - 1))) 2 (wn (i * 9 + d - 1)) else x.1, gUp x.2 (wn (i * 9 + d - 1))) := by rw [gWorstStep, if_pos q40]
           rw [e1] at k1 ⊢
           refine z_weak ?_ k1
           exact zle_w (by simp [zle, zf3] <;> rfl))
        | (have k1 := ih (i + 1) (gWorstStep t d wn i x) (by rw [gWorstStep_1]; exact he) (by omega)
           rw [zfw]
           have e1 : gWorstStep t d wn i x = x := by rw [gWorstStep, if_neg q40]
           rw [e1] at k1 ⊢
           refine z_weak ?_ k1
           exact zle_w (by simp [zle, zf3] <;> rfl))
set_option maxRecDepth 20000 in
set_option maxHeartbeats 1000000 in
theorem lp_clr (G : zG) (pg nw kp sn ks fo ft gt mx : zs) (re : Nat → Int64) (m : zs) (hh : Int64) (t d : Nat) (ht : t < 2 ^ 31) (hd : 1 ≤ d ∧ d ≤ 9) (f : Nat → Int32) (wn : Nat → Nat) (hw : ∀ j, f j = nI (wn j) ∧ wn j ≤ 30) : ∀ (n i : Nat) (e : zs), rF e 1 = f → i + n = 31 → zS G mX1_leftAtWorst 2 [some (.ref 36), some (.int (nI t)), some (.int (nI d)), some (.int (nI i)), none, none] [] (wW pg nw kp sn ks fo ft e gt mx re m hh) (some (.int (zfw (gWorstStep t d wn) 0 10 (nI 0, zfw gClr i n e)).1)) (wW pg nw kp sn ks fo ft (zfw (gWorstStep t d wn) 0 10 (nI 0, zfw gClr i n e)).2 gt mx re m hh) := by
  intro n
  induction n with
  | zero =>
    intro i e he hi
    refine z_iload_n iX1_leftAtWorst_2 rfl ?_
    refine z_bipush iX1_leftAtWorst_3 zb_30 ?_
    refine zn_gt iX1_leftAtWorst_5 (by omega) (by omega) (fun q5 => ?_) (fun q5 => absurd q5 (by omega))
    refine z_iconst iX1_leftAtWorst_21 zk_0 ?_
    refine z_istore_n iX1_leftAtWorst_22 rfl (by decide) ?_
    refine z_iconst iX1_leftAtWorst_23 zk_0 ?_
    refine z_istore iX1_leftAtWorst_24 rfl (by decide) ?_
    exact lp_worst G pg nw kp sn ks fo ft gt mx re m hh t d ht hd f wn hw 10 0 (nI 0, e) he rfl
  | succ n ih =>
    intro i e he hi
    refine z_iload_n iX1_leftAtWorst_2 rfl ?_
    refine z_bipush iX1_leftAtWorst_3 zb_30 ?_
    refine zn_gt iX1_leftAtWorst_5 (by omega) (by omega) (fun q5 => absurd q5 (by omega)) (fun q5 => ?_)
    refine z_aload_n iX1_leftAtWorst_8 rfl ?_
    refine z_getf iX1_leftAtWorst_9 fX1_22 (we) (rfl) (by decide) ?_
    refine z_iload_n iX1_leftAtWorst_12 rfl ?_
    refine z_iconst iX1_leftAtWorst_13 zk_0 ?_
    refine z_iastore iX1_leftAtWorst_14 (we2) rfl (by omega) (by decide) (by decide) (by decide) ?_
    rw [we_2]
    refine z_iinc iX1_leftAtWorst_15 rfl nix_inc rfl (by decide) ?_
    refine z_goto iX1_leftAtWorst_18 ?_
    exact ih (i + 1) (gClr i e) he (by omega)
set_option maxRecDepth 20000 in
set_option maxHeartbeats 1000000 in
theorem c_worst (G : zG) (pg nw kp sn ks fo ft fe gt mx : zs) (re : Nat → Int64) (m : zs) (hh : Int64) (t d : Nat) (ht : t < 2 ^ 31) (hd : 1 ≤ d ∧ d ≤ 9) (wn : Nat → Nat) (hw : ∀ j, rF fe 1 j = nI (wn j) ∧ wn j ≤ 30) : zK G mX1_leftAtWorst [.ref 36, .int (nI t), .int (nI d)] (wW pg nw kp sn ks fo ft fe gt mx re m hh) (some (.int (gWorst t d wn fe).1)) (wW pg nw kp sn ks fo ft (gWorst t d wn fe).2 gt mx re m hh) := by
  refine zK_of 3 rfl (by decide) trivial (Nat.le_of_ble_eq_true rfl) rfl ?_
  refine z_iconst iX1_leftAtWorst_0 zk_0 ?_
  refine z_istore_n iX1_leftAtWorst_1 rfl (by decide) ?_
  exact lp_clr G pg nw kp sn ks fo ft gt mx re m hh t d ht hd _ wn hw 31 0 fe rfl rfl
def gBestStep (t : Nat) (wn : Nat → Nat) (d : Nat) (x : Int32 × Int32 × zs) : Int32 × Int32 × zs := if x.2.1 ≤ (gWorst t d wn x.2.2).1 then (x.1, x.2.1, (gWorst t d wn x.2.2).2) else (nI d, (gWorst t d wn x.2.2).1, (gWorst t d wn x.2.2).2)
theorem gBestStep_1 {t d : Nat} {wn : Nat → Nat} {x : Int32 × Int32 × zs} : rF (gBestStep t wn d x).2.2 1 = rF x.2.2 1 := by
  unfold gBestStep
  split <;> exact gWorst_1 _ _ _ _
def gBest (t : Nat) (wn : Nat → Nat) (e : zs) : Int32 × Int32 × zs := zfw (gBestStep t wn) 1 9 (-1, nI 11, e)
set_option maxRecDepth 20000 in
set_option maxHeartbeats 1000000 in
theorem lp_best (G : zG) (pg nw kp sn ks fo ft gt mx : zs) (re : Nat → Int64) (m : zs) (hh : Int64) (c t : Nat) (ht : t < 2 ^ 31) (f : Nat → Int32) (wn : Nat → Nat) (hw : ∀ j, f j = nI (wn j) ∧ wn j ≤ 30) : ∀ (n i : Nat) (x : Int32 × Int32 × zs), rF x.2.2 1 = f → i + n = 10 → 1 ≤ i → zS G mX1_bestDay 31 [some (.ref 36), some (.ref 3), some (.ref 19), some (.int (nI c)), some (.int (nI t)), some (.int x.1), some (.int x.2.1), some (.int (nI i)), none] [] (wW pg nw kp sn ks fo ft x.2.2 gt mx re m hh) (some (.int (zfw (gBestStep t wn) i n x).1)) (wW pg nw kp sn ks fo ft (zfw (gBestStep t wn) i n x).2.2 gt mx re m hh) := by
  intro n
  induction n with
  | zero =>
    intro i x he hi h1
    refine z_iload iX1_bestDay_31 rfl ?_
    refine z_bipush iX1_bestDay_33 zb_9 ?_
    refine zn_gt iX1_bestDay_35 (by omega) (by omega) (fun q35 => ?_) (fun q35 => absurd q35 (by omega))
    refine z_iload iX1_bestDay_69 rfl ?_
    exact z_ireturn iX1_bestDay_71 (rfl) (rfl)
  | succ n ih =>
    intro i x he hi h1
    refine z_iload iX1_bestDay_31 rfl ?_
    refine z_bipush iX1_bestDay_33 zb_9 ?_
    refine zn_gt iX1_bestDay_35 (by omega) (by omega) (fun q35 => absurd q35 (by omega)) (fun q35 => ?_)
    refine z_aload_n iX1_bestDay_38 rfl ?_
    refine z_iload iX1_bestDay_39 rfl ?_
    refine z_iload iX1_bestDay_41 rfl ?_
    refine z_cvi (y1 := mX1_leftAtWorst) iX1_bestDay_43 lX1_33 kX1_leftAtWorst rfl (c_worst G pg nw kp sn ks fo ft x.2.2 gt mx re m hh t i ht ⟨by omega, by omega⟩ wn (by rw [he]; exact hw)) (we) rfl rfl rfl (Nat.le_of_ble_eq_true rfl) (by decide) ?_
    refine z_istore iX1_bestDay_46 rfl (by decide) ?_
    refine z_iload iX1_bestDay_48 rfl ?_
    refine z_iload iX1_bestDay_50 rfl ?_
    refine z_icmp_ge iX1_bestDay_52 (fun q52 => ?_) (fun q52 => ?_)
    · refine z_iinc iX1_bestDay_63 rfl nix_inc rfl (by decide) ?_
      refine z_goto iX1_bestDay_66 ?_
      first
        | (have k1 := ih (i + 1) (gBestStep t wn i x) (by rw [gBestStep_1]; exact he) (by omega) (by omega)
           rw [zfw]
           have e1 : gBestStep t wn i x = (x.1, x.2.1, (gWorst t i wn x.2.2).2) := by rw [gBestStep, if_pos q52]
           rw [e1] at k1 ⊢
           refine z_weak ?_ k1
           exact zle_w (by simp [zle, zf3] <;> rfl))
        | (have k1 := ih (i + 1) (gBestStep t wn i x) (by rw [gBestStep_1]; exact he) (by omega) (by omega)
           rw [zfw]
           have e1 : gBestStep t wn i x = (nI i, (gWorst t i wn x.2.2).1, (gWorst t i wn x.2.2).2) := by rw [gBestStep, if_neg q52]
           rw [e1] at k1 ⊢
           refine z_weak ?_ k1
           exact zle_w (by simp [zle, zf3] <;> rfl))
    · refine z_iload iX1_bestDay_55 rfl ?_
      refine z_istore iX1_bestDay_57 rfl (by decide) ?_
      refine z_iload iX1_bestDay_59 rfl ?_
      refine z_istore iX1_bestDay_61 rfl (by decide) ?_
      refine z_iinc iX1_bestDay_63 rfl nix_inc rfl (by decide) ?_
      refine z_goto iX1_bestDay_66 ?_
      first
        | (have k1 := ih (i + 1) (gBestStep t wn i x) (by rw [gBestStep_1]; exact he) (by omega) (by omega)
           rw [zfw]
           have e1 : gBestStep t wn i x = (x.1, x.2.1, (gWorst t i wn x.2.2).2) := by rw [gBestStep, if_pos q52]
           rw [e1] at k1 ⊢
           refine z_weak ?_ k1
           exact zle_w (by simp [zle, zf3] <;> rfl))
        | (have k1 := ih (i + 1) (gBestStep t wn i x) (by rw [gBestStep_1]; exact he) (by omega) (by omega)
           rw [zfw]
           have e1 : gBestStep t wn i x = (nI i, (gWorst t i wn x.2.2).1, (gWorst t i wn x.2.2).2) := by rw [gBestStep, if_neg q52]
           rw [e1] at k1 ⊢
           refine z_weak ?_ k1
           exact zle_w (by simp [zle, zf3] <;> rfl))
set_option maxRecDepth 20000 in
set_option maxHeartbeats 1000000 in
theorem c_bestDay0 (G : zG) (pg nw kp sn ks fo ft fe gt mx : zs) (re : Nat → Int64) (m : zs) (hh : Int64) (hb : bOK nw) (hs : sOK sn) (c : Nat) (hc : c < 9) (h0 : gWets sn (gAll nw c (gt, fe)).2 c = 0) : zK G mX1_bestDay [.ref 36, .ref 3, .ref 19, .int (nI c)] (wW pg nw kp sn ks fo ft fe gt mx re m hh) (some (.int (-1))) (wW pg nw kp sn ks fo ft (gAll nw c (gt, fe)).2 (gAll nw c (gt, fe)).1 mx re m hh) := by
  refine zK_of 5 rfl (by decide) trivial (Nat.le_of_ble_eq_true rfl) rfl ?_
  refine z_aload_n iX1_bestDay_0 rfl ?_
  refine z_aload_n iX1_bestDay_1 rfl ?_
  refine z_iload_n iX1_bestDay_2 rfl ?_
  refine z_cvv (y1 := mX1_tryAll) iX1_bestDay_3 lX1_25 kX1_tryAll rfl (c_tryAll G pg nw kp sn ks fo ft fe gt mx re m hh hb c hc) (we) rfl rfl rfl (Nat.le_of_ble_eq_true rfl) (by decide) ?_
  refine z_aload_n iX1_bestDay_6 rfl ?_
  refine z_aload_n iX1_bestDay_7 rfl ?_
  refine z_iload_n iX1_bestDay_8 rfl ?_
  refine z_cvi (y1 := mX1_wetsThatFit) iX1_bestDay_9 lX1_29 kX1_wetsThatFit rfl (c_wetsFit G pg nw kp sn ks fo ft _ _ mx re m hh hs c hc) (we) rfl rfl rfl (Nat.le_of_ble_eq_true rfl) (by decide) ?_
  refine z_istore iX1_bestDay_12 rfl (by decide) ?_
  refine z_iload iX1_bestDay_14 rfl ?_
  refine zn_if_ne iX1_bestDay_16 (by omega) (fun q16 => absurd q16 (by omega)) (fun q16 => ?_)
  refine z_iconst iX1_bestDay_19 zk_m1 ?_
  exact z_ireturn iX1_bestDay_20 (rfl) (rfl)
set_option maxRecDepth 20000 in
set_option maxHeartbeats 1000000 in
theorem c_bestDay1 (G : zG) (pg nw kp sn ks fo ft fe gt mx : zs) (re : Nat → Int64) (m : zs) (hh : Int64) (hb : bOK nw) (hs : sOK sn) (c : Nat) (hc : c < 9) (t : Nat) (ht : t < 2 ^ 31) (h0 : gWets sn (gAll nw c (gt, fe)).2 c = t) (hn : ¬ t = 0) (wn : Nat → Nat) (hw : ∀ j, rF (gAll nw c (gt, fe)).2 1 j = nI (wn j) ∧ wn j ≤ 30) : zK G mX1_bestDay [.ref 36, .ref 3, .ref 19, .int (nI c)] (wW pg nw kp sn ks fo ft fe gt mx re m hh) (some (.int (gBest t wn (gAll nw c (gt, fe)).2).1)) (wW pg nw kp sn ks fo ft (gBest t wn (gAll nw c (gt, fe)).2).2.2 (gAll nw c (gt, fe)).1 mx re m hh) := by
  refine zK_of 5 rfl (by decide) trivial (Nat.le_of_ble_eq_true rfl) rfl ?_
  refine z_aload_n iX1_bestDay_0 rfl ?_
  refine z_aload_n iX1_bestDay_1 rfl ?_
  refine z_iload_n iX1_bestDay_2 rfl ?_
  refine z_cvv (y1 := mX1_tryAll) iX1_bestDay_3 lX1_25 kX1_tryAll rfl (c_tryAll G pg nw kp sn ks fo ft fe gt mx re m hh hb c hc) (we) rfl rfl rfl (Nat.le_of_ble_eq_true rfl) (by decide) ?_
  refine z_aload_n iX1_bestDay_6 rfl ?_
  refine z_aload_n iX1_bestDay_7 rfl ?_
  refine z_iload_n iX1_bestDay_8 rfl ?_
  refine z_cvi (y1 := mX1_wetsThatFit) iX1_bestDay_9 lX1_29 kX1_wetsThatFit rfl (c_wetsFit G pg nw kp sn ks fo ft _ _ mx re m hh hs c hc) (we) rfl rfl rfl (Nat.le_of_ble_eq_true rfl) (by decide) ?_
  rw [h0]
  refine z_istore iX1_bestDay_12 rfl (by decide) ?_
  refine z_iload iX1_bestDay_14 rfl ?_
  refine zn_if_ne iX1_bestDay_16 (by omega) (fun q16 => ?_) (fun q16 => absurd q16 (by omega))
  refine z_iconst iX1_bestDay_21 zk_m1 ?_
  refine z_istore iX1_bestDay_22 rfl (by decide) ?_
  refine z_bipush iX1_bestDay_24 zb_11 ?_
  refine z_istore iX1_bestDay_26 rfl (by decide) ?_
  refine z_iconst iX1_bestDay_28 zk_1 ?_
  refine z_istore iX1_bestDay_29 rfl (by decide) ?_
  exact lp_best G pg nw kp sn ks fo ft _ mx re m hh c t ht _ wn hw 9 1 (-1, nI 11, (gAll nw c (gt, fe)).2) rfl rfl (Nat.le_refl _)
