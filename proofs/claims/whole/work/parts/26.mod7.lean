def mSn (m : zs) (dy : Nat → Nat) : Prop := rN m 24 ≤ 6 ∧ ∀ j, j < rN m 24 → rF m 25 (3 * j + 1) = nI (dy j) ∧ 1 ≤ dy j ∧ dy j ≤ 9
def mLdF (m : zs) (dy : Nat → Nat) (c so j u : Nat) : Nat := if rF m 25 (3 * j) = nI c then (if u = 0 then 0 else if rF m 26 (9 * so + dy j - 1) = rF m 25 (3 * j + 2) then 1 else 0) else u
def mLdU (m : zs) (dy : Nat → Nat) (c so : Nat) : Nat := zfw (mLdF m dy c so) 0 (rN m 24) 1
def mLdB (m : zs) (dy : Nat → Nat) (c so bits : Nat) : Nat := if mLdU m dy c so = 0 then bits ||| 0 else bits ||| 1 * 2 ^ so
def mLaid (m : zs) (dy : Nat → Nat) (c : Nat) : Nat := zfw (mLdB m dy c) 0 10 0
theorem mLdF_le (m : zs) (dy : Nat → Nat) (c so j u : Nat) (h : u ≤ 1) : mLdF m dy c so j u ≤ 1 := by
  unfold mLdF
  repeat' split
  all_goals omega
set_option maxRecDepth 20000 in
set_option maxHeartbeats 1000000 in
theorem lpm_ld (G : zG) (pg nw kp sn ks fo ft fe gt mx : zs) (re : Nat → Int64) (m : zs) (hh : Int64) (dy : Nat → Nat) (hs : mSn m dy) (c so bits : Nat) (hc : c < 9) (hso : so < 10) (R : Option Value) (g2 : zh) : ∀ (n i : Nat) (u : Nat), u ≤ 1 → i + n = rN m 24 → (∀ y, y = zfw (mLdF m dy c so) i n u → zS G mX8_wetsLaid 89 [some (.ref 49), some (.int (nI c)), some (.int (nI bits)), some (.int (nI so)), some (.int (nI y)), none] [] (wW pg nw kp sn ks fo ft fe gt mx re m hh) R g2) → zS G mX8_wetsLaid 16 [some (.ref 49), some (.int (nI c)), some (.int (nI bits)), some (.int (nI so)), some (.int (nI u)), some (.int (nI (3 * i)))] [] (wW pg nw kp sn ks fo ft fe gt mx re m hh) R (g2) := by
  obtain ⟨s1, s2⟩ := id hs
  intro n
  induction n with
  | zero =>
    intro i u hu hi hk
    refine z_iload iX8_wetsLaid_16 rfl ?_
    refine z_iconst iX8_wetsLaid_18 zk_3 ?_
    refine z_aload_n iX8_wetsLaid_19 rfl ?_
    refine z_getf iX8_wetsLaid_20 fX8_125 (wm) (mF_24 _ _) (by decide) ?_
    refine z_imul iX8_wetsLaid_23 ?_
    refine z_top nix_mul ?_
    refine zn_ge iX8_wetsLaid_24 (by omega) (by omega) (fun q24 => ?_) (fun q24 => absurd q24 (by omega))
    refine z_weak ?_ (hk _ rfl)
    exact zle_w (by simp [zle, zf3] <;> rfl)
  | succ n ih =>
    intro i u hu hi hk
    obtain ⟨t1, t2, t3⟩ := s2 i (by omega)
    refine z_iload iX8_wetsLaid_16 rfl ?_
    refine z_iconst iX8_wetsLaid_18 zk_3 ?_
    refine z_aload_n iX8_wetsLaid_19 rfl ?_
    refine z_getf iX8_wetsLaid_20 fX8_125 (wm) (mF_24 _ _) (by decide) ?_
    refine z_imul iX8_wetsLaid_23 ?_
    refine z_top nix_mul ?_
    refine zn_ge iX8_wetsLaid_24 (by omega) (by omega) (fun q24 => absurd q24 (by omega)) (fun q24 => ?_)
    refine z_aload_n iX8_wetsLaid_27 rfl ?_
    refine z_getf iX8_wetsLaid_28 fX8_52 (wm) (mF_25 _ _) (by decide) ?_
    refine z_iload iX8_wetsLaid_31 rfl ?_
    refine z_iaload iX8_wetsLaid_33 (wm25) rfl (by omega) (by decide) (by decide) ?_
    refine z_iload_n iX8_wetsLaid_34 rfl ?_
    refine z_icmp_ne iX8_wetsLaid_35 (fun q35 => ?_) (fun q35 => ?_)
    · refine z_iinc iX8_wetsLaid_83 rfl (nix_incs 3 zk_3) rfl (by decide) ?_
      refine z_goto iX8_wetsLaid_86 ?_
      first
        | (have e1 : mLdF m dy c so i u = u := by rw [mLdF, if_neg q35]
           have k1 := ih (i + 1) (mLdF m dy c so i u) (mLdF_le _ _ _ _ _ _ hu) (by omega) (by rw [zfw] at hk; exact hk)
           rw [e1] at k1
           exact k1)
        | (have e1 : mLdF m dy c so i u = 0 := by rw [mLdF, if_pos q35, if_pos q40]
           have k1 := ih (i + 1) (mLdF m dy c so i u) (mLdF_le _ _ _ _ _ _ hu) (by omega) (by rw [zfw] at hk; exact hk)
           rw [e1] at k1
           exact k1)
        | (have e1 : mLdF m dy c so i u = 1 := by rw [mLdF, if_pos q35, if_neg q40, if_pos q73]
           have k1 := ih (i + 1) (mLdF m dy c so i u) (mLdF_le _ _ _ _ _ _ hu) (by omega) (by rw [zfw] at hk; exact hk)
           rw [e1] at k1
           exact k1)
        | (have e1 : mLdF m dy c so i u = 0 := by rw [mLdF, if_pos q35, if_neg q40, if_neg q73]
           have k1 := ih (i + 1) (mLdF m dy c so i u) (mLdF_le _ _ _ _ _ _ hu) (by omega) (by rw [zfw] at hk; exact hk)
           rw [e1] at k1
           exact k1)
    · refine z_iload iX8_wetsLaid_38 rfl ?_
      refine zn_if_eq iX8_wetsLaid_40 (by omega) (fun q40 => ?_) (fun q40 => ?_)
      · refine z_iconst iX8_wetsLaid_80 zk_0 ?_
        refine z_istore iX8_wetsLaid_81 rfl (by decide) ?_
        refine z_iinc iX8_wetsLaid_83 rfl (nix_incs 3 zk_3) rfl (by decide) ?_
        refine z_goto iX8_wetsLaid_86 ?_
        first
          | (have e1 : mLdF m dy c so i u = u := by rw [mLdF, if_neg q35]
             have k1 := ih (i + 1) (mLdF m dy c so i u) (mLdF_le _ _ _ _ _ _ hu) (by omega) (by rw [zfw] at hk; exact hk)
             rw [e1] at k1
             exact k1)
          | (have e1 : mLdF m dy c so i u = 0 := by rw [mLdF, if_pos q35, if_pos q40]
             have k1 := ih (i + 1) (mLdF m dy c so i u) (mLdF_le _ _ _ _ _ _ hu) (by omega) (by rw [zfw] at hk; exact hk)
             rw [e1] at k1
             exact k1)
          | (have e1 : mLdF m dy c so i u = 1 := by rw [mLdF, if_pos q35, if_neg q40, if_pos q73]
             have k1 := ih (i + 1) (mLdF m dy c so i u) (mLdF_le _ _ _ _ _ _ hu) (by omega) (by rw [zfw] at hk; exact hk)
             rw [e1] at k1
             exact k1)
          | (have e1 : mLdF m dy c so i u = 0 := by rw [mLdF, if_pos q35, if_neg q40, if_neg q73]
             have k1 := ih (i + 1) (mLdF m dy c so i u) (mLdF_le _ _ _ _ _ _ hu) (by omega) (by rw [zfw] at hk; exact hk)
             rw [e1] at k1
             exact k1)
      · refine z_aload_n iX8_wetsLaid_43 rfl ?_
        refine z_getf iX8_wetsLaid_44 fX8_55 (wm) (mF_26 _ _) (by decide) ?_
        refine z_bipush iX8_wetsLaid_47 zb_9 ?_
        refine z_iload_n iX8_wetsLaid_49 rfl ?_
        refine z_imul iX8_wetsLaid_50 ?_
        refine z_top nix_mul ?_
        refine z_aload_n iX8_wetsLaid_51 rfl ?_
        refine z_getf iX8_wetsLaid_52 fX8_52 (wm) (mF_25 _ _) (by decide) ?_
        refine z_iload iX8_wetsLaid_55 rfl ?_
        refine z_iconst iX8_wetsLaid_57 zk_1 ?_
        refine z_iadd iX8_wetsLaid_58 ?_
        refine z_top nix_add ?_
        refine z_iaload iX8_wetsLaid_59 (wm25) rfl (by omega) (by decide) (by decide) ?_
        refine z_top t1 ?_
        refine z_iadd iX8_wetsLaid_60 ?_
        refine z_top nix_add ?_
        refine z_iconst iX8_wetsLaid_61 zk_1 ?_
        refine z_isub iX8_wetsLaid_62 ?_
        refine z_top (nix_sub (by omega)) ?_
        refine z_iaload iX8_wetsLaid_63 (wm26) rfl (by omega) (by decide) (by decide) ?_
        refine z_aload_n iX8_wetsLaid_64 rfl ?_
        refine z_getf iX8_wetsLaid_65 fX8_52 (wm) (mF_25 _ _) (by decide) ?_
        refine z_iload iX8_wetsLaid_68 rfl ?_
        refine z_iconst iX8_wetsLaid_70 zk_2 ?_
        refine z_iadd iX8_wetsLaid_71 ?_
        refine z_top nix_add ?_
        refine z_iaload iX8_wetsLaid_72 (wm25) rfl (by omega) (by decide) (by decide) ?_
        refine z_icmp_ne iX8_wetsLaid_73 (fun q73 => ?_) (fun q73 => ?_)
        · refine z_iconst iX8_wetsLaid_80 zk_0 ?_
          refine z_istore iX8_wetsLaid_81 rfl (by decide) ?_
          refine z_iinc iX8_wetsLaid_83 rfl (nix_incs 3 zk_3) rfl (by decide) ?_
          refine z_goto iX8_wetsLaid_86 ?_
          first
            | (have e1 : mLdF m dy c so i u = u := by rw [mLdF, if_neg q35]
               have k1 := ih (i + 1) (mLdF m dy c so i u) (mLdF_le _ _ _ _ _ _ hu) (by omega) (by rw [zfw] at hk; exact hk)
               rw [e1] at k1
               exact k1)
            | (have e1 : mLdF m dy c so i u = 0 := by rw [mLdF, if_pos q35, if_pos q40]
               have k1 := ih (i + 1) (mLdF m dy c so i u) (mLdF_le _ _ _ _ _ _ hu) (by omega) (by rw [zfw] at hk; exact hk)
               rw [e1] at k1
               exact k1)
            | (have e1 : mLdF m dy c so i u = 1 := by rw [mLdF, if_pos q35, if_neg q40, if_pos q73]
               have k1 := ih (i + 1) (mLdF m dy c so i u) (mLdF_le _ _ _ _ _ _ hu) (by omega) (by rw [zfw] at hk; exact hk)
               rw [e1] at k1
               exact k1)
            | (have e1 : mLdF m dy c so i u = 0 := by rw [mLdF, if_pos q35, if_neg q40, if_neg q73]
               have k1 := ih (i + 1) (mLdF m dy c so i u) (mLdF_le _ _ _ _ _ _ hu) (by omega) (by rw [zfw] at hk; exact hk)
               rw [e1] at k1
               exact k1)
        · refine z_iconst iX8_wetsLaid_76 zk_1 ?_
          refine z_goto iX8_wetsLaid_77 ?_
          refine z_istore iX8_wetsLaid_81 rfl (by decide) ?_
          refine z_iinc iX8_wetsLaid_83 rfl (nix_incs 3 zk_3) rfl (by decide) ?_
          refine z_goto iX8_wetsLaid_86 ?_
          first
            | (have e1 : mLdF m dy c so i u = u := by rw [mLdF, if_neg q35]
               have k1 := ih (i + 1) (mLdF m dy c so i u) (mLdF_le _ _ _ _ _ _ hu) (by omega) (by rw [zfw] at hk; exact hk)
               rw [e1] at k1
               exact k1)
            | (have e1 : mLdF m dy c so i u = 0 := by rw [mLdF, if_pos q35, if_pos q40]
               have k1 := ih (i + 1) (mLdF m dy c so i u) (mLdF_le _ _ _ _ _ _ hu) (by omega) (by rw [zfw] at hk; exact hk)
               rw [e1] at k1
               exact k1)
            | (have e1 : mLdF m dy c so i u = 1 := by rw [mLdF, if_pos q35, if_neg q40, if_pos q73]
               have k1 := ih (i + 1) (mLdF m dy c so i u) (mLdF_le _ _ _ _ _ _ hu) (by omega) (by rw [zfw] at hk; exact hk)
               rw [e1] at k1
               exact k1)
            | (have e1 : mLdF m dy c so i u = 0 := by rw [mLdF, if_pos q35, if_neg q40, if_neg q73]
               have k1 := ih (i + 1) (mLdF m dy c so i u) (mLdF_le _ _ _ _ _ _ hu) (by omega) (by rw [zfw] at hk; exact hk)
               rw [e1] at k1
               exact k1)
theorem mLdL_le (m : zs) (dy : Nat → Nat) (c so : Nat) : ∀ (n i u : Nat), u ≤ 1 → zfw (mLdF m dy c so) i n u ≤ 1
  | 0, _, _, h => h
  | n + 1, i, u, h => mLdL_le m dy c so n (i + 1) _ (mLdF_le m dy c so i u h)
set_option maxRecDepth 20000 in
set_option maxHeartbeats 1000000 in
theorem lpm_laid (G : zG) (pg nw kp sn ks fo ft fe gt mx : zs) (re : Nat → Int64) (m : zs) (hh : Int64) (dy : Nat → Nat) (hs : mSn m dy) (c : Nat) (hc : c < 9) : ∀ (n i : Nat) (bits : Nat), i + n = 10 → zS G mX8_wetsLaid 4 [some (.ref 49), some (.int (nI c)), some (.int (nI bits)), some (.int (nI i)), none, none] [] (wW pg nw kp sn ks fo ft fe gt mx re m hh) (some (.int (nI (zfw (mLdB m dy c) i n bits)))) (wW pg nw kp sn ks fo ft fe gt mx re m hh) := by
  intro n
  induction n with
  | zero =>
    intro i bits hi
    refine z_iload_n iX8_wetsLaid_4 rfl ?_
    refine z_bipush iX8_wetsLaid_5 zb_10 ?_
    refine zn_ge iX8_wetsLaid_7 (by omega) (by omega) (fun q7 => ?_) (fun q7 => absurd q7 (by omega))
    refine z_iload_n iX8_wetsLaid_110 rfl ?_
    exact z_ireturn iX8_wetsLaid_111 (rfl) (rfl)
  | succ n ih =>
    intro i bits hi
    refine z_iload_n iX8_wetsLaid_4 rfl ?_
    refine z_bipush iX8_wetsLaid_5 zb_10 ?_
    refine zn_ge iX8_wetsLaid_7 (by omega) (by omega) (fun q7 => absurd q7 (by omega)) (fun q7 => ?_)
    refine z_iconst iX8_wetsLaid_10 zk_1 ?_
    refine z_istore iX8_wetsLaid_11 rfl (by decide) ?_
    refine z_iconst iX8_wetsLaid_13 zk_0 ?_
    refine z_istore iX8_wetsLaid_14 rfl (by decide) ?_
    refine lpm_ld G pg nw kp sn ks fo ft fe gt mx re m hh dy hs c i bits hc (by omega) _ _ _ 0 1 (Nat.le_refl _) (Nat.zero_add _) (fun y e => ?_)
    have hu : y ≤ 1 := by
      subst e
      exact mLdL_le m dy c i _ 0 1 (Nat.le_refl _)
    have e : mLdU m dy c i = y := e.symm
    subst e
    refine z_iload_n iX8_wetsLaid_89 rfl ?_
    refine z_iload iX8_wetsLaid_90 rfl ?_
    refine zn_if_eq iX8_wetsLaid_92 (by omega) (fun q92 => ?_) (fun q92 => ?_)
    · refine z_iconst iX8_wetsLaid_101 zk_0 ?_
      refine z_ior iX8_wetsLaid_102 ?_
      refine z_top nix_or ?_
      refine z_istore_n iX8_wetsLaid_103 rfl (by decide) ?_
      refine z_iinc iX8_wetsLaid_104 rfl nix_inc rfl (by decide) ?_
      refine z_goto iX8_wetsLaid_107 ?_
      first
        | (have e1 : mLdB m dy c i bits = bits ||| 0 := by rw [mLdB, if_pos q92]
           rw [zfw, e1]
           refine z_weak ?_ (ih (i + 1) _ (by omega))
           exact zle_w (by simp [zle, zf3] <;> rfl))
        | (have e1 : mLdB m dy c i bits = bits ||| 1 * 2 ^ i := by rw [mLdB, if_neg q92]
           rw [zfw, e1]
           refine z_weak ?_ (ih (i + 1) _ (by omega))
           exact zle_w (by simp [zle, zf3] <;> rfl))
    · refine z_iconst iX8_wetsLaid_95 zk_1 ?_
      refine z_iload_n iX8_wetsLaid_96 rfl ?_
      refine z_ishl iX8_wetsLaid_97 ?_
      refine z_top (nix_shl (by omega) (zp1 (by omega))) ?_
      refine z_goto iX8_wetsLaid_98 ?_
      refine z_ior iX8_wetsLaid_102 ?_
      refine z_top nix_or ?_
      refine z_istore_n iX8_wetsLaid_103 rfl (by decide) ?_
      refine z_iinc iX8_wetsLaid_104 rfl nix_inc rfl (by decide) ?_
      refine z_goto iX8_wetsLaid_107 ?_
      first
        | (have e1 : mLdB m dy c i bits = bits ||| 0 := by rw [mLdB, if_pos q92]
           rw [zfw, e1]
           refine z_weak ?_ (ih (i + 1) _ (by omega))
           exact zle_w (by simp [zle, zf3] <;> rfl))
        | (have e1 : mLdB m dy c i bits = bits ||| 1 * 2 ^ i := by rw [mLdB, if_neg q92]
           rw [zfw, e1]
           refine z_weak ?_ (ih (i + 1) _ (by omega))
           exact zle_w (by simp [zle, zf3] <;> rfl))
set_option maxRecDepth 20000 in
set_option maxHeartbeats 1000000 in
theorem cm_laid (G : zG) (pg nw kp sn ks fo ft fe gt mx : zs) (re : Nat → Int64) (m : zs) (hh : Int64) (dy : Nat → Nat) (hs : mSn m dy) (c : Nat) (hc : c < 9) : zK G mX8_wetsLaid [.ref 49, .int (nI c)] (wW pg nw kp sn ks fo ft fe gt mx re m hh) (some (.int (nI (mLaid m dy c)))) (wW pg nw kp sn ks fo ft fe gt mx re m hh) := by
  refine zK_of 4 rfl (by decide) trivial (Nat.le_of_ble_eq_true rfl) rfl ?_
  refine z_iconst iX8_wetsLaid_0 zk_0 ?_
  refine z_istore_n iX8_wetsLaid_1 rfl (by decide) ?_
  refine z_iconst iX8_wetsLaid_2 zk_0 ?_
  refine z_istore_n iX8_wetsLaid_3 rfl (by decide) ?_
  exact lpm_laid G pg nw kp sn ks fo ft fe gt mx re m hh dy hs c hc 10 0 0 rfl
set_option maxRecDepth 20000 in
set_option maxHeartbeats 1000000 in
theorem cm_wetsOf (G : zG) (pg nw kp sn ks fo ft fe gt mx : zs) (re : Nat → Int64) (m : zs) (hh : Int64) (hm : mOK m) (hp : mHP m) (dy : Nat → Nat) (c : Nat) (hc : c < 9) (hs : mSn (mWays m c) dy) : zK G mX8_wetsOf [.ref 49, .int (nI c)] (wW pg nw kp sn ks fo ft fe gt mx re m hh) (some (.int (nI (mLaid (mWays m c) dy c)))) (wW pg nw kp sn ks fo ft fe gt mx re (mWays m c) hh) := by
  refine zK_of 0 rfl (by decide) trivial (Nat.le_of_ble_eq_true rfl) rfl ?_
  refine z_aload_n iX8_wetsOf_0 rfl ?_
  refine z_iload_n iX8_wetsOf_1 rfl ?_
  refine z_cvv (y1 := mX8_layWays) iX8_wetsOf_2 lX8_269 kX8_layWays rfl (cm_layWays G pg nw kp sn ks fo ft fe gt mx re m hh hm hp c hc) (wm) rfl rfl rfl (Nat.le_of_ble_eq_true rfl) (by decide) ?_
  refine z_aload_n iX8_wetsOf_5 rfl ?_
  refine z_iload_n iX8_wetsOf_6 rfl ?_
  refine z_cvi (y1 := mX8_wetsLaid) iX8_wetsOf_7 lX8_272 kX8_wetsLaid rfl (cm_laid G pg nw kp sn ks fo ft fe gt mx re _ hh dy hs c hc) (wm) rfl rfl rfl (Nat.le_of_ble_eq_true rfl) (by decide) ?_
  exact z_ireturn iX8_wetsOf_10 (rfl) (rfl)
def mSmF (m : zs) (t d so q s : Nat) : Nat := if rF m 26 (9 * q + d) = rF m 26 (9 * so + d) then s + t / 2 ^ q % 2 else s + 0
def mSm (m : zs) (t d so : Nat) : Nat := zfw (mSmF m t d so) 0 10 0
def mWsF (m : zs) (t d so w : Nat) : Nat := if t / 2 ^ so % 2 = 1 then (if mSm m t d so ≤ w then w else mSm m t d so) else w
def mWs (m : zs) (t d : Nat) : Nat := zfw (mWsF m t d) 0 10 0
def mFlL (m : zs) (t : Nat) : Nat → Nat → Option Nat → Nat → Option Nat
  | 0, _, be, _ => be
  | n + 1, i, be, le => if le ≤ mWs m t i then mFlL m t n (i + 1) be le else mFlL m t n (i + 1) (some (i + 1)) (mWs m t i)
def mFeel (m : zs) (t : Nat) : Option Nat := if t = 0 then none else mFlL m t 9 0 none 11
theorem mSmL_le (m : zs) (t d so : Nat) : ∀ (n i s : Nat), zfw (mSmF m t d so) i n s ≤ s + n
  | 0, _, _ => Nat.le_refl _
  | n + 1, i, s => by
    have h := mSmL_le m t d so n (i + 1) (mSmF m t d so i s)
    have h2 : mSmF m t d so i s ≤ s + 1 := by
      unfold mSmF
      split
      · have := Nat.mod_lt (t / 2 ^ i) (show 2 > 0 by decide); omega
      · omega
    show zfw _ (i + 1) n _ ≤ _
    omega
theorem mSm_le (m : zs) (t d so : Nat) : mSm m t d so ≤ 10 := by have := mSmL_le m t d so 10 0 0; unfold mSm; omega
theorem mWsF_le (m : zs) (t d so w : Nat) (h : w ≤ 10) : mWsF m t d so w ≤ 10 := by
  have := mSm_le m t d so
  unfold mWsF
  repeat' split
  all_goals omega
theorem mWsL_le (m : zs) (t d : Nat) : ∀ (n i w : Nat), w ≤ 10 → zfw (mWsF m t d) i n w ≤ 10
  | 0, _, _, h => h
  | n + 1, i, w, h => mWsL_le m t d n (i + 1) _ (mWsF_le m t d i w h)
set_option maxRecDepth 20000 in
set_option maxHeartbeats 1000000 in
theorem lpm_sm (G : zG) (pg nw kp sn ks fo ft fe gt mx : zs) (re : Nat → Int64) (m : zs) (hh : Int64) (c t : Nat) (ht : t < 2 ^ 30) (be : Int32) (le d : Nat) (hd : d < 9) (R : Option Value) (g2 : zh) (w so : Nat) (hso : so < 10) : ∀ (n i : Nat) (s : Nat), i + n = 10 → (∀ y, y = zfw (mSmF m t d so) i n s → zS G mX8_feelOf 107 [some (.ref 49), some (.int (nI c)), some (.int (nI t)), some (.int be), some (.int (nI le)), some (.int (nI d)), some (.int (nI w)), some (.int (nI so)), some (.int (nI y)), none] [] (wW pg nw kp sn ks fo ft fe gt mx re m hh) R g2) → zS G mX8_feelOf 50 [some (.ref 49), some (.int (nI c)), some (.int (nI t)), some (.int be), some (.int (nI le)), some (.int (nI d)), some (.int (nI w)), some (.int (nI so)), some (.int (nI s)), some (.int (nI i))] [] (wW pg nw kp sn ks fo ft fe gt mx re m hh) R (g2) := by
  intro n
  induction n with
  | zero =>
    intro i s hi hk
    refine z_iload iX8_feelOf_50 rfl ?_
    refine z_bipush iX8_feelOf_52 zb_10 ?_
    refine zn_ge iX8_feelOf_54 (by omega) (by omega) (fun q54 => ?_) (fun q54 => absurd q54 (by omega))
    refine z_weak ?_ (hk _ rfl)
    exact zle_w (by simp [zle, zf3] <;> rfl)
  | succ n ih =>
    intro i s hi hk
    refine z_iload iX8_feelOf_50 rfl ?_
    refine z_bipush iX8_feelOf_52 zb_10 ?_
    refine zn_ge iX8_feelOf_54 (by omega) (by omega) (fun q54 => absurd q54 (by omega)) (fun q54 => ?_)
    refine z_iload iX8_feelOf_57 rfl ?_
    refine z_aload_n iX8_feelOf_59 rfl ?_
    refine z_getf iX8_feelOf_60 fX8_55 (wm) (mF_26 _ _) (by decide) ?_
    refine z_bipush iX8_feelOf_63 zb_9 ?_
    refine z_iload iX8_feelOf_65 rfl ?_
    refine z_imul iX8_feelOf_67 ?_
    refine z_top nix_mul ?_
    refine z_iload iX8_feelOf_68 rfl ?_
    refine z_iadd iX8_feelOf_70 ?_
    refine z_top nix_add ?_
    refine z_iaload iX8_feelOf_71 (wm26) rfl (by omega) (by decide) (by decide) ?_
    refine z_aload_n iX8_feelOf_72 rfl ?_
    refine z_getf iX8_feelOf_73 fX8_55 (wm) (mF_26 _ _) (by decide) ?_
    refine z_bipush iX8_feelOf_76 zb_9 ?_
    refine z_iload iX8_feelOf_78 rfl ?_
    refine z_imul iX8_feelOf_80 ?_
    refine z_top nix_mul ?_
    refine z_iload iX8_feelOf_81 rfl ?_
    refine z_iadd iX8_feelOf_83 ?_
    refine z_top nix_add ?_
    refine z_iaload iX8_feelOf_84 (wm26) rfl (by omega) (by decide) (by decide) ?_
    refine z_icmp_ne iX8_feelOf_85 (fun q85 => ?_) (fun q85 => ?_)
    · refine z_iconst iX8_feelOf_97 zk_0 ?_
      refine z_iadd iX8_feelOf_98 ?_
      refine z_top nix_add ?_
      refine z_istore iX8_feelOf_99 rfl (by decide) ?_
      refine z_iinc iX8_feelOf_101 rfl nix_inc rfl (by decide) ?_
      refine z_goto iX8_feelOf_104 ?_
      first
        | (have e1 : mSmF m t d so i s = s + t / 2 ^ i % 2 := by rw [mSmF, if_pos q85]
           have k1 := ih (i + 1) (mSmF m t d so i s) (by omega) (by rw [zfw] at hk; exact hk)
           rw [e1] at k1
           exact k1)
        | (have e1 : mSmF m t d so i s = s + 0 := by rw [mSmF, if_neg q85]
           have k1 := ih (i + 1) (mSmF m t d so i s) (by omega) (by rw [zfw] at hk; exact hk)
           rw [e1] at k1
           exact k1)
    · refine z_iload_n iX8_feelOf_88 rfl ?_
      refine z_iload iX8_feelOf_89 rfl ?_
      refine z_ishr iX8_feelOf_91 ?_
      refine z_top (nix_shr (by omega) (by omega)) ?_
      refine z_iconst iX8_feelOf_92 zk_1 ?_
      refine z_iand iX8_feelOf_93 ?_
      refine z_top nix_and1 ?_
      refine z_goto iX8_feelOf_94 ?_
      refine z_iadd iX8_feelOf_98 ?_
      refine z_top nix_add ?_
      refine z_istore iX8_feelOf_99 rfl (by decide) ?_
      refine z_iinc iX8_feelOf_101 rfl nix_inc rfl (by decide) ?_
      refine z_goto iX8_feelOf_104 ?_
      first
        | (have e1 : mSmF m t d so i s = s + t / 2 ^ i % 2 := by rw [mSmF, if_pos q85]
           have k1 := ih (i + 1) (mSmF m t d so i s) (by omega) (by rw [zfw] at hk; exact hk)
           rw [e1] at k1
           exact k1)
        | (have e1 : mSmF m t d so i s = s + 0 := by rw [mSmF, if_neg q85]
           have k1 := ih (i + 1) (mSmF m t d so i s) (by omega) (by rw [zfw] at hk; exact hk)
           rw [e1] at k1
           exact k1)
set_option maxRecDepth 20000 in
set_option maxHeartbeats 1000000 in
theorem lpm_ws (G : zG) (pg nw kp sn ks fo ft fe gt mx : zs) (re : Nat → Int64) (m : zs) (hh : Int64) (c t : Nat) (ht : t < 2 ^ 30) (be : Int32) (le d : Nat) (hd : d < 9) (R : Option Value) (g2 : zh) : ∀ (n i : Nat) (w : Nat), w ≤ 10 → i + n = 10 → (∀ y, y = zfw (mWsF m t d) i n w → zS G mX8_feelOf 139 [some (.ref 49), some (.int (nI c)), some (.int (nI t)), some (.int be), some (.int (nI le)), some (.int (nI d)), some (.int (nI y)), none, none, none] [] (wW pg nw kp sn ks fo ft fe gt mx re m hh) R g2) → zS G mX8_feelOf 37 [some (.ref 49), some (.int (nI c)), some (.int (nI t)), some (.int be), some (.int (nI le)), some (.int (nI d)), some (.int (nI w)), some (.int (nI i)), none, none] [] (wW pg nw kp sn ks fo ft fe gt mx re m hh) R (g2) := by
  intro n
  induction n with
  | zero =>
    intro i w hw hi hk
    refine z_iload iX8_feelOf_37 rfl ?_
    refine z_bipush iX8_feelOf_39 zb_10 ?_
    refine zn_ge iX8_feelOf_41 (by omega) (by omega) (fun q41 => ?_) (fun q41 => absurd q41 (by omega))
    refine z_weak ?_ (hk _ rfl)
    exact zle_w (by simp [zle, zf3] <;> rfl)
  | succ n ih =>
    intro i w hw hi hk
    refine z_iload iX8_feelOf_37 rfl ?_
    refine z_bipush iX8_feelOf_39 zb_10 ?_
    refine zn_ge iX8_feelOf_41 (by omega) (by omega) (fun q41 => absurd q41 (by omega)) (fun q41 => ?_)
    refine z_iconst iX8_feelOf_44 zk_0 ?_
    refine z_istore iX8_feelOf_45 rfl (by decide) ?_
    refine z_iconst iX8_feelOf_47 zk_0 ?_
    refine z_istore iX8_feelOf_48 rfl (by decide) ?_
    refine lpm_sm G pg nw kp sn ks fo ft fe gt mx re m hh c t ht be le d hd R g2 w i (by omega) 10 0 0 rfl (fun y e => ?_)
    have hs := mSm_le m t d i
    have e : mSm m t d i = y := e.symm
    subst e
    refine z_iload_n iX8_feelOf_107 rfl ?_
    refine z_iload iX8_feelOf_108 rfl ?_
    refine z_ishr iX8_feelOf_110 ?_
    refine z_top (nix_shr (by omega) (by omega)) ?_
    refine z_iconst iX8_feelOf_111 zk_1 ?_
    refine z_iand iX8_feelOf_112 ?_
    refine z_top nix_and1 ?_
    refine z_iconst iX8_feelOf_113 zk_1 ?_
    refine zn_ne iX8_feelOf_114 (by omega) (by omega) (fun q114 => ?_) (fun q114 => ?_)
    · refine z_iload iX8_feelOf_129 rfl ?_
      refine z_istore iX8_feelOf_131 rfl (by decide) ?_
      refine z_iinc iX8_feelOf_133 rfl nix_inc rfl (by decide) ?_
      refine z_goto iX8_feelOf_136 ?_
      first
        | (have e1 : mWsF m t d i w = w := by rw [mWsF, if_neg q114]
           have k1 := ih (i + 1) (mWsF m t d i w) (mWsF_le _ _ _ _ _ hw) (by omega) (by rw [zfw] at hk; exact hk)
           rw [e1] at k1
           refine z_weak ?_ k1
           exact zle_w (by simp [zle, zf3] <;> rfl))
        | (have e1 : mWsF m t d i w = w := by rw [mWsF, if_pos q114, if_pos q121]
           have k1 := ih (i + 1) (mWsF m t d i w) (mWsF_le _ _ _ _ _ hw) (by omega) (by rw [zfw] at hk; exact hk)
           rw [e1] at k1
           refine z_weak ?_ k1
           exact zle_w (by simp [zle, zf3] <;> rfl))
        | (have e1 : mWsF m t d i w = mSm m t d i := by rw [mWsF, if_pos q114, if_neg (Nat.not_le.mpr q121)]
           have k1 := ih (i + 1) (mWsF m t d i w) (mWsF_le _ _ _ _ _ hw) (by omega) (by rw [zfw] at hk; exact hk)
           rw [e1] at k1
           refine z_weak ?_ k1
           exact zle_w (by simp [zle, zf3] <;> rfl))
    · refine z_iload iX8_feelOf_117 rfl ?_
      refine z_iload iX8_feelOf_119 rfl ?_
      refine zn_le iX8_feelOf_121 (by omega) (by omega) (fun q121 => ?_) (fun q121 => ?_)
      · refine z_iload iX8_feelOf_129 rfl ?_
        refine z_istore iX8_feelOf_131 rfl (by decide) ?_
        refine z_iinc iX8_feelOf_133 rfl nix_inc rfl (by decide) ?_
        refine z_goto iX8_feelOf_136 ?_
        first
          | (have e1 : mWsF m t d i w = w := by rw [mWsF, if_neg q114]
             have k1 := ih (i + 1) (mWsF m t d i w) (mWsF_le _ _ _ _ _ hw) (by omega) (by rw [zfw] at hk; exact hk)
             rw [e1] at k1
             refine z_weak ?_ k1
             exact zle_w (by simp [zle, zf3] <;> rfl))
          | (have e1 : mWsF m t d i w = w := by rw [mWsF, if_pos q114, if_pos q121]
             have k1 := ih (i + 1) (mWsF m t d i w) (mWsF_le _ _ _ _ _ hw) (by omega) (by rw [zfw] at hk; exact hk)
             rw [e1] at k1
             refine z_weak ?_ k1
             exact zle_w (by simp [zle, zf3] <;> rfl))
          | (have e1 : mWsF m t d i w = mSm m t d i := by rw [mWsF, if_pos q114, if_neg (Nat.not_le.mpr q121)]
             have k1 := ih (i + 1) (mWsF m t d i w) (mWsF_le _ _ _ _ _ hw) (by omega) (by rw [zfw] at hk; exact hk)
             rw [e1] at k1
             refine z_weak ?_ k1
             exact zle_w (by simp [zle, zf3] <;> rfl))
      · refine z_iload iX8_feelOf_124 rfl ?_
        refine z_goto iX8_feelOf_126 ?_
        refine z_istore iX8_feelOf_131 rfl (by decide) ?_
        refine z_iinc iX8_feelOf_133 rfl nix_inc rfl (by decide) ?_
        refine z_goto iX8_feelOf_136 ?_
        first
          | (have e1 : mWsF m t d i w = w := by rw [mWsF, if_neg q114]
             have k1 := ih (i + 1) (mWsF m t d i w) (mWsF_le _ _ _ _ _ hw) (by omega) (by rw [zfw] at hk; exact hk)
             rw [e1] at k1
             refine z_weak ?_ k1
             exact zle_w (by simp [zle, zf3] <;> rfl))
          | (have e1 : mWsF m t d i w = w := by rw [mWsF, if_pos q114, if_pos q121]
             have k1 := ih (i + 1) (mWsF m t d i w) (mWsF_le _ _ _ _ _ hw) (by omega) (by rw [zfw] at hk; exact hk)
             rw [e1] at k1
             refine z_weak ?_ k1
             exact zle_w (by simp [zle, zf3] <;> rfl))
          | (have e1 : mWsF m t d i w = mSm m t d i := by rw [mWsF, if_pos q114, if_neg (Nat.not_le.mpr q121)]
             have k1 := ih (i + 1) (mWsF m t d i w) (mWsF_le _ _ _ _ _ hw) (by omega) (by rw [zfw] at hk; exact hk)
             rw [e1] at k1
             refine z_weak ?_ k1
             exact zle_w (by simp [zle, zf3] <;> rfl))
set_option maxRecDepth 20000 in
set_option maxHeartbeats 1000000 in
theorem lpm_fl (G : zG) (pg nw kp sn ks fo ft fe gt mx : zs) (re : Nat → Int64) (m : zs) (hh : Int64) (c t : Nat) (ht : t < 2 ^ 30) (ht0 : ¬ t = 0) : ∀ (n i : Nat) (be : Option Nat) (le : Nat), le ≤ 11 → i + n = 9 → zS G mX8_feelOf 20 [some (.ref 49), some (.int (nI c)), some (.int (nI t)), some (.int (oI be)), some (.int (nI le)), some (.int (nI i)), none, none, none, none] [] (wW pg nw kp sn ks fo ft fe gt mx re m hh) (some (.int (oI (mFlL m t n i be le)))) (wW pg nw kp sn ks fo ft fe gt mx re m hh) := by
  intro n
  induction n with
  | zero =>
    intro i be le hle hi
    refine z_iload iX8_feelOf_20 rfl ?_
    refine z_bipush iX8_feelOf_22 zb_9 ?_
    refine zn_ge iX8_feelOf_24 (by omega) (by omega) (fun q24 => ?_) (fun q24 => absurd q24 (by omega))
    refine z_iload_n iX8_feelOf_177 rfl ?_
    exact z_ireturn iX8_feelOf_178 (rfl) (rfl)
  | succ n ih =>
    intro i be le hle hi
    refine z_iload iX8_feelOf_20 rfl ?_
    refine z_bipush iX8_feelOf_22 zb_9 ?_
    refine zn_ge iX8_feelOf_24 (by omega) (by omega) (fun q24 => absurd q24 (by omega)) (fun q24 => ?_)
    refine z_iload_n iX8_feelOf_27 rfl ?_
    refine zn_if_eq iX8_feelOf_28 (by omega) (fun q28 => absurd q28 (by omega)) (fun q28 => ?_)
    refine z_iconst iX8_feelOf_31 zk_0 ?_
    refine z_istore iX8_feelOf_32 rfl (by decide) ?_
    refine z_iconst iX8_feelOf_34 zk_0 ?_
    refine z_istore iX8_feelOf_35 rfl (by decide) ?_
    refine lpm_ws G pg nw kp sn ks fo ft fe gt mx re m hh c t ht (oI be) le i (by omega) _ _ 10 0 0 (Nat.zero_le _) rfl (fun y e => ?_)
    have hy : y ≤ 10 := by subst e; exact mWsL_le m t i 10 0 0 (Nat.zero_le _)
    have e : mWs m t i = y := e.symm
    subst e
    refine z_iload iX8_feelOf_139 rfl ?_
    refine z_iload iX8_feelOf_141 rfl ?_
    refine zn_ge iX8_feelOf_143 (by omega) (by omega) (fun q143 => ?_) (fun q143 => ?_)
    · refine z_iload_n iX8_feelOf_153 rfl ?_
      refine z_istore_n iX8_feelOf_154 rfl (by decide) ?_
      refine z_iload iX8_feelOf_155 rfl ?_
      refine z_iload iX8_feelOf_157 rfl ?_
      refine zn_ge iX8_feelOf_159 (by omega) (by omega) (fun q159 => ?_) (fun q159 => ?_)
      · refine z_iload iX8_feelOf_167 rfl ?_
        refine z_istore iX8_feelOf_169 rfl (by decide) ?_
        refine z_iinc iX8_feelOf_171 rfl nix_inc rfl (by decide) ?_
        refine z_goto iX8_feelOf_174 ?_
        first
          | exact absurd q143 (by omega)
          | exact absurd q159 (by omega)
          | (rw [mFlL, if_pos q143]
             refine z_weak ?_ (ih (i + 1) be le (by omega) (by omega))
             exact zle_w (by simp [zle, zf3] <;> rfl))
          | (rw [mFlL, if_neg (Nat.not_le.mpr q143)]
             refine z_weak ?_ (ih (i + 1) (some (i + 1)) _ (by omega) (by omega))
             exact zle_w (by simp [zle, zf3] <;> rfl))
      · refine z_iload iX8_feelOf_162 rfl ?_
        refine z_goto iX8_feelOf_164 ?_
        refine z_istore iX8_feelOf_169 rfl (by decide) ?_
        refine z_iinc iX8_feelOf_171 rfl nix_inc rfl (by decide) ?_
        refine z_goto iX8_feelOf_174 ?_
        first
          | exact absurd q143 (by omega)
          | exact absurd q159 (by omega)
          | (rw [mFlL, if_pos q143]
             refine z_weak ?_ (ih (i + 1) be le (by omega) (by omega))
             exact zle_w (by simp [zle, zf3] <;> rfl))
          | (rw [mFlL, if_neg (Nat.not_le.mpr q143)]
             refine z_weak ?_ (ih (i + 1) (some (i + 1)) _ (by omega) (by omega))
             exact zle_w (by simp [zle, zf3] <;> rfl))
    · refine z_iload iX8_feelOf_146 rfl ?_
      refine z_iconst iX8_feelOf_148 zk_1 ?_
      refine z_iadd iX8_feelOf_149 ?_
      refine z_top nix_add ?_
      refine z_goto iX8_feelOf_150 ?_
      refine z_istore_n iX8_feelOf_154 rfl (by decide) ?_
      refine z_iload iX8_feelOf_155 rfl ?_
      refine z_iload iX8_feelOf_157 rfl ?_
      refine zn_ge iX8_feelOf_159 (by omega) (by omega) (fun q159 => ?_) (fun q159 => ?_)
      · refine z_iload iX8_feelOf_167 rfl ?_
        refine z_istore iX8_feelOf_169 rfl (by decide) ?_
        refine z_iinc iX8_feelOf_171 rfl nix_inc rfl (by decide) ?_
        refine z_goto iX8_feelOf_174 ?_
        first
          | exact absurd q143 (by omega)
          | exact absurd q159 (by omega)
          | (rw [mFlL, if_pos q143]
             refine z_weak ?_ (ih (i + 1) be le (by omega) (by omega))
             exact zle_w (by simp [zle, zf3] <;> rfl))
          | (rw [mFlL, if_neg (Nat.not_le.mpr q143)]
             refine z_weak ?_ (ih (i + 1) (some (i + 1)) _ (by omega) (by omega))
             exact zle_w (by simp [zle, zf3] <;> rfl))
      · refine z_iload iX8_feelOf_162 rfl ?_
        refine z_goto iX8_feelOf_164 ?_
        refine z_istore iX8_feelOf_169 rfl (by decide) ?_
        refine z_iinc iX8_feelOf_171 rfl nix_inc rfl (by decide) ?_
        refine z_goto iX8_feelOf_174 ?_
        first
          | exact absurd q143 (by omega)
          | exact absurd q159 (by omega)
          | (rw [mFlL, if_pos q143]
             refine z_weak ?_ (ih (i + 1) be le (by omega) (by omega))
             exact zle_w (by simp [zle, zf3] <;> rfl))
          | (rw [mFlL, if_neg (Nat.not_le.mpr q143)]
             refine z_weak ?_ (ih (i + 1) (some (i + 1)) _ (by omega) (by omega))
             exact zle_w (by simp [zle, zf3] <;> rfl))
set_option maxRecDepth 20000 in
set_option maxHeartbeats 1000000 in
theorem cm_feel0 (G : zG) (pg nw kp sn ks fo ft fe gt mx : zs) (re : Nat → Int64) (m : zs) (hh : Int64) (hm : mOK m) (hp : mHP m) (dy : Nat → Nat) (c : Nat) (hc : c < 9) (hs : mSn (mWays m c) dy) (h0 : mLaid (mWays m c) dy c = 0) : zK G mX8_feelOf [.ref 49, .int (nI c)] (wW pg nw kp sn ks fo ft fe gt mx re m hh) (some (.int (-1))) (wW pg nw kp sn ks fo ft fe gt mx re (mWays m c) hh) := by
  refine zK_of 8 rfl (by decide) trivial (Nat.le_of_ble_eq_true rfl) rfl ?_
  refine z_aload_n iX8_feelOf_0 rfl ?_
  refine z_iload_n iX8_feelOf_1 rfl ?_
  refine z_cvv (y1 := mX8_layWays) iX8_feelOf_2 lX8_269 kX8_layWays rfl (cm_layWays G pg nw kp sn ks fo ft fe gt mx re m hh hm hp c hc) (wm) rfl rfl rfl (Nat.le_of_ble_eq_true rfl) (by decide) ?_
  refine z_aload_n iX8_feelOf_5 rfl ?_
  refine z_iload_n iX8_feelOf_6 rfl ?_
  refine z_cvi (y1 := mX8_wetsLaid) iX8_feelOf_7 lX8_272 kX8_wetsLaid rfl (cm_laid G pg nw kp sn ks fo ft fe gt mx re _ hh dy hs c hc) (wm) rfl rfl rfl (Nat.le_of_ble_eq_true rfl) (by decide) ?_
  refine z_istore_n iX8_feelOf_10 rfl (by decide) ?_
  refine z_iconst iX8_feelOf_11 zk_m1 ?_
  refine z_istore_n iX8_feelOf_12 rfl (by decide) ?_
  refine z_bipush iX8_feelOf_13 zb_11 ?_
  refine z_istore iX8_feelOf_15 rfl (by decide) ?_
  refine z_iconst iX8_feelOf_17 zk_0 ?_
  refine z_istore iX8_feelOf_18 rfl (by decide) ?_
  refine z_iload iX8_feelOf_20 rfl ?_
  refine z_bipush iX8_feelOf_22 zb_9 ?_
  refine zn_ge iX8_feelOf_24 (by omega) (by omega) (fun q24 => absurd q24 (by omega)) (fun q24 => ?_)
  refine z_iload_n iX8_feelOf_27 rfl ?_
  refine zn_if_eq iX8_feelOf_28 (by omega) (fun q28 => ?_) (fun q28 => absurd q28 (by omega))
  refine z_iload_n iX8_feelOf_177 rfl ?_
  exact z_ireturn iX8_feelOf_178 (rfl) (rfl)
set_option maxRecDepth 20000 in
set_option maxHeartbeats 1000000 in
theorem cm_feel1 (G : zG) (pg nw kp sn ks fo ft fe gt mx : zs) (re : Nat → Int64) (m : zs) (hh : Int64) (hm : mOK m) (hp : mHP m) (dy : Nat → Nat) (c : Nat) (hc : c < 9) (hs : mSn (mWays m c) dy) (t : Nat) (ht : t < 2 ^ 30) (h0 : mLaid (mWays m c) dy c = t) (ht0 : ¬ t = 0) : zK G mX8_feelOf [.ref 49, .int (nI c)] (wW pg nw kp sn ks fo ft fe gt mx re m hh) (some (.int (oI (mFlL (mWays m c) t 9 0 none 11)))) (wW pg nw kp sn ks fo ft fe gt mx re (mWays m c) hh) := by
  refine zK_of 8 rfl (by decide) trivial (Nat.le_of_ble_eq_true rfl) rfl ?_
  refine z_aload_n iX8_feelOf_0 rfl ?_
  refine z_iload_n iX8_feelOf_1 rfl ?_
  refine z_cvv (y1 := mX8_layWays) iX8_feelOf_2 lX8_269 kX8_layWays rfl (cm_layWays G pg nw kp sn ks fo ft fe gt mx re m hh hm hp c hc) (wm) rfl rfl rfl (Nat.le_of_ble_eq_true rfl) (by decide) ?_
  refine z_aload_n iX8_feelOf_5 rfl ?_
  refine z_iload_n iX8_feelOf_6 rfl ?_
  refine z_cvi (y1 := mX8_wetsLaid) iX8_feelOf_7 lX8_272 kX8_wetsLaid rfl (cm_laid G pg nw kp sn ks fo ft fe gt mx re _ hh dy hs c hc) (wm) rfl rfl rfl (Nat.le_of_ble_eq_true rfl) (by decide) ?_
  rw [h0]
  refine z_istore_n iX8_feelOf_10 rfl (by decide) ?_
  refine z_iconst iX8_feelOf_11 zk_m1 ?_
  refine z_istore_n iX8_feelOf_12 rfl (by decide) ?_
  refine z_bipush iX8_feelOf_13 zb_11 ?_
  refine z_istore iX8_feelOf_15 rfl (by decide) ?_
  refine z_iconst iX8_feelOf_17 zk_0 ?_
  refine z_istore iX8_feelOf_18 rfl (by decide) ?_
  exact lpm_fl G pg nw kp sn ks fo ft fe gt mx re (mWays m c) hh c t ht ht0 9 0 none 11 (Nat.le_refl _) rfl
