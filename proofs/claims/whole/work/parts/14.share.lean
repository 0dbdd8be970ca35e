theorem zl_0 : Int64.ofNat ((0 : Fin 2) : Nat) = 0 := by decide +kernel
theorem zl_1 : Int64.ofNat ((1 : Fin 2) : Nat) = 1 := by decide +kernel
theorem lg_cmp_0 (x v : Int64) : lg_cmp x v = 0 ↔ x = v := by
  unfold lg_cmp
  by_cases h1 : x > v
  · rw [if_pos h1]
    constructor
    · intro h; exact absurd h (by decide +kernel)
    · intro h; subst h; exact absurd h1 (Int64.lt_irrefl)
  · rw [if_neg h1]
    by_cases h2 : x = v
    · rw [if_pos h2]; simp [h2]
    · rw [if_neg h2]
      constructor
      · intro h; exact absurd h (by decide +kernel)
      · intro h; exact absurd h h2
theorem zdn {n : Nat} : nI (n + 1) + Int32.ofInt (-1) = nI n := pk_m1 n
theorem zdn_lt {f : Nat} (h : f < 2 ^ 30) : nI f + Int32.ofInt (-1) < nI f := by
  cases f with
  | zero => decide +kernel
  | succ k => rw [zdn]; exact nI_lt (by omega) (by omega)
theorem zdn_0 : nI 0 + Int32.ofInt (-1) < 0 := by decide +kernel
def hB (s : Int64) (k : Nat) : Bool := decide ((s >>> ((nI k).toInt64 &&& 63)) &&& 1 = 1)
def hSum (s : Int64) (f : Nat) : Nat → Option Nat
  | 0 => none
  | n + 1 => if hB s (f + n) = true then some (f + n) else hSum s f n
set_option maxRecDepth 20000 in
set_option maxHeartbeats 1000000 in
theorem lp_hs (G : zG) (g : zh) (s : Int64) (f to : Nat) (hf : f < 2 ^ 30) : ∀ n, f + n < 2 ^ 30 → zS G mX6_highestSum 3 [some (.long s), none, some (.int (nI f)), some (.int (nI to)), some (.int (nI (f + n) + Int32.ofInt (-1)))] [] g (some (.int (oI (hSum s f n)))) g := by
  intro n
  induction n with
  | zero =>
    intro hn
    rw [Nat.add_zero]
    refine z_iload iX6_highestSum_3 rfl ?_
    refine z_iload_n iX6_highestSum_5 rfl ?_
    refine z_icmp_lt iX6_highestSum_6 (fun q6 => ?_) (fun q6 => absurd (zdn_lt hf) q6)
    refine z_iconst iX6_highestSum_29 zk_m1 ?_
    exact z_ireturn iX6_highestSum_30 (rfl) (rfl)
  | succ n ih0 =>
    intro hn
    have ih := ih0 (by omega)
    rw [← Nat.add_assoc, zdn]
    refine z_iload iX6_highestSum_3 rfl ?_
    refine z_iload_n iX6_highestSum_5 rfl ?_
    refine zn_lt iX6_highestSum_6 (by omega) (by omega) (fun q6 => absurd q6 (by omega)) (fun q6 => ?_)
    refine z_lload_n iX6_highestSum_9 rfl ?_
    refine z_iload iX6_highestSum_10 rfl ?_
    refine z_lshr iX6_highestSum_12 ?_
    refine z_lconst iX6_highestSum_13 zl_1 ?_
    refine z_land iX6_highestSum_14 ?_
    refine z_lconst iX6_highestSum_15 zl_1 ?_
    refine z_lcmp iX6_highestSum_16 ?_
    skip
    refine z_if_ne iX6_highestSum_17 (fun q17 => ?_) (fun q17 => ?_)
    · refine z_iinc iX6_highestSum_23 rfl rfl rfl (by decide) ?_
      refine z_goto iX6_highestSum_26 ?_
      rw [hSum, if_neg (by rw [hB, decide_eq_true_eq]; exact fun e => q17 ((lg_cmp_0 _ _).mpr e))]
      exact ih
    · refine z_iload iX6_highestSum_20 rfl ?_
      exact z_ireturn iX6_highestSum_22 (by rw [hSum, if_pos (by rw [hB, decide_eq_true_eq]; exact (lg_cmp_0 _ _).mp q17)]; rfl) (rfl)
set_option maxRecDepth 20000 in
set_option maxHeartbeats 1000000 in
theorem c_highestSum (G : zG) (g : zh) (s : Int64) (f n to : Nat) (hf : f < 2 ^ 30) (hn : f + n < 2 ^ 30) (ht : to + 1 = f + n) : zK G mX6_highestSum [.long s, .int (nI f), .int (nI to)] g (some (.int (oI (hSum s f n)))) g := by
  have e1 : nI to = nI (f + n) + Int32.ofInt (-1) := by rw [← ht, zdn]
  refine zK_of 1 rfl (by decide) trivial (Nat.le_of_ble_eq_true rfl) rfl ?_
  refine z_iload_n iX6_highestSum_0 rfl ?_
  refine z_istore iX6_highestSum_1 rfl (by decide) ?_
  have k1 := lp_hs G g s f to hf n hn
  rw [← e1] at k1
  exact k1
def hTwo (nw : zs) (n : Nat) : Int64 := zfw (fun c s => s ||| s <<< ((rF nw 7 c).toInt64 &&& 63)) 0 n 1
set_option maxRecDepth 20000 in
set_option maxHeartbeats 1000000 in
theorem lp_two (G : zG) (pg nw kp sn ks fo ft fe gt mx : zs) (re : Nat → Int64) (m : zs) (hh : Int64) (hs : bOK nw) (A : Nat) (hA : bLightAll nw = nI A) (hA2 : A < 1000) : ∀ (n i : Nat) (x : Int64), i + n = rN nw 1 → zS G mX6_amongTwo 5 [some (.ref 47), some (.ref 3), some (.long x), none, some (.int (nI i))] [] (wW pg nw kp sn ks fo ft fe gt mx re m hh) (some (.int (oI (hSum (zfw (fun c s => s ||| s <<< ((rF nw 7 c).toInt64 &&& 63)) i n x) 0 (A / 2 + 1))))) (wW pg nw kp sn ks fo ft fe gt mx re m hh) := by
  obtain ⟨h11, h10, h6, h5, h0, h1⟩ := id hs
  intro n
  induction n with
  | zero =>
    intro i x hi
    refine z_iload iX6_amongTwo_5 rfl ?_
    refine z_aload_n iX6_amongTwo_7 rfl ?_
    refine z_getf iX6_amongTwo_8 fX6_15 (w3_o) (BF_1 _ _) (by decide) ?_
    refine zn_ge iX6_amongTwo_11 (by omega) (by omega) (fun q11 => ?_) (fun q11 => absurd q11 (by omega))
    refine z_lload_n iX6_amongTwo_32 rfl ?_
    refine z_iconst iX6_amongTwo_33 zk_0 ?_
    refine z_aload_n iX6_amongTwo_34 rfl ?_
    refine z_cvi (y1 := mX0_lightOfAll) iX6_amongTwo_35 lX6_25 kX0_lightOfAll rfl (vB3 (c_LightAll G _ 3 (by decide) _ hs)) (w3_o) rfl rfl rfl (Nat.le_of_ble_eq_true rfl) (by decide) ?_
    rw [hA]
    refine z_iconst iX6_amongTwo_38 zk_2 ?_
    refine z_idiv iX6_amongTwo_39 (by decide +kernel) ?_
    refine z_top (nix_div (by omega) (by omega) (by omega)) ?_
    refine z_csi (y1 := mX6_highestSum) iX6_amongTwo_40 lX6_29 kX6_highestSum rfl (c_highestSum G _ _ 0 (A / 2 + 1) _ (by omega) (by omega) (by omega)) rfl rfl (Nat.le_of_ble_eq_true rfl) ?_
    exact z_ireturn iX6_amongTwo_43 (rfl) (rfl)
  | succ n ih =>
    intro i x hi
    refine z_iload iX6_amongTwo_5 rfl ?_
    refine z_aload_n iX6_amongTwo_7 rfl ?_
    refine z_getf iX6_amongTwo_8 fX6_15 (w3_o) (BF_1 _ _) (by decide) ?_
    refine zn_ge iX6_amongTwo_11 (by omega) (by omega) (fun q11 => absurd q11 (by omega)) (fun q11 => ?_)
    refine z_lload_n iX6_amongTwo_14 rfl ?_
    refine z_lload_n iX6_amongTwo_15 rfl ?_
    refine z_aload_n iX6_amongTwo_16 rfl ?_
    refine z_getf iX6_amongTwo_17 fX6_21 (w3_o) (BF_7 _ _) (by decide) ?_
    refine z_iload iX6_amongTwo_20 rfl ?_
    refine z_iaload iX6_amongTwo_22 (w3_7) rfl (by omega) (by decide) (by decide) ?_
    refine z_lshl iX6_amongTwo_23 ?_
    refine z_lor iX6_amongTwo_24 ?_
    refine z_lstore_n iX6_amongTwo_25 rfl (by decide) ?_
    refine z_iinc iX6_amongTwo_26 rfl nix_inc rfl (by decide) ?_
    refine z_goto iX6_amongTwo_29 ?_
    exact ih (i + 1) _ (by omega)
set_option maxRecDepth 20000 in
set_option maxHeartbeats 1000000 in
theorem c_amongTwo (G : zG) (pg nw kp sn ks fo ft fe gt mx : zs) (re : Nat → Int64) (m : zs) (hh : Int64) (hs : bOK nw) (A : Nat) (hA : bLightAll nw = nI A) (hA2 : A < 1000) : zK G mX6_amongTwo [.ref 47, .ref 3] (wW pg nw kp sn ks fo ft fe gt mx re m hh) (some (.int (oI (hSum (hTwo nw (rN nw 1)) 0 (A / 2 + 1))))) (wW pg nw kp sn ks fo ft fe gt mx re m hh) := by
  refine zK_of 3 rfl (by decide) trivial (Nat.le_of_ble_eq_true rfl) rfl ?_
  refine z_lconst iX6_amongTwo_0 zl_1 ?_
  refine z_lstore_n iX6_amongTwo_1 rfl (by decide) ?_
  refine z_iconst iX6_amongTwo_2 zk_0 ?_
  refine z_istore iX6_amongTwo_3 rfl (by decide) ?_
  exact lp_two G pg nw kp sn ks fo ft fe gt mx re m hh hs A hA hA2 _ 0 _ (Nat.zero_add _)
def hStep (l n : Nat) (f : Nat → Int64) : Int64 := if n < l then f n ||| f n <<< ((nI l).toInt64 &&& 63) else (f n ||| f n <<< ((nI l).toInt64 &&& 63)) ||| f (n - l)
def hGive (l : Nat) : Nat → (Nat → Int64) → (Nat → Int64)
  | 0, f => f
  | n + 1, f => hGive l n (vp_updL f n (hStep l n f))
set_option maxRecDepth 20000 in
set_option maxHeartbeats 1000000 in
theorem lp_give (G : zG) (pg nw kp sn ks fo ft fe gt mx : zs) (m : zs) (hh : Int64) (l : Nat) (hl : l < 100) : ∀ (n : Nat) (f : Nat → Int64), n ≤ 28 → zS G mX6_giveAway 3 [some (.ref 47), some (.int (nI l)), some (.int (nI n + Int32.ofInt (-1))), none, none] [] (wW pg nw kp sn ks fo ft fe gt mx f m hh) none (wW pg nw kp sn ks fo ft fe gt mx (hGive l n f) m hh) := by
  intro n
  induction n with
  | zero =>
    intro f hn
    refine z_iload_n iX6_giveAway_3 rfl ?_
    refine z_if_lt iX6_giveAway_4 (fun q4 => ?_) (fun q4 => absurd zdn_0 q4)
    exact z_return iX6_giveAway_52 (rfl)
  | succ n ih0 =>
    intro f hn
    have ih := fun f => ih0 f (by omega)
    rw [zdn]
    refine z_iload_n iX6_giveAway_3 rfl ?_
    refine zn_if_lt iX6_giveAway_4 (by omega) ?_
    refine z_aload_n iX6_giveAway_7 rfl ?_
    refine z_getf iX6_giveAway_8 fX6_11 (wr) (rfl) (by decide) ?_
    refine z_iload_n iX6_giveAway_11 rfl ?_
    refine z_laload iX6_giveAway_12 (wr1) rfl (by omega) (by decide) (by decide) ?_
    refine z_aload_n iX6_giveAway_13 rfl ?_
    refine z_getf iX6_giveAway_14 fX6_11 (wr) (rfl) (by decide) ?_
    refine z_iload_n iX6_giveAway_17 rfl ?_
    refine z_laload iX6_giveAway_18 (wr1) rfl (by omega) (by decide) (by decide) ?_
    refine z_iload_n iX6_giveAway_19 rfl ?_
    refine z_lshl iX6_giveAway_20 ?_
    refine z_lor iX6_giveAway_21 ?_
    refine z_lstore_n iX6_giveAway_22 rfl (by decide) ?_
    refine z_iload_n iX6_giveAway_23 rfl ?_
    refine z_iload_n iX6_giveAway_24 rfl ?_
    refine zn_lt iX6_giveAway_25 (by omega) (by omega) (fun q25 => ?_) (fun q25 => ?_)
    · refine z_aload_n iX6_giveAway_39 rfl ?_
      refine z_getf iX6_giveAway_40 fX6_11 (wr) (rfl) (by decide) ?_
      refine z_iload_n iX6_giveAway_43 rfl ?_
      refine z_lload_n iX6_giveAway_44 rfl ?_
      refine z_lastore iX6_giveAway_45 (wr1) rfl (by omega) (by decide) (by decide) (by decide) ?_
      rw [wr_1]
      refine z_iinc iX6_giveAway_46 rfl rfl rfl (by decide) ?_
      refine z_goto iX6_giveAway_49 ?_
      first
        | (have e1 : hStep l n f = _ := if_pos q25
           rw [hGive, e1]
           refine z_weak ?_ (ih _)
           exact zle_w (by simp [zle, zf3] <;> rfl))
        | (have e1 : hStep l n f = _ := if_neg (Nat.not_lt.mpr q25)
           rw [hGive, e1]
           refine z_weak ?_ (ih _)
           exact zle_w (by simp [zle, zf3] <;> rfl))
    · refine z_lload_n iX6_giveAway_28 rfl ?_
      refine z_aload_n iX6_giveAway_29 rfl ?_
      refine z_getf iX6_giveAway_30 fX6_11 (wr) (rfl) (by decide) ?_
      refine z_iload_n iX6_giveAway_33 rfl ?_
      refine z_iload_n iX6_giveAway_34 rfl ?_
      refine z_isub iX6_giveAway_35 ?_
      refine z_top (nix_sub (by omega)) ?_
      refine z_laload iX6_giveAway_36 (wr1) rfl (by omega) (by decide) (by decide) ?_
      refine z_lor iX6_giveAway_37 ?_
      refine z_lstore_n iX6_giveAway_38 rfl (by decide) ?_
      refine z_aload_n iX6_giveAway_39 rfl ?_
      refine z_getf iX6_giveAway_40 fX6_11 (wr) (rfl) (by decide) ?_
      refine z_iload_n iX6_giveAway_43 rfl ?_
      refine z_lload_n iX6_giveAway_44 rfl ?_
      refine z_lastore iX6_giveAway_45 (wr1) rfl (by omega) (by decide) (by decide) (by decide) ?_
      rw [wr_1]
      refine z_iinc iX6_giveAway_46 rfl rfl rfl (by decide) ?_
      refine z_goto iX6_giveAway_49 ?_
      first
        | (have e1 : hStep l n f = _ := if_pos q25
           rw [hGive, e1]
           refine z_weak ?_ (ih _)
           exact zle_w (by simp [zle, zf3] <;> rfl))
        | (have e1 : hStep l n f = _ := if_neg (Nat.not_lt.mpr q25)
           rw [hGive, e1]
           refine z_weak ?_ (ih _)
           exact zle_w (by simp [zle, zf3] <;> rfl))
set_option maxRecDepth 20000 in
set_option maxHeartbeats 1000000 in
theorem c_giveAway (G : zG) (pg nw kp sn ks fo ft fe gt mx : zs) (re : Nat → Int64) (m : zs) (hh : Int64) (l : Nat) (hl : l < 100) : zK G mX6_giveAway [.ref 47, .int (nI l)] (wW pg nw kp sn ks fo ft fe gt mx re m hh) none (wW pg nw kp sn ks fo ft fe gt mx (hGive l 28 re) m hh) := by
  refine zK_of 3 rfl (by decide) trivial (Nat.le_of_ble_eq_true rfl) rfl ?_
  refine z_bipush iX6_giveAway_0 zb_27 ?_
  refine z_istore_n iX6_giveAway_2 rfl (by decide) ?_
  have k1 := lp_give G pg nw kp sn ks fo ft fe gt mx m hh l hl 28 re (Nat.le_refl _)
  rw [zdn (n := 27)] at k1
  exact k1
def hClr : Nat → (Nat → Int64) → (Nat → Int64) := fun k f => vp_updL f k 0
def hThree (l : Nat → Nat) (n : Nat) (f : Nat → Int64) : Nat → Int64 := zfw (fun c f => hGive (l c) 28 f) 0 n f
def hBest (re : Nat → Int64) (A : Nat) : Nat → Nat
  | 0 => 0
  | n + 1 => if hSum (re (n + 1)) (n + 1) ((A - (n + 1)) / 2 + 1 - (n + 1)) = none then hBest re A n else n + 1
theorem nix_min {a b : Nat} (ha : a < 2 ^ 31) (hb : b < 2 ^ 31) : (if nI a < nI b then nI a else nI b) = nI (if a < b then a else b) := by
  by_cases h : a < b
  · rw [if_pos h, if_pos ((nI_ltI ha hb).mpr h)]
  · rw [if_neg h, if_neg (fun z => h ((nI_ltI ha hb).mp z))]
theorem hSum_lt {s : Int64} {f k : Nat} : ∀ {n : Nat}, hSum s f n = some k → k < f + n
  | 0, h => by cases h
  | n + 1, h => by
    unfold hSum at h
    split at h
    · cases h; omega
    · have := hSum_lt h; omega
set_option maxRecDepth 20000 in
set_option maxHeartbeats 1000000 in
theorem lp_hbest (G : zG) (pg nw kp sn ks fo ft fe gt mx : zs) (re : Nat → Int64) (m : zs) (hh : Int64) (A : Nat) (hA2 : A < 1000) : ∀ n, n ≤ 27 → 3 * n ≤ A → zS G mX6_amongThree 68 [some (.ref 47), some (.ref 3), some (.int (nI A)), some (.int (nI n))] [] (wW pg nw kp sn ks fo ft fe gt mx re m hh) (some (.int (nI (hBest re A n)))) (wW pg nw kp sn ks fo ft fe gt mx re m hh) := by
  intro n
  induction n with
  | zero =>
    intro hn h3
    refine z_iload_n iX6_amongThree_68 rfl ?_
    refine zn_if_le iX6_amongThree_69 (by omega) (fun q69 => ?_) (fun q69 => absurd q69 (by omega))
    refine z_iconst iX6_amongThree_99 zk_0 ?_
    exact z_ireturn iX6_amongThree_100 (rfl) (rfl)
  | succ n ih0 =>
    intro hn h3
    have ih := ih0 (by omega) (by omega)
    cases hz : hSum (re (n + 1)) (n + 1) ((A - (n + 1)) / 2 + 1 - (n + 1)) with
    | none =>
      refine z_iload_n iX6_amongThree_68 rfl ?_
      refine zn_if_le iX6_amongThree_69 (by omega) (fun q69 => absurd q69 (by omega)) (fun q69 => ?_)
      refine z_aload_n iX6_amongThree_72 rfl ?_
      refine z_getf iX6_amongThree_73 fX6_11 (wr) (rfl) (by decide) ?_
      refine z_iload_n iX6_amongThree_76 rfl ?_
      refine z_laload iX6_amongThree_77 (wr1) rfl (by omega) (by decide) (by decide) ?_
      refine z_iload_n iX6_amongThree_78 rfl ?_
      refine z_iload_n iX6_amongThree_79 rfl ?_
      refine z_iload_n iX6_amongThree_80 rfl ?_
      refine z_isub iX6_amongThree_81 ?_
      refine z_top (nix_sub (by omega)) ?_
      refine z_iconst iX6_amongThree_82 zk_2 ?_
      refine z_idiv iX6_amongThree_83 (by decide +kernel) ?_
      refine z_top (nix_div (by omega) (by omega) (by omega)) ?_
      refine z_csi (y1 := mX6_highestSum) iX6_amongThree_84 lX6_29 kX6_highestSum rfl (c_highestSum G _ _ (n + 1) ((A - (n + 1)) / 2 + 1 - (n + 1)) _ (by omega) (by omega) (by omega)) rfl rfl (Nat.le_of_ble_eq_true rfl) ?_
      rw [hz, oI_none]
      refine z_iconst iX6_amongThree_87 zk_m1 ?_
      refine z_icmp_eq iX6_amongThree_88 (fun q88 => ?_) (fun q88 => absurd rfl q88)
      refine z_iinc iX6_amongThree_93 rfl (nix_dec (by omega)) rfl (by decide) ?_
      refine z_goto iX6_amongThree_96 ?_
      rw [hBest, if_pos hz]
      exact ih
    | some k =>
      have hk := hSum_lt hz
      refine z_iload_n iX6_amongThree_68 rfl ?_
      refine zn_if_le iX6_amongThree_69 (by omega) (fun q69 => absurd q69 (by omega)) (fun q69 => ?_)
      refine z_aload_n iX6_amongThree_72 rfl ?_
      refine z_getf iX6_amongThree_73 fX6_11 (wr) (rfl) (by decide) ?_
      refine z_iload_n iX6_amongThree_76 rfl ?_
      refine z_laload iX6_amongThree_77 (wr1) rfl (by omega) (by decide) (by decide) ?_
      refine z_iload_n iX6_amongThree_78 rfl ?_
      refine z_iload_n iX6_amongThree_79 rfl ?_
      refine z_iload_n iX6_amongThree_80 rfl ?_
      refine z_isub iX6_amongThree_81 ?_
      refine z_top (nix_sub (by omega)) ?_
      refine z_iconst iX6_amongThree_82 zk_2 ?_
      refine z_idiv iX6_amongThree_83 (by decide +kernel) ?_
      refine z_top (nix_div (by omega) (by omega) (by omega)) ?_
      refine z_csi (y1 := mX6_highestSum) iX6_amongThree_84 lX6_29 kX6_highestSum rfl (c_highestSum G _ _ (n + 1) ((A - (n + 1)) / 2 + 1 - (n + 1)) _ (by omega) (by omega) (by omega)) rfl rfl (Nat.le_of_ble_eq_true rfl) ?_
      rw [hz, oI_some]
      refine z_iconst iX6_amongThree_87 zk_m1 ?_
      refine z_icmp_eq iX6_amongThree_88 (fun q88 => absurd q88 (nI_m1 (by omega))) (fun q88 => ?_)
      refine z_iload_n iX6_amongThree_91 rfl ?_
      exact z_ireturn iX6_amongThree_92 (by rw [hBest, if_neg (by rw [hz]; simp)]) (rfl)
set_option maxRecDepth 20000 in
set_option maxHeartbeats 1000000 in
theorem lp_hthree (G : zG) (pg nw kp sn ks fo ft fe gt mx : zs) (m : zs) (hh : Int64) (hs : bOK nw) (A : Nat) (hA : bLightAll nw = nI A) (hA2 : A < 1000) (l : Nat → Nat) (hl : ∀ c, c < rN nw 1 → rF nw 7 c = nI (l c) ∧ l c < 100) : ∀ (n i : Nat) (f : Nat → Int64), i + n = rN nw 1 → zS G mX6_amongThree 30 [some (.ref 47), some (.ref 3), some (.int (nI i)), none] [] (wW pg nw kp sn ks fo ft fe gt mx f m hh) (some (.int (nI (hBest (zfw (fun c f => hGive (l c) 28 f) i n f) A (if A / 3 < 27 then A / 3 else 27))))) (wW pg nw kp sn ks fo ft fe gt mx (zfw (fun c f => hGive (l c) 28 f) i n f) m hh) := by
  obtain ⟨h11, h10, h6, h5, h0, h1⟩ := id hs
  intro n
  induction n with
  | zero =>
    intro i f hi
    refine z_iload_n iX6_amongThree_30 rfl ?_
    refine z_aload_n iX6_amongThree_31 rfl ?_
    refine z_getf iX6_amongThree_32 fX6_15 (w3_o) (BF_1 _ _) (by decide) ?_
    refine zn_ge iX6_amongThree_35 (by omega) (by omega) (fun q35 => ?_) (fun q35 => absurd q35 (by omega))
    refine z_aload_n iX6_amongThree_54 rfl ?_
    refine z_cvi (y1 := mX0_lightOfAll) iX6_amongThree_55 lX6_25 kX0_lightOfAll rfl (vB3 (c_LightAll G _ 3 (by decide) _ hs)) (w3_o) rfl rfl rfl (Nat.le_of_ble_eq_true rfl) (by decide) ?_
    rw [hA]
    refine z_istore_n iX6_amongThree_58 rfl (by decide) ?_
    refine z_bipush iX6_amongThree_59 zb_27 ?_
    refine z_iload_n iX6_amongThree_61 rfl ?_
    refine z_iconst iX6_amongThree_62 zk_3 ?_
    refine z_idiv iX6_amongThree_63 (by decide +kernel) ?_
    refine z_top (nix_div (by omega) (by omega) (by omega)) ?_
    refine z_mmin iX6_amongThree_64 lX6_37 (by decide) (Nat.le_of_ble_eq_true rfl) ?_
    refine z_top (nix_min (by omega) (by omega)) ?_
    refine z_istore_n iX6_amongThree_67 rfl (by decide) ?_
    exact lp_hbest G pg nw kp sn ks fo ft fe gt mx f m hh A hA2 _ (by split <;> omega) (by split <;> omega)
  | succ n ih =>
    intro i f hi
    refine z_iload_n iX6_amongThree_30 rfl ?_
    refine z_aload_n iX6_amongThree_31 rfl ?_
    refine z_getf iX6_amongThree_32 fX6_15 (w3_o) (BF_1 _ _) (by decide) ?_
    refine zn_ge iX6_amongThree_35 (by omega) (by omega) (fun q35 => absurd q35 (by omega)) (fun q35 => ?_)
    refine z_aload_n iX6_amongThree_38 rfl ?_
    refine z_aload_n iX6_amongThree_39 rfl ?_
    refine z_getf iX6_amongThree_40 fX6_21 (w3_o) (BF_7 _ _) (by decide) ?_
    refine z_iload_n iX6_amongThree_43 rfl ?_
    refine z_iaload iX6_amongThree_44 (w3_7) rfl (by omega) (by decide) (by decide) ?_
    rw [(hl i (by omega)).1]
    refine z_cvv (y1 := mX6_giveAway) iX6_amongThree_45 lX6_33 kX6_giveAway rfl (c_giveAway G pg nw kp sn ks fo ft fe gt mx f m hh (l i) (hl i (by omega)).2) (wr) rfl rfl rfl (Nat.le_of_ble_eq_true rfl) (by decide) ?_
    refine z_iinc iX6_amongThree_48 rfl nix_inc rfl (by decide) ?_
    refine z_goto iX6_amongThree_51 ?_
    exact ih (i + 1) _ (by omega)
set_option maxRecDepth 20000 in
set_option maxHeartbeats 1000000 in
theorem lp_hclr (G : zG) (pg nw kp sn ks fo ft fe gt mx : zs) (m : zs) (hh : Int64) (hs : bOK nw) (A : Nat) (hA : bLightAll nw = nI A) (hA2 : A < 1000) (l : Nat → Nat) (hl : ∀ c, c < rN nw 1 → rF nw 7 c = nI (l c) ∧ l c < 100) : ∀ (n i : Nat) (f : Nat → Int64), i + n = 28 → zS G mX6_amongThree 2 [some (.ref 47), some (.ref 3), some (.int (nI i)), none] [] (wW pg nw kp sn ks fo ft fe gt mx f m hh) (some (.int (nI (hBest (hThree l (rN nw 1) (vp_updL (zfw hClr i n f) 0 1)) A (if A / 3 < 27 then A / 3 else 27))))) (wW pg nw kp sn ks fo ft fe gt mx (hThree l (rN nw 1) (vp_updL (zfw hClr i n f) 0 1)) m hh) := by
  intro n
  induction n with
  | zero =>
    intro i f hi
    refine z_iload_n iX6_amongThree_2 rfl ?_
    refine z_bipush iX6_amongThree_3 zb_27 ?_
    refine zn_gt iX6_amongThree_5 (by omega) (by omega) (fun q5 => ?_) (fun q5 => absurd q5 (by omega))
    refine z_aload_n iX6_amongThree_21 rfl ?_
    refine z_getf iX6_amongThree_22 fX6_11 (wr) (rfl) (by decide) ?_
    refine z_iconst iX6_amongThree_25 zk_0 ?_
    refine z_lconst iX6_amongThree_26 zl_1 ?_
    refine z_lastore iX6_amongThree_27 (wr1) rfl (by omega) (by decide) (by decide) (by decide) ?_
    rw [wr_1]
    refine z_iconst iX6_amongThree_28 zk_0 ?_
    refine z_istore_n iX6_amongThree_29 rfl (by decide) ?_
    exact lp_hthree G pg nw kp sn ks fo ft fe gt mx m hh hs A hA hA2 l hl _ 0 _ (Nat.zero_add _)
  | succ n ih =>
    intro i f hi
    refine z_iload_n iX6_amongThree_2 rfl ?_
    refine z_bipush iX6_amongThree_3 zb_27 ?_
    refine zn_gt iX6_amongThree_5 (by omega) (by omega) (fun q5 => absurd q5 (by omega)) (fun q5 => ?_)
    refine z_aload_n iX6_amongThree_8 rfl ?_
    refine z_getf iX6_amongThree_9 fX6_11 (wr) (rfl) (by decide) ?_
    refine z_iload_n iX6_amongThree_12 rfl ?_
    refine z_lconst iX6_amongThree_13 zl_0 ?_
    refine z_lastore iX6_amongThree_14 (wr1) rfl (by omega) (by decide) (by decide) (by decide) ?_
    rw [wr_1]
    refine z_iinc iX6_amongThree_15 rfl nix_inc rfl (by decide) ?_
    refine z_goto iX6_amongThree_18 ?_
    exact ih (i + 1) _ (by omega)
set_option maxRecDepth 20000 in
set_option maxHeartbeats 1000000 in
theorem c_amongThree (G : zG) (pg nw kp sn ks fo ft fe gt mx : zs) (re : Nat → Int64) (m : zs) (hh : Int64) (hs : bOK nw) (A : Nat) (hA : bLightAll nw = nI A) (hA2 : A < 1000) (l : Nat → Nat) (hl : ∀ c, c < rN nw 1 → rF nw 7 c = nI (l c) ∧ l c < 100) : zK G mX6_amongThree [.ref 47, .ref 3] (wW pg nw kp sn ks fo ft fe gt mx re m hh) (some (.int (nI (hBest (hThree l (rN nw 1) (vp_updL (zfw hClr 0 28 re) 0 1)) A (if A / 3 < 27 then A / 3 else 27))))) (wW pg nw kp sn ks fo ft fe gt mx (hThree l (rN nw 1) (vp_updL (zfw hClr 0 28 re) 0 1)) m hh) := by
  refine zK_of 2 rfl (by decide) trivial (Nat.le_of_ble_eq_true rfl) rfl ?_
  refine z_iconst iX6_amongThree_0 zk_0 ?_
  refine z_istore_n iX6_amongThree_1 rfl (by decide) ?_
  exact lp_hclr G pg nw kp sn ks fo ft fe gt mx m hh hs A hA hA2 l hl 28 0 re rfl
def rBay (f : Nat → Int32) (i b : Nat) : Nat := if 0 < i ∧ f (i - 1) = nI 59 then b + 1 else b
def rK (c : Int32) : Nat := (kOf c).getD 0
def rStep (f : Nat → Int32) (i : Nat) (x : Nat × zs) : Nat × zs := (rBay f i x.1, bLay x.2 (rBay f i x.1) (rK (f i)) (f (i + 1) - nI 48) (f (i + 2) - nI 48))
def rRun (f : Nat → Int32) : Nat → Nat → Nat × zs → Nat × zs
  | 0, _, x => x
  | n + 1, i, x => rRun f n (i + 4) (rStep f i x)
def rGood (f : Nat → Int32) : Nat → Nat → Nat × zs → Prop
  | 0, _, _ => True
  | n + 1, i, x => kOf (f i) ≠ none ∧ rBay f i x.1 < 3 ∧ rA x.2 10 (rBay f i x.1) < 3 ∧ rN x.2 1 < 9 ∧ rGood f n (i + 4) (rStep f i x)
set_option maxRecDepth 20000 in
set_option maxHeartbeats 1000000 in
theorem lp_read (G : zG) (pg kp sn ks fo ft fe gt mx : zs) (re : Nat → Int64) (m : zs) (hh : Int64) (hz : rN pg 1 ≤ 38) : ∀ (n i : Nat) (x : Nat × zs), rGood (rF pg 0) n i x → i + 4 * n = rN pg 1 + 1 → zS G mX4_readInto 8 [some (.ref 1), some (.ref 3), some (.int (nI x.1)), some (.int (nI i))] [] (wW pg x.2 kp sn ks fo ft fe gt mx re m hh) none (wW pg (rRun (rF pg 0) n i x).2 kp sn ks fo ft fe gt mx re m hh) := by
  intro n
  induction n with
  | zero =>
    intro i x hg hi
    refine z_iload_n iX4_readInto_8 rfl ?_
    refine z_iconst iX4_readInto_9 zk_2 ?_
    refine z_iadd iX4_readInto_10 ?_
    refine z_top nix_add ?_
    refine z_aload_n iX4_readInto_11 rfl ?_
    refine z_getf iX4_readInto_12 fX4_15 (w1_o) (PF_1 _ _) (by decide) ?_
    refine zn_ge iX4_readInto_15 (by omega) (by omega) (fun q15 => ?_) (fun q15 => absurd q15 (by omega))
    exact z_return iX4_readInto_80 (rfl)
  | succ n ih =>
    intro i x hg hi
    obtain ⟨g1, g2, g3, g4, g5⟩ := hg
    obtain ⟨k, ek⟩ : ∃ k, kOf (rF pg 0 i) = some k := by
      cases h : kOf (rF pg 0 i) with
      | none => exact absurd h g1
      | some k => exact ⟨k, rfl⟩
    have ek2 : rK (rF pg 0 i) = k := by rw [rK, ek]; rfl
    by_cases hi0 : i = 0
    · skip
      have eb : rBay (rF pg 0) i x.1 = x.1 := if_neg (by omega)
      rw [eb] at g2 g3
      have es : rStep (rF pg 0) i x = (x.1, bLay x.2 x.1 k (rF pg 0 (i + 1) - nI 48) (rF pg 0 (i + 2) - nI 48)) := by rw [rStep, eb, ek2]
      rw [rRun, es]
      rw [es] at g5
      refine z_iload_n iX4_readInto_8 rfl ?_
      refine z_iconst iX4_readInto_9 zk_2 ?_
      refine z_iadd iX4_readInto_10 ?_
      refine z_top nix_add ?_
      refine z_aload_n iX4_readInto_11 rfl ?_
      refine z_getf iX4_readInto_12 fX4_15 (w1_o) (PF_1 _ _) (by decide) ?_
      refine zn_ge iX4_readInto_15 (by omega) (by omega) (fun q15 => absurd q15 (by omega)) (fun q15 => ?_)
      refine z_iload_n iX4_readInto_18 rfl ?_
      refine zn_if_le iX4_readInto_19 (by omega) (fun q19 => ?_) (fun q19 => absurd q19 (by omega))
      refine z_aload_n iX4_readInto_38 rfl ?_
      refine z_iload_n iX4_readInto_39 rfl ?_
      refine z_aload_n iX4_readInto_40 rfl ?_
      refine z_getf iX4_readInto_41 fX4_11 (w1_o) (PF_0 _ _) (by decide) ?_
      refine z_iload_n iX4_readInto_44 rfl ?_
      refine z_iaload iX4_readInto_45 (w1_0) rfl (by omega) (by decide) (by decide) ?_
      refine z_csi (y1 := mX3_ofLetter) iX4_readInto_46 lX4_23 kX3_ofLetter rfl (c_ofLetter G _ _) rfl rfl (Nat.le_of_ble_eq_true rfl) ?_
      rw [ek, oI_some]
      refine z_aload_n iX4_readInto_49 rfl ?_
      refine z_getf iX4_readInto_50 fX4_11 (w1_o) (PF_0 _ _) (by decide) ?_
      refine z_iload_n iX4_readInto_53 rfl ?_
      refine z_iconst iX4_readInto_54 zk_1 ?_
      refine z_iadd iX4_readInto_55 ?_
      refine z_top nix_add ?_
      refine z_iaload iX4_readInto_56 (w1_0) rfl (by omega) (by decide) (by decide) ?_
      refine z_bipush iX4_readInto_57 zb_48 ?_
      refine z_isub iX4_readInto_59 ?_
      refine z_aload_n iX4_readInto_60 rfl ?_
      refine z_getf iX4_readInto_61 fX4_11 (w1_o) (PF_0 _ _) (by decide) ?_
      refine z_iload_n iX4_readInto_64 rfl ?_
      refine z_iconst iX4_readInto_65 zk_2 ?_
      refine z_iadd iX4_readInto_66 ?_
      refine z_top nix_add ?_
      refine z_iaload iX4_readInto_67 (w1_0) rfl (by omega) (by decide) (by decide) ?_
      refine z_bipush iX4_readInto_68 zb_48 ?_
      refine z_isub iX4_readInto_70 ?_
      refine z_cvv (y1 := mX0_lay) iX4_readInto_71 lX4_42 kX0_lay rfl (vB3 (c_lay G _ 3 (by decide) x.2 x.1 k _ _ g2 g3 g4)) (w3_o) rfl rfl rfl (Nat.le_of_ble_eq_true rfl) (by decide) ?_
      refine z_iinc iX4_readInto_74 rfl (nix_incs 4 zk_4) rfl (by decide) ?_
      refine z_goto iX4_readInto_77 ?_
      exact ih (i + 4) (x.1, bLay x.2 x.1 k (rF pg 0 (i + 1) - nI 48) (rF pg 0 (i + 2) - nI 48)) g5 (by omega)
    · by_cases hc : rF pg 0 (i - 1) = nI 59
      · skip
        have eb : rBay (rF pg 0) i x.1 = (x.1 + 1) := if_pos ⟨by omega, hc⟩
        rw [eb] at g2 g3
        have es : rStep (rF pg 0) i x = ((x.1 + 1), bLay x.2 (x.1 + 1) k (rF pg 0 (i + 1) - nI 48) (rF pg 0 (i + 2) - nI 48)) := by rw [rStep, eb, ek2]
        rw [rRun, es]
        rw [es] at g5
        refine z_iload_n iX4_readInto_8 rfl ?_
        refine z_iconst iX4_readInto_9 zk_2 ?_
        refine z_iadd iX4_readInto_10 ?_
        refine z_top nix_add ?_
        refine z_aload_n iX4_readInto_11 rfl ?_
        refine z_getf iX4_readInto_12 fX4_15 (w1_o) (PF_1 _ _) (by decide) ?_
        refine zn_ge iX4_readInto_15 (by omega) (by omega) (fun q15 => absurd q15 (by omega)) (fun q15 => ?_)
        refine z_iload_n iX4_readInto_18 rfl ?_
        refine zn_if_le iX4_readInto_19 (by omega) (fun q19 => absurd q19 (by omega)) (fun q19 => ?_)
        refine z_aload_n iX4_readInto_22 rfl ?_
        refine z_getf iX4_readInto_23 fX4_11 (w1_o) (PF_0 _ _) (by decide) ?_
        refine z_iload_n iX4_readInto_26 rfl ?_
        refine z_iconst iX4_readInto_27 zk_1 ?_
        refine z_isub iX4_readInto_28 ?_
        refine z_top (nix_sub (by omega)) ?_
        refine z_iaload iX4_readInto_29 (w1_0) rfl (by omega) (by decide) (by decide) ?_
        refine z_bipush iX4_readInto_30 zb_59 ?_
        refine z_icmp_ne iX4_readInto_32 (fun q32 => absurd hc q32) (fun q32 => ?_)
        refine z_iinc iX4_readInto_35 rfl nix_inc rfl (by decide) ?_
        refine z_aload_n iX4_readInto_38 rfl ?_
        refine z_iload_n iX4_readInto_39 rfl ?_
        refine z_aload_n iX4_readInto_40 rfl ?_
        refine z_getf iX4_readInto_41 fX4_11 (w1_o) (PF_0 _ _) (by decide) ?_
        refine z_iload_n iX4_readInto_44 rfl ?_
        refine z_iaload iX4_readInto_45 (w1_0) rfl (by omega) (by decide) (by decide) ?_
        refine z_csi (y1 := mX3_ofLetter) iX4_readInto_46 lX4_23 kX3_ofLetter rfl (c_ofLetter G _ _) rfl rfl (Nat.le_of_ble_eq_true rfl) ?_
        rw [ek, oI_some]
        refine z_aload_n iX4_readInto_49 rfl ?_
        refine z_getf iX4_readInto_50 fX4_11 (w1_o) (PF_0 _ _) (by decide) ?_
        refine z_iload_n iX4_readInto_53 rfl ?_
        refine z_iconst iX4_readInto_54 zk_1 ?_
        refine z_iadd iX4_readInto_55 ?_
        refine z_top nix_add ?_
        refine z_iaload iX4_readInto_56 (w1_0) rfl (by omega) (by decide) (by decide) ?_
        refine z_bipush iX4_readInto_57 zb_48 ?_
        refine z_isub iX4_readInto_59 ?_
        refine z_aload_n iX4_readInto_60 rfl ?_
        refine z_getf iX4_readInto_61 fX4_11 (w1_o) (PF_0 _ _) (by decide) ?_
        refine z_iload_n iX4_readInto_64 rfl ?_
        refine z_iconst iX4_readInto_65 zk_2 ?_
        refine z_iadd iX4_readInto_66 ?_
        refine z_top nix_add ?_
        refine z_iaload iX4_readInto_67 (w1_0) rfl (by omega) (by decide) (by decide) ?_
        refine z_bipush iX4_readInto_68 zb_48 ?_
        refine z_isub iX4_readInto_70 ?_
        refine z_cvv (y1 := mX0_lay) iX4_readInto_71 lX4_42 kX0_lay rfl (vB3 (c_lay G _ 3 (by decide) x.2 (x.1 + 1) k _ _ g2 g3 g4)) (w3_o) rfl rfl rfl (Nat.le_of_ble_eq_true rfl) (by decide) ?_
        refine z_iinc iX4_readInto_74 rfl (nix_incs 4 zk_4) rfl (by decide) ?_
        refine z_goto iX4_readInto_77 ?_
        exact ih (i + 4) ((x.1 + 1), bLay x.2 (x.1 + 1) k (rF pg 0 (i + 1) - nI 48) (rF pg 0 (i + 2) - nI 48)) g5 (by omega)
      · skip
        have eb : rBay (rF pg 0) i x.1 = x.1 := if_neg (fun z => hc z.2)
        rw [eb] at g2 g3
        have es : rStep (rF pg 0) i x = (x.1, bLay x.2 x.1 k (rF pg 0 (i + 1) - nI 48) (rF pg 0 (i + 2) - nI 48)) := by rw [rStep, eb, ek2]
        rw [rRun, es]
        rw [es] at g5
        refine z_iload_n iX4_readInto_8 rfl ?_
        refine z_iconst iX4_readInto_9 zk_2 ?_
        refine z_iadd iX4_readInto_10 ?_
        refine z_top nix_add ?_
        refine z_aload_n iX4_readInto_11 rfl ?_
        refine z_getf iX4_readInto_12 fX4_15 (w1_o) (PF_1 _ _) (by decide) ?_
        refine zn_ge iX4_readInto_15 (by omega) (by omega) (fun q15 => absurd q15 (by omega)) (fun q15 => ?_)
        refine z_iload_n iX4_readInto_18 rfl ?_
        refine zn_if_le iX4_readInto_19 (by omega) (fun q19 => absurd q19 (by omega)) (fun q19 => ?_)
        refine z_aload_n iX4_readInto_22 rfl ?_
        refine z_getf iX4_readInto_23 fX4_11 (w1_o) (PF_0 _ _) (by decide) ?_
        refine z_iload_n iX4_readInto_26 rfl ?_
        refine z_iconst iX4_readInto_27 zk_1 ?_
        refine z_isub iX4_readInto_28 ?_
        refine z_top (nix_sub (by omega)) ?_
        refine z_iaload iX4_readInto_29 (w1_0) rfl (by omega) (by decide) (by decide) ?_
        refine z_bipush iX4_readInto_30 zb_59 ?_
        refine z_icmp_ne iX4_readInto_32 (fun q32 => ?_) (fun q32 => absurd q32 hc)
        refine z_aload_n iX4_readInto_38 rfl ?_
        refine z_iload_n iX4_readInto_39 rfl ?_
        refine z_aload_n iX4_readInto_40 rfl ?_
        refine z_getf iX4_readInto_41 fX4_11 (w1_o) (PF_0 _ _) (by decide) ?_
        refine z_iload_n iX4_readInto_44 rfl ?_
        refine z_iaload iX4_readInto_45 (w1_0) rfl (by omega) (by decide) (by decide) ?_
        refine z_csi (y1 := mX3_ofLetter) iX4_readInto_46 lX4_23 kX3_ofLetter rfl (c_ofLetter G _ _) rfl rfl (Nat.le_of_ble_eq_true rfl) ?_
        rw [ek, oI_some]
        refine z_aload_n iX4_readInto_49 rfl ?_
        refine z_getf iX4_readInto_50 fX4_11 (w1_o) (PF_0 _ _) (by decide) ?_
        refine z_iload_n iX4_readInto_53 rfl ?_
        refine z_iconst iX4_readInto_54 zk_1 ?_
        refine z_iadd iX4_readInto_55 ?_
        refine z_top nix_add ?_
        refine z_iaload iX4_readInto_56 (w1_0) rfl (by omega) (by decide) (by decide) ?_
        refine z_bipush iX4_readInto_57 zb_48 ?_
        refine z_isub iX4_readInto_59 ?_
        refine z_aload_n iX4_readInto_60 rfl ?_
        refine z_getf iX4_readInto_61 fX4_11 (w1_o) (PF_0 _ _) (by decide) ?_
        refine z_iload_n iX4_readInto_64 rfl ?_
        refine z_iconst iX4_readInto_65 zk_2 ?_
        refine z_iadd iX4_readInto_66 ?_
        refine z_top nix_add ?_
        refine z_iaload iX4_readInto_67 (w1_0) rfl (by omega) (by decide) (by decide) ?_
        refine z_bipush iX4_readInto_68 zb_48 ?_
        refine z_isub iX4_readInto_70 ?_
        refine z_cvv (y1 := mX0_lay) iX4_readInto_71 lX4_42 kX0_lay rfl (vB3 (c_lay G _ 3 (by decide) x.2 x.1 k _ _ g2 g3 g4)) (w3_o) rfl rfl rfl (Nat.le_of_ble_eq_true rfl) (by decide) ?_
        refine z_iinc iX4_readInto_74 rfl (nix_incs 4 zk_4) rfl (by decide) ?_
        refine z_goto iX4_readInto_77 ?_
        exact ih (i + 4) (x.1, bLay x.2 x.1 k (rF pg 0 (i + 1) - nI 48) (rF pg 0 (i + 2) - nI 48)) g5 (by omega)
set_option maxRecDepth 20000 in
set_option maxHeartbeats 1000000 in
theorem c_readInto (G : zG) (pg nw kp sn ks fo ft fe gt mx : zs) (re : Nat → Int64) (m : zs) (hh : Int64) (hz : rN pg 1 ≤ 38) (n : Nat) (hn : 4 * n = rN pg 1 + 1) (hg : rGood (rF pg 0) n 0 (0, bEmpty nw)) : zK G mX4_readInto [.ref 1, .ref 3] (wW pg nw kp sn ks fo ft fe gt mx re m hh) none (wW pg (rRun (rF pg 0) n 0 (0, bEmpty nw)).2 kp sn ks fo ft fe gt mx re m hh) := by
  refine zK_of 2 rfl (by decide) trivial (Nat.le_of_ble_eq_true rfl) rfl ?_
  refine z_aload_n iX4_readInto_0 rfl ?_
  refine z_cvv (y1 := mX0_empty) iX4_readInto_1 lX4_37 kX0_empty rfl (vB3 (c_empty G _ 3 (by decide) _)) (w3_o) rfl rfl rfl (Nat.le_of_ble_eq_true rfl) (by decide) ?_
  refine z_iconst iX4_readInto_4 zk_0 ?_
  refine z_istore_n iX4_readInto_5 rfl (by decide) ?_
  refine z_iconst iX4_readInto_6 zk_0 ?_
  refine z_istore_n iX4_readInto_7 rfl (by decide) ?_
  exact lp_read G pg kp sn ks fo ft fe gt mx re m hh hz n 0 (0, bEmpty nw) hg (by omega)
