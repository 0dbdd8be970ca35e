def kGives (k : Nat) (l : Int32) : Int32 := if k = 1 then nI 2 * l else if k = 2 then l + nI 1 else if k = 3 then nI 0 else if k = 4 then nI 2 * l + nI 1 else l
def kWarms (k : Nat) (d : Int32) : Int32 := if k = 1 then d / nI 2 else if k = 2 then nI 2 * d else if k = 3 then nI 0 else if k = 4 then d / nI 2 / nI 2 else d
set_option maxRecDepth 20000 in
set_option maxHeartbeats 1000000 in
theorem c_gives (G : zG) (g : zh) (k : Nat) (l : Int32) (hk : k < 2 ^ 31) : zK G mX3_gives [.int (nI k), .int l] g (some (.int (kGives k l))) g := by
  refine zK_of 0 rfl (by decide) trivial (Nat.le_of_ble_eq_true rfl) rfl ?_
  refine z_iload_n iX3_gives_0 rfl ?_
  by_cases c1_1 : k = 1
  · refine z_tabIn (off := 31) (tgt := 32) iX3_gives_1 (by rw [c1_1]; decide +kernel) (by rw [c1_1]; decide +kernel) (by rw [c1_1]; decide +kernel) (by decide) ?_
    refine z_iconst iX3_gives_32 zk_2 ?_
    refine z_iload_n iX3_gives_33 rfl ?_
    refine z_imul iX3_gives_34 ?_
    exact z_ireturn iX3_gives_35 (by simp only [kGives]; simp [*]) (rfl)
  by_cases c1_2 : k = 2
  · refine z_tabIn (off := 35) (tgt := 36) iX3_gives_1 (by rw [c1_2]; decide +kernel) (by rw [c1_2]; decide +kernel) (by rw [c1_2]; decide +kernel) (by decide) ?_
    refine z_iload_n iX3_gives_36 rfl ?_
    refine z_iconst iX3_gives_37 zk_1 ?_
    refine z_iadd iX3_gives_38 ?_
    exact z_ireturn iX3_gives_39 (by simp only [kGives]; simp [*]) (rfl)
  by_cases c1_3 : k = 3
  · refine z_tabIn (off := 39) (tgt := 40) iX3_gives_1 (by rw [c1_3]; decide +kernel) (by rw [c1_3]; decide +kernel) (by rw [c1_3]; decide +kernel) (by decide) ?_
    refine z_iconst iX3_gives_40 zk_0 ?_
    exact z_ireturn iX3_gives_41 (by simp only [kGives]; simp [*]) (rfl)
  by_cases c1_4 : k = 4
  · refine z_tabIn (off := 41) (tgt := 42) iX3_gives_1 (by rw [c1_4]; decide +kernel) (by rw [c1_4]; decide +kernel) (by rw [c1_4]; decide +kernel) (by decide) ?_
    refine z_iconst iX3_gives_42 zk_2 ?_
    refine z_iload_n iX3_gives_43 rfl ?_
    refine z_imul iX3_gives_44 ?_
    refine z_iconst iX3_gives_45 zk_1 ?_
    refine z_iadd iX3_gives_46 ?_
    exact z_ireturn iX3_gives_47 (by simp only [kGives]; simp [*]) (rfl)
  refine z_tabOut (tgt := 48) iX3_gives_1 (by rw [nI_toInt (by omega)]; omega) (by decide) ?_
  refine z_iload_n iX3_gives_48 rfl ?_
  exact z_ireturn iX3_gives_49 (by simp only [kGives]; simp [*]) (rfl)
set_option maxRecDepth 20000 in
set_option maxHeartbeats 1000000 in
theorem c_warms (G : zG) (g : zh) (k : Nat) (l : Int32) (hk : k < 2 ^ 31) : zK G mX3_warms [.int (nI k), .int l] g (some (.int (kWarms k l))) g := by
  refine zK_of 0 rfl (by decide) trivial (Nat.le_of_ble_eq_true rfl) rfl ?_
  refine z_iload_n iX3_warms_0 rfl ?_
  by_cases c1_1 : k = 1
  · refine z_tabIn (off := 31) (tgt := 32) iX3_warms_1 (by rw [c1_1]; decide +kernel) (by rw [c1_1]; decide +kernel) (by rw [c1_1]; decide +kernel) (by decide) ?_
    refine z_iload_n iX3_warms_32 rfl ?_
    refine z_iconst iX3_warms_33 zk_2 ?_
    refine z_idiv iX3_warms_34 (by decide +kernel) ?_
    exact z_ireturn iX3_warms_35 (by simp only [kWarms]; simp [*]) (rfl)
  by_cases c1_2 : k = 2
  · refine z_tabIn (off := 35) (tgt := 36) iX3_warms_1 (by rw [c1_2]; decide +kernel) (by rw [c1_2]; decide +kernel) (by rw [c1_2]; decide +kernel) (by decide) ?_
    refine z_iconst iX3_warms_36 zk_2 ?_
    refine z_iload_n iX3_warms_37 rfl ?_
    refine z_imul iX3_warms_38 ?_
    exact z_ireturn iX3_warms_39 (by simp only [kWarms]; simp [*]) (rfl)
  by_cases c1_3 : k = 3
  · refine z_tabIn (off := 39) (tgt := 40) iX3_warms_1 (by rw [c1_3]; decide +kernel) (by rw [c1_3]; decide +kernel) (by rw [c1_3]; decide +kernel) (by decide) ?_
    refine z_iconst iX3_warms_40 zk_0 ?_
    exact z_ireturn iX3_warms_41 (by simp only [kWarms]; simp [*]) (rfl)
  by_cases c1_4 : k = 4
  · refine z_tabIn (off := 41) (tgt := 42) iX3_warms_1 (by rw [c1_4]; decide +kernel) (by rw [c1_4]; decide +kernel) (by rw [c1_4]; decide +kernel) (by decide) ?_
    refine z_iload_n iX3_warms_42 rfl ?_
    refine z_iconst iX3_warms_43 zk_2 ?_
    refine z_idiv iX3_warms_44 (by decide +kernel) ?_
    refine z_iconst iX3_warms_45 zk_2 ?_
    refine z_idiv iX3_warms_46 (by decide +kernel) ?_
    exact z_ireturn iX3_warms_47 (by simp only [kWarms]; simp [*]) (rfl)
  refine z_tabOut (tgt := 48) iX3_warms_1 (by rw [nI_toInt (by omega)]; omega) (by decide) ?_
  refine z_iload_n iX3_warms_48 rfl ?_
  exact z_ireturn iX3_warms_49 (by simp only [kWarms]; simp [*]) (rfl)
def bOK (s : zs) : Prop := (∀ j, rA s 11 j < 9) ∧ (∀ j, rA s 10 j ≤ 3) ∧ (∀ j, rA s 6 j < 3) ∧ (∀ j, rA s 5 j ≤ 4) ∧ rN s 0 ≤ 3 ∧ rN s 1 ≤ 9
def bTop (s : zs) (b : Nat) : Int32 := if rA s 10 b = 0 then -1 else nI (rA s 11 (b * 3 + rA s 10 b - 1))
def bAt (s : zs) (b p : Nat) : Int32 := if p < rA s 10 b then nI (rA s 11 (b * 3 + p)) else -1
def bLightOf (s : zs) (b : Nat) : Int32 := zfw (fun p x => x + rF s 7 (rA s 11 (b * 3 + p))) 0 (rA s 10 b) (nI 0)
def bGainAt (s : zs) (b p : Nat) : Int32 := if rA s 10 b ≤ p then nI 0 else kWarms (rA s 5 (rA s 11 (b * 3 + p))) (zfw (fun q d => if rF s 8 (rA s 11 (b * 3 + q)) ≤ 0 then d else d + nI 1) (p + 1) (rA s 10 b - (p + 1)) (rF s 8 (rA s 11 (b * 3 + p))))
def bLose (s : zs) (c : Nat) : zs := uF (uF (uF s 7 (upd (rF s 7) c (nI 0))) 8 (upd (rF s 8) c (nI 0))) 9 (upd (rF s 9) c (nI 0))
set_option maxRecDepth 20000 in
set_option maxHeartbeats 1000000 in
theorem c_top (G : zG) (g : zh) (a : Nat) (ha : a < 900) (s : zs) (hs : bOK s) (b : Nat) (hb : b < 3) : zK G mX0_top [.ref a, .int (nI b)] (sB g a s) (some (.int (bTop s b))) (sB g a s) := by
  obtain ⟨h11, h10, h6, h5, h0, h1⟩ := id hs
  have hh := h10 b
  refine zK_of 0 rfl (by decide) trivial (Nat.le_of_ble_eq_true rfl) rfl ?_
  refine z_aload_n iX0_top_0 rfl ?_
  refine z_getf iX0_top_1 fX0_27 (sB_o _ _ _) (BF_10 _ _) (by omega) ?_
  refine z_iload_n iX0_top_4 rfl ?_
  refine z_iaload iX0_top_5 (sB_10 _ _ _) rfl (by omega) (by decide) (by omega) ?_
  refine zn_if_ne iX0_top_6 (by omega) (fun q6 => ?_) (fun q6 => ?_)
  · refine z_aload_n iX0_top_13 rfl ?_
    refine z_getf iX0_top_14 fX0_30 (sB_o _ _ _) (BF_11 _ _) (by omega) ?_
    refine z_iload_n iX0_top_17 rfl ?_
    refine z_iconst iX0_top_18 zk_3 ?_
    refine z_imul iX0_top_19 ?_
    refine z_top nix_mul ?_
    refine z_aload_n iX0_top_20 rfl ?_
    refine z_getf iX0_top_21 fX0_27 (sB_o _ _ _) (BF_10 _ _) (by omega) ?_
    refine z_iload_n iX0_top_24 rfl ?_
    refine z_iaload iX0_top_25 (sB_10 _ _ _) rfl (by omega) (by decide) (by omega) ?_
    refine z_iadd iX0_top_26 ?_
    refine z_top nix_add ?_
    refine z_iconst iX0_top_27 zk_1 ?_
    refine z_isub iX0_top_28 ?_
    refine z_top (nix_sub (by omega)) ?_
    refine z_iaload iX0_top_29 (sB_11 _ _ _) rfl (by omega) (by decide) (by omega) ?_
    exact z_ireturn iX0_top_30 (by simp [bTop, *]) (rfl)
  · refine z_iconst iX0_top_9 zk_m1 ?_
    refine z_goto iX0_top_10 ?_
    exact z_ireturn iX0_top_30 (by simp [bTop, *]) (rfl)
set_option maxRecDepth 20000 in
set_option maxHeartbeats 1000000 in
theorem c_at (G : zG) (g : zh) (a : Nat) (ha : a < 900) (s : zs) (hs : bOK s) (b p : Nat) (hb : b < 3) (hp : p < 3) : zK G mX0_at [.ref a, .int (nI b), .int (nI p)] (sB g a s) (some (.int (bAt s b p))) (sB g a s) := by
  obtain ⟨h11, h10, h6, h5, h0, h1⟩ := id hs
  have hh := h10 b
  refine zK_of 0 rfl (by decide) trivial (Nat.le_of_ble_eq_true rfl) rfl ?_
  refine z_iload_n iX0_at_0 rfl ?_
  refine zn_if_lt iX0_at_1 (by omega) ?_
  refine z_iload_n iX0_at_4 rfl ?_
  refine z_aload_n iX0_at_5 rfl ?_
  refine z_getf iX0_at_6 fX0_27 (sB_o _ _ _) (BF_10 _ _) (by omega) ?_
  refine z_iload_n iX0_at_9 rfl ?_
  refine z_iaload iX0_at_10 (sB_10 _ _ _) rfl (by omega) (by decide) (by omega) ?_
  refine zn_lt iX0_at_11 (by omega) (by omega) (fun q11 => ?_) (fun q11 => ?_)
  · refine z_aload_n iX0_at_18 rfl ?_
    refine z_getf iX0_at_19 fX0_30 (sB_o _ _ _) (BF_11 _ _) (by omega) ?_
    refine z_iload_n iX0_at_22 rfl ?_
    refine z_iconst iX0_at_23 zk_3 ?_
    refine z_imul iX0_at_24 ?_
    refine z_top nix_mul ?_
    refine z_iload_n iX0_at_25 rfl ?_
    refine z_iadd iX0_at_26 ?_
    refine z_top nix_add ?_
    refine z_iaload iX0_at_27 (sB_11 _ _ _) rfl (by omega) (by decide) (by omega) ?_
    exact z_ireturn iX0_at_28 (by rw [bAt]; split <;> first | rfl | omega) (rfl)
  · refine z_iconst iX0_at_14 zk_m1 ?_
    refine z_goto iX0_at_15 ?_
    exact z_ireturn iX0_at_28 (by rw [bAt]; split <;> first | rfl | omega) (rfl)
set_option maxRecDepth 20000 in
set_option maxHeartbeats 1000000 in
theorem c_isGone (G : zG) (g : zh) (a : Nat) (ha : a < 900) (s : zs) (hs : bOK s) (c : Nat) (hc : c < 9) : zK G mX0_isGone [.ref a, .int (nI c)] (sB g a s) (some (.int (zbo (decide (rF s 7 c = 0))))) (sB g a s) := by
  refine zK_of 0 rfl (by decide) (zbo_n _) (Nat.le_of_ble_eq_true rfl) rfl ?_
  refine z_aload_n iX0_isGone_0 rfl ?_
  refine z_getf iX0_isGone_1 fX0_18 (sB_o _ _ _) (BF_7 _ _) (by omega) ?_
  refine z_iload_n iX0_isGone_4 rfl ?_
  refine z_iaload iX0_isGone_5 (sB_7 _ _ _) rfl (by omega) (by decide) (by omega) ?_
  refine z_if_ne iX0_isGone_6 (fun q6 => ?_) (fun q6 => ?_)
  · refine z_iconst iX0_isGone_13 zk_0 ?_
    exact z_ireturn iX0_isGone_14 (by simp [zbo, *] <;> decide +kernel) (rfl)
  · refine z_iconst iX0_isGone_9 zk_1 ?_
    refine z_goto iX0_isGone_10 ?_
    exact z_ireturn iX0_isGone_14 (by simp [zbo, *] <;> decide +kernel) (rfl)
set_option maxRecDepth 20000 in
set_option maxHeartbeats 1000000 in
theorem c_lose (G : zG) (g : zh) (a : Nat) (ha : a < 900) (s : zs) (hs : bOK s) (c : Nat) (hc : c < 9) : zK G mX0_lose [.ref a, .int (nI c)] (sB g a s) none (sB g a (bLose s c)) := by
  refine zK_of 0 rfl (by decide) trivial (Nat.le_of_ble_eq_true rfl) rfl ?_
  refine z_aload_n iX0_lose_0 rfl ?_
  refine z_getf iX0_lose_1 fX0_18 (sB_o _ _ _) (BF_7 _ _) (by omega) ?_
  refine z_iload_n iX0_lose_4 rfl ?_
  refine z_iconst iX0_lose_5 zk_0 ?_
  refine z_iastore iX0_lose_6 (sB_7 _ _ _) rfl (by omega) (by decide) (by omega) (by decide) ?_
  rw [sB_w7]
  refine z_aload_n iX0_lose_7 rfl ?_
  refine z_getf iX0_lose_8 fX0_21 (sB_o _ _ _) (BF_8 _ _) (by omega) ?_
  refine z_iload_n iX0_lose_11 rfl ?_
  refine z_iconst iX0_lose_12 zk_0 ?_
  refine z_iastore iX0_lose_13 (sB_8 _ _ _) rfl (by omega) (by decide) (by omega) (by decide) ?_
  rw [sB_w8]
  refine z_aload_n iX0_lose_14 rfl ?_
  refine z_getf iX0_lose_15 fX0_24 (sB_o _ _ _) (BF_9 _ _) (by omega) ?_
  refine z_iload_n iX0_lose_18 rfl ?_
  refine z_iconst iX0_lose_19 zk_0 ?_
  refine z_iastore iX0_lose_20 (sB_9 _ _ _) rfl (by omega) (by decide) (by omega) (by decide) ?_
  rw [sB_w9]
  exact z_return iX0_lose_21 (rfl)
set_option maxRecDepth 20000 in
set_option maxHeartbeats 1000000 in
theorem lp_lightOf (G : zG) (g : zh) (a : Nat) (ha : a < 900) (s : zs) (hs : bOK s) (b : Nat) (hb : b < 3) : ∀ (n i : Nat) (x : Int32), i + n = rA s 10 b → zS G mX0_lightOf 4 [some (.ref a), some (.int (nI b)), some (.int x), some (.int (nI i))] [] (sB g a s) (some (.int (zfw (fun p x => x + rF s 7 (rA s 11 (b * 3 + p))) i n x))) (sB g a s) := by
  obtain ⟨h11, h10, h6, h5, h0, h1⟩ := id hs
  have hh := h10 b
  intro n
  induction n with
  | zero =>
    intro i x hi
    refine z_iload_n iX0_lightOf_4 rfl ?_
    refine z_aload_n iX0_lightOf_5 rfl ?_
    refine z_getf iX0_lightOf_6 fX0_27 (sB_o _ _ _) (BF_10 _ _) (by omega) ?_
    refine z_iload_n iX0_lightOf_9 rfl ?_
    refine z_iaload iX0_lightOf_10 (sB_10 _ _ _) rfl (by omega) (by decide) (by omega) ?_
    refine zn_ge iX0_lightOf_11 (by omega) (by omega) (fun q11 => ?_) (fun q11 => absurd q11 (by omega))
    refine z_iload_n iX0_lightOf_38 rfl ?_
    exact z_ireturn iX0_lightOf_39 (rfl) (rfl)
  | succ n ih =>
    intro i x hi
    refine z_iload_n iX0_lightOf_4 rfl ?_
    refine z_aload_n iX0_lightOf_5 rfl ?_
    refine z_getf iX0_lightOf_6 fX0_27 (sB_o _ _ _) (BF_10 _ _) (by omega) ?_
    refine z_iload_n iX0_lightOf_9 rfl ?_
    refine z_iaload iX0_lightOf_10 (sB_10 _ _ _) rfl (by omega) (by decide) (by omega) ?_
    refine zn_ge iX0_lightOf_11 (by omega) (by omega) (fun q11 => absurd q11 (by omega)) (fun q11 => ?_)
    refine z_iload_n iX0_lightOf_14 rfl ?_
    refine z_aload_n iX0_lightOf_15 rfl ?_
    refine z_getf iX0_lightOf_16 fX0_18 (sB_o _ _ _) (BF_7 _ _) (by omega) ?_
    refine z_aload_n iX0_lightOf_19 rfl ?_
    refine z_getf iX0_lightOf_20 fX0_30 (sB_o _ _ _) (BF_11 _ _) (by omega) ?_
    refine z_iload_n iX0_lightOf_23 rfl ?_
    refine z_iconst iX0_lightOf_24 zk_3 ?_
    refine z_imul iX0_lightOf_25 ?_
    refine z_top nix_mul ?_
    refine z_iload_n iX0_lightOf_26 rfl ?_
    refine z_iadd iX0_lightOf_27 ?_
    refine z_top nix_add ?_
    refine z_iaload iX0_lightOf_28 (sB_11 _ _ _) rfl (by omega) (by decide) (by omega) ?_
    refine z_iaload iX0_lightOf_29 (sB_7 _ _ _) rfl (h11 _) (by decide) (by omega) ?_
    refine z_iadd iX0_lightOf_30 ?_
    refine z_istore_n iX0_lightOf_31 rfl (by decide) ?_
    refine z_iinc iX0_lightOf_32 rfl nix_inc rfl (by decide) ?_
    refine z_goto iX0_lightOf_35 ?_
    exact ih (i + 1) _ (by omega)
set_option maxRecDepth 20000 in
set_option maxHeartbeats 1000000 in
theorem c_lightOf (G : zG) (g : zh) (a : Nat) (ha : a < 900) (s : zs) (hs : bOK s) (b : Nat) (hb : b < 3) : zK G mX0_lightOf [.ref a, .int (nI b)] (sB g a s) (some (.int (bLightOf s b))) (sB g a s) := by
  refine zK_of 2 rfl (by decide) trivial (Nat.le_of_ble_eq_true rfl) rfl ?_
  refine z_iconst iX0_lightOf_0 zk_0 ?_
  refine z_istore_n iX0_lightOf_1 rfl (by decide) ?_
  refine z_iconst iX0_lightOf_2 zk_0 ?_
  refine z_istore_n iX0_lightOf_3 rfl (by decide) ?_
  exact lp_lightOf G g a ha s hs b hb _ 0 _ (Nat.zero_add _)
set_option maxRecDepth 20000 in
set_option maxHeartbeats 1000000 in
theorem lp_gainAt (G : zG) (g : zh) (a : Nat) (ha : a < 900) (s : zs) (hs : bOK s) (b : Nat) (hb : b < 3) (c p : Nat) (hc : c < 9) : ∀ (n i : Nat) (d : Int32), i + n = rA s 10 b → zS G mX0_gainAt 40 [some (.ref a), some (.int (nI b)), some (.int (nI p)), some (.int (nI c)), some (.int d), some (.int (nI i))] [] (sB g a s) (some (.int (kWarms (rA s 5 c) (zfw (fun q d => if rF s 8 (rA s 11 (b * 3 + q)) ≤ 0 then d else d + nI 1) i n d)))) (sB g a s) := by
  obtain ⟨h11, h10, h6, h5, h0, h1⟩ := id hs
  have hh := h10 b
  have hk := h5 c
  intro n
  induction n with
  | zero =>
    intro i d hi
    refine z_iload iX0_gainAt_40 rfl ?_
    refine z_aload_n iX0_gainAt_42 rfl ?_
    refine z_getf iX0_gainAt_43 fX0_27 (sB_o _ _ _) (BF_10 _ _) (by omega) ?_
    refine z_iload_n iX0_gainAt_46 rfl ?_
    refine z_iaload iX0_gainAt_47 (sB_10 _ _ _) rfl (by omega) (by decide) (by omega) ?_
    refine zn_ge iX0_gainAt_48 (by omega) (by omega) (fun q48 => ?_) (fun q48 => absurd q48 (by omega))
    refine z_aload_n iX0_gainAt_79 rfl ?_
    refine z_getf iX0_gainAt_80 fX0_9 (sB_o _ _ _) (BF_5 _ _) (by omega) ?_
    refine z_iload_n iX0_gainAt_83 rfl ?_
    refine z_iaload iX0_gainAt_84 (sB_5 _ _ _) rfl (by omega) (by decide) (by omega) ?_
    refine z_iload iX0_gainAt_85 rfl ?_
    refine z_csi (y1 := mX3_warms) iX0_gainAt_87 lX0_68 kX3_warms rfl (c_warms G _ _ _ (by omega)) rfl rfl (Nat.le_of_ble_eq_true rfl) ?_
    exact z_ireturn iX0_gainAt_90 (rfl) (rfl)
  | succ n ih =>
    intro i d hi
    refine z_iload iX0_gainAt_40 rfl ?_
    refine z_aload_n iX0_gainAt_42 rfl ?_
    refine z_getf iX0_gainAt_43 fX0_27 (sB_o _ _ _) (BF_10 _ _) (by omega) ?_
    refine z_iload_n iX0_gainAt_46 rfl ?_
    refine z_iaload iX0_gainAt_47 (sB_10 _ _ _) rfl (by omega) (by decide) (by omega) ?_
    refine zn_ge iX0_gainAt_48 (by omega) (by omega) (fun q48 => absurd q48 (by omega)) (fun q48 => ?_)
    refine z_aload_n iX0_gainAt_51 rfl ?_
    refine z_getf iX0_gainAt_52 fX0_21 (sB_o _ _ _) (BF_8 _ _) (by omega) ?_
    refine z_aload_n iX0_gainAt_55 rfl ?_
    refine z_getf iX0_gainAt_56 fX0_30 (sB_o _ _ _) (BF_11 _ _) (by omega) ?_
    refine z_iload_n iX0_gainAt_59 rfl ?_
    refine z_iconst iX0_gainAt_60 zk_3 ?_
    refine z_imul iX0_gainAt_61 ?_
    refine z_top nix_mul ?_
    refine z_iload iX0_gainAt_62 rfl ?_
    refine z_iadd iX0_gainAt_64 ?_
    refine z_top nix_add ?_
    refine z_iaload iX0_gainAt_65 (sB_11 _ _ _) rfl (by omega) (by decide) (by omega) ?_
    refine z_iaload iX0_gainAt_66 (sB_8 _ _ _) rfl (h11 _) (by decide) (by omega) ?_
    refine z_if_le iX0_gainAt_67 (fun q67 => ?_) (fun q67 => ?_)
    · refine z_iinc iX0_gainAt_73 rfl nix_inc rfl (by decide) ?_
      refine z_goto iX0_gainAt_76 ?_
      first
        | (simp only [zfw, if_pos q67]; exact ih (i + 1) _ (by omega))
        | (simp only [zfw, if_neg q67]; exact ih (i + 1) _ (by omega))
    · refine z_iinc iX0_gainAt_70 rfl zinc_i rfl (by decide) ?_
      refine z_iinc iX0_gainAt_73 rfl nix_inc rfl (by decide) ?_
      refine z_goto iX0_gainAt_76 ?_
      first
        | (simp only [zfw, if_pos q67]; exact ih (i + 1) _ (by omega))
        | (simp only [zfw, if_neg q67]; exact ih (i + 1) _ (by omega))
set_option maxRecDepth 20000 in
set_option maxHeartbeats 1000000 in
theorem c_gainAt (G : zG) (g : zh) (a : Nat) (ha : a < 900) (s : zs) (hs : bOK s) (b p : Nat) (hb : b < 3) (hp : p < 2 ^ 30) : zK G mX0_gainAt [.ref a, .int (nI b), .int (nI p)] (sB g a s) (some (.int (bGainAt s b p))) (sB g a s) := by
  obtain ⟨h11, h10, h6, h5, h0, h1⟩ := id hs
  have hh := h10 b
  refine zK_of 3 rfl (by decide) trivial (Nat.le_of_ble_eq_true rfl) rfl ?_
  refine z_iload_n iX0_gainAt_0 rfl ?_
  refine zn_if_lt iX0_gainAt_1 (by omega) ?_
  refine z_iload_n iX0_gainAt_4 rfl ?_
  refine z_aload_n iX0_gainAt_5 rfl ?_
  refine z_getf iX0_gainAt_6 fX0_27 (sB_o _ _ _) (BF_10 _ _) (by omega) ?_
  refine z_iload_n iX0_gainAt_9 rfl ?_
  refine z_iaload iX0_gainAt_10 (sB_10 _ _ _) rfl (by omega) (by decide) (by omega) ?_
  refine zn_lt iX0_gainAt_11 (by omega) (by omega) (fun q11 => ?_) (fun q11 => ?_)
  · refine z_aload_n iX0_gainAt_16 rfl ?_
    refine z_getf iX0_gainAt_17 fX0_30 (sB_o _ _ _) (BF_11 _ _) (by omega) ?_
    refine z_iload_n iX0_gainAt_20 rfl ?_
    refine z_iconst iX0_gainAt_21 zk_3 ?_
    refine z_imul iX0_gainAt_22 ?_
    refine z_top nix_mul ?_
    refine z_iload_n iX0_gainAt_23 rfl ?_
    refine z_iadd iX0_gainAt_24 ?_
    refine z_top nix_add ?_
    refine z_iaload iX0_gainAt_25 (sB_11 _ _ _) rfl (by omega) (by decide) (by omega) ?_
    refine z_istore_n iX0_gainAt_26 rfl (by decide) ?_
    refine z_aload_n iX0_gainAt_27 rfl ?_
    refine z_getf iX0_gainAt_28 fX0_21 (sB_o _ _ _) (BF_8 _ _) (by omega) ?_
    refine z_iload_n iX0_gainAt_31 rfl ?_
    refine z_iaload iX0_gainAt_32 (sB_8 _ _ _) rfl (h11 _) (by decide) (by omega) ?_
    refine z_istore iX0_gainAt_33 rfl (by decide) ?_
    refine z_iload_n iX0_gainAt_35 rfl ?_
    refine z_iconst iX0_gainAt_36 zk_1 ?_
    refine z_iadd iX0_gainAt_37 ?_
    refine z_top nix_add ?_
    refine z_istore iX0_gainAt_38 rfl (by decide) ?_
    rw [bGainAt, if_neg (by omega)]
    exact lp_gainAt G g a ha s hs b hb _ _ (h11 _) _ (p + 1) _ (by omega)
  · refine z_iconst iX0_gainAt_14 zk_0 ?_
    exact z_ireturn iX0_gainAt_15 (by simp [bGainAt, *]) (rfl)
def zfind (P : Nat → Bool) : Nat → Nat → Option Nat
  | _, 0 => none
  | i, n + 1 => if P i = true then some i else zfind P (i + 1) n
theorem zfind_lt {P : Nat → Bool} : ∀ (n i p : Nat), zfind P i n = some p → i ≤ p ∧ p < i + n ∧ P p = true ∧ ∀ j, i ≤ j → j < p → P j = false
  | 0, i, p, h => by simp [zfind] at h
  | n + 1, i, p, h => by
    unfold zfind at h
    split at h
    · cases h
      exact ⟨Nat.le_refl _, by omega, by assumption, fun j h1 h2 => by omega⟩
    · obtain ⟨a, b, c, d⟩ := zfind_lt n (i + 1) p h
      refine ⟨by omega, by omega, c, fun j h1 h2 => ?_⟩
      by_cases e : j = i
      · subst e
        simpa using (by assumption : ¬ P j = true)
      · exact d j (by omega) h2
def bFind (s : zs) (c : Nat) : Option Nat := zfind (fun p => Nat.beq (rA s 11 (rA s 6 c * 3 + p)) c) 0 (rA s 10 (rA s 6 c))
theorem nI_m1 {c : Nat} (h : c < 2 ^ 31) : ¬ nI c = -1 := by
  intro e
  have h1 := congrArg Int32.toInt e
  rw [nI_toInt h] at h1
  have h2 : (-1 : Int32).toInt = -1 := by decide +kernel
  omega
set_option maxRecDepth 20000 in
set_option maxHeartbeats 1000000 in
theorem lp_placeOf (G : zG) (g : zh) (a : Nat) (ha : a < 900) (s : zs) (hs : bOK s) (c : Nat) (hc : c < 9) (p : Nat) : ∀ (n i : Nat) , i + n = rA s 10 (rA s 6 c) → zfind (fun p => Nat.beq (rA s 11 (rA s 6 c * 3 + p)) c) i n = some p → zS G mX0_placeOf 9 [some (.ref a), some (.int (nI c)), some (.int (nI (rA s 6 c))), some (.int (nI i))] [] (sB g a s) (some (.int (nI p))) (sB g a s) := by
  obtain ⟨h11, h10, h6, h5, h0, h1⟩ := id hs
  have hb := h6 c
  have hh := h10 (rA s 6 c)
  intro n
  induction n with
  | zero =>
    intro i hi hf
    exact absurd hf (by simp [zfind])
  | succ n ih =>
    intro i hi hf
    refine z_iload_n iX0_placeOf_9 rfl ?_
    refine z_aload_n iX0_placeOf_10 rfl ?_
    refine z_getf iX0_placeOf_11 fX0_27 (sB_o _ _ _) (BF_10 _ _) (by omega) ?_
    refine z_iload_n iX0_placeOf_14 rfl ?_
    refine z_iaload iX0_placeOf_15 (sB_10 _ _ _) rfl (by omega) (by decide) (by omega) ?_
    refine zn_ge iX0_placeOf_16 (by omega) (by omega) (fun q16 => absurd q16 (by omega)) (fun q16 => ?_)
    refine z_aload_n iX0_placeOf_19 rfl ?_
    refine z_getf iX0_placeOf_20 fX0_30 (sB_o _ _ _) (BF_11 _ _) (by omega) ?_
    refine z_iload_n iX0_placeOf_23 rfl ?_
    refine z_iconst iX0_placeOf_24 zk_3 ?_
    refine z_imul iX0_placeOf_25 ?_
    refine z_top nix_mul ?_
    refine z_iload_n iX0_placeOf_26 rfl ?_
    refine z_iadd iX0_placeOf_27 ?_
    refine z_top nix_add ?_
    refine z_iaload iX0_placeOf_28 (sB_11 _ _ _) rfl (by omega) (by decide) (by omega) ?_
    refine z_iload_n iX0_placeOf_29 rfl ?_
    have hlt := h11 (rA s 6 c * 3 + i)
    refine zn_ne iX0_placeOf_30 (by omega) (by omega) (fun q30 => ?_) (fun q30 => ?_)
    · refine z_iinc iX0_placeOf_35 rfl nix_inc rfl (by decide) ?_
      refine z_goto iX0_placeOf_38 ?_
      refine ih (i + 1) (by omega) ?_
      unfold zfind at hf
      rw [if_neg (by intro z; exact q30 (Nat.eq_of_beq_eq_true z))] at hf
      exact hf
    · refine z_iload_n iX0_placeOf_33 rfl ?_
      exact z_ireturn iX0_placeOf_34 (by
      unfold zfind at hf
      rw [if_pos (by rw [q30]; exact Nat.beq_refl c)] at hf
      cases hf; rfl) (rfl)
set_option maxRecDepth 20000 in
set_option maxHeartbeats 1000000 in
theorem c_placeOf (G : zG) (g : zh) (a : Nat) (ha : a < 900) (s : zs) (hs : bOK s) (c : Nat) (hc : c < 9) (p : Nat) (hf : bFind s c = some p) : zK G mX0_placeOf [.ref a, .int (nI c)] (sB g a s) (some (.int (nI p))) (sB g a s) := by
  obtain ⟨h11, h10, h6, h5, h0, h1⟩ := id hs
  refine zK_of 2 rfl (by decide) trivial (Nat.le_of_ble_eq_true rfl) rfl ?_
  refine z_aload_n iX0_placeOf_0 rfl ?_
  refine z_getf iX0_placeOf_1 fX0_15 (sB_o _ _ _) (BF_6 _ _) (by omega) ?_
  refine z_iload_n iX0_placeOf_4 rfl ?_
  refine z_iaload iX0_placeOf_5 (sB_6 _ _ _) rfl (by omega) (by decide) (by omega) ?_
  refine z_istore_n iX0_placeOf_6 rfl (by decide) ?_
  refine z_iconst iX0_placeOf_7 zk_0 ?_
  refine z_istore_n iX0_placeOf_8 rfl (by decide) ?_
  exact lp_placeOf G g a ha s hs c hc p _ 0 (Nat.zero_add _) hf
set_option maxRecDepth 20000 in
set_option maxHeartbeats 1000000 in
theorem c_howManyOn (G : zG) (g : zh) (a : Nat) (ha : a < 900) (s : zs) (hs : bOK s) (c : Nat) (hc : c < 9) (p : Nat) (hf : bFind s c = some p) : zK G mX0_howManyOn [.ref a, .int (nI c)] (sB g a s) (some (.int (nI (rA s 10 (rA s 6 c) - 1 - p)))) (sB g a s) := by
  obtain ⟨h11, h10, h6, h5, h0, h1⟩ := id hs
  obtain ⟨z1, z2, -, -⟩ := zfind_lt _ _ _ hf
  have hb := h6 c
  refine zK_of 0 rfl (by decide) trivial (Nat.le_of_ble_eq_true rfl) rfl ?_
  refine z_aload_n iX0_howManyOn_0 rfl ?_
  refine z_getf iX0_howManyOn_1 fX0_27 (sB_o _ _ _) (BF_10 _ _) (by omega) ?_
  refine z_aload_n iX0_howManyOn_4 rfl ?_
  refine z_getf iX0_howManyOn_5 fX0_15 (sB_o _ _ _) (BF_6 _ _) (by omega) ?_
  refine z_iload_n iX0_howManyOn_8 rfl ?_
  refine z_iaload iX0_howManyOn_9 (sB_6 _ _ _) rfl (by omega) (by decide) (by omega) ?_
  refine z_iaload iX0_howManyOn_10 (sB_10 _ _ _) rfl (by omega) (by decide) (by omega) ?_
  refine z_iconst iX0_howManyOn_11 zk_1 ?_
  refine z_isub iX0_howManyOn_12 ?_
  refine z_top (nix_sub (by omega)) ?_
  refine z_aload_n iX0_howManyOn_13 rfl ?_
  refine z_iload_n iX0_howManyOn_14 rfl ?_
  refine z_cvi (y1 := mX0_placeOf) iX0_howManyOn_15 lX0_55 kX0_placeOf rfl (c_placeOf G g a ha s hs c hc p hf) (sB_o _ _ _) rfl rfl rfl (Nat.le_of_ble_eq_true rfl) (by omega) ?_
  refine z_isub iX0_howManyOn_18 ?_
  refine z_top (nix_sub (by omega)) ?_
  exact z_ireturn iX0_howManyOn_19 (rfl) (rfl)
set_option maxRecDepth 20000 in
set_option maxHeartbeats 1000000 in
theorem c_gain (G : zG) (g : zh) (a : Nat) (ha : a < 900) (s : zs) (hs : bOK s) (c : Nat) (hc : c < 9) (p : Nat) (hf : bFind s c = some p) : zK G mX0_gain [.ref a, .int (nI c)] (sB g a s) (some (.int (bGainAt s (rA s 6 c) p))) (sB g a s) := by
  obtain ⟨h11, h10, h6, h5, h0, h1⟩ := id hs
  obtain ⟨z1, z2, -, -⟩ := zfind_lt _ _ _ hf
  have hb := h6 c
  have hh := h10 (rA s 6 c)
  refine zK_of 0 rfl (by decide) trivial (Nat.le_of_ble_eq_true rfl) rfl ?_
  refine z_aload_n iX0_gain_0 rfl ?_
  refine z_aload_n iX0_gain_1 rfl ?_
  refine z_getf iX0_gain_2 fX0_15 (sB_o _ _ _) (BF_6 _ _) (by omega) ?_
  refine z_iload_n iX0_gain_5 rfl ?_
  refine z_iaload iX0_gain_6 (sB_6 _ _ _) rfl (by omega) (by decide) (by omega) ?_
  refine z_aload_n iX0_gain_7 rfl ?_
  refine z_iload_n iX0_gain_8 rfl ?_
  refine z_cvi (y1 := mX0_placeOf) iX0_gain_9 lX0_55 kX0_placeOf rfl (c_placeOf G g a ha s hs c hc p hf) (sB_o _ _ _) rfl rfl rfl (Nat.le_of_ble_eq_true rfl) (by omega) ?_
  refine z_cvi (y1 := mX0_gainAt) iX0_gain_12 lX0_65 kX0_gainAt rfl (c_gainAt G g a ha s hs _ p hb (by omega)) (sB_o _ _ _) rfl rfl rfl (Nat.le_of_ble_eq_true rfl) (by omega) ?_
  exact z_ireturn iX0_gain_15 (rfl) (rfl)
def bLightSome (s : zs) (b t : Nat) : Int32 := zfw (fun p x => if t / 2 ^ p % 2 = 1 then x + rF s 7 (rA s 11 (b * 3 + p)) else x) 0 (rA s 10 b) (nI 0)
set_option maxRecDepth 20000 in
set_option maxHeartbeats 1000000 in
theorem lp_lightSome (G : zG) (g : zh) (a : Nat) (ha : a < 900) (s : zs) (hs : bOK s) (b t : Nat) (hb : b < 3) (ht : t < 2 ^ 30) : ∀ (n i : Nat) (x : Int32), i + n = rA s 10 b → zS G mX0_lightOfSome 5 [some (.ref a), some (.int (nI b)), some (.int (nI t)), some (.int x), some (.int (nI i))] [] (sB g a s) (some (.int (zfw (fun p x => if t / 2 ^ p % 2 = 1 then x + rF s 7 (rA s 11 (b * 3 + p)) else x) i n x))) (sB g a s) := by
  obtain ⟨h11, h10, h6, h5, h0, h1⟩ := id hs
  have hh := h10 b
  intro n
  induction n with
  | zero =>
    intro i x hi
    refine z_iload iX0_lightOfSome_5 rfl ?_
    refine z_aload_n iX0_lightOfSome_7 rfl ?_
    refine z_getf iX0_lightOfSome_8 fX0_27 (sB_o _ _ _) (BF_10 _ _) (by omega) ?_
    refine z_iload_n iX0_lightOfSome_11 rfl ?_
    refine z_iaload iX0_lightOfSome_12 (sB_10 _ _ _) rfl (by omega) (by decide) (by omega) ?_
    refine zn_ge iX0_lightOfSome_13 (by omega) (by omega) (fun q13 => ?_) (fun q13 => absurd q13 (by omega))
    refine z_iload_n iX0_lightOfSome_51 rfl ?_
    exact z_ireturn iX0_lightOfSome_52 (rfl) (rfl)
  | succ n ih =>
    intro i x hi
    refine z_iload iX0_lightOfSome_5 rfl ?_
    refine z_aload_n iX0_lightOfSome_7 rfl ?_
    refine z_getf iX0_lightOfSome_8 fX0_27 (sB_o _ _ _) (BF_10 _ _) (by omega) ?_
    refine z_iload_n iX0_lightOfSome_11 rfl ?_
    refine z_iaload iX0_lightOfSome_12 (sB_10 _ _ _) rfl (by omega) (by decide) (by omega) ?_
    refine zn_ge iX0_lightOfSome_13 (by omega) (by omega) (fun q13 => absurd q13 (by omega)) (fun q13 => ?_)
    refine z_iload_n iX0_lightOfSome_16 rfl ?_
    refine z_iload iX0_lightOfSome_17 rfl ?_
    refine z_ishr iX0_lightOfSome_19 ?_
    refine z_top (nix_shr (by omega) (by omega)) ?_
    refine z_iconst iX0_lightOfSome_20 zk_1 ?_
    refine z_iand iX0_lightOfSome_21 ?_
    refine z_top nix_and1 ?_
    refine z_iconst iX0_lightOfSome_22 zk_1 ?_
    refine zn_ne iX0_lightOfSome_23 (by omega) (by omega) (fun q23 => ?_) (fun q23 => ?_)
    · refine z_iinc iX0_lightOfSome_45 rfl nix_inc rfl (by decide) ?_
      refine z_goto iX0_lightOfSome_48 ?_
      first
        | (simp only [zfw, if_pos q23]; exact ih (i + 1) _ (by omega))
        | (simp only [zfw, if_neg q23]; exact ih (i + 1) _ (by omega))
    · refine z_iload_n iX0_lightOfSome_26 rfl ?_
      refine z_aload_n iX0_lightOfSome_27 rfl ?_
      refine z_getf iX0_lightOfSome_28 fX0_18 (sB_o _ _ _) (BF_7 _ _) (by omega) ?_
      refine z_aload_n iX0_lightOfSome_31 rfl ?_
      refine z_getf iX0_lightOfSome_32 fX0_30 (sB_o _ _ _) (BF_11 _ _) (by omega) ?_
      refine z_iload_n iX0_lightOfSome_35 rfl ?_
      refine z_iconst iX0_lightOfSome_36 zk_3 ?_
      refine z_imul iX0_lightOfSome_37 ?_
      refine z_top nix_mul ?_
      refine z_iload iX0_lightOfSome_38 rfl ?_
      refine z_iadd iX0_lightOfSome_40 ?_
      refine z_top nix_add ?_
      refine z_iaload iX0_lightOfSome_41 (sB_11 _ _ _) rfl (by omega) (by decide) (by omega) ?_
      refine z_iaload iX0_lightOfSome_42 (sB_7 _ _ _) rfl (h11 _) (by decide) (by omega) ?_
      refine z_iadd iX0_lightOfSome_43 ?_
      refine z_istore_n iX0_lightOfSome_44 rfl (by decide) ?_
      refine z_iinc iX0_lightOfSome_45 rfl nix_inc rfl (by decide) ?_
      refine z_goto iX0_lightOfSome_48 ?_
      first
        | (simp only [zfw, if_pos q23]; exact ih (i + 1) _ (by omega))
        | (simp only [zfw, if_neg q23]; exact ih (i + 1) _ (by omega))
set_option maxRecDepth 20000 in
set_option maxHeartbeats 1000000 in
theorem c_lightSome (G : zG) (g : zh) (a : Nat) (ha : a < 900) (s : zs) (hs : bOK s) (b t : Nat) (hb : b < 3) (ht : t < 2 ^ 30) : zK G mX0_lightOfSome [.ref a, .int (nI b), .int (nI t)] (sB g a s) (some (.int (bLightSome s b t))) (sB g a s) := by
  refine zK_of 2 rfl (by decide) trivial (Nat.le_of_ble_eq_true rfl) rfl ?_
  refine z_iconst iX0_lightOfSome_0 zk_0 ?_
  refine z_istore_n iX0_lightOfSome_1 rfl (by decide) ?_
  refine z_iconst iX0_lightOfSome_2 zk_0 ?_
  refine z_istore iX0_lightOfSome_3 rfl (by decide) ?_
  exact lp_lightSome G g a ha s hs b t hb ht _ 0 _ (Nat.zero_add _)
def bLightAll (s : zs) : Int32 := zfw (fun c x => x + rF s 7 c) 0 (rN s 1) (nI 0)
set_option maxRecDepth 20000 in
set_option maxHeartbeats 1000000 in
theorem lp_LightAll (G : zG) (g : zh) (a : Nat) (ha : a < 900) (s : zs) (hs : bOK s) : ∀ (n i : Nat) (x : Int32), i + n = rN s 1 → zS G mX0_lightOfAll 4 [some (.ref a), some (.int x), some (.int (nI i))] [] (sB g a s) (some (.int (zfw (fun c x => x + rF s 7 c) i n x))) (sB g a s) := by
  obtain ⟨h11, h10, h6, h5, h0, h1⟩ := id hs
  intro n
  induction n with
  | zero =>
    intro i x hi
    refine z_iload_n iX0_lightOfAll_4 rfl ?_
    refine z_aload_n iX0_lightOfAll_5 rfl ?_
    refine z_getf iX0_lightOfAll_6 fX0_37 (sB_o _ _ _) (BF_1 _ _) (by omega) ?_
    refine zn_ge iX0_lightOfAll_9 (by omega) (by omega) (fun q9 => ?_) (fun q9 => absurd q9 (by omega))
    refine z_iload_n iX0_lightOfAll_27 rfl ?_
    exact z_ireturn iX0_lightOfAll_28 (rfl) (rfl)
  | succ n ih =>
    intro i x hi
    refine z_iload_n iX0_lightOfAll_4 rfl ?_
    refine z_aload_n iX0_lightOfAll_5 rfl ?_
    refine z_getf iX0_lightOfAll_6 fX0_37 (sB_o _ _ _) (BF_1 _ _) (by omega) ?_
    refine zn_ge iX0_lightOfAll_9 (by omega) (by omega) (fun q9 => absurd q9 (by omega)) (fun q9 => ?_)
    refine z_iload_n iX0_lightOfAll_12 rfl ?_
    refine z_aload_n iX0_lightOfAll_13 rfl ?_
    refine z_getf iX0_lightOfAll_14 fX0_18 (sB_o _ _ _) (BF_7 _ _) (by omega) ?_
    refine z_iload_n iX0_lightOfAll_17 rfl ?_
    refine z_iaload iX0_lightOfAll_18 (sB_7 _ _ _) rfl (by omega) (by decide) (by omega) ?_
    refine z_iadd iX0_lightOfAll_19 ?_
    refine z_istore_n iX0_lightOfAll_20 rfl (by decide) ?_
    refine z_iinc iX0_lightOfAll_21 rfl nix_inc rfl (by decide) ?_
    refine z_goto iX0_lightOfAll_24 ?_
    exact ih (i + 1) _ (by omega)
set_option maxRecDepth 20000 in
set_option maxHeartbeats 1000000 in
theorem c_LightAll (G : zG) (g : zh) (a : Nat) (ha : a < 900) (s : zs) (hs : bOK s) : zK G mX0_lightOfAll [.ref a] (sB g a s) (some (.int (bLightAll s))) (sB g a s) := by
  refine zK_of 2 rfl (by decide) trivial (Nat.le_of_ble_eq_true rfl) rfl ?_
  refine z_iconst iX0_lightOfAll_0 zk_0 ?_
  refine z_istore_n iX0_lightOfAll_1 rfl (by decide) ?_
  refine z_iconst iX0_lightOfAll_2 zk_0 ?_
  refine z_istore_n iX0_lightOfAll_3 rfl (by decide) ?_
  exact lp_LightAll G g a ha s hs _ 0 _ (Nat.zero_add _)
def bWetAll (s : zs) : Int32 := zfw (fun c x => x + rF s 8 c) 0 (rN s 1) (nI 0)
set_option maxRecDepth 20000 in
set_option maxHeartbeats 1000000 in
theorem lp_WetAll (G : zG) (g : zh) (a : Nat) (ha : a < 900) (s : zs) (hs : bOK s) : ∀ (n i : Nat) (x : Int32), i + n = rN s 1 → zS G mX0_wetOfAll 4 [some (.ref a), some (.int x), some (.int (nI i))] [] (sB g a s) (some (.int (zfw (fun c x => x + rF s 8 c) i n x))) (sB g a s) := by
  obtain ⟨h11, h10, h6, h5, h0, h1⟩ := id hs
  intro n
  induction n with
  | zero =>
    intro i x hi
    refine z_iload_n iX0_wetOfAll_4 rfl ?_
    refine z_aload_n iX0_wetOfAll_5 rfl ?_
    refine z_getf iX0_wetOfAll_6 fX0_37 (sB_o _ _ _) (BF_1 _ _) (by omega) ?_
    refine zn_ge iX0_wetOfAll_9 (by omega) (by omega) (fun q9 => ?_) (fun q9 => absurd q9 (by omega))
    refine z_iload_n iX0_wetOfAll_27 rfl ?_
    exact z_ireturn iX0_wetOfAll_28 (rfl) (rfl)
  | succ n ih =>
    intro i x hi
    refine z_iload_n iX0_wetOfAll_4 rfl ?_
    refine z_aload_n iX0_wetOfAll_5 rfl ?_
    refine z_getf iX0_wetOfAll_6 fX0_37 (sB_o _ _ _) (BF_1 _ _) (by omega) ?_
    refine zn_ge iX0_wetOfAll_9 (by omega) (by omega) (fun q9 => absurd q9 (by omega)) (fun q9 => ?_)
    refine z_iload_n iX0_wetOfAll_12 rfl ?_
    refine z_aload_n iX0_wetOfAll_13 rfl ?_
    refine z_getf iX0_wetOfAll_14 fX0_21 (sB_o _ _ _) (BF_8 _ _) (by omega) ?_
    refine z_iload_n iX0_wetOfAll_17 rfl ?_
    refine z_iaload iX0_wetOfAll_18 (sB_8 _ _ _) rfl (by omega) (by decide) (by omega) ?_
    refine z_iadd iX0_wetOfAll_19 ?_
    refine z_istore_n iX0_wetOfAll_20 rfl (by decide) ?_
    refine z_iinc iX0_wetOfAll_21 rfl nix_inc rfl (by decide) ?_
    refine z_goto iX0_wetOfAll_24 ?_
    exact ih (i + 1) _ (by omega)
set_option maxRecDepth 20000 in
set_option maxHeartbeats 1000000 in
theorem c_WetAll (G : zG) (g : zh) (a : Nat) (ha : a < 900) (s : zs) (hs : bOK s) : zK G mX0_wetOfAll [.ref a] (sB g a s) (some (.int (bWetAll s))) (sB g a s) := by
  refine zK_of 2 rfl (by decide) trivial (Nat.le_of_ble_eq_true rfl) rfl ?_
  refine z_iconst iX0_wetOfAll_0 zk_0 ?_
  refine z_istore_n iX0_wetOfAll_1 rfl (by decide) ?_
  refine z_iconst iX0_wetOfAll_2 zk_0 ?_
  refine z_istore_n iX0_wetOfAll_3 rfl (by decide) ?_
  exact lp_WetAll G g a ha s hs _ 0 _ (Nat.zero_add _)
def bMostWarm (s : zs) : Int32 := zfw (fun c x => if x < rF s 9 c then rF s 9 c else x) 0 (rN s 1) (nI 0)
set_option maxRecDepth 20000 in
set_option maxHeartbeats 1000000 in
theorem lp_MostWarm (G : zG) (g : zh) (a : Nat) (ha : a < 900) (s : zs) (hs : bOK s) : ∀ (n i : Nat) (x : Int32), i + n = rN s 1 → zS G mX0_mostWarm 4 [some (.ref a), some (.int x), some (.int (nI i))] [] (sB g a s) (some (.int (zfw (fun c x => if x < rF s 9 c then rF s 9 c else x) i n x))) (sB g a s) := by
  obtain ⟨h11, h10, h6, h5, h0, h1⟩ := id hs
  intro n
  induction n with
  | zero =>
    intro i x hi
    refine z_iload_n iX0_mostWarm_4 rfl ?_
    refine z_aload_n iX0_mostWarm_5 rfl ?_
    refine z_getf iX0_mostWarm_6 fX0_37 (sB_o _ _ _) (BF_1 _ _) (by omega) ?_
    refine zn_ge iX0_mostWarm_9 (by omega) (by omega) (fun q9 => ?_) (fun q9 => absurd q9 (by omega))
    refine z_iload_n iX0_mostWarm_29 rfl ?_
    exact z_ireturn iX0_mostWarm_30 (rfl) (rfl)
  | succ n ih =>
    intro i x hi
    refine z_iload_n iX0_mostWarm_4 rfl ?_
    refine z_aload_n iX0_mostWarm_5 rfl ?_
    refine z_getf iX0_mostWarm_6 fX0_37 (sB_o _ _ _) (BF_1 _ _) (by omega) ?_
    refine zn_ge iX0_mostWarm_9 (by omega) (by omega) (fun q9 => absurd q9 (by omega)) (fun q9 => ?_)
    refine z_iload_n iX0_mostWarm_12 rfl ?_
    refine z_aload_n iX0_mostWarm_13 rfl ?_
    refine z_getf iX0_mostWarm_14 fX0_24 (sB_o _ _ _) (BF_9 _ _) (by omega) ?_
    refine z_iload_n iX0_mostWarm_17 rfl ?_
    refine z_iaload iX0_mostWarm_18 (sB_9 _ _ _) rfl (by omega) (by decide) (by omega) ?_
    refine z_mmax iX0_mostWarm_19 lX0_59 (by decide) (Nat.le_of_ble_eq_true rfl) ?_
    refine z_istore_n iX0_mostWarm_22 rfl (by decide) ?_
    refine z_iinc iX0_mostWarm_23 rfl nix_inc rfl (by decide) ?_
    refine z_goto iX0_mostWarm_26 ?_
    exact ih (i + 1) _ (by omega)
set_option maxRecDepth 20000 in
set_option maxHeartbeats 1000000 in
theorem c_MostWarm (G : zG) (g : zh) (a : Nat) (ha : a < 900) (s : zs) (hs : bOK s) : zK G mX0_mostWarm [.ref a] (sB g a s) (some (.int (bMostWarm s))) (sB g a s) := by
  refine zK_of 2 rfl (by decide) trivial (Nat.le_of_ble_eq_true rfl) rfl ?_
  refine z_iconst iX0_mostWarm_0 zk_0 ?_
  refine z_istore_n iX0_mostWarm_1 rfl (by decide) ?_
  refine z_iconst iX0_mostWarm_2 zk_0 ?_
  refine z_istore_n iX0_mostWarm_3 rfl (by decide) ?_
  exact lp_MostWarm G g a ha s hs _ 0 _ (Nat.zero_add _)
def bLie (s : zs) : Nat := zfw (fun b x => x + rA s 10 b) 0 (rN s 0) 0
set_option maxRecDepth 20000 in
set_option maxHeartbeats 1000000 in
theorem lp_Lie (G : zG) (g : zh) (a : Nat) (ha : a < 900) (s : zs) (hs : bOK s) : ∀ (n i : Nat) (x : Nat), i + n = rN s 0 → zS G mX0_howManyLie 4 [some (.ref a), some (.int (nI x)), some (.int (nI i))] [] (sB g a s) (some (.int (nI (zfw (fun b x => x + rA s 10 b) i n x)))) (sB g a s) := by
  obtain ⟨h11, h10, h6, h5, h0, h1⟩ := id hs
  intro n
  induction n with
  | zero =>
    intro i x hi
    refine z_iload_n iX0_howManyLie_4 rfl ?_
    refine z_aload_n iX0_howManyLie_5 rfl ?_
    refine z_getf iX0_howManyLie_6 fX0_33 (sB_o _ _ _) (BF_0 _ _) (by omega) ?_
    refine zn_ge iX0_howManyLie_9 (by omega) (by omega) (fun q9 => ?_) (fun q9 => absurd q9 (by omega))
    refine z_iload_n iX0_howManyLie_27 rfl ?_
    exact z_ireturn iX0_howManyLie_28 (rfl) (rfl)
  | succ n ih =>
    intro i x hi
    refine z_iload_n iX0_howManyLie_4 rfl ?_
    refine z_aload_n iX0_howManyLie_5 rfl ?_
    refine z_getf iX0_howManyLie_6 fX0_33 (sB_o _ _ _) (BF_0 _ _) (by omega) ?_
    refine zn_ge iX0_howManyLie_9 (by omega) (by omega) (fun q9 => absurd q9 (by omega)) (fun q9 => ?_)
    refine z_iload_n iX0_howManyLie_12 rfl ?_
    refine z_aload_n iX0_howManyLie_13 rfl ?_
    refine z_getf iX0_howManyLie_14 fX0_27 (sB_o _ _ _) (BF_10 _ _) (by omega) ?_
    refine z_iload_n iX0_howManyLie_17 rfl ?_
    refine z_iaload iX0_howManyLie_18 (sB_10 _ _ _) rfl (by omega) (by decide) (by omega) ?_
    refine z_iadd iX0_howManyLie_19 ?_
    refine z_top nix_add ?_
    refine z_istore_n iX0_howManyLie_20 rfl (by decide) ?_
    refine z_iinc iX0_howManyLie_21 rfl nix_inc rfl (by decide) ?_
    refine z_goto iX0_howManyLie_24 ?_
    exact ih (i + 1) _ (by omega)
set_option maxRecDepth 20000 in
set_option maxHeartbeats 1000000 in
theorem c_Lie (G : zG) (g : zh) (a : Nat) (ha : a < 900) (s : zs) (hs : bOK s) : zK G mX0_howManyLie [.ref a] (sB g a s) (some (.int (nI (bLie s)))) (sB g a s) := by
  refine zK_of 2 rfl (by decide) trivial (Nat.le_of_ble_eq_true rfl) rfl ?_
  refine z_iconst iX0_howManyLie_0 zk_0 ?_
  refine z_istore_n iX0_howManyLie_1 rfl (by decide) ?_
  refine z_iconst iX0_howManyLie_2 zk_0 ?_
  refine z_istore_n iX0_howManyLie_3 rfl (by decide) ?_
  exact lp_Lie G g a ha s hs _ 0 _ (Nat.zero_add _)
def bWarm (s : zs) (b : Nat) : zs := zfw (fun p x => uF x 9 (upd (rF x 9) (rA x 11 (b * 3 + p)) (rF x 9 (rA x 11 (b * 3 + p)) + bGainAt x b p))) 0 (rA s 10 b) s
set_option maxRecDepth 20000 in
set_option maxHeartbeats 1000000 in
theorem lp_warm (G : zG) (g : zh) (a : Nat) (ha : a < 900) (b : Nat) (hb : b < 3) : ∀ (n i : Nat) (x : zs), bOK x → i + n = rA x 10 b → zS G mX0_warmBay 2 [some (.ref a), some (.int (nI b)), some (.int (nI i))] [] (sB g a x) none (sB g a (zfw (fun p x => uF x 9 (upd (rF x 9) (rA x 11 (b * 3 + p)) (rF x 9 (rA x 11 (b * 3 + p)) + bGainAt x b p))) i n x)) := by
  intro n
  induction n with
  | zero =>
    intro i x hs hi
    obtain ⟨h11, h10, h6, h5, h0, h1⟩ := id hs
    have hh := h10 b
    refine z_iload_n iX0_warmBay_2 rfl ?_
    refine z_aload_n iX0_warmBay_3 rfl ?_
    refine z_getf iX0_warmBay_4 fX0_27 (sB_o _ _ _) (BF_10 _ _) (by omega) ?_
    refine z_iload_n iX0_warmBay_7 rfl ?_
    refine z_iaload iX0_warmBay_8 (sB_10 _ _ _) rfl (by omega) (by decide) (by omega) ?_
    refine zn_ge iX0_warmBay_9 (by omega) (by omega) (fun q9 => ?_) (fun q9 => absurd q9 (by omega))
    exact z_return iX0_warmBay_42 (rfl)
  | succ n ih =>
    intro i x hs hi
    obtain ⟨h11, h10, h6, h5, h0, h1⟩ := id hs
    have hh := h10 b
    refine z_iload_n iX0_warmBay_2 rfl ?_
    refine z_aload_n iX0_warmBay_3 rfl ?_
    refine z_getf iX0_warmBay_4 fX0_27 (sB_o _ _ _) (BF_10 _ _) (by omega) ?_
    refine z_iload_n iX0_warmBay_7 rfl ?_
    refine z_iaload iX0_warmBay_8 (sB_10 _ _ _) rfl (by omega) (by decide) (by omega) ?_
    refine zn_ge iX0_warmBay_9 (by omega) (by omega) (fun q9 => absurd q9 (by omega)) (fun q9 => ?_)
    refine z_aload_n iX0_warmBay_12 rfl ?_
    refine z_getf iX0_warmBay_13 fX0_24 (sB_o _ _ _) (BF_9 _ _) (by omega) ?_
    refine z_aload_n iX0_warmBay_16 rfl ?_
    refine z_getf iX0_warmBay_17 fX0_30 (sB_o _ _ _) (BF_11 _ _) (by omega) ?_
    refine z_iload_n iX0_warmBay_20 rfl ?_
    refine z_iconst iX0_warmBay_21 zk_3 ?_
    refine z_imul iX0_warmBay_22 ?_
    refine z_top nix_mul ?_
    refine z_iload_n iX0_warmBay_23 rfl ?_
    refine z_iadd iX0_warmBay_24 ?_
    refine z_top nix_add ?_
    refine z_iaload iX0_warmBay_25 (sB_11 _ _ _) rfl (by omega) (by decide) (by omega) ?_
    refine z_dup2 iX0_warmBay_26 rfl rfl ?_
    refine z_iaload iX0_warmBay_27 (sB_9 _ _ _) rfl (h11 _) (by decide) (by omega) ?_
    refine z_aload_n iX0_warmBay_28 rfl ?_
    refine z_iload_n iX0_warmBay_29 rfl ?_
    refine z_iload_n iX0_warmBay_30 rfl ?_
    refine z_cvi (y1 := mX0_gainAt) iX0_warmBay_31 lX0_65 kX0_gainAt rfl (c_gainAt G g a ha _ hs b i hb (by omega)) (sB_o _ _ _) rfl rfl rfl (Nat.le_of_ble_eq_true rfl) (by omega) ?_
    refine z_iadd iX0_warmBay_34 ?_
    refine z_iastore iX0_warmBay_35 (sB_9 _ _ _) rfl (h11 _) (by decide) (by omega) (by decide) ?_
    rw [sB_w9]
    refine z_iinc iX0_warmBay_36 rfl nix_inc rfl (by decide) ?_
    refine z_goto iX0_warmBay_39 ?_
    exact ih (i + 1) _ hs (by show _ = rA x 10 b; omega)
set_option maxRecDepth 20000 in
set_option maxHeartbeats 1000000 in
theorem c_warmBay (G : zG) (g : zh) (a : Nat) (ha : a < 900) (s : zs) (hs : bOK s) (b : Nat) (hb : b < 3) : zK G mX0_warmBay [.ref a, .int (nI b)] (sB g a s) none (sB g a (bWarm s b)) := by
  refine zK_of 1 rfl (by decide) trivial (Nat.le_of_ble_eq_true rfl) rfl ?_
  refine z_iconst iX0_warmBay_0 zk_0 ?_
  refine z_istore_n iX0_warmBay_1 rfl (by decide) ?_
  exact lp_warm G g a ha b hb _ 0 s hs (Nat.zero_add _)
def bLF (b : Nat) : Nat → zs → zs := fun p x => bLose x (rA x 11 (b * 3 + p))
theorem bLF_A (b : Nat) : ∀ (n i : Nat) (x : zs) (k : Nat), rA (zfw (bLF b) i n x) k = rA x k
  | 0, _, _, _ => rfl
  | n + 1, i, x, k => (bLF_A b n (i + 1) _ k).trans rfl
theorem bLF_N (b : Nat) : ∀ (n i : Nat) (x : zs) (k : Nat), rN (zfw (bLF b) i n x) k = rN x k
  | 0, _, _, _ => rfl
  | n + 1, i, x, k => (bLF_N b n (i + 1) _ k).trans rfl
theorem bOK_of {s t : zs} (h : bOK s) (hA : ∀ k, rA t k = rA s k) (hN : ∀ k, rN t k = rN s k) : bOK t := by
  unfold bOK
  simp only [hA, hN]
  exact h
def bLoseFrom (s : zs) (b q : Nat) : zs := uA (zfw (bLF b) q (rA s 10 b - q) s) 10 (updN (rA s 10) b q)
theorem bLoseFrom_ok {s : zs} (h : bOK s) (b q : Nat) (hq : q ≤ 3) : bOK (bLoseFrom s b q) := by
  obtain ⟨h11, h10, h6, h5, h0, h1⟩ := bOK_of h (bLF_A b (rA s 10 b - q) q s) (bLF_N b (rA s 10 b - q) q s)
  refine ⟨h11, fun j => ?_, h6, h5, h0, h1⟩
  show updN (rA s 10) b q j ≤ 3
  unfold updN
  split
  · exact hq
  · exact h.2.1 j
set_option maxRecDepth 20000 in
set_option maxHeartbeats 1000000 in
theorem lp_loseFrom (G : zG) (g : zh) (a : Nat) (ha : a < 900) (b q : Nat) (l : Nat) (hb : b < 3) (hq : q ≤ 3) (f : Nat → Nat) : ∀ (n i : Nat) (x : zs), bOK x → rA x 10 = f → i + n = rA x 10 b → zS G mX0_loseFrom 12 [some (.ref a), some (.int (nI b)), some (.int (nI q)), some (.int (nI l)), some (.int (nI i))] [] (sB g a x) (some (.int (nI l))) (sB g a (uA (zfw (bLF b) i n x) 10 (updN f b q))) := by
  intro n
  induction n with
  | zero =>
    intro i x hs hf hi
    obtain ⟨h11, h10, h6, h5, h0, h1⟩ := id hs
    have hh := h10 b
    refine z_iload iX0_loseFrom_12 rfl ?_
    refine z_aload_n iX0_loseFrom_14 rfl ?_
    refine z_getf iX0_loseFrom_15 fX0_27 (sB_o _ _ _) (BF_10 _ _) (by omega) ?_
    refine z_iload_n iX0_loseFrom_18 rfl ?_
    refine z_iaload iX0_loseFrom_19 (sB_10 _ _ _) rfl (by omega) (by decide) (by omega) ?_
    refine zn_ge iX0_loseFrom_20 (by omega) (by omega) (fun q20 => ?_) (fun q20 => absurd q20 (by omega))
    refine z_aload_n iX0_loseFrom_44 rfl ?_
    refine z_getf iX0_loseFrom_45 fX0_27 (sB_o _ _ _) (BF_10 _ _) (by omega) ?_
    refine z_iload_n iX0_loseFrom_48 rfl ?_
    refine z_iload_n iX0_loseFrom_49 rfl ?_
    refine z_iastore iX0_loseFrom_50 (sB_10 _ _ _) rfl (by omega) (by decide) (by omega) (by decide) ?_
    rw [upd_nI, sB_w10]
    refine z_iload_n iX0_loseFrom_51 rfl ?_
    exact z_ireturn iX0_loseFrom_52 (rfl) (by subst hf; rfl)
  | succ n ih =>
    intro i x hs hf hi
    obtain ⟨h11, h10, h6, h5, h0, h1⟩ := id hs
    have hh := h10 b
    refine z_iload iX0_loseFrom_12 rfl ?_
    refine z_aload_n iX0_loseFrom_14 rfl ?_
    refine z_getf iX0_loseFrom_15 fX0_27 (sB_o _ _ _) (BF_10 _ _) (by omega) ?_
    refine z_iload_n iX0_loseFrom_18 rfl ?_
    refine z_iaload iX0_loseFrom_19 (sB_10 _ _ _) rfl (by omega) (by decide) (by omega) ?_
    refine zn_ge iX0_loseFrom_20 (by omega) (by omega) (fun q20 => absurd q20 (by omega)) (fun q20 => ?_)
    refine z_aload_n iX0_loseFrom_23 rfl ?_
    refine z_aload_n iX0_loseFrom_24 rfl ?_
    refine z_getf iX0_loseFrom_25 fX0_30 (sB_o _ _ _) (BF_11 _ _) (by omega) ?_
    refine z_iload_n iX0_loseFrom_28 rfl ?_
    refine z_iconst iX0_loseFrom_29 zk_3 ?_
    refine z_imul iX0_loseFrom_30 ?_
    refine z_top nix_mul ?_
    refine z_iload iX0_loseFrom_31 rfl ?_
    refine z_iadd iX0_loseFrom_33 ?_
    refine z_top nix_add ?_
    refine z_iaload iX0_loseFrom_34 (sB_11 _ _ _) rfl (by omega) (by decide) (by omega) ?_
    refine z_cvv (y1 := mX0_lose) iX0_loseFrom_35 lX0_76 kX0_lose rfl (c_lose G g a ha _ hs _ (h11 _)) (sB_o _ _ _) rfl rfl rfl (Nat.le_of_ble_eq_true rfl) (by omega) ?_
    refine z_iinc iX0_loseFrom_38 rfl nix_inc rfl (by decide) ?_
    refine z_goto iX0_loseFrom_41 ?_
    exact ih (i + 1) _ hs hf (by show _ = rA x 10 b; omega)
set_option maxRecDepth 20000 in
set_option maxHeartbeats 1000000 in
theorem c_loseFrom (G : zG) (g : zh) (a : Nat) (ha : a < 900) (s : zs) (hs : bOK s) (b q : Nat) (hb : b < 3) (hq : q ≤ rA s 10 b) : zK G mX0_loseFrom [.ref a, .int (nI b), .int (nI q)] (sB g a s) (some (.int (nI (rA s 10 b - q)))) (sB g a (bLoseFrom s b q)) := by
  obtain ⟨h11, h10, h6, h5, h0, h1⟩ := id hs
  have hh := h10 b
  refine zK_of 2 rfl (by decide) trivial (Nat.le_of_ble_eq_true rfl) rfl ?_
  refine z_aload_n iX0_loseFrom_0 rfl ?_
  refine z_getf iX0_loseFrom_1 fX0_27 (sB_o _ _ _) (BF_10 _ _) (by omega) ?_
  refine z_iload_n iX0_loseFrom_4 rfl ?_
  refine z_iaload iX0_loseFrom_5 (sB_10 _ _ _) rfl (by omega) (by decide) (by omega) ?_
  refine z_iload_n iX0_loseFrom_6 rfl ?_
  refine z_isub iX0_loseFrom_7 ?_
  refine z_top (nix_sub (by omega)) ?_
  refine z_istore_n iX0_loseFrom_8 rfl (by decide) ?_
  refine z_iload_n iX0_loseFrom_9 rfl ?_
  refine z_istore iX0_loseFrom_10 rfl (by decide) ?_
  exact lp_loseFrom G g a ha b q _ hb (by omega) _ _ q s hs rfl (by omega)
def bBurnP (s : zs) (b : Nat) : Nat → Bool := fun p => decide (¬ rF s 9 (rA s 11 (b * 3 + p)) < nI 30)
def bBurnN (s : zs) (b : Nat) : Nat := match zfind (bBurnP s b) 0 (rA s 10 b) with
  | some p => rA s 10 b - p
  | none => 0
def bBurnS (s : zs) (b : Nat) : zs := match zfind (bBurnP s b) 0 (rA s 10 b) with
  | some p => bLoseFrom s b p
  | none => s
set_option maxRecDepth 20000 in
set_option maxHeartbeats 1000000 in
theorem lp_burn (G : zG) (g : zh) (a : Nat) (ha : a < 900) (s : zs) (hs : bOK s) (b : Nat) (hb : b < 3) : ∀ (n i : Nat) (z : Option Nat), i + n = rA s 10 b → zfind (bBurnP s b) i n = z → zS G mX0_burnBay 2 [some (.ref a), some (.int (nI b)), some (.int (nI i))] [] (sB g a s) (some (.int (nI (match z with | some p => rA s 10 b - p | none => 0)))) (sB g a (match z with | some p => bLoseFrom s b p | none => s)) := by
  obtain ⟨h11, h10, h6, h5, h0, h1⟩ := id hs
  have hh := h10 b
  intro n
  induction n with
  | zero =>
    intro i z hi hz
    cases hz
    refine z_iload_n iX0_burnBay_2 rfl ?_
    refine z_aload_n iX0_burnBay_3 rfl ?_
    refine z_getf iX0_burnBay_4 fX0_27 (sB_o _ _ _) (BF_10 _ _) (by omega) ?_
    refine z_iload_n iX0_burnBay_7 rfl ?_
    refine z_iaload iX0_burnBay_8 (sB_10 _ _ _) rfl (by omega) (by decide) (by omega) ?_
    refine zn_ge iX0_burnBay_9 (by omega) (by omega) (fun q9 => ?_) (fun q9 => absurd q9 (by omega))
    refine z_iconst iX0_burnBay_45 zk_0 ?_
    exact z_ireturn iX0_burnBay_46 (rfl) (rfl)
  | succ n ih =>
    intro i z hi hz
    refine z_iload_n iX0_burnBay_2 rfl ?_
    refine z_aload_n iX0_burnBay_3 rfl ?_
    refine z_getf iX0_burnBay_4 fX0_27 (sB_o _ _ _) (BF_10 _ _) (by omega) ?_
    refine z_iload_n iX0_burnBay_7 rfl ?_
    refine z_iaload iX0_burnBay_8 (sB_10 _ _ _) rfl (by omega) (by decide) (by omega) ?_
    refine zn_ge iX0_burnBay_9 (by omega) (by omega) (fun q9 => absurd q9 (by omega)) (fun q9 => ?_)
    refine z_aload_n iX0_burnBay_12 rfl ?_
    refine z_getf iX0_burnBay_13 fX0_24 (sB_o _ _ _) (BF_9 _ _) (by omega) ?_
    refine z_aload_n iX0_burnBay_16 rfl ?_
    refine z_getf iX0_burnBay_17 fX0_30 (sB_o _ _ _) (BF_11 _ _) (by omega) ?_
    refine z_iload_n iX0_burnBay_20 rfl ?_
    refine z_iconst iX0_burnBay_21 zk_3 ?_
    refine z_imul iX0_burnBay_22 ?_
    refine z_top nix_mul ?_
    refine z_iload_n iX0_burnBay_23 rfl ?_
    refine z_iadd iX0_burnBay_24 ?_
    refine z_top nix_add ?_
    refine z_iaload iX0_burnBay_25 (sB_11 _ _ _) rfl (by omega) (by decide) (by omega) ?_
    refine z_iaload iX0_burnBay_26 (sB_9 _ _ _) rfl (h11 _) (by decide) (by omega) ?_
    refine z_bipush iX0_burnBay_27 zb_30 ?_
    refine z_icmp_lt iX0_burnBay_29 (fun q29 => ?_) (fun q29 => ?_)
    · refine z_iinc iX0_burnBay_39 rfl nix_inc rfl (by decide) ?_
      refine z_goto iX0_burnBay_42 ?_
      unfold zfind at hz
      rw [if_neg (by simp [bBurnP, *])] at hz
      exact ih (i + 1) z (by omega) hz
    · unfold zfind at hz
      rw [if_pos (by simp [bBurnP, *])] at hz
      subst hz
      refine z_aload_n iX0_burnBay_32 rfl ?_
      refine z_iload_n iX0_burnBay_33 rfl ?_
      refine z_iload_n iX0_burnBay_34 rfl ?_
      refine z_cvi (y1 := mX0_loseFrom) iX0_burnBay_35 lX0_73 kX0_loseFrom rfl (c_loseFrom G g a ha s hs b i hb (by omega)) (sB_o _ _ _) rfl rfl rfl (Nat.le_of_ble_eq_true rfl) (by omega) ?_
      exact z_ireturn iX0_burnBay_38 (rfl) (rfl)
set_option maxRecDepth 20000 in
set_option maxHeartbeats 1000000 in
theorem c_burnBay (G : zG) (g : zh) (a : Nat) (ha : a < 900) (s : zs) (hs : bOK s) (b : Nat) (hb : b < 3) : zK G mX0_burnBay [.ref a, .int (nI b)] (sB g a s) (some (.int (nI (bBurnN s b)))) (sB g a (bBurnS s b)) := by
  refine zK_of 1 rfl (by decide) trivial (Nat.le_of_ble_eq_true rfl) rfl ?_
  refine z_iconst iX0_burnBay_0 zk_0 ?_
  refine z_istore_n iX0_burnBay_1 rfl (by decide) ?_
  exact lp_burn G g a ha s hs b hb _ 0 _ (Nat.zero_add _) rfl
def bDry (s : zs) (b : Nat) : zs := if rA s 10 b = 0 then s else if rF s 8 (rA s 11 (b * 3 + rA s 10 b - 1)) ≤ 0 then s else uF s 8 (upd (rF s 8) (rA s 11 (b * 3 + rA s 10 b - 1)) (rF s 8 (rA s 11 (b * 3 + rA s 10 b - 1)) - nI 1))
theorem bTop_0 {s : zs} {b : Nat} (h : rA s 10 b = 0) : bTop s b = -1 := if_pos h
theorem bTop_1 {s : zs} {b : Nat} (h : ¬ rA s 10 b = 0) : bTop s b = nI (rA s 11 (b * 3 + rA s 10 b - 1)) := if_neg h
theorem bDry_A (s : zs) (b k : Nat) : rA (bDry s b) k = rA s k := by unfold bDry; split; rfl; split <;> rfl
theorem bDry_N (s : zs) (b k : Nat) : rN (bDry s b) k = rN s k := by unfold bDry; split; rfl; split <;> rfl
theorem bDry_ok {s : zs} (h : bOK s) (b : Nat) : bOK (bDry s b) := bOK_of h (bDry_A s b) (bDry_N s b)
theorem bWarm_A (b : Nat) : ∀ (n i : Nat) (x : zs) (k : Nat), rA (zfw (fun p x => uF x 9 (upd (rF x 9) (rA x 11 (b * 3 + p)) (rF x 9 (rA x 11 (b * 3 + p)) + bGainAt x b p))) i n x) k = rA x k
  | 0, _, _, _ => rfl
  | n + 1, i, x, k => (bWarm_A b n (i + 1) _ k).trans rfl
theorem bWarm_N (b : Nat) : ∀ (n i : Nat) (x : zs) (k : Nat), rN (zfw (fun p x => uF x 9 (upd (rF x 9) (rA x 11 (b * 3 + p)) (rF x 9 (rA x 11 (b * 3 + p)) + bGainAt x b p))) i n x) k = rN x k
  | 0, _, _, _ => rfl
  | n + 1, i, x, k => (bWarm_N b n (i + 1) _ k).trans rfl
theorem bWarm_ok {s : zs} (h : bOK s) (b : Nat) : bOK (bWarm s b) := bOK_of h (bWarm_A b _ 0 s) (bWarm_N b _ 0 s)
theorem bLoseFrom_N (s : zs) (b q k : Nat) : rN (bLoseFrom s b q) k = rN s k := bLF_N b _ q s k
theorem bBurnS_N (s : zs) (b k : Nat) : rN (bBurnS s b) k = rN s k := by
  unfold bBurnS
  split
  · exact bLoseFrom_N _ _ _ _
  · rfl
theorem bBurnS_ok {s : zs} (h : bOK s) (b : Nat) : bOK (bBurnS s b) := by
  unfold bBurnS
  split
  · rename_i p hp
    obtain ⟨z1, z2, -, -⟩ := zfind_lt _ _ _ hp
    exact bLoseFrom_ok h b p (by have := h.2.1 b; omega)
  · exact h
set_option maxRecDepth 20000 in
set_option maxHeartbeats 1000000 in
theorem c_dryTop (G : zG) (g : zh) (a : Nat) (ha : a < 900) (s : zs) (hs : bOK s) (b : Nat) (hb : b < 3) : zK G mX0_dryTop [.ref a, .int (nI b)] (sB g a s) none (sB g a (bDry s b)) := by
  obtain ⟨h11, h10, h6, h5, h0, h1⟩ := id hs
  have hh := h10 b
  have h12 := h11 (b * 3 + rA s 10 b - 1)
  refine zK_of 1 rfl (by decide) trivial (Nat.le_of_ble_eq_true rfl) rfl ?_
  by_cases h : rA s 10 b = 0
  · skip
    refine z_aload_n iX0_dryTop_0 rfl ?_
    refine z_iload_n iX0_dryTop_1 rfl ?_
    refine z_cvi (y1 := mX0_top) iX0_dryTop_2 lX0_80 kX0_top rfl (c_top G g a ha s hs b hb) (sB_o _ _ _) rfl rfl rfl (Nat.le_of_ble_eq_true rfl) (by omega) ?_
    rw [bTop_0 h]
    refine z_istore_n iX0_dryTop_5 rfl (by decide) ?_
    refine z_iload_n iX0_dryTop_6 rfl ?_
    refine z_iconst iX0_dryTop_7 zk_m1 ?_
    refine z_icmp_eq iX0_dryTop_8 (fun q8 => ?_) (fun q8 => absurd rfl q8)
    exact z_return iX0_dryTop_30 (by rw [bDry, if_pos h])
  · skip
    refine z_aload_n iX0_dryTop_0 rfl ?_
    refine z_iload_n iX0_dryTop_1 rfl ?_
    refine z_cvi (y1 := mX0_top) iX0_dryTop_2 lX0_80 kX0_top rfl (c_top G g a ha s hs b hb) (sB_o _ _ _) rfl rfl rfl (Nat.le_of_ble_eq_true rfl) (by omega) ?_
    rw [bTop_1 h]
    refine z_istore_n iX0_dryTop_5 rfl (by decide) ?_
    refine z_iload_n iX0_dryTop_6 rfl ?_
    refine z_iconst iX0_dryTop_7 zk_m1 ?_
    refine z_icmp_eq iX0_dryTop_8 (fun q8 => absurd q8 (nI_m1 (by omega))) (fun q8 => ?_)
    refine z_aload_n iX0_dryTop_11 rfl ?_
    refine z_getf iX0_dryTop_12 fX0_21 (sB_o _ _ _) (BF_8 _ _) (by omega) ?_
    refine z_iload_n iX0_dryTop_15 rfl ?_
    refine z_iaload iX0_dryTop_16 (sB_8 _ _ _) rfl (h11 _) (by decide) (by omega) ?_
    refine z_if_le iX0_dryTop_17 (fun q17 => ?_) (fun q17 => ?_)
    · exact z_return iX0_dryTop_30 (by first | (rw [bDry, if_neg h, if_pos q17]; done) | (rw [bDry, if_neg h, if_neg q17]; done))
    · refine z_aload_n iX0_dryTop_20 rfl ?_
      refine z_getf iX0_dryTop_21 fX0_21 (sB_o _ _ _) (BF_8 _ _) (by omega) ?_
      refine z_iload_n iX0_dryTop_24 rfl ?_
      refine z_dup2 iX0_dryTop_25 rfl rfl ?_
      refine z_iaload iX0_dryTop_26 (sB_8 _ _ _) rfl (h11 _) (by decide) (by omega) ?_
      refine z_iconst iX0_dryTop_27 zk_1 ?_
      refine z_isub iX0_dryTop_28 ?_
      refine z_iastore iX0_dryTop_29 (sB_8 _ _ _) rfl (h11 _) (by decide) (by omega) (by decide) ?_
      rw [sB_w8]
      exact z_return iX0_dryTop_30 (by first | (rw [bDry, if_neg h, if_pos q17]; done) | (rw [bDry, if_neg h, if_neg q17]; done))
def bDayStep (b : Nat) (x : Nat × zs) : Nat × zs := (x.1 + bBurnN (bWarm x.2 b) b, bDry (bBurnS (bWarm x.2 b) b) b)
def bDayEnd (x : Nat × zs) : zs := uI (uN x.2 2 (rN x.2 2 + 1)) 4 (rI x.2 4 + nI x.1)
def bDay (s : zs) : Nat × zs := zfw bDayStep 0 (rN s 0) (0, s)
set_option maxRecDepth 20000 in
set_option maxHeartbeats 1000000 in
theorem lp_day (G : zG) (g : zh) (a : Nat) (ha : a < 900) : ∀ (n i : Nat) (x : Nat × zs), bOK x.2 → i + n = rN x.2 0 → zS G mX0_passDay 4 [some (.ref a), some (.int (nI x.1)), some (.int (nI i))] [] (sB g a x.2) (some (.int (nI (zfw bDayStep i n x).1))) (sB g a (bDayEnd (zfw bDayStep i n x))) := by
  intro n
  induction n with
  | zero =>
    intro i x hs hi
    obtain ⟨h11, h10, h6, h5, h0, h1⟩ := id hs
    refine z_iload_n iX0_passDay_4 rfl ?_
    refine z_aload_n iX0_passDay_5 rfl ?_
    refine z_getf iX0_passDay_6 fX0_33 (sB_o _ _ _) (BF_0 _ _) (by omega) ?_
    refine zn_ge iX0_passDay_9 (by omega) (by omega) (fun q9 => ?_) (fun q9 => absurd q9 (by omega))
    refine z_aload_n iX0_passDay_36 rfl ?_
    refine z_dup iX0_passDay_37 rfl ?_
    refine z_getf iX0_passDay_38 fX0_40 (sB_o _ _ _) (BF_2 _ _) (by omega) ?_
    refine z_iconst iX0_passDay_41 zk_1 ?_
    refine z_iadd iX0_passDay_42 ?_
    refine z_top nix_add ?_
    refine z_putf iX0_passDay_43 fX0_40 (sB_o _ _ _) rfl rfl (Nat.le_of_ble_eq_true rfl) (by omega) ?_
    rw [sB_w2]
    refine z_aload_n iX0_passDay_46 rfl ?_
    refine z_dup iX0_passDay_47 rfl ?_
    refine z_getf iX0_passDay_48 fX0_46 (sB_o _ _ _) (BF_4 _ _) (by omega) ?_
    refine z_iload_n iX0_passDay_51 rfl ?_
    refine z_iadd iX0_passDay_52 ?_
    refine z_putf iX0_passDay_53 fX0_46 (sB_o _ _ _) rfl rfl (Nat.le_of_ble_eq_true rfl) (by omega) ?_
    rw [sB_w4]
    refine z_iload_n iX0_passDay_56 rfl ?_
    exact z_ireturn iX0_passDay_57 (rfl) (rfl)
  | succ n ih =>
    intro i x hs hi
    obtain ⟨h11, h10, h6, h5, h0, h1⟩ := id hs
    have k1 := bWarm_ok hs i
    have k2 := bBurnS_ok k1 i
    have e0 : rN (bDry (bBurnS (bWarm x.2 i) i) i) 0 = rN x.2 0 := (bDry_N _ _ _).trans ((bBurnS_N _ _ _).trans (bWarm_N _ _ _ _ _))
    refine z_iload_n iX0_passDay_4 rfl ?_
    refine z_aload_n iX0_passDay_5 rfl ?_
    refine z_getf iX0_passDay_6 fX0_33 (sB_o _ _ _) (BF_0 _ _) (by omega) ?_
    refine zn_ge iX0_passDay_9 (by omega) (by omega) (fun q9 => absurd q9 (by omega)) (fun q9 => ?_)
    refine z_aload_n iX0_passDay_12 rfl ?_
    refine z_iload_n iX0_passDay_13 rfl ?_
    refine z_cvv (y1 := mX0_warmBay) iX0_passDay_14 lX0_83 kX0_warmBay rfl (c_warmBay G g a ha _ hs i (by omega)) (sB_o _ _ _) rfl rfl rfl (Nat.le_of_ble_eq_true rfl) (by omega) ?_
    refine z_iload_n iX0_passDay_17 rfl ?_
    refine z_aload_n iX0_passDay_18 rfl ?_
    refine z_iload_n iX0_passDay_19 rfl ?_
    refine z_cvi (y1 := mX0_burnBay) iX0_passDay_20 lX0_86 kX0_burnBay rfl (c_burnBay G g a ha _ k1 i (by omega)) (sB_o _ _ _) rfl rfl rfl (Nat.le_of_ble_eq_true rfl) (by omega) ?_
    refine z_iadd iX0_passDay_23 ?_
    refine z_top nix_add ?_
    refine z_istore_n iX0_passDay_24 rfl (by decide) ?_
    refine z_aload_n iX0_passDay_25 rfl ?_
    refine z_iload_n iX0_passDay_26 rfl ?_
    refine z_cvv (y1 := mX0_dryTop) iX0_passDay_27 lX0_89 kX0_dryTop rfl (c_dryTop G g a ha _ k2 i (by omega)) (sB_o _ _ _) rfl rfl rfl (Nat.le_of_ble_eq_true rfl) (by omega) ?_
    refine z_iinc iX0_passDay_30 rfl nix_inc rfl (by decide) ?_
    refine z_goto iX0_passDay_33 ?_
    exact ih (i + 1) (bDayStep i x) (bDry_ok k2 i) (by show _ = rN (bDry (bBurnS (bWarm x.2 i) i) i) 0; omega)
set_option maxRecDepth 20000 in
set_option maxHeartbeats 1000000 in
theorem c_passDay (G : zG) (g : zh) (a : Nat) (ha : a < 900) (s : zs) (hs : bOK s) : zK G mX0_passDay [.ref a] (sB g a s) (some (.int (nI (bDay s).1))) (sB g a (bDayEnd (bDay s))) := by
  refine zK_of 2 rfl (by decide) trivial (Nat.le_of_ble_eq_true rfl) rfl ?_
  refine z_iconst iX0_passDay_0 zk_0 ?_
  refine z_istore_n iX0_passDay_1 rfl (by decide) ?_
  refine z_iconst iX0_passDay_2 zk_0 ?_
  refine z_istore_n iX0_passDay_3 rfl (by decide) ?_
  exact lp_day G g a ha _ 0 (0, s) hs (Nat.zero_add _)
def bDryBut (s : zs) (b : Nat) : zs := zfw (fun j x => if j = b then x else bDry x j) 0 (rN s 0) s
theorem bDryBut_A (b : Nat) : ∀ (n i : Nat) (x : zs) (k : Nat), rA (zfw (fun j x => if j = b then x else bDry x j) i n x) k = rA x k
  | 0, _, _, _ => rfl
  | n + 1, i, x, k => (bDryBut_A b n (i + 1) _ k).trans (by dsimp only; split; rfl; exact bDry_A _ _ _)
theorem bDryBut_N (b : Nat) : ∀ (n i : Nat) (x : zs) (k : Nat), rN (zfw (fun j x => if j = b then x else bDry x j) i n x) k = rN x k
  | 0, _, _, _ => rfl
  | n + 1, i, x, k => (bDryBut_N b n (i + 1) _ k).trans (by dsimp only; split; rfl; exact bDry_N _ _ _)
set_option maxRecDepth 20000 in
set_option maxHeartbeats 1000000 in
theorem lp_dryBut (G : zG) (g : zh) (a : Nat) (ha : a < 900) (b : Nat) (hb : b < 3) : ∀ (n i : Nat) (x : zs), bOK x → i + n = rN x 0 → zS G mX0_dryTopsBut 2 [some (.ref a), some (.int (nI b)), some (.int (nI i))] [] (sB g a x) none (sB g a (zfw (fun j x => if j = b then x else bDry x j) i n x)) := by
  intro n
  induction n with
  | zero =>
    intro i x hs hi
    obtain ⟨h11, h10, h6, h5, h0, h1⟩ := id hs
    refine z_iload_n iX0_dryTopsBut_2 rfl ?_
    refine z_aload_n iX0_dryTopsBut_3 rfl ?_
    refine z_getf iX0_dryTopsBut_4 fX0_33 (sB_o _ _ _) (BF_0 _ _) (by omega) ?_
    refine zn_ge iX0_dryTopsBut_7 (by omega) (by omega) (fun q7 => ?_) (fun q7 => absurd q7 (by omega))
    exact z_return iX0_dryTopsBut_26 (rfl)
  | succ n ih =>
    intro i x hs hi
    obtain ⟨h11, h10, h6, h5, h0, h1⟩ := id hs
    refine z_iload_n iX0_dryTopsBut_2 rfl ?_
    refine z_aload_n iX0_dryTopsBut_3 rfl ?_
    refine z_getf iX0_dryTopsBut_4 fX0_33 (sB_o _ _ _) (BF_0 _ _) (by omega) ?_
    refine zn_ge iX0_dryTopsBut_7 (by omega) (by omega) (fun q7 => absurd q7 (by omega)) (fun q7 => ?_)
    refine z_iload_n iX0_dryTopsBut_10 rfl ?_
    refine z_iload_n iX0_dryTopsBut_11 rfl ?_
    refine zn_eq iX0_dryTopsBut_12 (by omega) (by omega) (fun q12 => ?_) (fun q12 => ?_)
    · refine z_iinc iX0_dryTopsBut_20 rfl nix_inc rfl (by decide) ?_
      refine z_goto iX0_dryTopsBut_23 ?_
      first
        | (simp only [zfw, if_pos q12]; exact ih (i + 1) _ (by first | exact hs | exact bDry_ok hs i) (by first | omega | (rw [bDry_N]; omega)))
        | (simp only [zfw, if_neg q12]; exact ih (i + 1) _ (by first | exact hs | exact bDry_ok hs i) (by first | omega | (rw [bDry_N]; omega)))
    · refine z_aload_n iX0_dryTopsBut_15 rfl ?_
      refine z_iload_n iX0_dryTopsBut_16 rfl ?_
      refine z_cvv (y1 := mX0_dryTop) iX0_dryTopsBut_17 lX0_89 kX0_dryTop rfl (c_dryTop G g a ha _ hs i (by omega)) (sB_o _ _ _) rfl rfl rfl (Nat.le_of_ble_eq_true rfl) (by omega) ?_
      refine z_iinc iX0_dryTopsBut_20 rfl nix_inc rfl (by decide) ?_
      refine z_goto iX0_dryTopsBut_23 ?_
      first
        | (simp only [zfw, if_pos q12]; exact ih (i + 1) _ (by first | exact hs | exact bDry_ok hs i) (by first | omega | (rw [bDry_N]; omega)))
        | (simp only [zfw, if_neg q12]; exact ih (i + 1) _ (by first | exact hs | exact bDry_ok hs i) (by first | omega | (rw [bDry_N]; omega)))
set_option maxRecDepth 20000 in
set_option maxHeartbeats 1000000 in
theorem c_dryTopsBut (G : zG) (g : zh) (a : Nat) (ha : a < 900) (s : zs) (hs : bOK s) (b : Nat) (hb : b < 3) : zK G mX0_dryTopsBut [.ref a, .int (nI b)] (sB g a s) none (sB g a (bDryBut s b)) := by
  refine zK_of 1 rfl (by decide) trivial (Nat.le_of_ble_eq_true rfl) rfl ?_
  refine z_iconst iX0_dryTopsBut_0 zk_0 ?_
  refine z_istore_n iX0_dryTopsBut_1 rfl (by decide) ?_
  exact lp_dryBut G g a ha b hb _ 0 s hs (Nat.zero_add _)
def bLess (s : zs) (b : Nat) (much : Int32) : Int32 := if rF s 7 (rA s 11 (b * 3 + rA s 10 b - 1)) < much then rF s 7 (rA s 11 (b * 3 + rA s 10 b - 1)) else much
def bGive (s : zs) (b : Nat) (much : Int32) : Int32 := if rA s 10 b = 0 then nI 0 else kGives (rA s 5 (rA s 11 (b * 3 + rA s 10 b - 1))) (bLess s b much)
def bSl1 (s : zs) (b : Nat) (much : Int32) : zs := uF s 7 (upd (rF s 7) (rA s 11 (b * 3 + rA s 10 b - 1)) (rF s 7 (rA s 11 (b * 3 + rA s 10 b - 1)) - bLess s b much))
def bSl2 (s : zs) (b : Nat) (much : Int32) : zs := if rF (bSl1 s b much) 7 (rA s 11 (b * 3 + rA s 10 b - 1)) = 0 then bLoseFrom (bSl1 s b much) b (rA s 10 b - 1) else bSl1 s b much
def bSl3 (s : zs) (b : Nat) (much : Int32) : zs := if rA s 5 (rA s 11 (b * 3 + rA s 10 b - 1)) = 3 then bDryBut (bSl2 s b much) b else bSl2 s b much
def bSlice (s : zs) (b : Nat) (much : Int32) : zs := if rA s 10 b = 0 then s else uI (bSl3 s b much) 3 (rI (bSl3 s b much) 3 + bGive s b much)
theorem bSl2_ok {s : zs} (h : bOK s) (b : Nat) (much : Int32) : bOK (bSl2 s b much) := by
  unfold bSl2
  have hh := h.2.1 b
  split
  · exact bLoseFrom_ok (s := bSl1 s b much) h b _ (by omega)
  · exact h
theorem bSl2_N (s : zs) (b : Nat) (much : Int32) (k : Nat) : rN (bSl2 s b much) k = rN s k := by
  unfold bSl2
  split
  · exact (bLoseFrom_N _ _ _ _).trans rfl
  · rfl
theorem bLoseFrom_5 (s : zs) (b q : Nat) : rA (bLoseFrom s b q) 5 = rA s 5 := bLF_A b _ q s 5
theorem bLoseFrom_11 (s : zs) (b q : Nat) : rA (bLoseFrom s b q) 11 = rA s 11 := bLF_A b _ q s 11
theorem bLoseFrom_6 (s : zs) (b q : Nat) : rA (bLoseFrom s b q) 6 = rA s 6 := bLF_A b _ q s 6
theorem bSl2_5 (s : zs) (b : Nat) (much : Int32) : rA (bSl2 s b much) 5 = rA s 5 := by
  unfold bSl2
  split
  · exact (bLoseFrom_5 _ _ _).trans rfl
  · rfl
set_option maxRecDepth 20000 in
set_option maxHeartbeats 1000000 in
theorem c_slice3 (G : zG) (g : zh) (a : Nat) (ha : a < 900) (s : zs) (hs : bOK s) (b : Nat) (hb : b < 3) (much : Int32) (h : ¬ rA s 10 b = 0) : zS G mX0_slice 87 [some (.ref a), some (.int (nI b)), some (.int much), some (.int (nI (rA s 11 (b * 3 + rA s 10 b - 1)))), some (.int (bLess s b much)), some (.int (bGive s b much))] [] (sB g a (bSl3 s b much)) (some (.int (bGive s b much))) (sB g a (bSlice s b much)) := by
  refine z_aload_n iX0_slice_87 rfl ?_
  refine z_dup iX0_slice_88 rfl ?_
  refine z_getf iX0_slice_89 fX0_43 (sB_o _ _ _) (BF_3 _ _) (by omega) ?_
  refine z_iload iX0_slice_92 rfl ?_
  refine z_iadd iX0_slice_94 ?_
  refine z_putf iX0_slice_95 fX0_43 (sB_o _ _ _) rfl rfl (Nat.le_of_ble_eq_true rfl) (by omega) ?_
  rw [sB_w3]
  refine z_iload iX0_slice_98 rfl ?_
  exact z_ireturn iX0_slice_100 (rfl) (by rw [bSlice, if_neg h])
set_option maxRecDepth 20000 in
set_option maxHeartbeats 1000000 in
theorem c_slice2 (G : zG) (g : zh) (a : Nat) (ha : a < 900) (s : zs) (hs : bOK s) (b : Nat) (hb : b < 3) (much : Int32) (h : ¬ rA s 10 b = 0) : zS G mX0_slice 72 [some (.ref a), some (.int (nI b)), some (.int much), some (.int (nI (rA s 11 (b * 3 + rA s 10 b - 1)))), some (.int (bLess s b much)), some (.int (bGive s b much))] [] (sB g a (bSl2 s b much)) (some (.int (bGive s b much))) (sB g a (bSlice s b much)) := by
  obtain ⟨h11, h10, h6, h5, h0, h1⟩ := id hs
  have hh := h10 b
  have h12 := h11 (b * 3 + rA s 10 b - 1)
  have k2 := bSl2_ok hs b much
  have k5 := h5 (rA s 11 (b * 3 + rA s 10 b - 1))
  have e3 : ∀ (t : zs), t = bSl3 s b much → zS G mX0_slice 87 [some (.ref a), some (.int (nI b)), some (.int much), some (.int (nI (rA s 11 (b * 3 + rA s 10 b - 1)))), some (.int (bLess s b much)), some (.int (bGive s b much))] [] (sB g a t) (some (.int (bGive s b much))) (sB g a (bSlice s b much)) := fun t e => by subst e; exact c_slice3 G g a ha s hs b hb much h
  refine z_aload_n iX0_slice_72 rfl ?_
  refine z_getf iX0_slice_73 fX0_9 (sB_o _ _ _) (BF_5 _ _) (by omega) ?_
  refine z_iload_n iX0_slice_76 rfl ?_
  refine z_iaload iX0_slice_77 (sB_5 _ _ _) rfl (by omega) (by decide) (by omega) ?_
  rw [bSl2_5]
  refine z_iconst iX0_slice_78 zk_3 ?_
  refine zn_ne iX0_slice_79 (by omega) (by omega) (fun q79 => ?_) (fun q79 => ?_)
  · exact e3 _ (by first | (rw [bSl3, if_pos q79]; done) | (rw [bSl3, if_neg q79]; done))
  · refine z_aload_n iX0_slice_82 rfl ?_
    refine z_iload_n iX0_slice_83 rfl ?_
    refine z_cvv (y1 := mX0_dryTopsBut) iX0_slice_84 lX0_98 kX0_dryTopsBut rfl (c_dryTopsBut G g a ha _ k2 b hb) (sB_o _ _ _) rfl rfl rfl (Nat.le_of_ble_eq_true rfl) (by omega) ?_
    exact e3 _ (by first | (rw [bSl3, if_pos q79]; done) | (rw [bSl3, if_neg q79]; done))
set_option maxRecDepth 20000 in
set_option maxHeartbeats 1000000 in
theorem c_slice1 (G : zG) (g : zh) (a : Nat) (ha : a < 900) (s : zs) (hs : bOK s) (b : Nat) (hb : b < 3) (much : Int32) (h : ¬ rA s 10 b = 0) : zS G mX0_slice 13 [some (.ref a), some (.int (nI b)), some (.int much), some (.int (nI (rA s 11 (b * 3 + rA s 10 b - 1)))), none, none] [] (sB g a s) (some (.int (bGive s b much))) (sB g a (bSlice s b much)) := by
  obtain ⟨h11, h10, h6, h5, h0, h1⟩ := id hs
  have hh := h10 b
  have h12 := h11 (b * 3 + rA s 10 b - 1)
  have k5 := h5 (rA s 11 (b * 3 + rA s 10 b - 1))
  have eg : bGive s b much = kGives (rA s 5 (rA s 11 (b * 3 + rA s 10 b - 1))) (bLess s b much) := if_neg h
  have e2 : ∀ (t : zs), t = bSl2 s b much → zS G mX0_slice 72 [some (.ref a), some (.int (nI b)), some (.int much), some (.int (nI (rA s 11 (b * 3 + rA s 10 b - 1)))), some (.int (bLess s b much)), some (.int (bGive s b much))] [] (sB g a t) (some (.int (bGive s b much))) (sB g a (bSlice s b much)) := fun t e => by subst e; exact c_slice2 G g a ha s hs b hb much h
  refine z_iload_n iX0_slice_13 rfl ?_
  refine z_aload_n iX0_slice_14 rfl ?_
  refine z_getf iX0_slice_15 fX0_18 (sB_o _ _ _) (BF_7 _ _) (by omega) ?_
  refine z_iload_n iX0_slice_18 rfl ?_
  refine z_iaload iX0_slice_19 (sB_7 _ _ _) rfl (by omega) (by decide) (by omega) ?_
  refine z_mmin iX0_slice_20 lX0_92 (by decide) (Nat.le_of_ble_eq_true rfl) ?_
  refine z_istore iX0_slice_23 rfl (by decide) ?_
  refine z_aload_n iX0_slice_25 rfl ?_
  refine z_getf iX0_slice_26 fX0_9 (sB_o _ _ _) (BF_5 _ _) (by omega) ?_
  refine z_iload_n iX0_slice_29 rfl ?_
  refine z_iaload iX0_slice_30 (sB_5 _ _ _) rfl (by omega) (by decide) (by omega) ?_
  refine z_iload iX0_slice_31 rfl ?_
  refine z_csi (y1 := mX3_gives) iX0_slice_33 lX0_95 kX3_gives rfl (c_gives G _ _ _ (by omega)) rfl rfl (Nat.le_of_ble_eq_true rfl) ?_
  refine z_istore iX0_slice_36 rfl (by decide) ?_
  refine z_aload_n iX0_slice_38 rfl ?_
  refine z_getf iX0_slice_39 fX0_18 (sB_o _ _ _) (BF_7 _ _) (by omega) ?_
  refine z_iload_n iX0_slice_42 rfl ?_
  refine z_dup2 iX0_slice_43 rfl rfl ?_
  refine z_iaload iX0_slice_44 (sB_7 _ _ _) rfl (by omega) (by decide) (by omega) ?_
  refine z_iload iX0_slice_45 rfl ?_
  refine z_isub iX0_slice_47 ?_
  refine z_iastore iX0_slice_48 (sB_7 _ _ _) rfl (by omega) (by decide) (by omega) (by decide) ?_
  rw [sB_w7]
  refine z_heap (g2 := sB g a (bSl1 s b much)) rfl ?_
  have e10 : rA (bSl1 s b much) 10 b = rA s 10 b := rfl
  refine z_aload_n iX0_slice_49 rfl ?_
  refine z_getf iX0_slice_50 fX0_18 (sB_o _ _ _) (BF_7 _ _) (by omega) ?_
  refine z_iload_n iX0_slice_53 rfl ?_
  refine z_iaload iX0_slice_54 (sB_7 _ _ _) rfl (by omega) (by decide) (by omega) ?_
  refine z_if_ne iX0_slice_55 (fun q55 => ?_) (fun q55 => ?_)
  · rw [eg] at e2
    rw [eg]
    first
      | exact e2 _ (if_pos q55).symm
      | exact e2 _ (if_neg q55).symm
  · refine z_aload_n iX0_slice_58 rfl ?_
    refine z_iload_n iX0_slice_59 rfl ?_
    refine z_aload_n iX0_slice_60 rfl ?_
    refine z_getf iX0_slice_61 fX0_27 (sB_o _ _ _) (BF_10 _ _) (by omega) ?_
    refine z_iload_n iX0_slice_64 rfl ?_
    refine z_iaload iX0_slice_65 (sB_10 _ _ _) rfl (by omega) (by decide) (by omega) ?_
    refine z_iconst iX0_slice_66 zk_1 ?_
    refine z_isub iX0_slice_67 ?_
    refine z_top (nix_sub (by omega)) ?_
    refine z_cvi (y1 := mX0_loseFrom) iX0_slice_68 lX0_73 kX0_loseFrom rfl (c_loseFrom G g a ha (bSl1 s b much) hs b _ hb (by omega)) (sB_o _ _ _) rfl rfl rfl (Nat.le_of_ble_eq_true rfl) (by omega) ?_
    refine z_pop iX0_slice_71 rfl ?_
    rw [eg] at e2
    rw [eg]
    first
      | exact e2 _ (if_pos q55).symm
      | exact e2 _ (if_neg q55).symm
set_option maxRecDepth 20000 in
set_option maxHeartbeats 1000000 in
theorem c_slice (G : zG) (g : zh) (a : Nat) (ha : a < 900) (s : zs) (hs : bOK s) (b : Nat) (hb : b < 3) (much : Int32) : zK G mX0_slice [.ref a, .int (nI b), .int much] (sB g a s) (some (.int (bGive s b much))) (sB g a (bSlice s b much)) := by
  obtain ⟨h11, h10, h6, h5, h0, h1⟩ := id hs
  have hh := h10 b
  have h12 := h11 (b * 3 + rA s 10 b - 1)
  refine zK_of 3 rfl (by decide) trivial (Nat.le_of_ble_eq_true rfl) rfl ?_
  by_cases h : rA s 10 b = 0
  · skip
    refine z_aload_n iX0_slice_0 rfl ?_
    refine z_iload_n iX0_slice_1 rfl ?_
    refine z_cvi (y1 := mX0_top) iX0_slice_2 lX0_80 kX0_top rfl (c_top G g a ha s hs b hb) (sB_o _ _ _) rfl rfl rfl (Nat.le_of_ble_eq_true rfl) (by omega) ?_
    rw [bTop_0 h]
    refine z_istore_n iX0_slice_5 rfl (by decide) ?_
    refine z_iload_n iX0_slice_6 rfl ?_
    refine z_iconst iX0_slice_7 zk_m1 ?_
    refine z_icmp_ne iX0_slice_8 (fun q8 => absurd rfl q8) (fun q8 => ?_)
    refine z_iconst iX0_slice_11 zk_0 ?_
    exact z_ireturn iX0_slice_12 (by rw [bGive, if_pos h]) (by rw [bSlice, if_pos h])
  · skip
    refine z_aload_n iX0_slice_0 rfl ?_
    refine z_iload_n iX0_slice_1 rfl ?_
    refine z_cvi (y1 := mX0_top) iX0_slice_2 lX0_80 kX0_top rfl (c_top G g a ha s hs b hb) (sB_o _ _ _) rfl rfl rfl (Nat.le_of_ble_eq_true rfl) (by omega) ?_
    rw [bTop_1 h]
    refine z_istore_n iX0_slice_5 rfl (by decide) ?_
    refine z_iload_n iX0_slice_6 rfl ?_
    refine z_iconst iX0_slice_7 zk_m1 ?_
    refine z_icmp_ne iX0_slice_8 (fun q8 => ?_) (fun q8 => absurd q8 (nI_m1 (by omega)))
    exact c_slice1 G g a ha s hs b hb much h
def bLeastStep (s : zs) (b : Nat) (x : Int32 × Int32) : Int32 × Int32 := if rA s 10 b = 0 then x else if ¬ x.1 = -1 ∧ x.2 ≤ rF s 7 (rA s 11 (b * 3 + rA s 10 b - 1)) then x else (nI b, rF s 7 (rA s 11 (b * 3 + rA s 10 b - 1)))
def bLeast (s : zs) : Int32 := (zfw (bLeastStep s) 0 (rN s 0) (-1, nI 0)).1
def zle : List (Option Value) → List (Option Value) → Prop
  | [], _ => True
  | _ :: _, [] => False
  | a :: t, b :: u => (a = none ∨ a = b) ∧ zle t u
theorem zle_w : ∀ {l2 l : List (Option Value)}, zle l2 l → ∀ (i : Nat) (v : Value), l2[i]? = some (some v) → l[i]? = some (some v)
  | [], _, _, i, v, h => by simp at h
  | _ :: _, [], hz, _, _, _ => False.elim hz
  | a :: t, b :: u, hz, 0, v, h => by
    rcases hz.1 with e | e
    · subst e; simp at h
    · subst e; exact h
  | a :: t, b :: u, hz, i + 1, v, h => by
    have := zle_w hz.2 i v (by simpa using h)
    simpa using this
set_option maxRecDepth 20000 in
set_option maxHeartbeats 1000000 in
theorem lp_least (G : zG) (g : zh) (a : Nat) (ha : a < 900) (s : zs) (hs : bOK s) : ∀ (n i : Nat) (x : Int32 × Int32), i + n = rN s 0 → zS G mX0_bayOfLeastLight 6 [some (.ref a), some (.int x.1), some (.int x.2), some (.int (nI i)), none] [] (sB g a s) (some (.int (zfw (bLeastStep s) i n x).1)) (sB g a s) := by
  obtain ⟨h11, h10, h6, h5, h0, h1⟩ := id hs
  intro n
  induction n with
  | zero =>
    intro i x hi
    refine z_iload_n iX0_bayOfLeastLight_6 rfl ?_
    refine z_aload_n iX0_bayOfLeastLight_7 rfl ?_
    refine z_getf iX0_bayOfLeastLight_8 fX0_33 (sB_o _ _ _) (BF_0 _ _) (by omega) ?_
    refine zn_ge iX0_bayOfLeastLight_11 (by omega) (by omega) (fun q11 => ?_) (fun q11 => absurd q11 (by omega))
    refine z_iload_n iX0_bayOfLeastLight_59 rfl ?_
    exact z_ireturn iX0_bayOfLeastLight_60 (rfl) (rfl)
  | succ n ih =>
    intro i x hi
    have hh := h10 i
    have h12 := h11 (i * 3 + rA s 10 i - 1)
    by_cases h : rA s 10 i = 0
    · skip
      refine z_iload_n iX0_bayOfLeastLight_6 rfl ?_
      refine z_aload_n iX0_bayOfLeastLight_7 rfl ?_
      refine z_getf iX0_bayOfLeastLight_8 fX0_33 (sB_o _ _ _) (BF_0 _ _) (by omega) ?_
      refine zn_ge iX0_bayOfLeastLight_11 (by omega) (by omega) (fun q11 => absurd q11 (by omega)) (fun q11 => ?_)
      refine z_aload_n iX0_bayOfLeastLight_14 rfl ?_
      refine z_iload_n iX0_bayOfLeastLight_15 rfl ?_
      refine z_cvi (y1 := mX0_top) iX0_bayOfLeastLight_16 lX0_80 kX0_top rfl (c_top G g a ha s hs i (by omega)) (sB_o _ _ _) rfl rfl rfl (Nat.le_of_ble_eq_true rfl) (by omega) ?_
      rw [bTop_0 h]
      refine z_istore iX0_bayOfLeastLight_19 rfl (by decide) ?_
      refine z_iload iX0_bayOfLeastLight_21 rfl ?_
      refine z_iconst iX0_bayOfLeastLight_23 zk_m1 ?_
      refine z_icmp_eq iX0_bayOfLeastLight_24 (fun q24 => ?_) (fun q24 => absurd rfl q24)
      have e1 : bLeastStep s i x = x := if_pos h
      refine z_iinc iX0_bayOfLeastLight_53 rfl nix_inc rfl (by decide) ?_
      refine z_goto iX0_bayOfLeastLight_56 ?_
      simp only [zfw, e1]
      refine z_weak ?_ (ih (i + 1) _ (by omega))
      exact zle_w (by simp [zle])
    · skip
      refine z_iload_n iX0_bayOfLeastLight_6 rfl ?_
      refine z_aload_n iX0_bayOfLeastLight_7 rfl ?_
      refine z_getf iX0_bayOfLeastLight_8 fX0_33 (sB_o _ _ _) (BF_0 _ _) (by omega) ?_
      refine zn_ge iX0_bayOfLeastLight_11 (by omega) (by omega) (fun q11 => absurd q11 (by omega)) (fun q11 => ?_)
      refine z_aload_n iX0_bayOfLeastLight_14 rfl ?_
      refine z_iload_n iX0_bayOfLeastLight_15 rfl ?_
      refine z_cvi (y1 := mX0_top) iX0_bayOfLeastLight_16 lX0_80 kX0_top rfl (c_top G g a ha s hs i (by omega)) (sB_o _ _ _) rfl rfl rfl (Nat.le_of_ble_eq_true rfl) (by omega) ?_
      rw [bTop_1 h]
      refine z_istore iX0_bayOfLeastLight_19 rfl (by decide) ?_
      refine z_iload iX0_bayOfLeastLight_21 rfl ?_
      refine z_iconst iX0_bayOfLeastLight_23 zk_m1 ?_
      refine z_icmp_eq iX0_bayOfLeastLight_24 (fun q24 => absurd q24 (nI_m1 (by omega))) (fun q24 => ?_)
      refine z_iload_n iX0_bayOfLeastLight_27 rfl ?_
      refine z_iconst iX0_bayOfLeastLight_28 zk_m1 ?_
      refine z_icmp_eq iX0_bayOfLeastLight_29 (fun q29 => ?_) (fun q29 => ?_)
      · refine z_aload_n iX0_bayOfLeastLight_43 rfl ?_
        refine z_getf iX0_bayOfLeastLight_44 fX0_18 (sB_o _ _ _) (BF_7 _ _) (by omega) ?_
        refine z_iload iX0_bayOfLeastLight_47 rfl ?_
        refine z_iaload iX0_bayOfLeastLight_49 (sB_7 _ _ _) rfl (by omega) (by decide) (by omega) ?_
        refine z_istore_n iX0_bayOfLeastLight_50 rfl (by decide) ?_
        refine z_iload_n iX0_bayOfLeastLight_51 rfl ?_
        refine z_istore_n iX0_bayOfLeastLight_52 rfl (by decide) ?_
        first
          | (have e0 : ¬ x.1 = -1 ∧ x.2 ≤ rF s 7 (rA s 11 (i * 3 + rA s 10 i - 1)) := ⟨by assumption, by assumption⟩
             have e1 : bLeastStep s i x = x := by rw [bLeastStep, if_neg h, if_pos e0]
             skip
             refine z_iinc iX0_bayOfLeastLight_53 rfl nix_inc rfl (by decide) ?_
             refine z_goto iX0_bayOfLeastLight_56 ?_
             simp only [zfw, e1]
             refine z_weak ?_ (ih (i + 1) _ (by omega))
             exact zle_w (by simp [zle]))
          | (have e0 : ¬ (¬ x.1 = -1 ∧ x.2 ≤ rF s 7 (rA s 11 (i * 3 + rA s 10 i - 1))) := fun k => absurd k.2 (by assumption)
             have e1 : bLeastStep s i x = (nI i, rF s 7 (rA s 11 (i * 3 + rA s 10 i - 1))) := by rw [bLeastStep, if_neg h, if_neg e0]
             skip
             refine z_iinc iX0_bayOfLeastLight_53 rfl nix_inc rfl (by decide) ?_
             refine z_goto iX0_bayOfLeastLight_56 ?_
             simp only [zfw, e1]
             refine z_weak ?_ (ih (i + 1) _ (by omega))
             exact zle_w (by simp [zle]))
          | (have e0 : ¬ (¬ x.1 = -1 ∧ x.2 ≤ rF s 7 (rA s 11 (i * 3 + rA s 10 i - 1))) := fun k => k.1 (by assumption)
             have e1 : bLeastStep s i x = (nI i, rF s 7 (rA s 11 (i * 3 + rA s 10 i - 1))) := by rw [bLeastStep, if_neg h, if_neg e0]
             skip
             refine z_iinc iX0_bayOfLeastLight_53 rfl nix_inc rfl (by decide) ?_
             refine z_goto iX0_bayOfLeastLight_56 ?_
             simp only [zfw, e1]
             refine z_weak ?_ (ih (i + 1) _ (by omega))
             exact zle_w (by simp [zle]))
      · refine z_aload_n iX0_bayOfLeastLight_32 rfl ?_
        refine z_getf iX0_bayOfLeastLight_33 fX0_18 (sB_o _ _ _) (BF_7 _ _) (by omega) ?_
        refine z_iload iX0_bayOfLeastLight_36 rfl ?_
        refine z_iaload iX0_bayOfLeastLight_38 (sB_7 _ _ _) rfl (by omega) (by decide) (by omega) ?_
        refine z_iload_n iX0_bayOfLeastLight_39 rfl ?_
        refine z_icmp_ge iX0_bayOfLeastLight_40 (fun q40 => ?_) (fun q40 => ?_)
        · first
            | (have e0 : ¬ x.1 = -1 ∧ x.2 ≤ rF s 7 (rA s 11 (i * 3 + rA s 10 i - 1)) := ⟨by assumption, by assumption⟩
               have e1 : bLeastStep s i x = x := by rw [bLeastStep, if_neg h, if_pos e0]
               skip
               refine z_iinc iX0_bayOfLeastLight_53 rfl nix_inc rfl (by decide) ?_
               refine z_goto iX0_bayOfLeastLight_56 ?_
               simp only [zfw, e1]
               refine z_weak ?_ (ih (i + 1) _ (by omega))
               exact zle_w (by simp [zle]))
            | (have e0 : ¬ (¬ x.1 = -1 ∧ x.2 ≤ rF s 7 (rA s 11 (i * 3 + rA s 10 i - 1))) := fun k => absurd k.2 (by assumption)
               have e1 : bLeastStep s i x = (nI i, rF s 7 (rA s 11 (i * 3 + rA s 10 i - 1))) := by rw [bLeastStep, if_neg h, if_neg e0]
               skip
               refine z_iinc iX0_bayOfLeastLight_53 rfl nix_inc rfl (by decide) ?_
               refine z_goto iX0_bayOfLeastLight_56 ?_
               simp only [zfw, e1]
               refine z_weak ?_ (ih (i + 1) _ (by omega))
               exact zle_w (by simp [zle]))
            | (have e0 : ¬ (¬ x.1 = -1 ∧ x.2 ≤ rF s 7 (rA s 11 (i * 3 + rA s 10 i - 1))) := fun k => k.1 (by assumption)
               have e1 : bLeastStep s i x = (nI i, rF s 7 (rA s 11 (i * 3 + rA s 10 i - 1))) := by rw [bLeastStep, if_neg h, if_neg e0]
               skip
               refine z_iinc iX0_bayOfLeastLight_53 rfl nix_inc rfl (by decide) ?_
               refine z_goto iX0_bayOfLeastLight_56 ?_
               simp only [zfw, e1]
               refine z_weak ?_ (ih (i + 1) _ (by omega))
               exact zle_w (by simp [zle]))
        · refine z_aload_n iX0_bayOfLeastLight_43 rfl ?_
          refine z_getf iX0_bayOfLeastLight_44 fX0_18 (sB_o _ _ _) (BF_7 _ _) (by omega) ?_
          refine z_iload iX0_bayOfLeastLight_47 rfl ?_
          refine z_iaload iX0_bayOfLeastLight_49 (sB_7 _ _ _) rfl (by omega) (by decide) (by omega) ?_
          refine z_istore_n iX0_bayOfLeastLight_50 rfl (by decide) ?_
          refine z_iload_n iX0_bayOfLeastLight_51 rfl ?_
          refine z_istore_n iX0_bayOfLeastLight_52 rfl (by decide) ?_
          first
            | (have e0 : ¬ x.1 = -1 ∧ x.2 ≤ rF s 7 (rA s 11 (i * 3 + rA s 10 i - 1)) := ⟨by assumption, by assumption⟩
               have e1 : bLeastStep s i x = x := by rw [bLeastStep, if_neg h, if_pos e0]
               skip
               refine z_iinc iX0_bayOfLeastLight_53 rfl nix_inc rfl (by decide) ?_
               refine z_goto iX0_bayOfLeastLight_56 ?_
               simp only [zfw, e1]
               refine z_weak ?_ (ih (i + 1) _ (by omega))
               exact zle_w (by simp [zle]))
            | (have e0 : ¬ (¬ x.1 = -1 ∧ x.2 ≤ rF s 7 (rA s 11 (i * 3 + rA s 10 i - 1))) := fun k => absurd k.2 (by assumption)
               have e1 : bLeastStep s i x = (nI i, rF s 7 (rA s 11 (i * 3 + rA s 10 i - 1))) := by rw [bLeastStep, if_neg h, if_neg e0]
               skip
               refine z_iinc iX0_bayOfLeastLight_53 rfl nix_inc rfl (by decide) ?_
               refine z_goto iX0_bayOfLeastLight_56 ?_
               simp only [zfw, e1]
               refine z_weak ?_ (ih (i + 1) _ (by omega))
               exact zle_w (by simp [zle]))
            | (have e0 : ¬ (¬ x.1 = -1 ∧ x.2 ≤ rF s 7 (rA s 11 (i * 3 + rA s 10 i - 1))) := fun k => k.1 (by assumption)
               have e1 : bLeastStep s i x = (nI i, rF s 7 (rA s 11 (i * 3 + rA s 10 i - 1))) := by rw [bLeastStep, if_neg h, if_neg e0]
               skip
               refine z_iinc iX0_bayOfLeastLight_53 rfl nix_inc rfl (by decide) ?_
               refine z_goto iX0_bayOfLeastLight_56 ?_
               simp only [zfw, e1]
               refine z_weak ?_ (ih (i + 1) _ (by omega))
               exact zle_w (by simp [zle]))
set_option maxRecDepth 20000 in
set_option maxHeartbeats 1000000 in
theorem c_least (G : zG) (g : zh) (a : Nat) (ha : a < 900) (s : zs) (hs : bOK s) : zK G mX0_bayOfLeastLight [.ref a] (sB g a s) (some (.int (bLeast s))) (sB g a s) := by
  refine zK_of 4 rfl (by decide) trivial (Nat.le_of_ble_eq_true rfl) rfl ?_
  refine z_iconst iX0_bayOfLeastLight_0 zk_m1 ?_
  refine z_istore_n iX0_bayOfLeastLight_1 rfl (by decide) ?_
  refine z_iconst iX0_bayOfLeastLight_2 zk_0 ?_
  refine z_istore_n iX0_bayOfLeastLight_3 rfl (by decide) ?_
  refine z_iconst iX0_bayOfLeastLight_4 zk_0 ?_
  refine z_istore_n iX0_bayOfLeastLight_5 rfl (by decide) ?_
  exact lp_least G g a ha s hs _ 0 (-1, nI 0) (Nat.zero_add _)
def bTakeStep (b t p : Nat) (x : Nat × zs) : Nat × zs := if t / 2 ^ p % 2 = 1 then (x.1, bLose x.2 (rA x.2 11 (b * 3 + p))) else (x.1 + 1, uA x.2 11 (updN (rA x.2 11) (b * 3 + x.1) (rA x.2 11 (b * 3 + p))))
def bTakeEnd (b : Nat) (x : Nat × zs) : zs := uA x.2 10 (updN (rA x.2 10) b x.1)
def bTake (s : zs) (b t : Nat) : zs := bTakeEnd b (zfw (bTakeStep b t) 0 (rA s 10 b) (0, s))
theorem bTakeStep_ok {b t p : Nat} {x : Nat × zs} (h : bOK x.2) : bOK (bTakeStep b t p x).2 := by
  unfold bTakeStep
  split
  · exact h
  · obtain ⟨h11, h10, h6, h5, h0, h1⟩ := id h
    refine ⟨fun j => ?_, h10, h6, h5, h0, h1⟩
    show updN (rA x.2 11) _ _ j < 9
    unfold updN
    split
    · exact h11 _
    · exact h11 _
theorem bTakeStep_le {b t p : Nat} {x : Nat × zs} : (bTakeStep b t p x).1 ≤ x.1 + 1 := by
  unfold bTakeStep
  split
  · exact Nat.le_succ _
  · exact Nat.le_refl _
theorem bTakeStep_10 {b t p : Nat} {x : Nat × zs} : rA (bTakeStep b t p x).2 10 = rA x.2 10 := by
  unfold bTakeStep
  split <;> rfl
set_option maxRecDepth 20000 in
set_option maxHeartbeats 1000000 in
theorem lp_take (G : zG) (g : zh) (a : Nat) (ha : a < 900) (b t : Nat) (hb : b < 3) (ht : t < 2 ^ 30) : ∀ (n i : Nat) (x : Nat × zs), bOK x.2 → x.1 ≤ i → i + n = rA x.2 10 b → zS G mX0_takeOut 5 [some (.ref a), some (.int (nI b)), some (.int (nI t)), some (.int (nI x.1)), some (.int (nI i)), none] [] (sB g a x.2) none (sB g a (bTakeEnd b (zfw (bTakeStep b t) i n x))) := by
  intro n
  induction n with
  | zero =>
    intro i x hs hl hi
    obtain ⟨h11, h10, h6, h5, h0, h1⟩ := id hs
    have hh := h10 b
    refine z_iload iX0_takeOut_5 rfl ?_
    refine z_aload_n iX0_takeOut_7 rfl ?_
    refine z_getf iX0_takeOut_8 fX0_27 (sB_o _ _ _) (BF_10 _ _) (by omega) ?_
    refine z_iload_n iX0_takeOut_11 rfl ?_
    refine z_iaload iX0_takeOut_12 (sB_10 _ _ _) rfl (by omega) (by decide) (by omega) ?_
    refine zn_ge iX0_takeOut_13 (by omega) (by omega) (fun q13 => ?_) (fun q13 => absurd q13 (by omega))
    refine z_aload_n iX0_takeOut_69 rfl ?_
    refine z_getf iX0_takeOut_70 fX0_27 (sB_o _ _ _) (BF_10 _ _) (by omega) ?_
    refine z_iload_n iX0_takeOut_73 rfl ?_
    refine z_iload_n iX0_takeOut_74 rfl ?_
    refine z_iastore iX0_takeOut_75 (sB_10 _ _ _) rfl (by omega) (by decide) (by omega) (by decide) ?_
    rw [upd_nI, sB_w10]
    exact z_return iX0_takeOut_76 (rfl)
  | succ n ih =>
    intro i x hs hl hi
    obtain ⟨h11, h10, h6, h5, h0, h1⟩ := id hs
    have hh := h10 b
    refine z_iload iX0_takeOut_5 rfl ?_
    refine z_aload_n iX0_takeOut_7 rfl ?_
    refine z_getf iX0_takeOut_8 fX0_27 (sB_o _ _ _) (BF_10 _ _) (by omega) ?_
    refine z_iload_n iX0_takeOut_11 rfl ?_
    refine z_iaload iX0_takeOut_12 (sB_10 _ _ _) rfl (by omega) (by decide) (by omega) ?_
    refine zn_ge iX0_takeOut_13 (by omega) (by omega) (fun q13 => absurd q13 (by omega)) (fun q13 => ?_)
    refine z_aload_n iX0_takeOut_16 rfl ?_
    refine z_getf iX0_takeOut_17 fX0_30 (sB_o _ _ _) (BF_11 _ _) (by omega) ?_
    refine z_iload_n iX0_takeOut_20 rfl ?_
    refine z_iconst iX0_takeOut_21 zk_3 ?_
    refine z_imul iX0_takeOut_22 ?_
    refine z_top nix_mul ?_
    refine z_iload iX0_takeOut_23 rfl ?_
    refine z_iadd iX0_takeOut_25 ?_
    refine z_top nix_add ?_
    refine z_iaload iX0_takeOut_26 (sB_11 _ _ _) rfl (by omega) (by decide) (by omega) ?_
    refine z_istore iX0_takeOut_27 rfl (by decide) ?_
    refine z_iload_n iX0_takeOut_29 rfl ?_
    refine z_iload iX0_takeOut_30 rfl ?_
    refine z_ishr iX0_takeOut_32 ?_
    refine z_top (nix_shr (by omega) (by omega)) ?_
    refine z_iconst iX0_takeOut_33 zk_1 ?_
    refine z_iand iX0_takeOut_34 ?_
    refine z_top nix_and1 ?_
    refine z_iconst iX0_takeOut_35 zk_1 ?_
    refine zn_ne iX0_takeOut_36 (by omega) (by omega) (fun q36 => ?_) (fun q36 => ?_)
    · refine z_aload_n iX0_takeOut_48 rfl ?_
      refine z_getf iX0_takeOut_49 fX0_30 (sB_o _ _ _) (BF_11 _ _) (by omega) ?_
      refine z_iload_n iX0_takeOut_52 rfl ?_
      refine z_iconst iX0_takeOut_53 zk_3 ?_
      refine z_imul iX0_takeOut_54 ?_
      refine z_top nix_mul ?_
      refine z_iload_n iX0_takeOut_55 rfl ?_
      refine z_iadd iX0_takeOut_56 ?_
      refine z_top nix_add ?_
      refine z_iload iX0_takeOut_57 rfl ?_
      refine z_iastore iX0_takeOut_59 (sB_11 _ _ _) rfl (by omega) (by decide) (by omega) (by decide) ?_
      rw [upd_nI, sB_w11]
      refine z_iinc iX0_takeOut_60 rfl nix_inc rfl (by decide) ?_
      refine z_iinc iX0_takeOut_63 rfl nix_inc rfl (by decide) ?_
      refine z_goto iX0_takeOut_66 ?_
      first
        | (have e1 : bTakeStep b t i x = (x.1, bLose x.2 (rA x.2 11 (b * 3 + i))) := if_pos q36
           have k1 := ih (i + 1) (bTakeStep b t i x) (bTakeStep_ok hs) (Nat.le_trans bTakeStep_le (by omega)) (by rw [bTakeStep_10]; omega)
           simp only [zfw]
           rw [e1] at k1 ⊢
           refine z_weak ?_ k1
           exact zle_w (by simp [zle]))
        | (have e1 : bTakeStep b t i x = (x.1 + 1, uA x.2 11 (updN (rA x.2 11) (b * 3 + x.1) (rA x.2 11 (b * 3 + i)))) := if_neg q36
           have k1 := ih (i + 1) (bTakeStep b t i x) (bTakeStep_ok hs) (Nat.le_trans bTakeStep_le (by omega)) (by rw [bTakeStep_10]; omega)
           simp only [zfw]
           rw [e1] at k1 ⊢
           refine z_weak ?_ k1
           exact zle_w (by simp [zle]))
    · refine z_aload_n iX0_takeOut_39 rfl ?_
      refine z_iload iX0_takeOut_40 rfl ?_
      refine z_cvv (y1 := mX0_lose) iX0_takeOut_42 lX0_76 kX0_lose rfl (c_lose G g a ha _ hs _ (h11 _)) (sB_o _ _ _) rfl rfl rfl (Nat.le_of_ble_eq_true rfl) (by omega) ?_
      refine z_goto iX0_takeOut_45 ?_
      refine z_iinc iX0_takeOut_63 rfl nix_inc rfl (by decide) ?_
      refine z_goto iX0_takeOut_66 ?_
      first
        | (have e1 : bTakeStep b t i x = (x.1, bLose x.2 (rA x.2 11 (b * 3 + i))) := if_pos q36
           have k1 := ih (i + 1) (bTakeStep b t i x) (bTakeStep_ok hs) (Nat.le_trans bTakeStep_le (by omega)) (by rw [bTakeStep_10]; omega)
           simp only [zfw]
           rw [e1] at k1 ⊢
           refine z_weak ?_ k1
           exact zle_w (by simp [zle]))
        | (have e1 : bTakeStep b t i x = (x.1 + 1, uA x.2 11 (updN (rA x.2 11) (b * 3 + x.1) (rA x.2 11 (b * 3 + i)))) := if_neg q36
           have k1 := ih (i + 1) (bTakeStep b t i x) (bTakeStep_ok hs) (Nat.le_trans bTakeStep_le (by omega)) (by rw [bTakeStep_10]; omega)
           simp only [zfw]
           rw [e1] at k1 ⊢
           refine z_weak ?_ k1
           exact zle_w (by simp [zle]))
set_option maxRecDepth 20000 in
set_option maxHeartbeats 1000000 in
theorem c_takeOut (G : zG) (g : zh) (a : Nat) (ha : a < 900) (s : zs) (hs : bOK s) (b t : Nat) (hb : b < 3) (ht : t < 2 ^ 30) : zK G mX0_takeOut [.ref a, .int (nI b), .int (nI t)] (sB g a s) none (sB g a (bTake s b t)) := by
  refine zK_of 3 rfl (by decide) trivial (Nat.le_of_ble_eq_true rfl) rfl ?_
  refine z_iconst iX0_takeOut_0 zk_0 ?_
  refine z_istore_n iX0_takeOut_1 rfl (by decide) ?_
  refine z_iconst iX0_takeOut_2 zk_0 ?_
  refine z_istore iX0_takeOut_3 rfl (by decide) ?_
  exact lp_take G g a ha b t hb ht _ 0 (0, s) hs (Nat.le_refl _) (Nat.zero_add _)
def bCool : Nat → zs → zs := fun p x => uF x 9 (upd (rF x 9) (rA x 11 p) (nI 0))
theorem bCool_A : ∀ (n i : Nat) (x : zs) (k : Nat), rA (zfw bCool i n x) k = rA x k
  | 0, _, _, _ => rfl
  | n + 1, i, x, k => (bCool_A n (i + 1) _ k).trans rfl
theorem bCool_N : ∀ (n i : Nat) (x : zs) (k : Nat), rN (zfw bCool i n x) k = rN x k
  | 0, _, _, _ => rfl
  | n + 1, i, x, k => (bCool_N n (i + 1) _ k).trans rfl
def bSwap (x : zs) (i j : Nat) : zs := uA x 11 (updN (updN (rA x 11) i (rA x 11 j)) j (rA x 11 i))
def bTurn (s : zs) (b : Nat) : zs := if rA s 10 b < 2 then zfw bCool (b * 3) (rA s 10 b) s else bSwap (zfw bCool (b * 3) (rA s 10 b) s) (b * 3) (b * 3 + rA s 10 b - 1)
set_option maxRecDepth 20000 in
set_option maxHeartbeats 1000000 in
theorem lp_swap0 (G : zG) (g : zh) (a : Nat) (ha : a < 900) (s : zs) (b lo up : Nat) (lo0 up0 : Nat) (j : Option Value) (hl : lo0 < 20) (hu : up0 < 20) (h : up0 ≤ lo0) : zS G mX0_turnOver 49 [some (.ref a), some (.int (nI b)), some (.int (nI lo)), some (.int (nI up)), some (.int (nI lo0)), some (.int (nI up0)), j] [] (sB g a s) none (sB g a s) := by
  refine z_iload iX0_turnOver_49 rfl ?_
  refine z_iload iX0_turnOver_51 rfl ?_
  refine zn_ge iX0_turnOver_53 (by omega) (by omega) (fun q53 => ?_) (fun q53 => absurd q53 (by omega))
  exact z_return iX0_turnOver_97 (rfl)
set_option maxRecDepth 20000 in
set_option maxHeartbeats 1000000 in
theorem lp_swap1 (G : zG) (g : zh) (a : Nat) (ha : a < 900) (s : zs) (b lo up : Nat) (lo0 up0 : Nat) (hl : lo0 < 9) (hu : up0 < 9) (h : lo0 < up0) (h2 : up0 ≤ lo0 + 2) : zS G mX0_turnOver 49 [some (.ref a), some (.int (nI b)), some (.int (nI lo)), some (.int (nI up)), some (.int (nI lo0)), some (.int (nI up0)), none] [] (sB g a s) none (sB g a (bSwap s lo0 up0)) := by
  refine z_iload iX0_turnOver_49 rfl ?_
  refine z_iload iX0_turnOver_51 rfl ?_
  refine zn_ge iX0_turnOver_53 (by omega) (by omega) (fun q53 => absurd q53 (by omega)) (fun q53 => ?_)
  refine z_aload_n iX0_turnOver_56 rfl ?_
  refine z_getf iX0_turnOver_57 fX0_30 (sB_o _ _ _) (BF_11 _ _) (by omega) ?_
  refine z_iload iX0_turnOver_60 rfl ?_
  refine z_iaload iX0_turnOver_62 (sB_11 _ _ _) rfl (by omega) (by decide) (by omega) ?_
  refine z_istore iX0_turnOver_63 rfl (by decide) ?_
  refine z_aload_n iX0_turnOver_65 rfl ?_
  refine z_getf iX0_turnOver_66 fX0_30 (sB_o _ _ _) (BF_11 _ _) (by omega) ?_
  refine z_iload iX0_turnOver_69 rfl ?_
  refine z_aload_n iX0_turnOver_71 rfl ?_
  refine z_getf iX0_turnOver_72 fX0_30 (sB_o _ _ _) (BF_11 _ _) (by omega) ?_
  refine z_iload iX0_turnOver_75 rfl ?_
  refine z_iaload iX0_turnOver_77 (sB_11 _ _ _) rfl (by omega) (by decide) (by omega) ?_
  refine z_iastore iX0_turnOver_78 (sB_11 _ _ _) rfl (by omega) (by decide) (by omega) (by decide) ?_
  rw [upd_nI, sB_w11]
  refine z_aload_n iX0_turnOver_79 rfl ?_
  refine z_getf iX0_turnOver_80 fX0_30 (sB_o _ _ _) (BF_11 _ _) (by omega) ?_
  refine z_iload iX0_turnOver_83 rfl ?_
  refine z_iload iX0_turnOver_85 rfl ?_
  refine z_iastore iX0_turnOver_87 (sB_11 _ _ _) rfl (by omega) (by decide) (by omega) (by decide) ?_
  rw [upd_nI, sB_w11]
  refine z_iinc iX0_turnOver_88 rfl nix_inc rfl (by decide) ?_
  refine z_iinc iX0_turnOver_91 rfl (nix_dec (by omega)) rfl (by decide) ?_
  refine z_goto iX0_turnOver_94 ?_
  exact lp_swap0 G g a ha _ b lo up _ _ _ (by omega) (by omega) (by omega)
set_option maxRecDepth 20000 in
set_option maxHeartbeats 1000000 in
theorem lp_cool (G : zG) (g : zh) (a : Nat) (ha : a < 900) (b up : Nat) (hup : up < 9) (f : zs) : ∀ (n i : Nat) (x : zs), bOK x → i + n = up + 1 → (∀ x1, x1 = zfw bCool i n x → zS G mX0_turnOver 43 [some (.ref a), some (.int (nI b)), some (.int (nI (b * 3))), some (.int (nI up)), none, none, none] [] (sB g a x1) none (sB g a f)) → zS G mX0_turnOver 18 [some (.ref a), some (.int (nI b)), some (.int (nI (b * 3))), some (.int (nI up)), some (.int (nI i)), none, none] [] (sB g a x) none (sB g a f) := by
  intro n
  induction n with
  | zero =>
    intro i x hs hi hk
    refine z_iload iX0_turnOver_18 rfl ?_
    refine z_iload_n iX0_turnOver_20 rfl ?_
    refine zn_gt iX0_turnOver_21 (by omega) (by omega) (fun q21 => ?_) (fun q21 => absurd q21 (by omega))
    refine z_weak ?_ (hk _ rfl)
    exact zle_w (by simp [zle])
  | succ n ih =>
    intro i x hs hi hk
    obtain ⟨h11, h10, h6, h5, h0, h1⟩ := id hs
    refine z_iload iX0_turnOver_18 rfl ?_
    refine z_iload_n iX0_turnOver_20 rfl ?_
    refine zn_gt iX0_turnOver_21 (by omega) (by omega) (fun q21 => absurd q21 (by omega)) (fun q21 => ?_)
    refine z_aload_n iX0_turnOver_24 rfl ?_
    refine z_getf iX0_turnOver_25 fX0_24 (sB_o _ _ _) (BF_9 _ _) (by omega) ?_
    refine z_aload_n iX0_turnOver_28 rfl ?_
    refine z_getf iX0_turnOver_29 fX0_30 (sB_o _ _ _) (BF_11 _ _) (by omega) ?_
    refine z_iload iX0_turnOver_32 rfl ?_
    refine z_iaload iX0_turnOver_34 (sB_11 _ _ _) rfl (by omega) (by decide) (by omega) ?_
    refine z_iconst iX0_turnOver_35 zk_0 ?_
    refine z_iastore iX0_turnOver_36 (sB_9 _ _ _) rfl (h11 _) (by decide) (by omega) (by decide) ?_
    rw [sB_w9]
    refine z_iinc iX0_turnOver_37 rfl nix_inc rfl (by decide) ?_
    refine z_goto iX0_turnOver_40 ?_
    exact ih (i + 1) _ hs (by omega) (fun x1 e => hk x1 e)
set_option maxRecDepth 20000 in
set_option maxHeartbeats 1000000 in
theorem c_turnOver (G : zG) (g : zh) (a : Nat) (ha : a < 900) (s : zs) (hs : bOK s) (b : Nat) (hb : b < 3) (h : 1 ≤ rA s 10 b) : zK G mX0_turnOver [.ref a, .int (nI b)] (sB g a s) none (sB g a (bTurn s b)) := by
  obtain ⟨h11, h10, h6, h5, h0, h1⟩ := id hs
  have hh := h10 b
  refine zK_of 5 rfl (by decide) trivial (Nat.le_of_ble_eq_true rfl) rfl ?_
  refine z_iload_n iX0_turnOver_0 rfl ?_
  refine z_iconst iX0_turnOver_1 zk_3 ?_
  refine z_imul iX0_turnOver_2 ?_
  refine z_top nix_mul ?_
  refine z_istore_n iX0_turnOver_3 rfl (by decide) ?_
  refine z_iload_n iX0_turnOver_4 rfl ?_
  refine z_aload_n iX0_turnOver_5 rfl ?_
  refine z_getf iX0_turnOver_6 fX0_27 (sB_o _ _ _) (BF_10 _ _) (by omega) ?_
  refine z_iload_n iX0_turnOver_9 rfl ?_
  refine z_iaload iX0_turnOver_10 (sB_10 _ _ _) rfl (by omega) (by decide) (by omega) ?_
  refine z_iadd iX0_turnOver_11 ?_
  refine z_top nix_add ?_
  refine z_iconst iX0_turnOver_12 zk_1 ?_
  refine z_isub iX0_turnOver_13 ?_
  refine z_top (nix_sub (by omega)) ?_
  refine z_istore_n iX0_turnOver_14 rfl (by decide) ?_
  refine z_iload_n iX0_turnOver_15 rfl ?_
  refine z_istore iX0_turnOver_16 rfl (by decide) ?_
  refine lp_cool G g a ha b _ (by omega) (bTurn s b) (rA s 10 b) (b * 3) s hs (by omega) (fun x1 e => ?_)
  subst e
  refine z_iload_n iX0_turnOver_43 rfl ?_
  refine z_istore iX0_turnOver_44 rfl (by decide) ?_
  refine z_iload_n iX0_turnOver_46 rfl ?_
  refine z_istore iX0_turnOver_47 rfl (by decide) ?_
  by_cases h2 : rA s 10 b < 2
  · rw [bTurn, if_pos h2]
    exact lp_swap0 G g a ha _ b _ _ _ _ _ (by omega) (by omega) (by omega)
  · rw [bTurn, if_neg h2]
    exact lp_swap1 G g a ha _ b _ _ _ _ (by omega) (by omega) (by omega) (by omega)
def bEmpty0 (s : zs) : zs := uI (uI (uN (uN (uN s 0 0) 1 0) 2 0) 3 (nI 0)) 4 (nI 0)
def bEmpty (s : zs) : zs := zfw (fun b x => uA x 10 (updN (rA x 10) b 0)) 0 3 (bEmpty0 s)
def bLay (s : zs) (b k : Nat) (l w : Int32) : zs := uN (uN (uA (uA (uF (uF (uF (uA (uA s 5 (updN (rA s 5) (rN s 1) k)) 6 (updN (rA s 6) (rN s 1) b)) 7 (upd (rF s 7) (rN s 1) l)) 8 (upd (rF s 8) (rN s 1) w)) 9 (upd (rF s 9) (rN s 1) (nI 0))) 11 (updN (rA s 11) (b * 3 + rA s 10 b) (rN s 1))) 10 (updN (rA s 10) b (rA s 10 b + 1))) 1 (rN s 1 + 1)) 0 (b + 1)
set_option maxRecDepth 20000 in
set_option maxHeartbeats 1000000 in
theorem lp_empty (G : zG) (g : zh) (a : Nat) (ha : a < 900) : ∀ (n i : Nat) (x : zs), i + n = 3 → zS G mX0_empty 27 [some (.ref a), some (.int (nI i))] [] (sB g a x) none (sB g a (zfw (fun b x => uA x 10 (updN (rA x 10) b 0)) i n x)) := by
  intro n
  induction n with
  | zero =>
    intro i x hi
    refine z_iload_n iX0_empty_27 rfl ?_
    refine z_iconst iX0_empty_28 zk_3 ?_
    refine zn_ge iX0_empty_29 (by omega) (by omega) (fun q29 => ?_) (fun q29 => absurd q29 (by omega))
    exact z_return iX0_empty_45 (rfl)
  | succ n ih =>
    intro i x hi
    refine z_iload_n iX0_empty_27 rfl ?_
    refine z_iconst iX0_empty_28 zk_3 ?_
    refine zn_ge iX0_empty_29 (by omega) (by omega) (fun q29 => absurd q29 (by omega)) (fun q29 => ?_)
    refine z_aload_n iX0_empty_32 rfl ?_
    refine z_getf iX0_empty_33 fX0_27 (sB_o _ _ _) (BF_10 _ _) (by omega) ?_
    refine z_iload_n iX0_empty_36 rfl ?_
    refine z_iconst iX0_empty_37 zk_0 ?_
    refine z_iastore iX0_empty_38 (sB_10 _ _ _) rfl (by omega) (by decide) (by omega) (by decide) ?_
    rw [upd_nI, sB_w10]
    refine z_iinc iX0_empty_39 rfl nix_inc rfl (by decide) ?_
    refine z_goto iX0_empty_42 ?_
    exact ih (i + 1) _ (by omega)
set_option maxRecDepth 20000 in
set_option maxHeartbeats 1000000 in
theorem c_empty (G : zG) (g : zh) (a : Nat) (ha : a < 900) (s : zs) : zK G mX0_empty [.ref a] (sB g a s) none (sB g a (bEmpty s)) := by
  refine zK_of 1 rfl (by decide) trivial (Nat.le_of_ble_eq_true rfl) rfl ?_
  refine z_aload_n iX0_empty_0 rfl ?_
  refine z_iconst iX0_empty_1 zk_0 ?_
  refine z_putf iX0_empty_2 fX0_33 (sB_o _ _ _) rfl rfl (Nat.le_of_ble_eq_true rfl) (by omega) ?_
  rw [sB_w0]
  refine z_aload_n iX0_empty_5 rfl ?_
  refine z_iconst iX0_empty_6 zk_0 ?_
  refine z_putf iX0_empty_7 fX0_37 (sB_o _ _ _) rfl rfl (Nat.le_of_ble_eq_true rfl) (by omega) ?_
  rw [sB_w1]
  refine z_aload_n iX0_empty_10 rfl ?_
  refine z_iconst iX0_empty_11 zk_0 ?_
  refine z_putf iX0_empty_12 fX0_40 (sB_o _ _ _) rfl rfl (Nat.le_of_ble_eq_true rfl) (by omega) ?_
  rw [sB_w2]
  refine z_aload_n iX0_empty_15 rfl ?_
  refine z_iconst iX0_empty_16 zk_0 ?_
  refine z_putf iX0_empty_17 fX0_43 (sB_o _ _ _) rfl rfl (Nat.le_of_ble_eq_true rfl) (by omega) ?_
  rw [sB_w3]
  refine z_aload_n iX0_empty_20 rfl ?_
  refine z_iconst iX0_empty_21 zk_0 ?_
  refine z_putf iX0_empty_22 fX0_46 (sB_o _ _ _) rfl rfl (Nat.le_of_ble_eq_true rfl) (by omega) ?_
  rw [sB_w4]
  refine z_iconst iX0_empty_25 zk_0 ?_
  refine z_istore_n iX0_empty_26 rfl (by decide) ?_
  exact lp_empty G g a ha 3 0 (bEmpty0 s) rfl
set_option maxRecDepth 20000 in
set_option maxHeartbeats 1000000 in
theorem c_lay (G : zG) (g : zh) (a : Nat) (ha : a < 900) (s : zs) (b k : Nat) (l w : Int32) (hb : b < 3) (hh : rA s 10 b < 3) (hc : rN s 1 < 9) : zK G mX0_lay [.ref a, .int (nI b), .int (nI k), .int l, .int w] (sB g a s) none (sB g a (bLay s b k l w)) := by
  refine zK_of 0 rfl (by decide) trivial (Nat.le_of_ble_eq_true rfl) rfl ?_
  refine z_iload_n iX0_lay_0 rfl ?_
  refine z_iconst iX0_lay_1 zk_3 ?_
  refine zn_ge iX0_lay_2 (by omega) (by omega) (fun q2 => absurd q2 (by omega)) (fun q2 => ?_)
  refine z_aload_n iX0_lay_5 rfl ?_
  refine z_getf iX0_lay_6 fX0_27 (sB_o _ _ _) (BF_10 _ _) (by omega) ?_
  refine z_iload_n iX0_lay_9 rfl ?_
  refine z_iaload iX0_lay_10 (sB_10 _ _ _) rfl (by omega) (by decide) (by omega) ?_
  refine z_iconst iX0_lay_11 zk_3 ?_
  refine zn_ge iX0_lay_12 (by omega) (by omega) (fun q12 => absurd q12 (by omega)) (fun q12 => ?_)
  refine z_aload_n iX0_lay_15 rfl ?_
  refine z_getf iX0_lay_16 fX0_37 (sB_o _ _ _) (BF_1 _ _) (by omega) ?_
  refine z_bipush iX0_lay_19 zb_9 ?_
  refine zn_lt iX0_lay_21 (by omega) (by omega) (fun q21 => ?_) (fun q21 => absurd q21 (by omega))
  refine z_aload_n iX0_lay_25 rfl ?_
  refine z_getf iX0_lay_26 fX0_9 (sB_o _ _ _) (BF_5 _ _) (by omega) ?_
  refine z_aload_n iX0_lay_29 rfl ?_
  refine z_getf iX0_lay_30 fX0_37 (sB_o _ _ _) (BF_1 _ _) (by omega) ?_
  refine z_iload_n iX0_lay_33 rfl ?_
  refine z_iastore iX0_lay_34 (sB_5 _ _ _) rfl hc (by decide) (by omega) (by decide) ?_
  rw [upd_nI, sB_w5]
  refine z_aload_n iX0_lay_35 rfl ?_
  refine z_getf iX0_lay_36 fX0_15 (sB_o _ _ _) (BF_6 _ _) (by omega) ?_
  refine z_aload_n iX0_lay_39 rfl ?_
  refine z_getf iX0_lay_40 fX0_37 (sB_o _ _ _) (BF_1 _ _) (by omega) ?_
  refine z_iload_n iX0_lay_43 rfl ?_
  refine z_iastore iX0_lay_44 (sB_6 _ _ _) rfl hc (by decide) (by omega) (by decide) ?_
  rw [upd_nI, sB_w6]
  refine z_aload_n iX0_lay_45 rfl ?_
  refine z_getf iX0_lay_46 fX0_18 (sB_o _ _ _) (BF_7 _ _) (by omega) ?_
  refine z_aload_n iX0_lay_49 rfl ?_
  refine z_getf iX0_lay_50 fX0_37 (sB_o _ _ _) (BF_1 _ _) (by omega) ?_
  refine z_iload_n iX0_lay_53 rfl ?_
  refine z_iastore iX0_lay_54 (sB_7 _ _ _) rfl hc (by decide) (by omega) (by decide) ?_
  rw [sB_w7]
  refine z_aload_n iX0_lay_55 rfl ?_
  refine z_getf iX0_lay_56 fX0_21 (sB_o _ _ _) (BF_8 _ _) (by omega) ?_
  refine z_aload_n iX0_lay_59 rfl ?_
  refine z_getf iX0_lay_60 fX0_37 (sB_o _ _ _) (BF_1 _ _) (by omega) ?_
  refine z_iload iX0_lay_63 rfl ?_
  refine z_iastore iX0_lay_65 (sB_8 _ _ _) rfl hc (by decide) (by omega) (by decide) ?_
  rw [sB_w8]
  refine z_aload_n iX0_lay_66 rfl ?_
  refine z_getf iX0_lay_67 fX0_24 (sB_o _ _ _) (BF_9 _ _) (by omega) ?_
  refine z_aload_n iX0_lay_70 rfl ?_
  refine z_getf iX0_lay_71 fX0_37 (sB_o _ _ _) (BF_1 _ _) (by omega) ?_
  refine z_iconst iX0_lay_74 zk_0 ?_
  refine z_iastore iX0_lay_75 (sB_9 _ _ _) rfl hc (by decide) (by omega) (by decide) ?_
  rw [sB_w9]
  refine z_aload_n iX0_lay_76 rfl ?_
  refine z_getf iX0_lay_77 fX0_30 (sB_o _ _ _) (BF_11 _ _) (by omega) ?_
  refine z_iload_n iX0_lay_80 rfl ?_
  refine z_iconst iX0_lay_81 zk_3 ?_
  refine z_imul iX0_lay_82 ?_
  refine z_top nix_mul ?_
  refine z_aload_n iX0_lay_83 rfl ?_
  refine z_getf iX0_lay_84 fX0_27 (sB_o _ _ _) (BF_10 _ _) (by omega) ?_
  refine z_iload_n iX0_lay_87 rfl ?_
  refine z_iaload iX0_lay_88 (sB_10 _ _ _) rfl hb (by decide) (by omega) ?_
  refine z_iadd iX0_lay_89 ?_
  refine z_top nix_add ?_
  refine z_aload_n iX0_lay_90 rfl ?_
  refine z_getf iX0_lay_91 fX0_37 (sB_o _ _ _) (BF_1 _ _) (by omega) ?_
  refine z_iastore iX0_lay_94 (sB_11 _ _ _) rfl (show b * 3 + rA s 10 b < 9 by omega) (by decide) (by omega) (by decide) ?_
  rw [upd_nI, sB_w11]
  refine z_aload_n iX0_lay_95 rfl ?_
  refine z_getf iX0_lay_96 fX0_27 (sB_o _ _ _) (BF_10 _ _) (by omega) ?_
  refine z_iload_n iX0_lay_99 rfl ?_
  refine z_dup2 iX0_lay_100 rfl rfl ?_
  refine z_iaload iX0_lay_101 (sB_10 _ _ _) rfl (by omega) (by decide) (by omega) ?_
  refine z_iconst iX0_lay_102 zk_1 ?_
  refine z_iadd iX0_lay_103 ?_
  refine z_top nix_add ?_
  refine z_iastore iX0_lay_104 (sB_10 _ _ _) rfl (by omega) (by decide) (by omega) (by decide) ?_
  rw [upd_nI, sB_w10]
  refine z_aload_n iX0_lay_105 rfl ?_
  refine z_dup iX0_lay_106 rfl ?_
  refine z_getf iX0_lay_107 fX0_37 (sB_o _ _ _) (BF_1 _ _) (by omega) ?_
  refine z_iconst iX0_lay_110 zk_1 ?_
  refine z_iadd iX0_lay_111 ?_
  refine z_top nix_add ?_
  refine z_putf iX0_lay_112 fX0_37 (sB_o _ _ _) rfl rfl (Nat.le_of_ble_eq_true rfl) (by omega) ?_
  rw [sB_w1]
  refine z_aload_n iX0_lay_115 rfl ?_
  refine z_iload_n iX0_lay_116 rfl ?_
  refine z_iconst iX0_lay_117 zk_1 ?_
  refine z_iadd iX0_lay_118 ?_
  refine z_top nix_add ?_
  refine z_putf iX0_lay_119 fX0_33 (sB_o _ _ _) rfl rfl (Nat.le_of_ble_eq_true rfl) (by omega) ?_
  rw [sB_w0]
  exact z_return iX0_lay_122 (rfl)
