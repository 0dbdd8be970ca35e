section
/-! a bay turned over -/
set_option maxRecDepth 20000 in
theorem qL_rev (h g : Nat → Nat) (n : Nat) (hn : n ≤ 3) (h2 : ¬ n < 2) (e1 : g 0 = h (n - 1)) (e2 : g (n - 1) = h 0) (e3 : n = 3 → g 1 = h 1) : qL g 0 n = (qL h 0 n).reverse := by
  rcases (show n = 2 ∨ n = 3 by omega) with z | z
  · subst z
    have a : g 0 = h 1 := e1
    have b : g 1 = h 0 := e2
    simp [qL, a, b]
  · subst z
    have a : g 0 = h 2 := e1
    have b : g 2 = h 0 := e2
    simp [qL, a, b, e3 rfl]
set_option maxRecDepth 20000 in
theorem qL_rev1 (h : Nat → Nat) (n : Nat) (h2 : n < 2) : (qL h 0 n).reverse = qL h 0 n := by
  rcases (show n = 0 ∨ n = 1 by omega) with z | z
  · subst z; rfl
  · subst z; rfl
set_option maxRecDepth 20000 in
theorem bCool_L : ∀ (n i : Nat) (s : zs), (∀ c, rF (zfw bCool i n s) 9 c = if c ∈ qL (rA s 11) i n then nI 0 else rF s 9 c) ∧ (∀ k, k ≠ 9 → rF (zfw bCool i n s) k = rF s k) ∧ (∀ k, rI (zfw bCool i n s) k = rI s k) := by
  intro n
  induction n with
  | zero => intro i s; exact ⟨fun c => by simp [qL, zfw], fun _ _ => rfl, fun _ => rfl⟩
  | succ n ih =>
    intro i s
    obtain ⟨r1, r2, r3⟩ := ih (i + 1) (bCool i s)
    rw [zfw]
    refine ⟨fun c => ?_, fun k hk => by rw [r2 k hk]; unfold bCool; rw [rF_uF, if_neg hk], fun k => (r3 k).trans rfl⟩
    rw [r1 c, qL]
    have e9 : rF (bCool i s) 9 = upd (rF s 9) (rA s 11 i) (nI 0) := rfl
    have e11 : rA (bCool i s) 11 = rA s 11 := rfl
    rw [e9, e11]
    by_cases z : c ∈ qL (rA s 11) (i + 1) n
    · rw [if_pos z, if_pos (List.mem_cons_of_mem _ z)]
    · rw [if_neg z]
      by_cases y : c = rA s 11 i
      · rw [y, upd_s, if_pos List.mem_cons_self]
      · rw [upd_n _ _ y, if_neg (by simp [y, z])]
set_option maxRecDepth 20000 in
theorem qL_off (h : Nat → Nat) (o : Nat) : ∀ (n i : Nat), qL h (o + i) n = qL (fun p => h (o + p)) i n
  | 0, _ => rfl
  | n + 1, i => by
    rw [qL, qL, ← qL_off h o n (i + 1), Nat.add_assoc]
set_option maxRecDepth 20000 in
theorem bTurn_R {s : zs} (hO : bOK s) (b : Nat) : (∀ c, rF (bTurn s b) 9 c = if c ∈ sl s b then nI 0 else rF s 9 c) ∧ (∀ k, k ≠ 9 → rF (bTurn s b) k = rF s k) ∧ (∀ k, rI (bTurn s b) k = rI s k) ∧ (∀ k, rN (bTurn s b) k = rN s k) ∧ (∀ k, k ≠ 11 → rA (bTurn s b) k = rA s k) ∧ sl (bTurn s b) b = (sl s b).reverse ∧ (∀ b2, b2 ≠ b → sl (bTurn s b) b2 = sl s b2) ∧ (∀ j, rA (bTurn s b) 11 j < 9) := by
  have hn : rA s 10 b ≤ 3 := hO.2.1 b
  have hC := bCool_L (rA s 10 b) (b * 3) s
  have hCA : ∀ k, rA (zfw bCool (b * 3) (rA s 10 b) s) k = rA s k := bCool_A _ _ s
  have hCN : ∀ k, rN (zfw bCool (b * 3) (rA s 10 b) s) k = rN s k := bCool_N _ _ s
  have e0 : qL (rA s 11) (b * 3) (rA s 10 b) = sl s b := qL_off (rA s 11) (b * 3) (rA s 10 b) 0
  rw [e0] at hC
  unfold bTurn
  by_cases q : rA s 10 b < 2
  · rw [if_pos q]
    refine ⟨hC.1, hC.2.1, hC.2.2, hCN, fun k _ => hCA k, ?_, fun b2 _ => ?_, fun j => by rw [hCA]; exact hO.1 j⟩
    · unfold sl
      rw [hCA, hCA, qL_rev1 _ _ q]
    · unfold sl
      rw [hCA, hCA]
  · rw [if_neg q]
    have e11 : rA (bSwap (zfw bCool (b * 3) (rA s 10 b) s) (b * 3) (b * 3 + rA s 10 b - 1)) 11 = updN (updN (rA s 11) (b * 3) (rA s 11 (b * 3 + rA s 10 b - 1))) (b * 3 + rA s 10 b - 1) (rA s 11 (b * 3)) := by
      unfold bSwap
      rw [rA_uA, if_pos rfl, hCA]
    have eo : ∀ k, k ≠ 11 → rA (bSwap (zfw bCool (b * 3) (rA s 10 b) s) (b * 3) (b * 3 + rA s 10 b - 1)) k = rA s k := fun k hk => by
      unfold bSwap
      rw [rA_uA, if_neg hk, hCA]
    refine ⟨hC.1, hC.2.1, hC.2.2, hCN, eo, ?_, fun b2 hb2 => ?_, fun j => ?_⟩
    · unfold sl
      rw [e11, eo 10 (by decide)]
      refine qL_rev (fun p => rA s 11 (b * 3 + p)) _ (rA s 10 b) hn q ?_ ?_ ?_
      · show updN (updN (rA s 11) (b * 3) _) _ _ (b * 3 + 0) = rA s 11 (b * 3 + (rA s 10 b - 1))
        rw [updN_n _ _ (by omega), Nat.add_zero, updN_s]
        exact congrArg _ (by omega)
      · show updN (updN (rA s 11) (b * 3) _) _ _ (b * 3 + (rA s 10 b - 1)) = rA s 11 (b * 3 + 0)
        rw [show b * 3 + (rA s 10 b - 1) = b * 3 + rA s 10 b - 1 by omega, updN_s, Nat.add_zero]
      · intro e
        show updN (updN (rA s 11) (b * 3) _) _ _ (b * 3 + 1) = rA s 11 (b * 3 + 1)
        rw [updN_n _ _ (by omega), updN_n _ _ (by omega)]
    · unfold sl
      rw [e11, eo 10 (by decide)]
      have h3 : rA s 10 b2 ≤ 3 := hO.2.1 b2
      refine qL_congr _ _ (fun p _ hp => ?_)
      rw [updN_n _ _ (by omega), updN_n _ _ (by omega)]
    · rw [e11]
      by_cases z : j = b * 3 + rA s 10 b - 1
      · rw [z, updN_s]; exact hO.1 _
      · rw [updN_n _ _ z]
        by_cases y : j = b * 3
        · rw [y, updN_s]; exact hO.1 _
        · rw [updN_n _ _ y]; exact hO.1 _
set_option maxRecDepth 20000 in
theorem mCool_L (b : Nat) : ∀ (n i : Nat) (s : zs), (∀ c, rF (zfw (mCool b) i n s) 16 c = if c ∈ qL (fun p => rA s 13 (4 * b + p)) i n then nI 0 else rF s 16 c) ∧ (∀ k, k ≠ 16 → rF (zfw (mCool b) i n s) k = rF s k) ∧ (∀ k, rI (zfw (mCool b) i n s) k = rI s k) ∧ (∀ k, rN (zfw (mCool b) i n s) k = rN s k) ∧ (∀ k, rA (zfw (mCool b) i n s) k = rA s k) := by
  intro n
  induction n with
  | zero => intro i s; exact ⟨fun c => by simp [qL, zfw], fun _ _ => rfl, fun _ => rfl, fun _ => rfl, fun _ => rfl⟩
  | succ n ih =>
    intro i s
    obtain ⟨r1, r2, r3, r4, r5⟩ := ih (i + 1) (mCool b i s)
    rw [zfw]
    refine ⟨fun c => ?_, fun k hk => by rw [r2 k hk]; unfold mCool; rw [rF_uF, if_neg hk], fun k => (r3 k).trans rfl, fun k => (r4 k).trans rfl, fun k => (r5 k).trans rfl⟩
    rw [r1 c, qL]
    have e9 : rF (mCool b i s) 16 = upd (rF s 16) (rA s 13 (4 * b + i)) (nI 0) := rfl
    have e11 : rA (mCool b i s) 13 = rA s 13 := rfl
    rw [e9, e11]
    by_cases z : c ∈ qL (fun p => rA s 13 (4 * b + p)) (i + 1) n
    · rw [if_pos z, if_pos (List.mem_cons_of_mem _ z)]
    · rw [if_neg z]
      by_cases y : c = rA s 13 (4 * b + i)
      · rw [y, upd_s, if_pos List.mem_cons_self]
      · rw [upd_n _ _ y, if_neg (by simp [y, z])]
set_option maxRecDepth 20000 in
theorem mTurn_R {m : zs} (hO : mOK m) (b : Nat) : (∀ c, rF (mTurn m b) 16 c = if c ∈ ml m b then nI 0 else rF m 16 c) ∧ (∀ k, k ≠ 16 → rF (mTurn m b) k = rF m k) ∧ (∀ k, rI (mTurn m b) k = rI m k) ∧ (∀ k, rN (mTurn m b) k = rN m k) ∧ (∀ k, k ≠ 13 → rA (mTurn m b) k = rA m k) ∧ ml (mTurn m b) b = (ml m b).reverse ∧ (∀ b2, b2 ≠ b → ml (mTurn m b) b2 = ml m b2) ∧ (∀ j, rA (mTurn m b) 13 j < 9) := by
  have hn : rA m 12 b ≤ 3 := hO.2.1 b
  obtain ⟨c1, c2, c3, c4, c5⟩ := mCool_L b (rA m 12 b) 0 (mTurn1 m b)
  have t1 : (∀ k, rF (mTurn1 m b) k = rF m k) ∧ (∀ k, rI (mTurn1 m b) k = rI m k) ∧ (∀ k, rN (mTurn1 m b) k = rN m k) ∧ (∀ k, k ≠ 13 → rA (mTurn1 m b) k = rA m k) := by
    unfold mTurn1
    by_cases q : rA m 12 b < 2
    · rw [if_pos q]; exact ⟨fun _ => rfl, fun _ => rfl, fun _ => rfl, fun _ _ => rfl⟩
    · rw [if_neg q]; exact ⟨fun _ => rfl, fun _ => rfl, fun _ => rfl, fun k hk => by unfold mSwap; rw [rA_uA, if_neg hk]⟩
  have e12 : rA (mTurn m b) 12 = rA m 12 := (c5 12).trans (t1.2.2.2 12 (by decide))
  have e13 : rA (mTurn m b) 13 = rA (mTurn1 m b) 13 := c5 13
  have hl : qL (fun p => rA (mTurn1 m b) 13 (4 * b + p)) 0 (rA m 12 b) = (ml m b).reverse := by
    unfold mTurn1 ml
    by_cases q : rA m 12 b < 2
    · rw [if_pos q, qL_rev1 _ _ q]
    · rw [if_neg q]
      have es : rA (mSwap m (4 * b) (4 * b + rA m 12 b - 1)) 13 = updN (updN (rA m 13) (4 * b) (rA m 13 (4 * b + rA m 12 b - 1))) (4 * b + rA m 12 b - 1) (rA m 13 (4 * b)) := by
        unfold mSwap
        rw [rA_uA, if_pos rfl]
      rw [es]
      refine qL_rev (fun p => rA m 13 (4 * b + p)) _ (rA m 12 b) hn q ?_ ?_ ?_
      · show updN (updN (rA m 13) (4 * b) _) _ _ (4 * b + 0) = rA m 13 (4 * b + (rA m 12 b - 1))
        rw [updN_n _ _ (by omega), Nat.add_zero, updN_s]
        exact congrArg _ (by omega)
      · show updN (updN (rA m 13) (4 * b) _) _ _ (4 * b + (rA m 12 b - 1)) = rA m 13 (4 * b + 0)
        rw [show 4 * b + (rA m 12 b - 1) = 4 * b + rA m 12 b - 1 by omega, updN_s, Nat.add_zero]
      · intro e
        show updN (updN (rA m 13) (4 * b) _) _ _ (4 * b + 1) = rA m 13 (4 * b + 1)
        rw [updN_n _ _ (by omega), updN_n _ _ (by omega)]
  refine ⟨fun c => ?_, fun k hk => (c2 k hk).trans (t1.1 k), fun k => (c3 k).trans (t1.2.1 k), fun k => (c4 k).trans (t1.2.2.1 k), fun k hk => (c5 k).trans (t1.2.2.2 k hk), ?_, fun b2 hb2 => ?_, fun j => ?_⟩
  · rw [show rF (mTurn m b) 16 c = _ from c1 c, hl, t1.1 16]
    by_cases z : c ∈ ml m b
    · rw [if_pos z, if_pos (List.mem_reverse.mpr z)]
    · rw [if_neg z, if_neg (fun y => z (List.mem_reverse.mp y))]
  · show qL (fun p => rA (mTurn m b) 13 (4 * b + p)) 0 (rA (mTurn m b) 12 b) = _
    rw [e12, e13]
    exact hl
  · show qL (fun p => rA (mTurn m b) 13 (4 * b2 + p)) 0 (rA (mTurn m b) 12 b2) = ml m b2
    rw [e12, e13]
    unfold ml
    have h3 : rA m 12 b2 ≤ 3 := hO.2.1 b2
    refine qL_congr _ _ (fun p _ hp => ?_)
    unfold mTurn1
    by_cases q : rA m 12 b < 2
    · rw [if_pos q]
    · rw [if_neg q]
      unfold mSwap
      rw [rA_uA, if_pos rfl, updN_n _ _ (by omega), updN_n _ _ (by omega)]
  · rw [e13]
    unfold mTurn1
    by_cases q : rA m 12 b < 2
    · rw [if_pos q]; exact hO.1 j
    · rw [if_neg q]
      unfold mSwap
      rw [rA_uA, if_pos rfl]
      by_cases z : j = 4 * b + rA m 12 b - 1
      · rw [z, updN_s]; exact hO.1 _
      · rw [updN_n _ _ z]
        by_cases y : j = 4 * b
        · rw [y, updN_s]; exact hO.1 _
        · rw [updN_n _ _ y]; exact hO.1 _
set_option maxRecDepth 20000 in
theorem qLv_turn {nw sn m : zs} (h : qLv nw sn m) {b : Nat} (hb : b < rN m 4) : qLv (bTurn nw b) sn (mTurn m b) := by
  obtain ⟨⟨hO, hM, hS, hv, hw, hB⟩, h2, h3, h4, h5, h6, h7, h8, h9, h10⟩ := h
  obtain ⟨s1, s2, s3, s4, s5, s6, s7, s8⟩ := bTurn_R hO b
  obtain ⟨t1, t2, t3, t4, t5, t6, t7, t8⟩ := mTurn_R (m := m) hM.1 b
  have e17 : rF (mBegin (mTurn m b)) 17 = rF (mBegin m) 17 := t2 14 (by decide)
  have e18 : rF (mBegin (mTurn m b)) 18 = rF (mBegin m) 18 := t2 15 (by decide)
  have hmlb : ml (mBegin (mTurn m b)) b = (ml (mBegin m) b).reverse := t6
  have hmlo : ∀ b2, b2 ≠ b → ml (mBegin (mTurn m b)) b2 = ml (mBegin m) b2 := t7
  have hmem : ∀ b2 c, c ∈ ml (mBegin (mTurn m b)) b2 ↔ c ∈ ml (mBegin m) b2 := fun b2 c => by
    by_cases z : b2 = b
    · rw [z, hmlb, List.mem_reverse]
    · rw [hmlo b2 z]
  refine ⟨⟨⟨s8, by rw [s5 10 (by decide)]; exact hO.2.1, by rw [s5 6 (by decide)]; exact hO.2.2.1, by rw [s5 5 (by decide)]; exact hO.2.2.2.1, by rw [s4]; exact hO.2.2.2.2.1, by rw [s4]; exact hO.2.2.2.2.2⟩, ?_, ?_, by rw [e17]; exact hv, by rw [e18]; exact hw, fun b2 hb2 => ?_⟩, ?_, ?_, by rw [s4, t4]; exact h4, by rw [t4]; exact h5, by rw [s3, t3]; exact h6, by rw [s3, t3]; exact h7, by rw [s4, s4]; exact h8, h9, ?_⟩
  · obtain ⟨⟨o1, o2, o3, o4, o5, o6⟩, m2, m3, m4⟩ := hM
    refine ⟨⟨t8, ?_, ?_, ?_, ?_, ?_⟩, fun b2 hb2 => ?_, fun b2 c hb2 hc => ?_, fun c hc => ?_⟩
    · show ∀ j, rA (mTurn m b) 12 j ≤ 3
      rw [t5 12 (by decide)]; exact o2
    · show ∀ j, rA (mTurn m b) 11 j < 3
      rw [t5 11 (by decide)]; exact o3
    · show ∀ j, rA (mTurn m b) 10 j ≤ 4
      rw [t5 10 (by decide)]; exact o4
    · show rN (mTurn m b) 4 ≤ 3
      rw [t4]; exact o5
    · show rN (mTurn m b) 5 ≤ 9
      rw [t4]; exact o6
    · have hb2' : b2 < rN m 4 := by rw [← t4 4]; exact hb2
      by_cases z : b2 = b
      · rw [z, hmlb]; exact (List.Perm.nodup_iff (List.reverse_perm _)).mpr (m2 b hb)
      · rw [hmlo b2 z]; exact m2 b2 hb2'
    · have hb2' : b2 < rN m 4 := by rw [← t4 4]; exact hb2
      rw [hmem] at hc
      have z := m3 b2 c hb2' hc
      refine ⟨by show c < rN (mTurn m b) 5; rw [t4]; exact z.1, ?_⟩
      show rA (mTurn m b) 11 c = b2
      rw [t5 11 (by decide)]; exact z.2
    · have hc' : c < rN m 5 := by rw [← t4 5]; exact hc
      have z := m4 c hc'
      have e11 : rA (mBegin (mTurn m b)) 11 = rA m 11 := t5 11 (by decide)
      rw [e11, hmem]
      exact ⟨by show _ < rN (mTurn m b) 4; rw [t4]; exact z.1, z.2⟩
  · obtain ⟨a1, a2, a3⟩ := hS
    refine ⟨by show rN (mTurn m b) 4 = _; rw [t4, s4]; exact a1, by show rN (mTurn m b) 5 = _; rw [t4, s4]; exact a2, fun c hc => ?_⟩
    have hc' : c < rN m 5 := by rw [← t4 5]; exact hc
    show rA (mTurn m b) 10 c = _ ∧ rA (mTurn m b) 11 c = _
    rw [t5 10 (by decide), t5 11 (by decide), s5 5 (by decide), s5 6 (by decide)]
    exact a3 c hc'
  · have hb2' : b2 < rN m 4 := by rw [← t4 4]; exact hb2
    obtain ⟨b1, b3⟩ := hB b2 hb2'
    refine ⟨fun c hc => ?_, ?_⟩
    · rw [hmem] at hc
      obtain ⟨c1, c2, c3⟩ := b1 c hc
      refine ⟨by rw [e17, s2 7 (by decide)]; exact c1, by rw [e18, s2 8 (by decide)]; exact c2, ?_⟩
      show rF (mTurn m b) 16 c = _
      rw [t1 c, s1 c]
      by_cases z : b2 = b
      · rw [z] at hc
        rw [if_pos (show c ∈ ml m b from hc)]
        by_cases y : c ∈ sl nw b
        · rw [if_pos y]
        · rw [if_neg y, ← c3]
          have hc5 := (hM.2.2.1 b c hb hc).1
          refine (h3 c hc5 ?_).symm
          by_cases v : rF (mBegin m) 17 c = 0
          · exact v
          · refine absurd ?_ y
            rw [(hB b hb).2]
            exact List.mem_filter.mpr ⟨hc, by simp [qa, v]⟩
      · have hnc : c ∉ ml m b := fun y => z (qM_home hM hb2' hb hc y)
        have hns : c ∉ sl nw b := fun y => by
          rw [(hB b hb).2] at y
          exact hnc (ma_in (x := mBegin m) y)
        rw [if_neg hnc, if_neg hns]; exact c3
    · by_cases z : b2 = b
      · rw [z, s6, (hB b hb).2]
        unfold ma
        rw [hmlb, List.filter_reverse, e17]
      · rw [s7 b2 z, b3]
        unfold ma
        rw [hmlo b2 z, e17]
  · intro c hc
    have hc' : c < rN m 5 := by rw [← t4 5]; exact hc
    show ∃ u, _ ∧ rF (mTurn m b) 16 c = nI u
    rw [t1 c, t4 6]
    split
    · exact ⟨0, by omega, rfl⟩
    · exact h2 c hc'
  · intro c hc
    have hc' : c < rN m 5 := by rw [← t4 5]; exact hc
    show rF (mTurn m b) 14 c = 0 → rF (mTurn m b) 16 c = nI 0
    rw [t2 14 (by decide), t1 c]
    intro z
    split
    · rfl
    · exact h3 c hc' z
  · refine ⟨by rw [t4 24]; exact h10.1, fun j hj => ?_⟩
    rw [t2 25 (by decide)]
    exact h10.2 j hj
set_option maxRecDepth 20000 in
theorem st_turn (G : zG) (i : Nat) (w : zh) (h : Gd i w) (k : Int32) : Oki G i mX7_turn mX8_turn [.int k] w := by
  obtain ⟨pg, nw, kp, sn, ks, fo, ft, fe, gt, mx, re, m, hh, rfl, hJ, hf⟩ := h
  obtain ⟨n4, n5, hO, hM, hH, hq⟩ := J_n hJ
  by_cases q1 : xNo k (rN nw 0) = true
  · exact Ok_mk _ (c_turn0 G pg nw kp sn ks fo ft fe gt mx re m hh k q1) (cm_turn0 G _ nw kp sn ks fo ft fe gt mx re m hh hM k (by rw [n4]; exact q1)) (J_s hJ) hf
  · obtain ⟨c, hc, e⟩ := xNo_e q1
    subst e
    have hcl := c_turn1 G pg nw kp sn ks fo ft fe gt mx re m hh hO c hc
    have em : mMany m c = rA nw 10 c := by
      rw [mMany_L (show qV (rF m 14) from hq.2.2.2.1), ← sl_len, (hq.2.2.2.2.2 c (by show c < rN m 4; omega)).2]
      rfl
    by_cases q2 : rA nw 10 c = 0
    · have ev : xTurnV nw c = -103 ∧ xTurnB nw c = nw := by
        unfold xTurnV xTurnB
        rw [if_pos q2, if_pos q2]
        exact ⟨rfl, rfl⟩
      rw [ev.1, ev.2] at hcl
      exact Ok_mk _ hcl (cm_turn1 G _ nw kp sn ks fo ft fe gt mx re m hh hM c (by omega) (by omega)) (J_s hJ) hf
    · have ev : xTurnV nw c = nI (mMany m c) ∧ xTurnB nw c = bTurn nw c := by
        unfold xTurnV xTurnB
        rw [if_neg q2, if_neg q2, em]
        exact ⟨rfl, rfl⟩
      rw [ev.1, ev.2] at hcl
      have h3 : rA nw 10 c ≤ 3 := hO.2.1 c
      have h12 : 1 ≤ rA m 12 c := by
        have a1 : (sl nw c).length ≤ (ml m c).length := by
          rw [(hq.2.2.2.2.2 c (by show c < rN m 4; omega)).2]
          exact List.length_filter_le _ _
        rw [sl_len, ml_len] at a1
        omega
      obtain ⟨-, t2, t3, t4, t5, -⟩ := mTurn_R (m := m) hM c
      exact Ok_mk _ hcl (cm_turn2 G _ _ kp sn ks fo ft fe gt mx re m hh hM c (by omega) (by omega) (by omega) h12) (J_s (J_L hJ (qLv_turn hJ.2.1 (by omega)) (t4 1) (t2 0 (by decide)) (t4 9) (t4 20) (t3 28) (fun k hk => t5 k (by omega)) (fun k _ => t4 k) (fun k _ => t3 k) (fun k hk => t2 k (by omega)))) hf
end
