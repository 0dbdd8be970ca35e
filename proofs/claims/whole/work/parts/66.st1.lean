section
set_option maxRecDepth 20000 in
theorem Ok_mk {G : zG} {i : Nat} {yc ym : zY} {as : List Value} {w : zh} {pg nw kp sn ks fo ft fe gt mx : zs} {re : Nat → Int64} {m m2 : zs} {hh hh2 : Int64} (v : Int32) (hc : zK G yc (.ref 0 :: as) w (some (.int v)) (wW pg nw kp sn ks fo ft fe gt mx re m hh)) (hm : zK G ym (.ref 49 :: as) (wW pg nw kp sn ks fo ft fe gt mx re m hh) (some (.int v)) (wW pg nw kp sn ks fo ft fe gt mx re m2 hh2)) (hJ : J (i + 1) pg nw kp sn ks mx m2) (hf : feOK fe) : Oki G i yc ym as w := ⟨v, _, _, hc, hm, ⟨_, wm⟩, ⟨pg, nw, kp, sn, ks, fo, ft, fe, gt, mx, re, m2, hh2, rfl, hJ, hf⟩⟩
set_option maxRecDepth 20000 in
theorem xIn_t {k : Int32} {a b : Nat} : xIn k a b = true ↔ ¬ k < nI a ∧ k ≤ nI b := by
  unfold xIn
  rw [Bool.and_eq_true, decide_eq_true_eq, decide_eq_true_eq, Int32.not_lt]
set_option maxRecDepth 20000 in
theorem xIn_f {k : Int32} {a b : Nat} (h : ¬ xIn k a b = true) : xIn k a b = false := by rwa [Bool.not_eq_true] at h
set_option maxRecDepth 20000 in
theorem xIn_e {k : Int32} {a b : Nat} (h : xIn k a b = true) (ha : a < 2 ^ 31) (hb : b < 2 ^ 31) : ∃ j, a ≤ j ∧ j ≤ b ∧ k = nI j := by
  obtain ⟨h1, h2⟩ := xIn_t.mp h
  have hk : ¬ k < 0 := fun z => h1 (Int32.lt_of_lt_of_le z (nI_pos' ha))
  obtain ⟨j, hj, e⟩ := nI_of hk
  subst e
  refine ⟨j, ?_, (nI_leI hj hb).mp h2, rfl⟩
  by_cases q : a ≤ j
  · exact q
  · exact absurd (nI_lt (a := j) (b := a) (by omega) (by omega)) h1
set_option maxRecDepth 20000 in
theorem xNo_e {k : Int32} {n : Nat} (h : ¬ xNo k n = true) : ∃ c, c < n ∧ k = nI c := by
  unfold xNo at h
  rw [Bool.or_eq_true, not_or, decide_eq_true_eq, Bool.not_eq_true', decide_eq_false_iff_not, Decidable.not_not] at h
  obtain ⟨j, hj, e⟩ := nI_of h.1
  subst e
  refine ⟨j, ?_, rfl⟩
  by_cases q : n < 2 ^ 31
  · exact (nI_ltI hj q).mp h.2
  · omega
set_option maxRecDepth 20000 in
theorem J_pg {i : Nat} {pg pg2 nw kp sn ks mx m t : zs} (h : J i pg nw kp sn ks mx m) (hp : rN pg2 1 = rN t 1 ∧ rN t 1 ≤ 38 ∧ rF pg2 0 = rF t 0) (hA : ∀ k, rA t k = rA m k) (hN : ∀ k, 3 < k → rN t k = rN m k) (hI : ∀ k, rI t k = rI m k) (hF : ∀ k, 0 < k → rF t k = rF m k) : J i pg2 nw kp sn ks mx t := by
  obtain ⟨-, b, ⟨c1, c2⟩, ⟨d1, d2⟩, e, f⟩ := h
  refine ⟨hp, qLv_of b (fun k _ _ => hA k) (fun k hk => hN k (by omega)) (fun k _ => hI k) (fun k hk => hF k (by omega)), ⟨by rw [hN 9 (by omega)]; exact c1, by rw [hN 9 (by omega)]; exact c2⟩, ⟨by rw [hN 20 (by omega)]; exact d1, by rw [hN 20 (by omega)]; exact d2⟩, by rw [hI 28, hN 9 (by omega)]; exact e, ?_⟩
  rw [hI 28, hN 9 (by omega)]
  rcases f with f | ⟨f1, f2, f3⟩
  · exact Or.inl f
  · exact Or.inr ⟨f1, f2, qLv_R f3 (fun k _ => hA k) (fun k hk => hN k (by omega)) (fun k _ => hI k) (fun k hk => hF k (by omega))⟩
set_option maxRecDepth 20000 in
theorem st_letter (G : zG) (i : Nat) (w : zh) (h : Gd i w) (k : Int32) : Oki G i mX7_letter mX8_letter [.int k] w := by
  obtain ⟨pg, nw, kp, sn, ks, fo, ft, fe, gt, mx, re, m, hh, rfl, hJ, hf⟩ := h
  obtain ⟨p1, p2, p3⟩ := hJ.1
  have hc := c_letter G pg nw kp sn ks fo ft fe gt mx re m hh (by omega) k
  by_cases q1 : xIn k 1 126 = true
  · obtain ⟨a, b⟩ := xIn_t.mp q1
    by_cases q2 : rN m 1 < 38
    · have ev : xLetV pg k = nI (rN m 1 + 1) := by unfold xLetV; rw [if_neg a, if_pos b, if_pos (by omega), p1]
      have ep : xLetP pg k = pAdd pg k := by unfold xLetP; rw [if_neg a, if_pos b, if_pos (by omega)]
      rw [ev, ep] at hc
      refine Ok_mk _ hc (cm_letter2 G _ nw kp sn ks fo ft fe gt mx re m hh k q1 q2) (J_s (J_pg hJ ⟨?_, ?_, ?_⟩ (fun _ => rfl) (fun k hk => by rw [rN_uN, if_neg (by omega), rN_uF]) (fun _ => rfl) (fun k hk => by rw [rF_uN, rF_uF, if_neg (by omega)]))) hf
      · unfold pAdd
        rw [rN_uN, if_pos rfl, rN_uN, if_pos rfl, p1]
      · rw [rN_uN, if_pos rfl]; omega
      · unfold pAdd
        rw [rF_uN, rF_uF, if_pos rfl, rF_uN, rF_uF, if_pos rfl, p1, p3]
    · have ev : xLetV pg k = -104 := by unfold xLetV; rw [if_neg a, if_pos b, if_neg (by omega)]
      have ep : xLetP pg k = pg := by unfold xLetP; rw [if_neg a, if_pos b, if_neg (by omega)]
      rw [ev, ep] at hc
      exact Ok_mk _ hc (cm_letter1 G _ nw kp sn ks fo ft fe gt mx re m hh k q1 (by omega)) (J_s hJ) hf
  · have ev : xLetV pg k = -102 ∧ xLetP pg k = pg := by
      unfold xLetV xLetP
      by_cases a : k < nI 1
      · rw [if_pos a, if_pos a]; exact ⟨rfl, rfl⟩
      · by_cases b : k ≤ nI 126
        · exact absurd (xIn_t.mpr ⟨a, b⟩) q1
        · rw [if_neg a, if_neg b, if_neg a, if_neg b]; exact ⟨rfl, rfl⟩
    rw [ev.1, ev.2] at hc
    exact Ok_mk _ hc (cm_letter0 G _ nw kp sn ks fo ft fe gt mx re m hh k (xIn_f q1)) (J_s hJ) hf
set_option maxRecDepth 20000 in
theorem st_blank (G : zG) (i : Nat) (w : zh) (h : Gd i w) : Oki G i mX7_blank mX8_blank [] w := by
  obtain ⟨pg, nw, kp, sn, ks, fo, ft, fe, gt, mx, re, m, hh, rfl, hJ, hf⟩ := h
  obtain ⟨p1, p2, p3⟩ := hJ.1
  have hc := c_blank G pg nw kp sn ks fo ft fe gt mx re m hh
  rw [p1] at hc
  exact Ok_mk _ hc (cm_blank G _ nw kp sn ks fo ft fe gt mx re m hh) (J_s (J_pg hJ ⟨rfl, by rw [rN_uN, if_pos rfl]; omega, p3⟩ (fun _ => rfl) (fun k hk => by rw [rN_uN, if_neg (by omega)]) (fun _ => rfl) (fun k hk => rfl))) hf
/-! faults -/
set_option maxRecDepth 20000 in
theorem kOf_44 {c : Int32} (h : kOf c ≠ none) : c ≠ nI 44 ∧ c ≠ nI 59 := by
  constructor
  · intro e; rw [e] at h; exact h (by decide +kernel)
  · intro e; rw [e] at h; exact h (by decide +kernel)
set_option maxRecDepth 20000 in
theorem dec_in (c a b : Int32) : decide (¬ c < a ∧ ¬ b < c) = (decide (a ≤ c) && decide (c ≤ b)) := by
  by_cases h1 : a ≤ c
  · by_cases h2 : c ≤ b
    · rw [decide_eq_true h1, decide_eq_true h2]
      exact decide_eq_true ⟨Int32.not_lt.mpr h1, Int32.not_lt.mpr h2⟩
    · rw [decide_eq_false h2, Bool.and_false]
      exact decide_eq_false (fun z => h2 (Int32.not_lt.mp z.2))
  · rw [decide_eq_false h1, Bool.false_and]
    exact decide_eq_false (fun z => h1 (Int32.not_lt.mp z.1))
set_option maxRecDepth 20000 in
theorem qFault_L (f : Nat → Int32) : ∀ (n i b h : Nat) (x : zs), rN x 2 = b → (i % 4 = 0 → rN x 3 + 1 = h) → (¬ i % 4 = 0 → rN x 3 = h) → pFaultL f i n (b, h) = (mFaultL f i n x).1 := by
  intro n
  induction n with
  | zero => intro i b h x _ _ _; rfl
  | succ n ih =>
    intro i b h x hb h0 h1
    rw [pFaultL, mFaultL]
    have h4 : i % 4 = 0 ∨ i % 4 = 1 ∨ i % 4 = 2 ∨ i % 4 = 3 := by omega
    have step : ∀ (x2 : zs) (b2 h2 : Nat), pDue i (f i) b h = mGood i (f i) x → (pDue i (f i) b h = true → mGoodS i (f i) x = x2 ∧ pNext (f i) (b, h) = (b2, h2) ∧ rN x2 2 = b2 ∧ ((i + 1) % 4 = 0 → rN x2 3 + 1 = h2) ∧ (¬ (i + 1) % 4 = 0 → rN x2 3 = h2)) → (if pDue i (f i) b h = true then pFaultL f (i + 1) n (pNext (f i) (b, h)) else i) = (if mGood i (f i) x = true then mFaultL f (i + 1) n (mGoodS i (f i) x) else (i, mGoodS i (f i) x)).1 := fun x2 b2 h2 e1 e2 => by
      rw [← e1]
      by_cases q : pDue i (f i) b h = true
      · obtain ⟨e3, e4, e5, e6, e7⟩ := e2 q
        rw [if_pos q, if_pos q, e3, e4]
        exact ih (i + 1) b2 h2 x2 e5 e6 e7
      · rw [if_neg q, if_neg q]
    show (if pDue i (f i) b h = true then _ else i) = _
    rcases h4 with e | e | e | e
    · refine step (uN x 3 (rN x 3 + 1)) b h ?_ (fun q => ⟨?_, ?_, ?_, fun z => by omega, fun _ => ?_⟩)
      · unfold pDue mGood; rw [if_pos e, if_pos e]
      · unfold mGoodS; rw [if_pos e]
      · have hk : kOf (f i) ≠ none := by unfold pDue at q; rw [if_pos e] at q; exact of_decide_eq_true q
        unfold pNext
        rw [if_neg (kOf_44 hk).1, if_neg (kOf_44 hk).2]
      · rw [rN_uN, if_neg (by decide)]; exact hb
      · rw [rN_uN, if_pos rfl]; exact h0 e
    · refine step x b h ?_ (fun q => ⟨?_, ?_, hb, fun z => by omega, fun _ => h1 (by omega)⟩)
      · unfold pDue mGood xIn
        rw [if_neg (by omega), if_pos e, if_neg (by omega), if_pos e, dec_in]
      · unfold mGoodS; rw [if_neg (by omega), if_pos e]
      · have hk : ¬ f i < nI 49 ∧ ¬ nI 57 < f i := by unfold pDue at q; rw [if_neg (by omega), if_pos e] at q; exact of_decide_eq_true q
        unfold pNext
        rw [if_neg (fun z => hk.1 (by rw [z]; decide +kernel)), if_neg (fun z => hk.2 (by rw [z]; decide +kernel))]
    · refine step x b h ?_ (fun q => ⟨?_, ?_, hb, fun z => by omega, fun _ => h1 (by omega)⟩)
      · unfold pDue mGood xIn
        rw [if_neg (by omega), if_neg (by omega), if_pos e, if_neg (by omega), if_neg (by omega), if_pos e, dec_in]
      · unfold mGoodS; rw [if_neg (by omega), if_neg (by omega), if_pos e]
      · have hk : ¬ f i < nI 48 ∧ ¬ nI 57 < f i := by unfold pDue at q; rw [if_neg (by omega), if_neg (by omega), if_pos e] at q; exact of_decide_eq_true q
        unfold pNext
        rw [if_neg (fun z => hk.1 (by rw [z]; decide +kernel)), if_neg (fun z => hk.2 (by rw [z]; decide +kernel))]
    · have hh := h1 (by omega)
      have ne : ¬ nI 59 = nI 44 := by decide +kernel
      by_cases q : f i = nI 59
      · have q44 : ¬ f i = nI 44 := by rw [q]; exact ne
        refine step (uN (uN x 2 (rN x 2 + 1)) 3 0) (b + 1) 1 ?_ (fun z => ⟨?_, ?_, ?_, fun _ => rfl, fun y => by omega⟩)
        · unfold pDue mGood
          rw [if_neg (by omega), if_neg (by omega), if_neg (by omega), if_neg (by omega), if_neg (by omega), if_neg (by omega), hb]
          by_cases y : b < 3
          · rw [if_pos ⟨q, y⟩]; exact decide_eq_true (Or.inr ⟨q, y⟩)
          · rw [if_neg (fun z => y z.2), decide_eq_false (fun z => z.elim (fun z => q44 z.1) (fun z => y z.2)), decide_eq_false (fun z => q44 z.1)]
        · have y : b < 3 := by
            unfold pDue at z
            rw [if_neg (by omega), if_neg (by omega), if_neg (by omega)] at z
            rcases of_decide_eq_true z with z | z
            · exact absurd z.1 q44
            · exact z.2
          unfold mGoodS
          rw [if_neg (by omega), if_neg (by omega), if_neg (by omega), hb, if_pos ⟨q, y⟩]
        · unfold pNext; rw [if_neg q44, if_pos q]
        · rw [rN_uN, if_neg (by decide), rN_uN, if_pos rfl, hb]
      · refine step x b (h + 1) ?_ (fun z => ⟨?_, ?_, hb, fun _ => by omega, fun y => by omega⟩)
        · unfold pDue mGood
          rw [if_neg (by omega), if_neg (by omega), if_neg (by omega), if_neg (by omega), if_neg (by omega), if_neg (by omega), if_neg (fun z => q z.1), hh]
          by_cases y : f i = nI 44 ∧ h < 3
          · rw [decide_eq_true y]; exact decide_eq_true (Or.inl y)
          · rw [decide_eq_false y]; exact decide_eq_false (fun z => z.elim y (fun z => q z.1))
        · unfold mGoodS
          rw [if_neg (by omega), if_neg (by omega), if_neg (by omega), if_neg (fun z => q z.1)]
        · have y : f i = nI 44 := by
            unfold pDue at z
            rw [if_neg (by omega), if_neg (by omega), if_neg (by omega)] at z
            rcases of_decide_eq_true z with z | z
            · exact z.1
            · exact absurd z.1 q
          unfold pNext; rw [if_pos y]
set_option maxRecDepth 20000 in
theorem qFault {pg m : zs} (h1 : rN pg 1 = rN m 1) (h0 : rF pg 0 = rF m 0) : pFault pg = (mFault m).1 := by
  unfold pFault mFault
  rw [h1, h0]
  exact qFault_L _ _ 0 1 1 (mF0 m) rfl (fun _ => rfl) (fun z => absurd rfl z)
set_option maxRecDepth 20000 in
theorem mFault_P (m : zs) : mP (mFault m).2 m := by
  have h := mFault_F m
  exact ⟨h.1, h.2.1, fun k _ => h.2.2.1 k, fun k _ => h.2.2.2 k⟩
set_option maxRecDepth 20000 in
theorem st_fault (G : zG) (i : Nat) (w : zh) (h : Gd i w) : Oki G i mX7_fault mX8_fault [] w := by
  obtain ⟨pg, nw, kp, sn, ks, fo, ft, fe, gt, mx, re, m, hh, rfl, hJ, hf⟩ := h
  obtain ⟨p1, p2, p3⟩ := hJ.1
  have hc := c_fault G pg nw kp sn ks fo ft fe gt mx re m hh (by omega)
  rw [qFault p1 p3] at hc
  exact Ok_mk _ hc (cm_fault G _ nw kp sn ks fo ft fe gt mx re m hh p2) (J_s (J_P hJ (mFault_P m))) hf
end
