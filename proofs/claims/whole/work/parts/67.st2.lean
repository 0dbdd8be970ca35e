section
set_option maxRecDepth 20000 in
theorem J_n {i : Nat} {pg nw kp sn ks mx m : zs} (h : J i pg nw kp sn ks mx m) : rN m 4 = rN nw 0 ∧ rN m 5 = rN nw 1 ∧ bOK nw ∧ mOK m ∧ mHP m ∧ qQ nw (mBegin m) := by
  have q := h.2.1.1
  exact ⟨q.2.2.1.1, q.2.2.1.2.1, q.1, q.2.1.1, qM_hp q.2.1, q⟩
set_option maxRecDepth 20000 in
theorem J_kd {i : Nat} {pg nw kp sn ks mx m : zs} (h : J i pg nw kp sn ks mx m) {c : Nat} (hc : c < rN nw 1) : rA m 10 c = rA nw 5 c ∧ rA m 11 c = rA nw 6 c ∧ rF m 14 c = rF nw 7 c ∧ rF m 15 c = rF nw 8 c ∧ rF m 16 c = rF nw 9 c := by
  have q := h.2.1.1
  have hc5 : c < rN (mBegin m) 5 := by rw [q.2.2.1.2.1]; exact hc
  have a := q.2.2.1.2.2 c hc5
  have b := qQ_cell q hc5
  exact ⟨a.1, a.2, b.1, b.2.1, b.2.2⟩
set_option maxRecDepth 20000 in
theorem st_as (G : zG) (i : Nat) (w : zh) (h : Gd i w) (k q : Int32) : Oki G i mX7_as mX8_as [.int k, .int q] w := by
  obtain ⟨pg, nw, kp, sn, ks, fo, ft, fe, gt, mx, re, m, hh, rfl, hJ, hf⟩ := h
  obtain ⟨n4, n5, hO, hM, hH, -⟩ := J_n hJ
  by_cases q1 : xNo k (rN nw 1) = true
  · exact Ok_mk _ (c_as0 G pg nw kp sn ks fo ft fe gt mx re m hh k q q1) (cm_as0 G _ nw kp sn ks fo ft fe gt mx re m hh hM k q (by rw [n5]; exact q1)) (J_s hJ) hf
  · obtain ⟨c, hc, e⟩ := xNo_e q1
    subst e
    have hcl := c_as1 G pg nw kp sn ks fo ft fe gt mx re m hh hO c hc q
    by_cases q2 : xIn q 0 4 = true
    · obtain ⟨j, -, hj, e⟩ := xIn_e q2 (by decide) (by decide)
      subst e
      have ev : xAs (rA nw 5 c) c (nI j) = if kIsA (rA m 10 c) j = true then nI c else -1 := by
        unfold xAs
        rw [if_neg (nI_pos (by omega)), if_pos (nI_lt (by omega) (by decide)), nI_clamp (by omega), (J_kd hJ hc).1]
      rw [ev] at hcl
      exact Ok_mk _ hcl (cm_as2 G _ nw kp sn ks fo ft fe gt mx re m hh hM c (by omega) j hj q2) (J_s hJ) hf
    · have ev : xAs (rA nw 5 c) c q = -102 := by
        unfold xAs
        by_cases a : q < 0
        · rw [if_pos a]
        · rw [if_neg a]
          by_cases b : q < nI 5
          · refine absurd (xIn_t.mpr ⟨by rw [nI_0]; exact a, ?_⟩) q2
            obtain ⟨j, hj, e⟩ := nI_of a
            subst e
            have := (nI_ltI hj (by decide)).mp b
            exact nI_le (by omega) (by decide)
          · rw [if_neg b]
      rw [ev] at hcl
      exact Ok_mk _ hcl (cm_as1 G _ nw kp sn ks fo ft fe gt mx re m hh hM c (by omega) q (xIn_f q2)) (J_s hJ) hf
set_option maxRecDepth 20000 in
theorem qLv_rain {nw sn m : zs} (h : qLv nw sn m) (c j : Nat) (hj : j ≤ 9) : qLv (uF nw 8 (upd (rF nw 8) c (nI j))) sn (uF m 15 (upd (rF m 15) c (nI j))) := by
  obtain ⟨⟨hO, hM, hS, hv, hw, hB⟩, h2, h3, h4, h5, h6, h7, h8, h9, h10⟩ := h
  refine ⟨⟨bOK_of hO (fun _ => rfl) (fun _ => rfl), qM_of hM (fun _ => rfl) (fun _ _ => rfl), qS_of hS (fun _ _ => rfl) rfl rfl (fun _ => rfl) (fun _ _ => rfl), hv, qV_upd hw c j hj, fun b hb => ?_⟩, h2, h3, h4, h5, h6, h7, h8, h9, h10⟩
  obtain ⟨b1, b2⟩ := hB b hb
  refine ⟨fun d hd => ?_, b2⟩
  obtain ⟨c1, c2, c3⟩ := b1 d hd
  refine ⟨c1, ?_, c3⟩
  show upd (rF m 15) c (nI j) d = upd (rF nw 8) c (nI j) d
  by_cases e : d = c
  · rw [e, upd_s, upd_s]
  · rw [upd_n _ _ e, upd_n _ _ e]; exact c2
set_option maxRecDepth 20000 in
theorem st_rain (G : zG) (i : Nat) (w : zh) (h : Gd i w) (k q : Int32) : Oki G i mX7_rain mX8_rain [.int k, .int q] w := by
  obtain ⟨pg, nw, kp, sn, ks, fo, ft, fe, gt, mx, re, m, hh, rfl, hJ, hf⟩ := h
  obtain ⟨n4, n5, hO, hM, hH, -⟩ := J_n hJ
  by_cases q1 : xNo k (rN nw 1) = true
  · exact Ok_mk _ (c_rain0 G pg nw kp sn ks fo ft fe gt mx re m hh k q q1) (cm_rain0 G _ nw kp sn ks fo ft fe gt mx re m hh hM k q (by rw [n5]; exact q1)) (J_s hJ) hf
  · obtain ⟨c, hc, e⟩ := xNo_e q1
    subst e
    obtain ⟨-, -, k3, k4, -⟩ := J_kd hJ hc
    have hcl := c_rain1 G pg nw kp sn ks fo ft fe gt mx re m hh hO c hc q
    by_cases q2 : xIn q 0 9 = true
    · obtain ⟨a, b⟩ := xIn_t.mp q2
      rw [nI_0] at a
      by_cases q3 : rF m 14 c = 0
      · have ev : xRainV nw c q = -103 ∧ xRainB nw c q = nw := by
          unfold xRainV xRainB
          rw [if_neg a, if_pos b, if_pos (by rw [← k3]; exact q3), if_neg a, if_pos b, if_pos (by rw [← k3]; exact q3)]
          exact ⟨rfl, rfl⟩
        rw [ev.1, ev.2] at hcl
        exact Ok_mk _ hcl (cm_rain2 G _ nw kp sn ks fo ft fe gt mx re m hh hM c (by omega) q q2 q3) (J_s hJ) hf
      · have q3' : ¬ rF nw 7 c = 0 := by rw [← k3]; exact q3
        have ev : xRainV nw c q = rF m 15 c ∧ xRainB nw c q = uF nw 8 (upd (rF nw 8) c q) := by
          unfold xRainV xRainB
          rw [if_neg a, if_pos b, if_neg q3', if_neg a, if_pos b, if_neg q3', k4]
          exact ⟨rfl, rfl⟩
        rw [ev.1, ev.2] at hcl
        obtain ⟨j, -, hj, e⟩ := xIn_e q2 (by decide) (by decide)
        subst e
        exact Ok_mk _ hcl (cm_rain3 G _ _ kp sn ks fo ft fe gt mx re m hh hM c (by omega) _ q2 q3) (J_s (J_L hJ (qLv_rain hJ.2.1 c j hj) rfl rfl rfl rfl rfl (fun _ _ => rfl) (fun _ _ => rfl) (fun _ _ => rfl) (fun k hk => by rw [rF_uF, if_neg (by omega)]))) hf
    · have ev : xRainV nw c q = -102 ∧ xRainB nw c q = nw := by
        unfold xRainV xRainB
        by_cases a : q < 0
        · rw [if_pos a, if_pos a]; exact ⟨rfl, rfl⟩
        · by_cases b : q ≤ nI 9
          · exact absurd (xIn_t.mpr ⟨by rw [nI_0]; exact a, b⟩) q2
          · rw [if_neg a, if_neg b, if_neg a, if_neg b]; exact ⟨rfl, rfl⟩
      rw [ev.1, ev.2] at hcl
      exact Ok_mk _ hcl (cm_rain1 G _ nw kp sn ks fo ft fe gt mx re m hh hM c (by omega) q (xIn_f q2)) (J_s hJ) hf
set_option maxRecDepth 20000 in
theorem qLv_sn {nw sn sn2 m t : zs} (h : qLv nw sn m) (hA : ∀ k, rA t k = rA m k) (hN : ∀ k, k ≠ 24 → rN t k = rN m k) (hI : ∀ k, rI t k = rI m k) (hF : ∀ k, k ≠ 25 → rF t k = rF m k) (hs : sOK sn2) (hE : qE sn2 t) : qLv nw sn2 t := by
  obtain ⟨h1, h2, h3, h4, h5, h6, h7, h8, h9, h10⟩ := h
  have f14 := hF 14 (by decide)
  have f16 := hF 16 (by decide)
  have n5 := hN 5 (by decide)
  have n6 := hN 6 (by decide)
  refine ⟨qQ_y h1 (fun k _ _ => hA k) (hN 4 (by decide)) n5 f14 (hF 15 (by decide)) f16, ?_, ?_, by rw [n6]; exact h4, by rw [n6]; exact h5, by rw [hI]; exact h6, by rw [hI]; exact h7, h8, hs, hE⟩
  · intro c hc
    rw [n6]
    show ∃ u, _ ∧ rF t 16 c = nI u
    rw [f16]
    exact h2 c (by show c < rN m 5; rw [← n5]; exact hc)
  · intro c hc
    show rF t 14 c = 0 → rF t 16 c = nI 0
    rw [f14, f16]
    exact h3 c (by show c < rN m 5; rw [← n5]; exact hc)
set_option maxRecDepth 20000 in
theorem st_forget (G : zG) (i : Nat) (w : zh) (h : Gd i w) : Oki G i mX7_forget mX8_forget [] w := by
  obtain ⟨pg, nw, kp, sn, ks, fo, ft, fe, gt, mx, re, m, hh, rfl, hJ, hf⟩ := h
  have hs := hJ.2.1.2.2.2.2.2.2.2.2.1
  have hE := hJ.2.1.2.2.2.2.2.2.2.2.2
  have hc := c_forget G pg nw kp sn ks fo ft fe gt mx re m hh
  rw [hE.1] at hc
  refine Ok_mk _ hc (cm_forget G _ nw kp _ ks fo ft fe gt mx re m hh) (J_s (J_L hJ (qLv_sn hJ.2.1 (fun _ => rfl) (fun k hk => by rw [rN_uN, if_neg hk]) (fun _ => rfl) (fun _ _ => rfl) ?_ ?_) rfl rfl rfl rfl rfl (fun _ _ => rfl) (fun k hk => by rw [rN_uN, if_neg (by omega)]) (fun _ _ => rfl) (fun k hk => rfl))) hf
  · exact ⟨by rw [rN_uN, if_pos rfl]; omega, hs.2.1, fun j hj => by rw [rN_uN, if_pos rfl] at hj; omega, hs.2.2.2⟩
  · exact ⟨rfl, fun j hj => by rw [rN_uN, if_pos rfl] at hj; omega⟩
set_option maxRecDepth 20000 in
theorem st_see (G : zG) (i : Nat) (w : zh) (h : Gd i w) (k d v : Int32) : Oki G i mX7_see mX8_see [.int k, .int d, .int v] w := by
  obtain ⟨pg, nw, kp, sn, ks, fo, ft, fe, gt, mx, re, m, hh, rfl, hJ, hf⟩ := h
  obtain ⟨n4, n5, hO, hM, hH, -⟩ := J_n hJ
  have hs := hJ.2.1.2.2.2.2.2.2.2.2.1
  have hE := hJ.2.1.2.2.2.2.2.2.2.2.2
  by_cases q1 : xNo k (rN nw 1) = true
  · exact Ok_mk _ (c_see0 G pg nw kp sn ks fo ft fe gt mx re m hh k d v q1) (cm_see0 G _ nw kp sn ks fo ft fe gt mx re m hh hM k d v (by rw [n5]; exact q1)) (J_s hJ) hf
  · obtain ⟨c, hc, e⟩ := xNo_e q1
    subst e
    obtain ⟨-, -, k3, -, -⟩ := J_kd hJ hc
    have hcl := c_see1 G pg nw kp sn ks fo ft fe gt mx re m hh hO hs.1 c hc d v
    by_cases q2 : xIn d 1 9 = true
    · obtain ⟨a, b⟩ := xIn_t.mp q2
      have b' : ¬ nI 9 < d := Int32.not_lt.mpr b
      by_cases q3 : xIn v 0 30 = true
      · obtain ⟨a2, b2⟩ := xIn_t.mp q3
        rw [nI_0] at a2
        by_cases q4 : rF m 14 c = 0
        · have q4' : rF nw 7 c = 0 := by rw [← k3]; exact q4
          have ev : xSeeV nw sn c d v = -103 ∧ xSeeS nw sn c d v = sn := by
            unfold xSeeV xSeeS
            rw [if_neg a, if_neg b', if_neg a2, if_pos b2, if_pos q4', if_neg a, if_neg b', if_neg a2, if_pos b2, if_pos q4']
            exact ⟨rfl, rfl⟩
          rw [ev.1, ev.2] at hcl
          exact Ok_mk _ hcl (cm_see2 G _ nw kp sn ks fo ft fe gt mx re m hh hM c (by omega) d v q2 q3 q4) (J_s hJ) hf
        · have q4' : ¬ rF nw 7 c = 0 := by rw [← k3]; exact q4
          by_cases q5 : rN m 24 < 6
          · have q5' : rN sn 3 < 6 := by rw [hE.1]; exact q5
            have ev : xSeeV nw sn c d v = nI (rN m 24 + 1) ∧ xSeeS nw sn c d v = sAdd sn c d.toNatClampNeg v := by
              unfold xSeeV xSeeS
              rw [if_neg a, if_neg b', if_neg a2, if_pos b2, if_neg q4', if_pos q5', if_neg a, if_neg b', if_neg a2, if_pos b2, if_neg q4', if_pos q5', hE.1]
              exact ⟨rfl, rfl⟩
            rw [ev.1, ev.2] at hcl
            obtain ⟨j, hj1, hj9, e⟩ := xIn_e q2 (by decide) (by decide)
            subst e
            rw [nI_clamp (by omega)] at hcl
            have hc9 : c < 9 := by have := hO.2.2.2.2.2; omega
            refine Ok_mk _ hcl (cm_see4 G _ nw kp _ ks fo ft fe gt mx re m hh hM c (by omega) _ v q2 q3 q4 q5) (J_s (J_L hJ (qLv_sn hJ.2.1 (fun _ => rfl) (fun k hk => by unfold mSee; rw [rN_uN, if_neg hk, rN_uF]) (fun _ => rfl) (fun k hk => by unfold mSee; rw [rF_uN, rF_uF, if_neg hk]) ?_ ?_) rfl rfl rfl rfl rfl (fun _ _ => rfl) (fun k hk => by unfold mSee; rw [rN_uN, if_neg (by omega), rN_uF]) (fun _ _ => rfl) (fun k hk => by unfold mSee; rw [rF_uN, rF_uF, if_neg (by omega)]))) hf
            · have e0 : rA (sAdd sn c j v) 0 = updN (rA sn 0) (rN sn 3) c := rfl
              have e1 : rA (sAdd sn c j v) 1 = updN (rA sn 1) (rN sn 3) j := rfl
              have e3 : rN (sAdd sn c j v) 3 = rN sn 3 + 1 := rfl
              refine ⟨by rw [e3]; omega, fun t => ?_, fun t ht => ?_, fun t => ?_⟩
              · rw [e0]
                by_cases z : t = rN sn 3
                · rw [z, updN_s]; exact hc9
                · rw [updN_n _ _ z]; exact hs.2.1 t
              · rw [e3] at ht
                rw [e1]
                by_cases z : t = rN sn 3
                · rw [z, updN_s]; exact hj1
                · rw [updN_n _ _ z]; exact hs.2.2.1 t (by omega)
              · rw [e1]
                by_cases z : t = rN sn 3
                · rw [z, updN_s]; exact hj9
                · rw [updN_n _ _ z]; exact hs.2.2.2 t
            · have e0 : rA (sAdd sn c j v) 0 = updN (rA sn 0) (rN sn 3) c := rfl
              have e1 : rA (sAdd sn c j v) 1 = updN (rA sn 1) (rN sn 3) j := rfl
              have e2 : rF (sAdd sn c j v) 2 = upd (rF sn 2) (rN sn 3) v := rfl
              have e3 : rN (sAdd sn c j v) 3 = rN sn 3 + 1 := rfl
              have e25 : rF (mSee m c (nI j) v) 25 = upd (upd (upd (rF m 25) (3 * rN m 24) (nI c)) (3 * rN m 24 + 1) (nI j)) (3 * rN m 24 + 2) v := rfl
              refine ⟨by rw [e3, hE.1]; rfl, fun t ht => ?_⟩
              rw [e3] at ht
              rw [e25, e0, e1, e2, hE.1]
              by_cases z : t = rN m 24
              · rw [z, updN_s, updN_s, upd_s]
                refine ⟨?_, ?_, ?_⟩
                · rw [upd_n _ _ (by omega), upd_n _ _ (by omega), upd_s]
                · rw [upd_n _ _ (by omega), upd_s]
                · rw [upd_s]
              · obtain ⟨t1, t2, t3⟩ := hE.2 t (by rw [hE.1]; rw [hE.1] at ht; omega)
                have ht2 : t < rN m 24 := by rw [hE.1] at ht; omega
                rw [updN_n _ _ z, updN_n _ _ z, upd_n _ _ z]
                refine ⟨?_, ?_, ?_⟩
                · rw [upd_n _ _ (by omega), upd_n _ _ (by omega), upd_n _ _ (by omega)]; exact t1
                · rw [upd_n _ _ (by omega), upd_n _ _ (by omega), upd_n _ _ (by omega)]; exact t2
                · rw [upd_n _ _ (by omega), upd_n _ _ (by omega), upd_n _ _ (by omega)]; exact t3
          · have q5' : ¬ rN sn 3 < 6 := by rw [hE.1]; exact q5
            have ev : xSeeV nw sn c d v = -104 ∧ xSeeS nw sn c d v = sn := by
              unfold xSeeV xSeeS
              rw [if_neg a, if_neg b', if_neg a2, if_pos b2, if_neg q4', if_neg q5', if_neg a, if_neg b', if_neg a2, if_pos b2, if_neg q4', if_neg q5']
              exact ⟨rfl, rfl⟩
            rw [ev.1, ev.2] at hcl
            have h6 := hs.1
            rw [hE.1] at h6
            exact Ok_mk _ hcl (cm_see3 G _ nw kp sn ks fo ft fe gt mx re m hh hM c (by omega) d v q2 q3 q4 (by omega)) (J_s hJ) hf
      · have ev : xSeeV nw sn c d v = -102 ∧ xSeeS nw sn c d v = sn := by
          unfold xSeeV xSeeS
          rw [if_neg a, if_neg b', if_neg a, if_neg b']
          by_cases a2 : v < 0
          · rw [if_pos a2, if_pos a2]; exact ⟨rfl, rfl⟩
          · by_cases b2 : v ≤ nI 30
            · exact absurd (xIn_t.mpr ⟨by rw [nI_0]; exact a2, b2⟩) q3
            · rw [if_neg a2, if_neg b2, if_neg a2, if_neg b2]; exact ⟨rfl, rfl⟩
        rw [ev.1, ev.2] at hcl
        exact Ok_mk _ hcl (cm_see1 G _ nw kp sn ks fo ft fe gt mx re m hh hM c (by omega) d v (by rw [xIn_f q3, Bool.and_false])) (J_s hJ) hf
    · have ev : xSeeV nw sn c d v = -102 ∧ xSeeS nw sn c d v = sn := by
        unfold xSeeV xSeeS
        by_cases a : d < nI 1
        · rw [if_pos a, if_pos a]; exact ⟨rfl, rfl⟩
        · by_cases b : nI 9 < d
          · rw [if_neg a, if_pos b, if_neg a, if_pos b]; exact ⟨rfl, rfl⟩
          · exact absurd (xIn_t.mpr ⟨a, Int32.not_lt.mp b⟩) q2
      rw [ev.1, ev.2] at hcl
      exact Ok_mk _ hcl (cm_see1 G _ nw kp sn ks fo ft fe gt mx re m hh hM c (by omega) d v (by rw [xIn_f q2, Bool.false_and])) (J_s hJ) hf
end
