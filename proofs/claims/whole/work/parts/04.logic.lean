/-! the walk's own words: a heap by numbers (cell k lies at base + k, the script is number 1000), a method's walk as a relation on it -/
abbrev zG : Type := Launch × va_G × ClassId × ClassId × Nat × Nat × Nat × (Nat → Int32)
abbrev zl (G : zG) : Launch := G.1
abbrev zD (G : zG) : va_G := G.2.1
abbrev zcI (G : zG) : ClassId := G.2.2.1
abbrev zcJ (G : zG) : ClassId := G.2.2.2.1
abbrev zb (G : zG) : Nat := G.2.2.2.2.1
abbrev zbase (G : zG) : Nat := G.2.2.2.2.2.1
abbrev zL (G : zG) : Nat := G.2.2.2.2.2.2.1
abbrev zxs (G : zG) : Nat → Int32 := G.2.2.2.2.2.2.2
abbrev zc : Type := (Nat × (Nat → Int32)) ⊕ (Nat × (Nat → Int64)) ⊕ (Nat × List Value)
abbrev zI (n : Nat) (f : Nat → Int32) : zc := .inl (n, f)
abbrev zJ (n : Nat) (f : Nat → Int64) : zc := .inr (.inl (n, f))
abbrev zO (ci : Nat) (fs : List Value) : zc := .inr (.inr (ci, fs))
abbrev zdead : zc := zO 99 []
abbrev zh : Type := Nat → zc
def zv (G : zG) : Value → Value
  | .ref k => .ref (if k = 1000 then zb G else zbase G + k)
  | v => v
theorem zv_cat (G : zG) (v : Value) : (zv G v).category = v.category := by cases v <;> rfl
def zconv (G : zG) (c : zc) : va_E := match c with
  | .inl a => .inl (zcI G, a.1, .inl a.2)
  | .inr (.inl a) => .inl (zcJ G, a.1, .inr (.inl a.2))
  | .inr (.inr o) => .inr (o.1, o.2.map (zv G))
def zW (G : zG) (N : Nat) (g : zh) : va_W := (List.range N).map (fun k => (zbase G + k, zconv G (g k)))
def zup (g : zh) (k : Nat) (c : zc) : zh := fun j => if j = k then c else g j
theorem zup_s (g : zh) (k : Nat) (c : zc) : zup g k c k = c := by simp [zup]
theorem zup_n (g : zh) {k j : Nat} (c : zc) (h : j ≠ k) : zup g k c j = g j := by simp [zup, h]
def zA (G : zG) : Nat → Prop := fun q => zbase G ≤ q
abbrev ztys (G : zG) : List (ClassId × FieldType) := [(zcI G, .int), (zcJ G, .long)]
theorem zW_get {G : zG} {N k : Nat} {g : zh} (h : k < N) : (zW G N g)[k]? = some (zbase G + k, zconv G (g k)) := by simp [zW, h]
theorem zW_of {G : zG} {N k : Nat} {g : zh} {q : Nat × va_E} (h : (zW G N g)[k]? = some q) : k < N ∧ q = (zbase G + k, zconv G (g k)) := by
  have hk : k < (zW G N g).length := (List.getElem?_eq_some_iff.mp h).1
  have hk2 : k < N := by simpa [zW] using hk
  rw [zW_get hk2] at h
  exact ⟨hk2, (Option.some.inj h).symm⟩
theorem zW_D {G : zG} {N : Nat} {g : zh} : va_D (zA G) (zW G N g) := by
  refine ⟨fun i j p q hi hj e => ?_, fun k q h => ?_⟩
  · rw [(zW_of hi).2, (zW_of hj).2] at e
    exact Nat.add_left_cancel e
  · rw [(zW_of h).2]
    exact Nat.le_add_right _ _
theorem zW_set {G : zG} {N k : Nat} {g : zh} {c : zc} : (zW G N g).set k (zbase G + k, zconv G c) = zW G N (zup g k c) := by
  apply List.ext_getElem?
  intro i
  by_cases hi : i < N
  · rw [zW_get hi]
    by_cases h : i = k
    · subst h
      rw [List.getElem?_set_self (by simpa [zW] using hi), zup_s]
    · rw [List.getElem?_set_ne (fun e => h e.symm), zW_get hi, zup_n _ _ h]
  · rw [List.getElem?_eq_none (by simpa [zW] using hi), List.getElem?_eq_none (by simpa [zW] using hi)]
def zRel (G : zG) (N : Nat) (g : zh) (H : Heap) : Prop := va_P (zD G) zcls (zW G N g) H ∧ (N < 71 → H.size = zbase G + N) ∧ N ≤ 71 ∧ ∀ k, N ≤ k → g k = zdead
theorem zRel.lt {G : zG} {N k : Nat} {g : zh} {H : Heap} (h : zRel G N g H) {c : zc} (hk : g k = c) (hc : c ≠ zdead) : k < N := by
  rcases Nat.lt_or_ge k N with q | q
  · exact q
  · exact absurd (hk.symm.trans (h.2.2.2 k q)) hc
theorem zRel.get {G : zG} {N k : Nat} {g : zh} {H : Heap} (h : zRel G N g H) {c : zc} (hk : g k = c) (hc : c ≠ zdead) : (zW G N g)[k]? = some (zbase G + k, zconv G c) := by
  rw [zW_get (h.lt hk hc), hk]
theorem zRel.put {G : zG} {N k : Nat} {g : zh} {H H1 : Heap} {c c1 : zc} (h : zRel G N g H) (hk : g k = c1) (hc : c1 ≠ zdead) (hP : va_P (zD G) zcls ((zW G N g).set k (zbase G + k, zconv G c)) H1) (hs : N < 71 → H1.size = H.size) : zRel G N (zup g k c) H1 := by
  have hlt := h.lt hk hc
  rw [zW_set] at hP
  exact ⟨hP, fun q => (hs q).trans (h.2.1 q), h.2.2.1, fun j hj => by rw [zup_n _ _ (by omega)]; exact h.2.2.2 j hj⟩
theorem zarr (cA : ClassId) {n : Nat} {f f2 : Nat → Int32} (he : ∀ j, j < n → f j = f2 j) : arrV cA n (fun j => .int (f j)) = arrV cA n (fun j => .int (f2 j)) := by
  unfold arrV
  congr 1
  apply Array.ext
  · simp
  · intro j hj1 hj2
    simp at hj1 ⊢
    exact he j hj1
/-- cells that agree below their length are the same -/
theorem zRel.same {G : zG} {N k n : Nat} {g : zh} {H : Heap} {f f2 : Nat → Int32} (h : zRel G N (zup g k (zI n f)) H) (he : ∀ j, j < n → f j = f2 j) : zRel G N (zup g k (zI n f2)) H := by
  refine ⟨fun i q hq => ?_, h.2.1, h.2.2.1, fun j hj => ?_⟩
  · obtain ⟨hi, rfl⟩ := zW_of hq
    have h1 := h.1 i _ (zW_get hi)
    by_cases hik : i = k
    · subst hik
      rw [zup_s] at h1 ⊢
      show H[_]? = some (vp_cell _ _)
      have h2 : H[zbase G + i]? = some (vp_cell (zcI G) (n, .inl f)) := h1
      rw [h2]
      show some (vp_cell (zcI G) (n, .inl f)) = some (vp_cell (zcI G) (n, .inl f2))
      rw [vp_cell_i, vp_cell_i]
      exact congrArg some (zarr _ he)
    · rw [zup_n _ _ hik] at h1 ⊢
      exact h1
  · have := h.2.2.2 j hj
    by_cases hjk : j = k
    · subst hjk
      rw [zup_s] at this
      cases this
    · rw [zup_n _ _ hjk] at this ⊢
      exact this
/-! the named values of a frame, by place -/
def zAs (G : zG) (ls : List (Option Value)) : List (Nat × Value) := ls.zipIdx.filterMap (fun q => q.1.map (fun v => (q.2, zv G v)))
theorem zAs_mem {G : zG} {ls : List (Option Value)} {q : Nat × Value} : q ∈ zAs G ls ↔ ∃ i v, ls[i]? = some (some v) ∧ q = (i, zv G v) := by
  simp only [zAs, List.mem_filterMap]
  constructor
  · rintro ⟨⟨o, i⟩, h1, h2⟩
    cases o with
    | none => simp at h2
    | some v =>
      simp at h2
      exact ⟨i, v, List.mem_zipIdx_iff_getElem?.mp h1, h2.symm⟩
  · rintro ⟨i, v, h1, rfl⟩
    exact ⟨(some v, i), List.mem_zipIdx_iff_getElem?.mpr h1, rfl⟩
def zLoc (G : zG) (lsA : Array Slot) (nL : Nat) (ls : List (Option Value)) : Prop := lv_has lsA nL (zAs G ls)
theorem zLoc_at {G : zG} {lsA : Array Slot} {nL i : Nat} {ls : List (Option Value)} {v : Value} (h : zLoc G lsA nL ls) (hi : ls[i]? = some (some v)) : lsA[i]? = some (.val (zv G v)) := h.2.2 (i, zv G v) (zAs_mem.mpr ⟨i, v, hi, rfl⟩)
theorem zLoc_of {G : zG} {lsA : Array Slot} {nL : Nat} {ls : List (Option Value)} {l : List (Nat × Value)} (h : lv_has lsA nL l) (hk : ∀ i v, ls[i]? = some (some v) → (i, zv G v) ∈ l) : zLoc G lsA nL ls :=
  ⟨h.1, h.2.1, fun q hq => by
    obtain ⟨i, v, h1, rfl⟩ := zAs_mem.mp hq
    exact h.2.2 _ (hk i v h1)⟩
/-- no long stands just below place i -/
def zok (ls : List (Option Value)) (i : Nat) : Bool := match i with
  | 0 => true
  | k + 1 => match ls[k]? with
    | some (some v) => Nat.beq v.category 1
    | _ => true
theorem zok_at {ls : List (Option Value)} {i j : Nat} {v : Value} (h : zok ls i = true) (hj : ls[j]? = some (some v)) (hij : j + 1 = i) : v.category = 1 := by
  subst hij
  rw [zok] at h
  simp only [hj] at h
  exact Nat.eq_of_beq_eq_true h
theorem zLoc_st1 {G : zG} {lsA : Array Slot} {nL i : Nat} {ls : List (Option Value)} {v : Value} (hok : zok ls i = true)
    (h : lv_has lsA nL ((i, zv G v) :: (zAs G ls).filter (fun q => !(q.1 == i) && !(q.1 + 1 == i && q.2.category == 2)))) : zLoc G lsA nL (ls.set i (some v)) := by
  refine zLoc_of h fun j w hj => ?_
  by_cases e : j = i
  · subst e
    have hl : j < ls.length := by
      have := (List.getElem?_eq_some_iff.mp hj).1
      simpa using this
    rw [List.getElem?_set_self hl] at hj
    cases hj
    exact List.mem_cons_self
  · rw [List.getElem?_set_ne (fun q => e q.symm)] at hj
    refine List.mem_cons_of_mem _ (List.mem_filter.mpr ⟨zAs_mem.mpr ⟨j, w, hj, rfl⟩, ?_⟩)
    by_cases e2 : j + 1 = i
    · have h1 := zok_at hok hj e2
      simp [e, zv_cat, h1]
    · simp [e, e2]
theorem zLoc_st2 {G : zG} {lsA : Array Slot} {nL i : Nat} {ls : List (Option Value)} {v : Value} (hok : zok ls i = true)
    (h : lv_has lsA nL ((i, zv G v) :: (zAs G ls).filter (fun q => !(q.1 == i) && (!(q.1 == i + 1) && !(q.1 + 1 == i && q.2.category == 2))))) : zLoc G lsA nL ((ls.set i (some v)).set (i + 1) none) := by
  refine zLoc_of h fun j w hj => ?_
  by_cases e1 : j = i + 1
  · subst e1
    have hl : i + 1 < (ls.set i (some v)).length := by
      have := (List.getElem?_eq_some_iff.mp hj).1
      simpa using this
    rw [List.getElem?_set_self hl] at hj
    cases hj
  · rw [List.getElem?_set_ne (fun q => e1 q.symm)] at hj
    by_cases e : j = i
    · subst e
      have hl : j < ls.length := by
        have := (List.getElem?_eq_some_iff.mp hj).1
        simpa using this
      rw [List.getElem?_set_self hl] at hj
      cases hj
      exact List.mem_cons_self
    · rw [List.getElem?_set_ne (fun q => e q.symm)] at hj
      refine List.mem_cons_of_mem _ (List.mem_filter.mpr ⟨zAs_mem.mpr ⟨j, w, hj, rfl⟩, ?_⟩)
      by_cases e2 : j + 1 = i
      · have h1 := zok_at hok hj e2
        simp [e, e1, zv_cat, h1]
      · simp [e, e1, e2]
theorem zO_nd {ci : Nat} {fs : List Value} {q : vw_C} (h : zcls[ci]? = some q) : zO ci fs ≠ zdead := by
  intro e
  have h1 : ci = 99 := by
    have := Sum.inr.inj (Sum.inr.inj e)
    exact congrArg Prod.fst this
  subst h1
  simp [zcls] at h
theorem zargs_map {G : zG} {as : List Value} {i : Nat} {v : Value} (h : (i, v) ∈ lv_args 0 as) : (i, zv G v) ∈ lv_args 0 (as.map (zv G)) := by
  have key : ∀ (as : List Value) (n : Nat), (i, v) ∈ lv_args n as → (i, zv G v) ∈ lv_args n (as.map (zv G)) := by
    intro as
    induction as with
    | nil => intro n h; simp [lv_args] at h
    | cons a t ih =>
      intro n h
      simp only [lv_args, List.map_cons, List.mem_cons, zv_cat] at h ⊢
      rcases h with h | h
      · obtain ⟨rfl, rfl⟩ := Prod.mk.inj h
        exact Or.inl rfl
      · exact Or.inr (ih _ h)
  exact key as 0 h
theorem zNest_tab : ∀ w ∈ zNest, w.onTables = true := by
  intro w hw
  simp only [zNest, List.mem_cons, List.not_mem_nil, or_false] at hw
  rcases hw with rfl | rfl | rfl | rfl | rfl | rfl | rfl | rfl <;> rfl
theorem zNest_warm {s U : State} (hW : s.WarmedH U.vm) : ∀ w ∈ zNest, va_Nw w s → va_Nw w U := by
  intro w hw h
  simp only [zNest, List.mem_cons, List.not_mem_nil, or_false] at hw
  rcases hw with rfl | rfl | rfl | rfl | rfl | rfl | rfl | rfl <;> exact va_Nw.warmM hW h
/-! the walk -/
abbrev zCtx (G : zG) (y : zY) (p : Program) (s : State) (m : MethodId) (args : Array Value) (meth : Method) (c : Code) : Prop :=
  p.tables.exec = Jvm.exec ∧ c.code = y.2.1 ∧ c.maxLocals = y.2.2.1 ∧ s.vm.findClass y.1.cls = some m.cls ∧ (∀ w ∈ zT, w.before args s = true) ∧ va_K (zD G) zcls (ztys G) s ∧ zbase G ≤ s.heap.size ∧
  (y.1.name = "<init>" → meth.name = "<init>") ∧ (y.1.name = "law" → va_X (zb G) (zL G) (zxs G) s s.heap ∧ zb G < s.heap.size ∧ ¬ zA G (zb G)) ∧ (∀ w ∈ zNest, va_Nw w s)
abbrev zrm (y : zY) (E : Nat × Nat) (N u : Nat) : Room := { frames := y.2.2.2.2.1, cells := N - E.1, slots := u - E.2, locals := y.2.2.2.2.2 }
abbrev zrd (y : zY) (pc : Nat) (r : Option Value) : Prop := (r = none → decode y.2.1 pc = .ok (.return_, 1)) ∧ (∀ x, r = some (.int x) → decode y.2.1 pc = .ok (.ireturn, 1)) ∧ (∀ x, r = some (.long x) → decode y.2.1 pc = .ok (.lreturn, 1))
def zR (G : zG) (y : zY) (E : Nat × Nat) (pc : Nat) (ls : List (Option Value)) (st : List Value) (N u : Nat) (g : zh) (r : Option Value) (N' u' : Nat) (g' : zh) : Prop :=
  (N ≤ N' ∧ u ≤ u') ∧ ∀ (p : Program) (e : Env) (s : State) (m : MethodId) (args : Array Value) (below : List Frame) (meth : Method) (c : Code) (H : Heap) (locs : List Loc) (Q : State → Prop) (lsA : Array Slot),
    zCtx G y p s m args meth c → E.1 ≤ N → E.2 ≤ u → zRel G N g H → zLoc G lsA y.2.2.1 ls → va_S (zA G) s.heap H locs →
    (∀ (pc' : Nat) (lsA' : Array Slot) (H' : Heap) (locs' : List Loc), zrd y pc' r → zRel G N' g' H' → va_S (zA G) s.heap H' locs' →
      W p (zl G) e (zrm y E N' u') s m args below meth c H' locs' (N' - E.1) (u' - E.2) Q (F0 m pc' lsA' (r.toList.map (zv G)))) →
    W p (zl G) e (zrm y E N' u') s m args below meth c H locs (N - E.1) (u - E.2) Q (F0 m pc lsA (st.map (zv G)))
theorem zR.le {G : zG} {y : zY} {E : Nat × Nat} {pc : Nat} {ls : List (Option Value)} {st : List Value} {N u : Nat} {g : zh} {r : Option Value} {N' u' : Nat} {g' : zh} (k : zR G y E pc ls st N u g r N' u' g') : N ≤ N' ∧ u ≤ u' := k.1
theorem zR.run {G : zG} {y : zY} {E : Nat × Nat} {pc : Nat} {ls : List (Option Value)} {st : List Value} {N u : Nat} {g : zh} {r : Option Value} {N' u' : Nat} {g' : zh} (k : zR G y E pc ls st N u g r N' u' g') {p : Program} {e : Env} {s : State} {m : MethodId} {args : Array Value} {below : List Frame} {meth : Method} {c : Code} {H : Heap} {locs : List Loc} {Q : State → Prop} {lsA : Array Slot}
    (C : zCtx G y p s m args meth c) (h1 : E.1 ≤ N) (h2 : E.2 ≤ u) (hR : zRel G N g H) (hl : zLoc G lsA y.2.2.1 ls) (hS : va_S (zA G) s.heap H locs)
    (hF : ∀ (pc' : Nat) (lsA' : Array Slot) (H' : Heap) (locs' : List Loc), zrd y pc' r → zRel G N' g' H' → va_S (zA G) s.heap H' locs' →
      W p (zl G) e (zrm y E N' u') s m args below meth c H' locs' (N' - E.1) (u' - E.2) Q (F0 m pc' lsA' (r.toList.map (zv G)))) :
    W p (zl G) e (zrm y E N' u') s m args below meth c H locs (N - E.1) (u - E.2) Q (F0 m pc lsA (st.map (zv G))) := k.2 p e s m args below meth c H locs Q lsA C h1 h2 hR hl hS hF
section ZRULES
variable {G : zG} {y : zY} {E : Nat × Nat} {pc pc2 : Nat} {ls : List (Option Value)} {st : List Value} {N u : Nat} {g : zh} {r : Option Value} {N' u' : Nat} {g' : zh}
theorem z_iconst {n : Int} {v : Int32} (hd : zat y pc 1 pc2 (.iconst n)) (hv : Int32.ofInt n = v) (k : zR G y E pc2 ls (.int v :: st) N u g r N' u' g') : zR G y E pc ls (st) N u g r N' u' g' := by
  obtain ⟨hd, rfl⟩ := hd
  unfold zR
  exact ⟨k.le, fun p e s m args below meth c H locs Q lsA C h1 h2 hR hl hS hF => lv_iconst C.1 C.2.1 hd hv (k.run C h1 h2 hR hl hS hF)⟩
theorem z_bipush {n : Int} {v : Int32} (hd : zat y pc 2 pc2 (.bipush n)) (hv : (Int8.ofInt n).toInt32 = v) (k : zR G y E pc2 ls (.int v :: st) N u g r N' u' g') : zR G y E pc ls (st) N u g r N' u' g' := by
  obtain ⟨hd, rfl⟩ := hd
  unfold zR
  exact ⟨k.le, fun p e s m args below meth c H locs Q lsA C h1 h2 hR hl hS hF => lv_bipush C.1 C.2.1 hd hv (k.run C h1 h2 hR hl hS hF)⟩
theorem z_sipush {n : Int} {v : Int32} (hd : zat y pc 3 pc2 (.sipush n)) (hv : (Int16.ofInt n).toInt32 = v) (k : zR G y E pc2 ls (.int v :: st) N u g r N' u' g') : zR G y E pc ls (st) N u g r N' u' g' := by
  obtain ⟨hd, rfl⟩ := hd
  unfold zR
  exact ⟨k.le, fun p e s m args below meth c H locs Q lsA C h1 h2 hR hl hS hF => lv_sipush C.1 C.2.1 hd hv (k.run C h1 h2 hR hl hS hF)⟩
theorem z_lconst {n : Fin 2} {v : Int64} (hd : zat y pc 1 pc2 (.lconst n)) (hv : Int64.ofNat (n : Nat) = v) (k : zR G y E pc2 ls (.long v :: st) N u g r N' u' g') : zR G y E pc ls (st) N u g r N' u' g' := by
  obtain ⟨hd, rfl⟩ := hd
  unfold zR
  exact ⟨k.le, fun p e s m args below meth c H locs Q lsA C h1 h2 hR hl hS hF => lv_lconst C.1 C.2.1 hd hv (k.run C h1 h2 hR hl hS hF)⟩
theorem z_ldc2 {idx : Nat} {v : Int64} (hd : zat y pc 3 pc2 (.ldc2_w idx)) (hc : Cond.constantLong y.1.cls idx v ∈ zT) (k : zR G y E pc2 ls (.long v :: st) N u g r N' u' g') : zR G y E pc ls (st) N u g r N' u' g' := by
  obtain ⟨hd, rfl⟩ := hd
  unfold zR
  exact ⟨k.le, fun p e s m args below meth c H locs Q lsA C h1 h2 hR hl hS hF => lv_ldc2 C.1 C.2.1 C.2.2.2.1 (C.2.2.2.2.1 _ hc) hd (k.run C h1 h2 hR hl hS hF)⟩
theorem z_ldcw {idx : Nat} {v : Int32} (hd : zat y pc 3 pc2 (.ldc_w idx)) (hc : Cond.constant y.1.cls idx v ∈ zT) (k : zR G y E pc2 ls (.int v :: st) N u g r N' u' g') : zR G y E pc ls (st) N u g r N' u' g' := by
  obtain ⟨hd, rfl⟩ := hd
  unfold zR
  exact ⟨k.le, fun p e s m args below meth c H locs Q lsA C h1 h2 hR hl hS hF => lv_ldcw C.1 C.2.1 C.2.2.2.1 (C.2.2.2.2.1 _ hc) hd (k.run C h1 h2 hR hl hS hF)⟩
theorem z_iload_n {i : Fin 4} {x : Int32} (hd : zat y pc 1 pc2 (.iload_n i)) (hx : ls[(i : Nat)]? = some (some (.int x))) (k : zR G y E pc2 ls (.int x :: st) N u g r N' u' g') : zR G y E pc ls (st) N u g r N' u' g' := by
  obtain ⟨hd, rfl⟩ := hd
  unfold zR
  exact ⟨k.le, fun p e s m args below meth c H locs Q lsA C h1 h2 hR hl hS hF => lv_iload_n C.1 C.2.1 hd rfl (zLoc_at hl hx) (k.run C h1 h2 hR hl hS hF)⟩
theorem z_iload {i : Nat} {x : Int32} (hd : zat y pc 2 pc2 (.iload i)) (hx : ls[i]? = some (some (.int x))) (k : zR G y E pc2 ls (.int x :: st) N u g r N' u' g') : zR G y E pc ls (st) N u g r N' u' g' := by
  obtain ⟨hd, rfl⟩ := hd
  unfold zR
  exact ⟨k.le, fun p e s m args below meth c H locs Q lsA C h1 h2 hR hl hS hF => lv_iload C.1 C.2.1 hd (zLoc_at hl hx) (k.run C h1 h2 hR hl hS hF)⟩
theorem z_lload_n {i : Fin 4} {x : Int64} (hd : zat y pc 1 pc2 (.lload_n i)) (hx : ls[(i : Nat)]? = some (some (.long x))) (k : zR G y E pc2 ls (.long x :: st) N u g r N' u' g') : zR G y E pc ls (st) N u g r N' u' g' := by
  obtain ⟨hd, rfl⟩ := hd
  unfold zR
  exact ⟨k.le, fun p e s m args below meth c H locs Q lsA C h1 h2 hR hl hS hF => lv_lload_n C.1 C.2.1 hd rfl (zLoc_at hl hx) (k.run C h1 h2 hR hl hS hF)⟩
theorem z_lload {i : Nat} {x : Int64} (hd : zat y pc 2 pc2 (.lload i)) (hx : ls[i]? = some (some (.long x))) (k : zR G y E pc2 ls (.long x :: st) N u g r N' u' g') : zR G y E pc ls (st) N u g r N' u' g' := by
  obtain ⟨hd, rfl⟩ := hd
  unfold zR
  exact ⟨k.le, fun p e s m args below meth c H locs Q lsA C h1 h2 hR hl hS hF => lv_lload C.1 C.2.1 hd (zLoc_at hl hx) (k.run C h1 h2 hR hl hS hF)⟩
theorem z_aload_n {i : Fin 4} {x : Nat} (hd : zat y pc 1 pc2 (.aload_n i)) (hx : ls[(i : Nat)]? = some (some (.ref x))) (k : zR G y E pc2 ls (.ref x :: st) N u g r N' u' g') : zR G y E pc ls (st) N u g r N' u' g' := by
  obtain ⟨hd, rfl⟩ := hd
  unfold zR
  exact ⟨k.le, fun p e s m args below meth c H locs Q lsA C h1 h2 hR hl hS hF => lv_aload_n C.1 C.2.1 hd rfl (zLoc_at hl hx) (k.run C h1 h2 hR hl hS hF)⟩
theorem z_aload {i : Nat} {x : Nat} (hd : zat y pc 2 pc2 (.aload i)) (hx : ls[i]? = some (some (.ref x))) (k : zR G y E pc2 ls (.ref x :: st) N u g r N' u' g') : zR G y E pc ls (st) N u g r N' u' g' := by
  obtain ⟨hd, rfl⟩ := hd
  unfold zR
  exact ⟨k.le, fun p e s m args below meth c H locs Q lsA C h1 h2 hR hl hS hF => lv_aload C.1 C.2.1 hd (zLoc_at hl hx) (k.run C h1 h2 hR hl hS hF)⟩
theorem z_iadd {x v : Int32} (hd : zat y pc 1 pc2 (.iadd)) (k : zR G y E pc2 ls (.int (x + v) :: st) N u g r N' u' g') : zR G y E pc ls (.int v :: .int x :: st) N u g r N' u' g' := by
  obtain ⟨hd, rfl⟩ := hd
  unfold zR
  exact ⟨k.le, fun p e s m args below meth c H locs Q lsA C h1 h2 hR hl hS hF => lv_iadd C.1 C.2.1 hd (k.run C h1 h2 hR hl hS hF)⟩
theorem z_isub {x v : Int32} (hd : zat y pc 1 pc2 (.isub)) (k : zR G y E pc2 ls (.int (x - v) :: st) N u g r N' u' g') : zR G y E pc ls (.int v :: .int x :: st) N u g r N' u' g' := by
  obtain ⟨hd, rfl⟩ := hd
  unfold zR
  exact ⟨k.le, fun p e s m args below meth c H locs Q lsA C h1 h2 hR hl hS hF => lv_isub C.1 C.2.1 hd (k.run C h1 h2 hR hl hS hF)⟩
theorem z_imul {x v : Int32} (hd : zat y pc 1 pc2 (.imul)) (k : zR G y E pc2 ls (.int (x * v) :: st) N u g r N' u' g') : zR G y E pc ls (.int v :: .int x :: st) N u g r N' u' g' := by
  obtain ⟨hd, rfl⟩ := hd
  unfold zR
  exact ⟨k.le, fun p e s m args below meth c H locs Q lsA C h1 h2 hR hl hS hF => lv_imul C.1 C.2.1 hd (k.run C h1 h2 hR hl hS hF)⟩
theorem z_iand {x v : Int32} (hd : zat y pc 1 pc2 (.iand)) (k : zR G y E pc2 ls (.int (x &&& v) :: st) N u g r N' u' g') : zR G y E pc ls (.int v :: .int x :: st) N u g r N' u' g' := by
  obtain ⟨hd, rfl⟩ := hd
  unfold zR
  exact ⟨k.le, fun p e s m args below meth c H locs Q lsA C h1 h2 hR hl hS hF => lv_iand C.1 C.2.1 hd (k.run C h1 h2 hR hl hS hF)⟩
theorem z_ior {x v : Int32} (hd : zat y pc 1 pc2 (.ior)) (k : zR G y E pc2 ls (.int (x ||| v) :: st) N u g r N' u' g') : zR G y E pc ls (.int v :: .int x :: st) N u g r N' u' g' := by
  obtain ⟨hd, rfl⟩ := hd
  unfold zR
  exact ⟨k.le, fun p e s m args below meth c H locs Q lsA C h1 h2 hR hl hS hF => lv_ior C.1 C.2.1 hd (k.run C h1 h2 hR hl hS hF)⟩
theorem z_ishl {x v : Int32} (hd : zat y pc 1 pc2 (.ishl)) (k : zR G y E pc2 ls (.int (x <<< (v &&& 31)) :: st) N u g r N' u' g') : zR G y E pc ls (.int v :: .int x :: st) N u g r N' u' g' := by
  obtain ⟨hd, rfl⟩ := hd
  unfold zR
  exact ⟨k.le, fun p e s m args below meth c H locs Q lsA C h1 h2 hR hl hS hF => lv_ishl C.1 C.2.1 hd (k.run C h1 h2 hR hl hS hF)⟩
theorem z_ishr {x v : Int32} (hd : zat y pc 1 pc2 (.ishr)) (k : zR G y E pc2 ls (.int (x >>> (v &&& 31)) :: st) N u g r N' u' g') : zR G y E pc ls (.int v :: .int x :: st) N u g r N' u' g' := by
  obtain ⟨hd, rfl⟩ := hd
  unfold zR
  exact ⟨k.le, fun p e s m args below meth c H locs Q lsA C h1 h2 hR hl hS hF => lv_ishr C.1 C.2.1 hd (k.run C h1 h2 hR hl hS hF)⟩
theorem z_idiv {x v : Int32} (hd : zat y pc 1 pc2 (.idiv)) (hne : ¬ v = 0) (k : zR G y E pc2 ls (.int (x / v) :: st) N u g r N' u' g') : zR G y E pc ls (.int v :: .int x :: st) N u g r N' u' g' := by
  obtain ⟨hd, rfl⟩ := hd
  unfold zR
  exact ⟨k.le, fun p e s m args below meth c H locs Q lsA C h1 h2 hR hl hS hF => lv_idiv C.1 C.2.1 hd hne (k.run C h1 h2 hR hl hS hF)⟩
theorem z_irem {x v : Int32} (hd : zat y pc 1 pc2 (.irem)) (hne : ¬ v = 0) (k : zR G y E pc2 ls (.int (x - x / v * v) :: st) N u g r N' u' g') : zR G y E pc ls (.int v :: .int x :: st) N u g r N' u' g' := by
  obtain ⟨hd, rfl⟩ := hd
  unfold zR
  exact ⟨k.le, fun p e s m args below meth c H locs Q lsA C h1 h2 hR hl hS hF => lv_irem C.1 C.2.1 hd hne (k.run C h1 h2 hR hl hS hF)⟩
theorem z_ladd {x v : Int64} (hd : zat y pc 1 pc2 (.ladd)) (k : zR G y E pc2 ls (.long (x + v) :: st) N u g r N' u' g') : zR G y E pc ls (.long v :: .long x :: st) N u g r N' u' g' := by
  obtain ⟨hd, rfl⟩ := hd
  unfold zR
  exact ⟨k.le, fun p e s m args below meth c H locs Q lsA C h1 h2 hR hl hS hF => lv_ladd C.1 C.2.1 hd (k.run C h1 h2 hR hl hS hF)⟩
theorem z_lmul {x v : Int64} (hd : zat y pc 1 pc2 (.lmul)) (k : zR G y E pc2 ls (.long (x * v) :: st) N u g r N' u' g') : zR G y E pc ls (.long v :: .long x :: st) N u g r N' u' g' := by
  obtain ⟨hd, rfl⟩ := hd
  unfold zR
  exact ⟨k.le, fun p e s m args below meth c H locs Q lsA C h1 h2 hR hl hS hF => lv_lmul C.1 C.2.1 hd (k.run C h1 h2 hR hl hS hF)⟩
theorem z_land {x v : Int64} (hd : zat y pc 1 pc2 (.land)) (k : zR G y E pc2 ls (.long (x &&& v) :: st) N u g r N' u' g') : zR G y E pc ls (.long v :: .long x :: st) N u g r N' u' g' := by
  obtain ⟨hd, rfl⟩ := hd
  unfold zR
  exact ⟨k.le, fun p e s m args below meth c H locs Q lsA C h1 h2 hR hl hS hF => lv_land C.1 C.2.1 hd (k.run C h1 h2 hR hl hS hF)⟩
theorem z_lor {x v : Int64} (hd : zat y pc 1 pc2 (.lor)) (k : zR G y E pc2 ls (.long (x ||| v) :: st) N u g r N' u' g') : zR G y E pc ls (.long v :: .long x :: st) N u g r N' u' g' := by
  obtain ⟨hd, rfl⟩ := hd
  unfold zR
  exact ⟨k.le, fun p e s m args below meth c H locs Q lsA C h1 h2 hR hl hS hF => lv_lor C.1 C.2.1 hd (k.run C h1 h2 hR hl hS hF)⟩
theorem z_lrem {x v : Int64} (hd : zat y pc 1 pc2 (.lrem)) (hne : ¬ v = 0) (k : zR G y E pc2 ls (.long (x - x / v * v) :: st) N u g r N' u' g') : zR G y E pc ls (.long v :: .long x :: st) N u g r N' u' g' := by
  obtain ⟨hd, rfl⟩ := hd
  unfold zR
  exact ⟨k.le, fun p e s m args below meth c H locs Q lsA C h1 h2 hR hl hS hF => lv_lrem C.1 C.2.1 hd hne (k.run C h1 h2 hR hl hS hF)⟩
theorem z_lshl {x : Int64} {v : Int32} (hd : zat y pc 1 pc2 (.lshl)) (k : zR G y E pc2 ls (.long (x <<< (v.toInt64 &&& 63)) :: st) N u g r N' u' g') : zR G y E pc ls (.int v :: .long x :: st) N u g r N' u' g' := by
  obtain ⟨hd, rfl⟩ := hd
  unfold zR
  exact ⟨k.le, fun p e s m args below meth c H locs Q lsA C h1 h2 hR hl hS hF => lv_lshl C.1 C.2.1 hd rfl (k.run C h1 h2 hR hl hS hF)⟩
theorem z_lshr {x : Int64} {v : Int32} (hd : zat y pc 1 pc2 (.lshr)) (k : zR G y E pc2 ls (.long (x >>> (v.toInt64 &&& 63)) :: st) N u g r N' u' g') : zR G y E pc ls (.int v :: .long x :: st) N u g r N' u' g' := by
  obtain ⟨hd, rfl⟩ := hd
  unfold zR
  exact ⟨k.le, fun p e s m args below meth c H locs Q lsA C h1 h2 hR hl hS hF => lv_lshr C.1 C.2.1 hd rfl (k.run C h1 h2 hR hl hS hF)⟩
theorem z_i2l {x : Int32} (hd : zat y pc 1 pc2 (.i2l)) (k : zR G y E pc2 ls (.long x.toInt64 :: st) N u g r N' u' g') : zR G y E pc ls (.int x :: st) N u g r N' u' g' := by
  obtain ⟨hd, rfl⟩ := hd
  unfold zR
  exact ⟨k.le, fun p e s m args below meth c H locs Q lsA C h1 h2 hR hl hS hF => lv_i2l C.1 C.2.1 hd rfl (k.run C h1 h2 hR hl hS hF)⟩
theorem z_l2i {x : Int64} (hd : zat y pc 1 pc2 (.l2i)) (k : zR G y E pc2 ls (.int x.toInt32 :: st) N u g r N' u' g') : zR G y E pc ls (.long x :: st) N u g r N' u' g' := by
  obtain ⟨hd, rfl⟩ := hd
  unfold zR
  exact ⟨k.le, fun p e s m args below meth c H locs Q lsA C h1 h2 hR hl hS hF => lv_l2i C.1 C.2.1 hd rfl (k.run C h1 h2 hR hl hS hF)⟩
theorem z_lcmp {x v : Int64} (hd : zat y pc 1 pc2 (.lcmp)) (k : zR G y E pc2 ls (.int (lg_cmp x v) :: st) N u g r N' u' g') : zR G y E pc ls (.long v :: .long x :: st) N u g r N' u' g' := by
  obtain ⟨hd, rfl⟩ := hd
  unfold zR
  exact ⟨k.le, fun p e s m args below meth c H locs Q lsA C h1 h2 hR hl hS hF => W.lcmp C.1 C.2.1 hd (k.run C h1 h2 hR hl hS hF)⟩
theorem z_dup {a : Value} (hd : zat y pc 1 pc2 (.dup)) (ha : a.category = 1) (k : zR G y E pc2 ls (a :: a :: st) N u g r N' u' g') : zR G y E pc ls (a :: st) N u g r N' u' g' := by
  obtain ⟨hd, rfl⟩ := hd
  unfold zR
  exact ⟨k.le, fun p e s m args below meth c H locs Q lsA C h1 h2 hR hl hS hF => lv_dup C.1 C.2.1 hd ((zv_cat G a).trans ha) (k.run C h1 h2 hR hl hS hF)⟩
theorem z_pop {a : Value} (hd : zat y pc 1 pc2 (.pop)) (ha : a.category = 1) (k : zR G y E pc2 ls (st) N u g r N' u' g') : zR G y E pc ls (a :: st) N u g r N' u' g' := by
  obtain ⟨hd, rfl⟩ := hd
  unfold zR
  exact ⟨k.le, fun p e s m args below meth c H locs Q lsA C h1 h2 hR hl hS hF => lv_pop C.1 C.2.1 hd ((zv_cat G a).trans ha) (k.run C h1 h2 hR hl hS hF)⟩
theorem z_dup2 {a b : Value} (hd : zat y pc 1 pc2 (.dup2)) (ha : a.category = 1) (hb : b.category = 1) (k : zR G y E pc2 ls (a :: b :: a :: b :: st) N u g r N' u' g') : zR G y E pc ls (a :: b :: st) N u g r N' u' g' := by
  obtain ⟨hd, rfl⟩ := hd
  unfold zR
  exact ⟨k.le, fun p e s m args below meth c H locs Q lsA C h1 h2 hR hl hS hF => lv_dup2_11 C.1 C.2.1 hd ((zv_cat G a).trans ha) ((zv_cat G b).trans hb) (k.run C h1 h2 hR hl hS hF)⟩
theorem z_istore_n {i : Fin 4} {x : Int32} (hd : zat y pc 1 pc2 (.istore_n i)) (hok : zok ls (i : Nat) = true) (hn : (i : Nat) < y.2.2.1) (k : zR G y E pc2 (ls.set (i : Nat) (some (.int x))) st N u g r N' u' g') : zR G y E pc ls (.int x :: st) N u g r N' u' g' := by
  obtain ⟨hd, rfl⟩ := hd
  unfold zR
  exact ⟨k.le, fun p e s m args below meth c H locs Q lsA C h1 h2 hR hl hS hF => lv_istore_n (lv := zAs G ls) C.1 C.2.1 hd rfl hl hn rfl (fun ls2 hl2 => k.run C h1 h2 hR (zLoc_st1 hok hl2) hS hF)⟩
theorem z_istore {i : Nat} {x : Int32} (hd : zat y pc 2 pc2 (.istore i)) (hok : zok ls i = true) (hn : i < y.2.2.1) (k : zR G y E pc2 (ls.set i (some (.int x))) st N u g r N' u' g') : zR G y E pc ls (.int x :: st) N u g r N' u' g' := by
  obtain ⟨hd, rfl⟩ := hd
  unfold zR
  exact ⟨k.le, fun p e s m args below meth c H locs Q lsA C h1 h2 hR hl hS hF => lv_istore (lv := zAs G ls) C.1 C.2.1 hd hl hn rfl (fun ls2 hl2 => k.run C h1 h2 hR (zLoc_st1 hok hl2) hS hF)⟩
theorem z_lstore_n {i : Fin 4} {x : Int64} (hd : zat y pc 1 pc2 (.lstore_n i)) (hok : zok ls (i : Nat) = true) (hn : (i : Nat) + 1 < y.2.2.1) (k : zR G y E pc2 ((ls.set (i : Nat) (some (.long x))).set ((i : Nat) + 1) none) st N u g r N' u' g') : zR G y E pc ls (.long x :: st) N u g r N' u' g' := by
  obtain ⟨hd, rfl⟩ := hd
  unfold zR
  exact ⟨k.le, fun p e s m args below meth c H locs Q lsA C h1 h2 hR hl hS hF => lv_lstore_n (lv := zAs G ls) C.1 C.2.1 hd rfl hl hn rfl (fun ls2 hl2 => k.run C h1 h2 hR (zLoc_st2 hok hl2) hS hF)⟩
theorem z_lstore {i : Nat} {x : Int64} (hd : zat y pc 2 pc2 (.lstore i)) (hok : zok ls i = true) (hn : i + 1 < y.2.2.1) (k : zR G y E pc2 ((ls.set i (some (.long x))).set (i + 1) none) st N u g r N' u' g') : zR G y E pc ls (.long x :: st) N u g r N' u' g' := by
  obtain ⟨hd, rfl⟩ := hd
  unfold zR
  exact ⟨k.le, fun p e s m args below meth c H locs Q lsA C h1 h2 hR hl hS hF => lv_lstore (lv := zAs G ls) C.1 C.2.1 hd hl hn rfl (fun ls2 hl2 => k.run C h1 h2 hR (zLoc_st2 hok hl2) hS hF)⟩
theorem z_astore_n {i : Fin 4} {x : Nat} (hd : zat y pc 1 pc2 (.astore_n i)) (hok : zok ls (i : Nat) = true) (hn : (i : Nat) < y.2.2.1) (k : zR G y E pc2 (ls.set (i : Nat) (some (.ref x))) st N u g r N' u' g') : zR G y E pc ls (.ref x :: st) N u g r N' u' g' := by
  obtain ⟨hd, rfl⟩ := hd
  unfold zR
  exact ⟨k.le, fun p e s m args below meth c H locs Q lsA C h1 h2 hR hl hS hF => lv_astore_n (lv := zAs G ls) C.1 C.2.1 hd rfl hl hn rfl (fun ls2 hl2 => k.run C h1 h2 hR (zLoc_st1 (v := .ref x) hok hl2) hS hF)⟩
theorem z_astore {i : Nat} {x : Nat} (hd : zat y pc 2 pc2 (.astore i)) (hok : zok ls i = true) (hn : i < y.2.2.1) (k : zR G y E pc2 (ls.set i (some (.ref x))) st N u g r N' u' g') : zR G y E pc ls (.ref x :: st) N u g r N' u' g' := by
  obtain ⟨hd, rfl⟩ := hd
  unfold zR
  exact ⟨k.le, fun p e s m args below meth c H locs Q lsA C h1 h2 hR hl hS hF => lv_astore (lv := zAs G ls) C.1 C.2.1 hd hl hn rfl (fun ls2 hl2 => k.run C h1 h2 hR (zLoc_st1 (v := .ref x) hok hl2) hS hF)⟩
theorem z_iinc {i : Nat} {n : Int} {x v : Int32} (hd : zat y pc 3 pc2 (.iinc i n)) (hx : ls[i]? = some (some (.int x))) (hv : x + Int32.ofInt n = v) (hok : zok ls i = true) (hn : i < y.2.2.1) (k : zR G y E pc2 (ls.set i (some (.int v))) st N u g r N' u' g') : zR G y E pc ls st N u g r N' u' g' := by
  obtain ⟨hd, rfl⟩ := hd
  unfold zR
  refine ⟨k.le, fun p e s m args below meth c H locs Q lsA C h1 h2 hR hl hS hF => ?_⟩
  obtain ⟨j, hj⟩ := List.getElem?_of_mem (zAs_mem.mpr ⟨i, _, hx, rfl⟩ : (i, zv G (.int x)) ∈ zAs G ls)
  exact lv_iinc (lv := zAs G ls) C.1 C.2.1 hd hl hj hv hn rfl (fun ls2 hl2 => k.run C h1 h2 hR (zLoc_st1 (v := .int v) hok hl2) hS hF)
theorem z_icmp_eq {x v : Int32} {tgt : Nat} (hd : zbr y pc pc2 tgt (.if_icmp .eq)) (kt : x = v → zR G y E tgt ls st N u g r N' u' g') (kf : ¬ x = v → zR G y E pc2 ls st N u g r N' u' g') : zR G y E pc ls (.int v :: .int x :: st) N u g r N' u' g' := by
  obtain ⟨off, hd, ht, rfl⟩ := hd
  unfold zR
  refine ⟨?_, fun p e s m args below meth c H locs Q lsA C h1 h2 hR hl hS hF => lv_icmp_eq C.1 C.2.1 hd ht (fun q => (kt q).run C h1 h2 hR hl hS hF) (fun q => (kf q).run C h1 h2 hR hl hS hF)⟩
  by_cases q : x = v
  · exact (kt q).le
  · exact (kf q).le
theorem z_icmp_ne {x v : Int32} {tgt : Nat} (hd : zbr y pc pc2 tgt (.if_icmp .ne)) (kt : ¬ x = v → zR G y E tgt ls st N u g r N' u' g') (kf : x = v → zR G y E pc2 ls st N u g r N' u' g') : zR G y E pc ls (.int v :: .int x :: st) N u g r N' u' g' := by
  obtain ⟨off, hd, ht, rfl⟩ := hd
  unfold zR
  refine ⟨?_, fun p e s m args below meth c H locs Q lsA C h1 h2 hR hl hS hF => lv_icmp_ne C.1 C.2.1 hd ht (fun q => (kt q).run C h1 h2 hR hl hS hF) (fun q => (kf q).run C h1 h2 hR hl hS hF)⟩
  by_cases q : x = v
  · exact (kf q).le
  · exact (kt q).le
theorem z_icmp_lt {x v : Int32} {tgt : Nat} (hd : zbr y pc pc2 tgt (.if_icmp .lt)) (kt : x < v → zR G y E tgt ls st N u g r N' u' g') (kf : ¬ x < v → zR G y E pc2 ls st N u g r N' u' g') : zR G y E pc ls (.int v :: .int x :: st) N u g r N' u' g' := by
  obtain ⟨off, hd, ht, rfl⟩ := hd
  unfold zR
  refine ⟨?_, fun p e s m args below meth c H locs Q lsA C h1 h2 hR hl hS hF => lv_icmp_lt C.1 C.2.1 hd ht (fun q => (kt q).run C h1 h2 hR hl hS hF) (fun q => (kf q).run C h1 h2 hR hl hS hF)⟩
  by_cases q : x < v
  · exact (kt q).le
  · exact (kf q).le
theorem z_icmp_ge {x v : Int32} {tgt : Nat} (hd : zbr y pc pc2 tgt (.if_icmp .ge)) (kt : v ≤ x → zR G y E tgt ls st N u g r N' u' g') (kf : ¬ v ≤ x → zR G y E pc2 ls st N u g r N' u' g') : zR G y E pc ls (.int v :: .int x :: st) N u g r N' u' g' := by
  obtain ⟨off, hd, ht, rfl⟩ := hd
  unfold zR
  refine ⟨?_, fun p e s m args below meth c H locs Q lsA C h1 h2 hR hl hS hF => lv_icmp_ge C.1 C.2.1 hd ht (fun q => (kt q).run C h1 h2 hR hl hS hF) (fun q => (kf q).run C h1 h2 hR hl hS hF)⟩
  by_cases q : v ≤ x
  · exact (kt q).le
  · exact (kf q).le
theorem z_icmp_gt {x v : Int32} {tgt : Nat} (hd : zbr y pc pc2 tgt (.if_icmp .gt)) (kt : v < x → zR G y E tgt ls st N u g r N' u' g') (kf : ¬ v < x → zR G y E pc2 ls st N u g r N' u' g') : zR G y E pc ls (.int v :: .int x :: st) N u g r N' u' g' := by
  obtain ⟨off, hd, ht, rfl⟩ := hd
  unfold zR
  refine ⟨?_, fun p e s m args below meth c H locs Q lsA C h1 h2 hR hl hS hF => lv_icmp_gt C.1 C.2.1 hd ht (fun q => (kt q).run C h1 h2 hR hl hS hF) (fun q => (kf q).run C h1 h2 hR hl hS hF)⟩
  by_cases q : v < x
  · exact (kt q).le
  · exact (kf q).le
theorem z_icmp_le {x v : Int32} {tgt : Nat} (hd : zbr y pc pc2 tgt (.if_icmp .le)) (kt : x ≤ v → zR G y E tgt ls st N u g r N' u' g') (kf : ¬ x ≤ v → zR G y E pc2 ls st N u g r N' u' g') : zR G y E pc ls (.int v :: .int x :: st) N u g r N' u' g' := by
  obtain ⟨off, hd, ht, rfl⟩ := hd
  unfold zR
  refine ⟨?_, fun p e s m args below meth c H locs Q lsA C h1 h2 hR hl hS hF => lv_icmp_le C.1 C.2.1 hd ht (fun q => (kt q).run C h1 h2 hR hl hS hF) (fun q => (kf q).run C h1 h2 hR hl hS hF)⟩
  by_cases q : x ≤ v
  · exact (kt q).le
  · exact (kf q).le
theorem z_if_eq {x : Int32} {tgt : Nat} (hd : zbr y pc pc2 tgt (.ifCond .eq)) (kt : x = 0 → zR G y E tgt ls st N u g r N' u' g') (kf : ¬ x = 0 → zR G y E pc2 ls st N u g r N' u' g') : zR G y E pc ls (.int x :: st) N u g r N' u' g' := by
  obtain ⟨off, hd, ht, rfl⟩ := hd
  unfold zR
  refine ⟨?_, fun p e s m args below meth c H locs Q lsA C h1 h2 hR hl hS hF => lv_if_eq C.1 C.2.1 hd ht (fun q => (kt q).run C h1 h2 hR hl hS hF) (fun q => (kf q).run C h1 h2 hR hl hS hF)⟩
  by_cases q : x = 0
  · exact (kt q).le
  · exact (kf q).le
theorem z_if_ne {x : Int32} {tgt : Nat} (hd : zbr y pc pc2 tgt (.ifCond .ne)) (kt : ¬ x = 0 → zR G y E tgt ls st N u g r N' u' g') (kf : x = 0 → zR G y E pc2 ls st N u g r N' u' g') : zR G y E pc ls (.int x :: st) N u g r N' u' g' := by
  obtain ⟨off, hd, ht, rfl⟩ := hd
  unfold zR
  refine ⟨?_, fun p e s m args below meth c H locs Q lsA C h1 h2 hR hl hS hF => lv_if_ne C.1 C.2.1 hd ht (fun q => (kt q).run C h1 h2 hR hl hS hF) (fun q => (kf q).run C h1 h2 hR hl hS hF)⟩
  by_cases q : x = 0
  · exact (kf q).le
  · exact (kt q).le
theorem z_if_lt {x : Int32} {tgt : Nat} (hd : zbr y pc pc2 tgt (.ifCond .lt)) (kt : x < 0 → zR G y E tgt ls st N u g r N' u' g') (kf : ¬ x < 0 → zR G y E pc2 ls st N u g r N' u' g') : zR G y E pc ls (.int x :: st) N u g r N' u' g' := by
  obtain ⟨off, hd, ht, rfl⟩ := hd
  unfold zR
  refine ⟨?_, fun p e s m args below meth c H locs Q lsA C h1 h2 hR hl hS hF => lv_if_lt C.1 C.2.1 hd ht (fun q => (kt q).run C h1 h2 hR hl hS hF) (fun q => (kf q).run C h1 h2 hR hl hS hF)⟩
  by_cases q : x < 0
  · exact (kt q).le
  · exact (kf q).le
theorem z_if_ge {x : Int32} {tgt : Nat} (hd : zbr y pc pc2 tgt (.ifCond .ge)) (kt : 0 ≤ x → zR G y E tgt ls st N u g r N' u' g') (kf : ¬ 0 ≤ x → zR G y E pc2 ls st N u g r N' u' g') : zR G y E pc ls (.int x :: st) N u g r N' u' g' := by
  obtain ⟨off, hd, ht, rfl⟩ := hd
  unfold zR
  refine ⟨?_, fun p e s m args below meth c H locs Q lsA C h1 h2 hR hl hS hF => lv_if_ge C.1 C.2.1 hd ht (fun q => (kt q).run C h1 h2 hR hl hS hF) (fun q => (kf q).run C h1 h2 hR hl hS hF)⟩
  by_cases q : 0 ≤ x
  · exact (kt q).le
  · exact (kf q).le
theorem z_if_gt {x : Int32} {tgt : Nat} (hd : zbr y pc pc2 tgt (.ifCond .gt)) (kt : 0 < x → zR G y E tgt ls st N u g r N' u' g') (kf : ¬ 0 < x → zR G y E pc2 ls st N u g r N' u' g') : zR G y E pc ls (.int x :: st) N u g r N' u' g' := by
  obtain ⟨off, hd, ht, rfl⟩ := hd
  unfold zR
  refine ⟨?_, fun p e s m args below meth c H locs Q lsA C h1 h2 hR hl hS hF => lv_if_gt C.1 C.2.1 hd ht (fun q => (kt q).run C h1 h2 hR hl hS hF) (fun q => (kf q).run C h1 h2 hR hl hS hF)⟩
  by_cases q : 0 < x
  · exact (kt q).le
  · exact (kf q).le
theorem z_if_le {x : Int32} {tgt : Nat} (hd : zbr y pc pc2 tgt (.ifCond .le)) (kt : x ≤ 0 → zR G y E tgt ls st N u g r N' u' g') (kf : ¬ x ≤ 0 → zR G y E pc2 ls st N u g r N' u' g') : zR G y E pc ls (.int x :: st) N u g r N' u' g' := by
  obtain ⟨off, hd, ht, rfl⟩ := hd
  unfold zR
  refine ⟨?_, fun p e s m args below meth c H locs Q lsA C h1 h2 hR hl hS hF => lv_if_le C.1 C.2.1 hd ht (fun q => (kt q).run C h1 h2 hR hl hS hF) (fun q => (kf q).run C h1 h2 hR hl hS hF)⟩
  by_cases q : x ≤ 0
  · exact (kt q).le
  · exact (kf q).le
theorem z_goto {tgt : Nat} (hd : zbr y pc pc2 tgt .goto) (k : zR G y E tgt ls st N u g r N' u' g') : zR G y E pc ls st N u g r N' u' g' := by
  obtain ⟨off, hd, ht, rfl⟩ := hd
  unfold zR
  exact ⟨k.le, fun p e s m args below meth c H locs Q lsA C h1 h2 hR hl hS hF => lv_goto C.1 C.2.1 hd ht (k.run C h1 h2 hR hl hS hF)⟩
theorem z_tabIn {n : Nat} {dflt lo hi off : Int} {offs : Array Int} {x : Int32} {tgt : Nat} (hd : zat y pc n pc2 (.tableswitch dflt lo hi offs)) (a1 : ¬ x.toInt < lo) (a2 : ¬ hi < x.toInt) (ho : offs[(x.toInt - lo).toNat]? = some off) (ht : (pc : Int) + off = (tgt : Int)) (k : zR G y E tgt ls st N u g r N' u' g') : zR G y E pc ls (.int x :: st) N u g r N' u' g' := by
  obtain ⟨hd, -⟩ := hd
  unfold zR
  exact ⟨k.le, fun p e s m args below meth c H locs Q lsA C h1 h2 hR hl hS hF => lv_tableIn C.1 C.2.1 hd a1 a2 ho ht (k.run C h1 h2 hR hl hS hF)⟩
theorem z_tabOut {n : Nat} {dflt lo hi : Int} {offs : Array Int} {x : Int32} {tgt : Nat} (hd : zat y pc n pc2 (.tableswitch dflt lo hi offs)) (a1 : x.toInt < lo ∨ hi < x.toInt) (ht : (pc : Int) + dflt = (tgt : Int)) (k : zR G y E tgt ls st N u g r N' u' g') : zR G y E pc ls (.int x :: st) N u g r N' u' g' := by
  obtain ⟨hd, -⟩ := hd
  unfold zR
  exact ⟨k.le, fun p e s m args below meth c H locs Q lsA C h1 h2 hR hl hS hF => lv_tableOut C.1 C.2.1 hd a1 ht (k.run C h1 h2 hR hl hS hF)⟩
theorem z_lookup {n : Nat} {dflt off : Int} {ps : Array (Int × Int)} {x : Int32} {tgt : Nat} (hd : zat y pc n pc2 (.lookupswitch dflt ps)) (hp : (ps.toList.zip (ps.toList.drop 1)).all (fun (a, next) => a.1 < next.1) = true) (ho : Op.lookupswitch.offset ps.toList dflt x.toInt = off) (ht : (pc : Int) + off = (tgt : Int)) (k : zR G y E tgt ls st N u g r N' u' g') : zR G y E pc ls (.int x :: st) N u g r N' u' g' := by
  obtain ⟨hd, -⟩ := hd
  unfold zR
  exact ⟨k.le, fun p e s m args below meth c H locs Q lsA C h1 h2 hR hl hS hF => lv_lookup C.1 C.2.1 hd hp ho ht (k.run C h1 h2 hR hl hS hF)⟩
theorem z_return (hd : zat y pc 1 pc2 .return_) (hg : g = g') : zR G y E pc ls [] N u g none N u g' := by
  subst hg
  obtain ⟨hd, -⟩ := hd
  unfold zR
  exact ⟨⟨Nat.le_refl _, Nat.le_refl _⟩, fun p e s m args below meth c H locs Q lsA C h1 h2 hR hl hS hF => hF pc lsA H locs ⟨fun _ => hd, fun x q => (by cases q), fun x q => (by cases q)⟩ hR hS⟩
theorem z_ireturn {x v : Int32} (hd : zat y pc 1 pc2 .ireturn) (hv : x = v) (hg : g = g') : zR G y E pc ls [.int x] N u g (some (.int v)) N u g' := by
  subst hg
  subst hv
  obtain ⟨hd, -⟩ := hd
  unfold zR
  exact ⟨⟨Nat.le_refl _, Nat.le_refl _⟩, fun p e s m args below meth c H locs Q lsA C h1 h2 hR hl hS hF => hF pc lsA H locs ⟨fun q => (by cases q), fun _ _ => hd, fun x q => (by cases q)⟩ hR hS⟩
theorem z_lreturn {x v : Int64} (hd : zat y pc 1 pc2 .lreturn) (hv : x = v) (hg : g = g') : zR G y E pc ls [.long x] N u g (some (.long v)) N u g' := by
  subst hg
  subst hv
  obtain ⟨hd, -⟩ := hd
  unfold zR
  exact ⟨⟨Nat.le_refl _, Nat.le_refl _⟩, fun p e s m args below meth c H locs Q lsA C h1 h2 hR hl hS hF => hF pc lsA H locs ⟨fun q => (by cases q), fun x q => (by cases q), fun _ _ => hd⟩ hR hS⟩
/-- fewer named values -/
theorem z_weak {ls2 : List (Option Value)} (h : ∀ (i : Nat) (v : Value), ls2[i]? = some (some v) → ls[i]? = some (some v)) (k : zR G y E pc ls2 st N u g r N' u' g') : zR G y E pc ls st N u g r N' u' g' := by
  unfold zR
  exact ⟨k.le, fun p e s m args below meth c H locs Q lsA C h1 h2 hR hl hS hF => k.run C h1 h2 hR (zLoc_of hl (fun i v hv => zAs_mem.mpr ⟨i, v, h i v hv, rfl⟩)) hS hF⟩
theorem z_eq {ls2 : List (Option Value)} {st2 : List Value} {g2 : zh} (h1 : ls = ls2) (h2 : st = st2) (h3 : g = g2) (k : zR G y E pc ls2 st2 N u g2 r N' u' g') : zR G y E pc ls st N u g r N' u' g' := by
  subst h1
  subst h2
  subst h3
  exact k
theorem z_getf {idx ci kf a : Nat} {fin : Bool} {ty : FieldType} {fs : List Value} {v : Value} (hd : zat y pc 3 pc2 (.getfield idx)) (hf : zfl y.1.cls idx ci kf fin ty) (ha : g a = zO ci fs) (hv : fs[kf]? = some v) (hk1 : a ≠ 1000) (k : zR G y E pc2 ls (v :: st) N u g r N' u' g') : zR G y E pc ls (.ref a :: st) N u g r N' u' g' := by
  obtain ⟨hd, rfl⟩ := hd
  obtain ⟨C0, T0, n0, hc, hkn, hT, -, -, hlk⟩ := hf
  unfold zR
  refine ⟨k.le, fun p e s m args below meth c H locs Q lsA C h1 h2 hR hl hS hF => ?_⟩
  have he := hR.get ha (zO_nd hc)
  have e1 : zv G (.ref a) = .ref (zbase G + a) := by simp [zv, hk1]
  show W _ _ _ _ _ _ _ _ _ _ _ _ _ _ _ (F0 m pc lsA (zv G (.ref a) :: st.map (zv G)))
  rw [e1]
  refine va_get (v := zv G v) C.1 C.2.1 C.2.2.2.2.1 (zcls_in _ _ hc) C.2.2.2.1 C.2.2.2.2.2.1 hR.1 a he hc kf hkn (C.2.2.2.2.1 _ hlk) (fun x q => by rw [hT] at q; exact q) ?_ hd (k.run C h1 h2 hR hl hS hF)
  rw [List.getElem?_map, hv]
  rfl
theorem z_putf {idx ci kf a : Nat} {ty : FieldType} {fs : List Value} {v : Value} (hd : zat y pc 3 pc2 (.putfield idx)) (hf : zfl y.1.cls idx ci kf false ty) (ha : g a = zO ci fs) (hn : narrow ty (zv G v) = zv G v) (hfit : fits ty (zv G v) = true) (hkl : kf < fs.length) (hk1 : a ≠ 1000) (k : zR G y E pc2 ls st N u (zup g a (zO ci (fs.set kf v))) r N' u' g') : zR G y E pc ls (v :: .ref a :: st) N u g r N' u' g' := by
  obtain ⟨hd, rfl⟩ := hd
  obtain ⟨C0, T0, n0, hc, hkn, hT, hfin, hty, hlk⟩ := hf
  obtain ⟨ty0, hty0, hnm⟩ := zcls_ty _ _ hc
  unfold zR
  refine ⟨k.le, fun p e s m args below meth c H locs Q lsA C h1 h2 hR hl hS hF => ?_⟩
  have he := hR.get ha (zO_nd hc)
  have e1 : zv G (.ref a) = .ref (zbase G + a) := by simp [zv, hk1]
  show W _ _ _ _ _ _ _ _ _ _ _ _ _ _ _ (F0 m pc lsA (zv G v :: zv G (.ref a) :: st.map (zv G)))
  rw [e1]
  have hts := C.2.2.2.2.1
  have hK := C.2.2.2.2.2.1
  have hap := va_apart (own := y.1.cls) hts (zcls_in _ _ hc) ty0 hty0 hnm hK hc
  obtain ⟨rr, g1, cell, q1, q2, q3, q4⟩ := hR.1 a _ he
  have hr : rr = (C0, T0, n0) := Option.some.inj (g1.symm.trans hc)
  subst hr
  obtain ⟨hSl, hfc, kC, hkC, hkind⟩ := hK.1 ci _ hc
  obtain ⟨cf, kff, fi, f, hi, hsl⟩ := hSl kf hkn
  have hlay := hts _ (zcls_in _ _ hc _ (u_in_lay hkn))
  unfold u_lay at hlay
  rw [if_neg (by rw [hfin]; decide)] at hlay
  have hst := (u_facts hfc hkC (u_lays hts (zcls_in _ _ hc) hkn) hi).1
  have h6 := u_store hfc hkC hkind hlay hi hty hn hfit
  refine W.putK C.1 C.2.1 (f := f) ⟨C.2.2.2.1, hts _ hlk, ⟨_, _, _, (by rw [hT] at hi; exact hi)⟩, hst⟩ (by rw [q2]; exact h6) q1 q3 (by rw [hsl]; exact k2_hasslot (q4 kf hkn)) rfl rfl hd fun H' e1 e2 e3 => ?_
  rw [hsl] at e1 ⊢
  refine k.run C h1 h2 (hR.put ha (zO_nd hc) (c := zO ci (fs.set kf v)) (hR.1.set zW_D he ⟨_, hc, t_OB.to (V := updV (vp_V (fs.map (zv G))) kf (zv G v)) ⟨_, e1, q2, q3, t_set q4 hap hkn (zv G v)⟩ (fun j _ => ?_)⟩ e3) (fun _ => e2)) hl (hS.put e2 e3 (Nat.le_add_right _ _)) hF
  rw [vp_updV_set (by simpa using hkl) (zv G v) j, List.map_set]
theorem z_putF {idx ci kf a : Nat} {ty : FieldType} {fs : List Value} {v : Value} (hd : zat y pc 3 pc2 (.putfield idx)) (hf : zfl y.1.cls idx ci kf true ty) (hy : y.1.name = "<init>") (hci : ∀ q, zcls[ci]? = some q → q.1 = y.1.cls) (ha : g a = zO ci fs) (hn : narrow ty (zv G v) = zv G v) (hfit : fits ty (zv G v) = true) (hkl : kf < fs.length) (hk1 : a ≠ 1000) (k : zR G y E pc2 ls st N u (zup g a (zO ci (fs.set kf v))) r N' u' g') : zR G y E pc ls (v :: .ref a :: st) N u g r N' u' g' := by
  obtain ⟨hd, rfl⟩ := hd
  obtain ⟨C0, T0, n0, hc, hkn, hT, hfin, hty, hlk⟩ := hf
  obtain ⟨ty0, hty0, hnm⟩ := zcls_ty _ _ hc
  have hC0 : C0 = y.1.cls := hci _ hc
  unfold zR
  refine ⟨k.le, fun p e s m args below meth c H locs Q lsA C h1 h2 hR hl hS hF => ?_⟩
  have he := hR.get ha (zO_nd hc)
  have e1 : zv G (.ref a) = .ref (zbase G + a) := by simp [zv, hk1]
  show W _ _ _ _ _ _ _ _ _ _ _ _ _ _ _ (F0 m pc lsA (zv G v :: zv G (.ref a) :: st.map (zv G)))
  rw [e1]
  have hts := C.2.2.2.2.1
  have hK := C.2.2.2.2.2.1
  have hap := va_apart (own := y.1.cls) hts (zcls_in _ _ hc) ty0 hty0 hnm hK hc
  obtain ⟨rr, g1, cell, q1, q2, q3, q4⟩ := hR.1 a _ he
  have hr : rr = (C0, T0, n0) := Option.some.inj (g1.symm.trans hc)
  subst hr
  obtain ⟨hSl, hfc, kC, hkC, hkind⟩ := hK.1 ci _ hc
  obtain ⟨cf, kff, fi, f, hi, hsl⟩ := hSl kf hkn
  have hlay := hts _ (zcls_in _ _ hc _ (u_in_lay hkn))
  unfold u_lay at hlay
  rw [if_pos hfin] at hlay
  have hst := (u_facts hfc hkC (u_lays hts (zcls_in _ _ hc) hkn) hi).1
  have hcf : m.cls = cf := by
    obtain ⟨_, _, c', _, _, _, -, -, hf', -, -, -, hown2, -⟩ := Cond.laysFinal_spec hlay
    have e1 : c' = cf := by have := hi.symm.trans hf'; simp at this; exact this.1.symm
    rw [hT, hC0] at hown2
    rw [← e1]; exact Option.some.inj (C.2.2.2.1.symm.trans hown2)
  have h6 := u_fits hfc hkC hkind (Or.inr hlay) hi hty hn hfit
  refine W.putFinK C.1 C.2.1 C.2.2.2.1 (hts _ hlk) (by rw [hT] at hi; exact hi) hst hcf (C.2.2.2.2.2.2.2.1 hy) (by rw [q2]; exact h6) q1 q3 (by rw [hsl]; exact k2_hasslot (q4 kf hkn)) rfl rfl hd fun H' e1 e2 e3 => ?_
  rw [hsl] at e1 ⊢
  refine k.run C h1 h2 (hR.put ha (zO_nd hc) (c := zO ci (fs.set kf v)) (hR.1.set zW_D he ⟨_, hc, t_OB.to (V := updV (vp_V (fs.map (zv G))) kf (zv G v)) ⟨_, e1, q2, q3, t_set q4 hap hkn (zv G v)⟩ (fun j _ => ?_)⟩ e3) (fun _ => e2)) hl (hS.put e2 e3 (Nat.le_add_right _ _)) hF
  rw [vp_updV_set (by simpa using hkl) (zv G v) j, List.map_set]
theorem zref {a : Nat} (h : a ≠ 1000) : zv G (.ref a) = .ref (zbase G + a) := by simp [zv, h]
theorem z_iaload {a n j : Nat} {f : Nat → Int32} {i : Int32} (hd : zat y pc 1 pc2 .iaload) (ha : g a = zI n f) (hi : i = nI j) (hj : j < n) (hn : n < 2 ^ 31) (hk1 : a ≠ 1000) (k : zR G y E pc2 ls (.int (f j) :: st) N u g r N' u' g') : zR G y E pc ls (.int i :: .ref a :: st) N u g r N' u' g' := by
  obtain ⟨hd, rfl⟩ := hd
  subst hi
  unfold zR
  refine ⟨k.le, fun p e s m args below meth c H locs Q lsA C h1 h2 hR hl hS hF => ?_⟩
  have he := hR.get ha (by simp)
  show W _ _ _ _ _ _ _ _ _ _ _ _ _ _ _ (F0 m pc lsA (.int (nI j) :: zv G (.ref a) :: st.map (zv G)))
  rw [zref hk1]
  refine va_iald C.1 C.2.1 C.2.2.2.2.2.1 hR.1 a 0 he rfl (vp_in_nI hj hn) hd ?_
  rw [nI_clamp (by omega)]
  exact k.run C h1 h2 hR hl hS hF
theorem z_laload {a n j : Nat} {f : Nat → Int64} {i : Int32} (hd : zat y pc 1 pc2 .laload) (ha : g a = zJ n f) (hi : i = nI j) (hj : j < n) (hn : n < 2 ^ 31) (hk1 : a ≠ 1000) (k : zR G y E pc2 ls (.long (f j) :: st) N u g r N' u' g') : zR G y E pc ls (.int i :: .ref a :: st) N u g r N' u' g' := by
  obtain ⟨hd, rfl⟩ := hd
  subst hi
  unfold zR
  refine ⟨k.le, fun p e s m args below meth c H locs Q lsA C h1 h2 hR hl hS hF => ?_⟩
  have he := hR.get ha (by simp)
  show W _ _ _ _ _ _ _ _ _ _ _ _ _ _ _ (F0 m pc lsA (.int (nI j) :: zv G (.ref a) :: st.map (zv G)))
  rw [zref hk1]
  refine va_lald C.1 C.2.1 C.2.2.2.2.2.1 hR.1 a 1 he rfl (vp_in_nI hj hn) hd ?_
  rw [nI_clamp (by omega)]
  exact k.run C h1 h2 hR hl hS hF
theorem z_iastore {a n j : Nat} {f : Nat → Int32} {i x : Int32} (hd : zat y pc 1 pc2 .iastore) (ha : g a = zI n f) (hi : i = nI j) (hj : j < n) (hn : n < 2 ^ 31) (hk1 : a ≠ 1000) (hN : 71 ≤ N) (k : zR G y E pc2 ls st N u (zup g a (zI n (upd f j x))) r N' u' g') : zR G y E pc ls (.int x :: .int i :: .ref a :: st) N u g r N' u' g' := by
  obtain ⟨hd, rfl⟩ := hd
  subst hi
  unfold zR
  refine ⟨k.le, fun p e s m args below meth c H locs Q lsA C h1 h2 hR hl hS hF => ?_⟩
  have he := hR.get ha (by simp)
  show W _ _ _ _ _ _ _ _ _ _ _ _ _ _ _ (F0 m pc lsA (.int x :: .int (nI j) :: zv G (.ref a) :: st.map (zv G)))
  rw [zref hk1]
  refine va_iast C.1 C.2.1 C.2.2.2.2.2.1 hR.1 zW_D hS a 0 he rfl (vp_in_nI hj hn) hd (fun H1 locs1 hP1 hD1 hS1 => ?_)
  rw [nI_clamp (by omega)] at hP1
  exact k.run C h1 h2 (hR.put ha (by simp) (c := zI n (upd f j x)) hP1 (fun q => absurd q (by omega))) hl hS1 hF
theorem z_lastore {a n j : Nat} {f : Nat → Int64} {i : Int32} {x : Int64} (hd : zat y pc 1 pc2 .lastore) (ha : g a = zJ n f) (hi : i = nI j) (hj : j < n) (hn : n < 2 ^ 31) (hk1 : a ≠ 1000) (hN : 71 ≤ N) (k : zR G y E pc2 ls st N u (zup g a (zJ n (vp_updL f j x))) r N' u' g') : zR G y E pc ls (.long x :: .int i :: .ref a :: st) N u g r N' u' g' := by
  obtain ⟨hd, rfl⟩ := hd
  subst hi
  unfold zR
  refine ⟨k.le, fun p e s m args below meth c H locs Q lsA C h1 h2 hR hl hS hF => ?_⟩
  have he := hR.get ha (by simp)
  show W _ _ _ _ _ _ _ _ _ _ _ _ _ _ _ (F0 m pc lsA (.long x :: .int (nI j) :: zv G (.ref a) :: st.map (zv G)))
  rw [zref hk1]
  refine va_last C.1 C.2.1 C.2.2.2.2.2.1 hR.1 zW_D hS a 1 he rfl (vp_in_nI hj hn) hd (fun H1 locs1 hP1 hD1 hS1 => ?_)
  rw [nI_clamp (by omega)] at hP1
  exact k.run C h1 h2 (hR.put ha (by simp) (c := zJ n (vp_updL f j x)) hP1 (fun q => absurd q (by omega))) hl hS1 hF
theorem z_alen {a n : Nat} {f : Nat → Int32} (hd : zat y pc 1 pc2 .arraylength) (ha : g a = zI n f) (hk1 : a ≠ 1000) (k : zR G y E pc2 ls (.int (nI n) :: st) N u g r N' u' g') : zR G y E pc ls (.ref a :: st) N u g r N' u' g' := by
  obtain ⟨hd, rfl⟩ := hd
  unfold zR
  refine ⟨k.le, fun p e s m args below meth c H locs Q lsA C h1 h2 hR hl hS hF => ?_⟩
  have he := hR.get ha (by simp)
  show W _ _ _ _ _ _ _ _ _ _ _ _ _ _ _ (F0 m pc lsA (zv G (.ref a) :: st.map (zv G)))
  rw [zref hk1]
  exact va_alen C.1 C.2.1 C.2.2.2.2.2.1 hR.1 a 0 he (ty := .int) rfl rfl hd (k.run C h1 h2 hR hl hS hF)
theorem z_sld {j : Nat} {i : Int32} (hd : zat y pc 1 pc2 .iaload) (hy : y.1.name = "law") (hi : i = nI j) (hj : j < zL G) (hn : zL G < 2 ^ 31) (k : zR G y E pc2 ls (.int (zxs G j) :: st) N u g r N' u' g') : zR G y E pc ls (.int i :: .ref 1000 :: st) N u g r N' u' g' := by
  obtain ⟨hd, rfl⟩ := hd
  subst hi
  unfold zR
  refine ⟨k.le, fun p e s m args below meth c H locs Q lsA C h1 h2 hR hl hS hF => ?_⟩
  obtain ⟨hX, hbl, hbA⟩ := C.2.2.2.2.2.2.2.2.1 hy
  show W _ _ _ _ _ _ _ _ _ _ _ _ _ _ _ (F0 m pc lsA (.int (nI j) :: .ref (zb G) :: st.map (zv G)))
  refine va_sld C.1 C.2.1 hX hbl hbA hS (vp_in_nI hj hn) hd ?_
  rw [nI_clamp (by omega)]
  exact k.run C h1 h2 hR hl hS hF
theorem z_slen (hd : zat y pc 1 pc2 .arraylength) (hy : y.1.name = "law") (k : zR G y E pc2 ls (.int (nI (zL G)) :: st) N u g r N' u' g') : zR G y E pc ls (.ref 1000 :: st) N u g r N' u' g' := by
  obtain ⟨hd, rfl⟩ := hd
  unfold zR
  refine ⟨k.le, fun p e s m args below meth c H locs Q lsA C h1 h2 hR hl hS hF => ?_⟩
  obtain ⟨hX, hbl, hbA⟩ := C.2.2.2.2.2.2.2.2.1 hy
  show W _ _ _ _ _ _ _ _ _ _ _ _ _ _ _ (F0 m pc lsA (.ref (zb G) :: st.map (zv G)))
  exact va_slen C.1 C.2.1 hX hbl hbA hS hd (k.run C h1 h2 hR hl hS hF)
theorem z_new {idx ci n : Nat} {fs : List Value} (hd : zat y pc 3 pc2 (.new idx)) (hw : znw y.1.cls idx ci n fs) (hfs : fs.map (zv G) = fs) (hN : N < 71) (k : zR G y E pc2 ls (.ref N :: st) (N + 1) (u + n) (zup g N (zO ci fs)) r N' u' g') : zR G y E pc ls st N u g r N' u' g' := by
  obtain ⟨hd, rfl⟩ := hd
  obtain ⟨C0, T0, hcl, hinst, hini, hc, ty, hty, hdf⟩ := hw
  have hle := k.le
  unfold zR
  refine ⟨⟨by omega, by omega⟩, fun p e s m args below meth c H locs Q lsA C h1 h2 hR hl hS hF => ?_⟩
  have hts := C.2.2.2.2.1
  have hKn := C.2.2.2.2.2.1.1 ci _ hc
  have hsz := hR.2.1 hN
  refine W.newcK C.1 C.2.1 C.2.2.2.1 (hts _ hcl) (hts _ hinst) (hts _ hini) rfl hd (by show _ ≤ N' - E.1; omega) (by show _ ≤ u' - E.2; omega) hKn.2.1 hsz fun H1 kC hkC e1 z1 o1 => ?_
  have hat : va_at (zD G) zcls (zbase G + N, zconv G (zO ci fs)) H1 := by
    show ∃ r : vw_C, zcls[ci]? = some r ∧ _
    refine ⟨_, hc, (u_born ty hts (zcls_in _ _ hc) hKn hkC e1 hty).to ?_⟩
    intro j hj
    rw [hdf j hj]
    show _ = vp_V (fs.map (zv G)) j
    rw [hfs]
  have hR1 : zRel G (N + 1) (zup g N (zO ci fs)) H1 := by
    refine ⟨fun i q hq => ?_, fun _ => by rw [z1]; omega, by have := hR.2.2.1; omega, fun j hj => by rw [zup_n _ _ (by omega)]; exact hR.2.2.2 j (by omega)⟩
    obtain ⟨hi, rfl⟩ := zW_of hq
    by_cases hik : i = N
    · subst hik
      rw [zup_s]
      exact hat
    · rw [zup_n _ _ hik]
      have h5 := hR.1 i _ (zW_get (by omega))
      exact h5.kept (o1 _ (by show zbase G + i < zbase G + N; omega))
  have hS1 : va_S (zA G) s.heap H1 locs := ⟨Nat.le_trans hS.1 (by rw [z1]; omega), fun x g1 g2 => (o1 x (by have := hS.1; omega)).trans (hS.2.1 x g1 g2), hS.2.2⟩
  have h7 := k.run C (by omega) (by omega) hR1 hl hS1 hF
  have e7 : N + 1 - E.1 = N - E.1 + 1 := by omega
  have e8 : u + n - E.2 = u - E.2 + n := by omega
  rw [e7, e8] at h7
  have e9 : zv G (.ref N) = .ref (zbase G + N) := zref (by omega)
  rw [List.map_cons, e9] at h7
  exact h7
theorem z_newai {n : Nat} {i : Int32} (hd : zat y pc 2 pc2 (.newarray .int)) (hi : i = nI n) (hn : n < 1000) (hN : N < 71) (k : zR G y E pc2 ls (.ref N :: st) (N + 1) (u + n) (zup g N (zI n (fun _ => 0))) r N' u' g') : zR G y E pc ls (.int i :: st) N u g r N' u' g' := by
  obtain ⟨hd, rfl⟩ := hd
  subst hi
  have hle := k.le
  unfold zR
  refine ⟨⟨by omega, by omega⟩, fun p e s m args below meth c H locs Q lsA C h1 h2 hR hl hS hF => ?_⟩
  have hts := C.2.2.2.2.1
  have hK := C.2.2.2.2.2.1
  have hsz := hR.2.1 hN
  refine va_newaK (atype := .int) C.1 C.2.1 (hts _ zw_int) rfl hd rfl (nI_pos (by omega)) (nI_clamp (by omega)) (by show n * 4 ≤ _; omega) (by show _ ≤ N' - E.1; omega) (by show _ ≤ u' - E.2; omega) hsz fun H1 cA e1 z1 o1 hAr hNm => ?_
  have hcA : cA = zcI G := by
    have h3 : va_RA s (zcI G) .int := (hK.2 0 (zcI G, .int) rfl).2
    exact Option.some.inj (hNm.symm.trans h3)
  subst hcA
  have hR1 : zRel G (N + 1) (zup g N (zI n (fun _ => 0))) H1 := by
    refine ⟨fun i q hq => ?_, fun _ => by rw [z1]; omega, by have := hR.2.2.1; omega, fun j hj => by rw [zup_n _ _ (by omega)]; exact hR.2.2.2 j (by omega)⟩
    obtain ⟨hi, rfl⟩ := zW_of hq
    by_cases hik : i = N
    · subst hik
      rw [zup_s]
      exact e1
    · rw [zup_n _ _ hik]
      have h5 := hR.1 i _ (zW_get (by omega))
      exact h5.kept (o1 _ (by show zbase G + i < zbase G + N; omega))
  have hS1 : va_S (zA G) s.heap H1 locs := ⟨Nat.le_trans hS.1 (by rw [z1]; omega), fun x g1 g2 => (o1 x (by have := hS.1; omega)).trans (hS.2.1 x g1 g2), hS.2.2⟩
  have h7 := k.run C (by omega) (by omega) hR1 hl hS1 hF
  have e7 : N + 1 - E.1 = N - E.1 + 1 := by omega
  have e8 : u + n - E.2 = u - E.2 + n := by omega
  rw [e7, e8] at h7
  have e9 : zv G (.ref N) = .ref (zbase G + N) := zref (by omega)
  rw [List.map_cons, e9] at h7
  exact h7
theorem z_newal {n : Nat} {i : Int32} (hd : zat y pc 2 pc2 (.newarray .long)) (hi : i = nI n) (hn : n < 1000) (hN : N < 71) (k : zR G y E pc2 ls (.ref N :: st) (N + 1) (u + n) (zup g N (zJ n (fun _ => 0))) r N' u' g') : zR G y E pc ls (.int i :: st) N u g r N' u' g' := by
  obtain ⟨hd, rfl⟩ := hd
  subst hi
  have hle := k.le
  unfold zR
  refine ⟨⟨by omega, by omega⟩, fun p e s m args below meth c H locs Q lsA C h1 h2 hR hl hS hF => ?_⟩
  have hts := C.2.2.2.2.1
  have hK := C.2.2.2.2.2.1
  have hsz := hR.2.1 hN
  refine va_newaK (atype := .long) C.1 C.2.1 (hts _ zw_long) rfl hd rfl (nI_pos (by omega)) (nI_clamp (by omega)) (by show n * 8 ≤ _; omega) (by show _ ≤ N' - E.1; omega) (by show _ ≤ u' - E.2; omega) hsz fun H1 cA e1 z1 o1 hAr hNm => ?_
  have hcA : cA = zcJ G := by
    have h3 : va_RA s (zcJ G) .long := (hK.2 1 (zcJ G, .long) rfl).2
    exact Option.some.inj (hNm.symm.trans h3)
  subst hcA
  have hR1 : zRel G (N + 1) (zup g N (zJ n (fun _ => 0))) H1 := by
    refine ⟨fun i q hq => ?_, fun _ => by rw [z1]; omega, by have := hR.2.2.1; omega, fun j hj => by rw [zup_n _ _ (by omega)]; exact hR.2.2.2 j (by omega)⟩
    obtain ⟨hi, rfl⟩ := zW_of hq
    by_cases hik : i = N
    · subst hik
      rw [zup_s]
      exact e1
    · rw [zup_n _ _ hik]
      have h5 := hR.1 i _ (zW_get (by omega))
      exact h5.kept (o1 _ (by show zbase G + i < zbase G + N; omega))
  have hS1 : va_S (zA G) s.heap H1 locs := ⟨Nat.le_trans hS.1 (by rw [z1]; omega), fun x g1 g2 => (o1 x (by have := hS.1; omega)).trans (hS.2.1 x g1 g2), hS.2.2⟩
  have h7 := k.run C (by omega) (by omega) hR1 hl hS1 hF
  have e7 : N + 1 - E.1 = N - E.1 + 1 := by omega
  have e8 : u + n - E.2 = u - E.2 + n := by omega
  rw [e7, e8] at h7
  have e9 : zv G (.ref N) = .ref (zbase G + N) := zref (by omega)
  rw [List.map_cons, e9] at h7
  exact h7
theorem z_catmap (G : zG) (st : List Value) : ((st.map (zv G)).map fun v => v.category).sum = (st.map fun v => v.category).sum := by
  rw [List.map_map]
  congr 1
  apply List.map_congr_left
  intro v _
  exact zv_cat G v
theorem z_objinit {idx a : Nat} (hd : zat y pc 3 pc2 (.invokespecial idx)) (hL : Cond.methodLink y.1.cls idx Lib.objectInit ∈ zT) (hf : 1 ≤ y.2.2.2.2.1) (hlo : (st.map fun v => v.category).sum + 12 ≤ y.2.2.2.2.2) (k : zR G y E pc2 ls st N u g r N' u' g') : zR G y E pc ls (.ref a :: st) N u g r N' u' g' := by
  obtain ⟨hd, rfl⟩ := hd
  unfold zR
  refine ⟨k.le, fun p e s m args below meth c H locs Q lsA C h1 h2 hR hl hS hF => ?_⟩
  have hts := C.2.2.2.2.1
  exact W.objInit C.1 C.2.1 C.2.2.2.1 (hts _ hL) (hts _ zw_oi) (hts _ zw_oc) rfl (hl.1.trans C.2.2.1.symm) rfl hd hf (by rw [z_catmap]; show 2 * 0 + _ + 12 ≤ y.2.2.2.2.2; omega) (k.run C h1 h2 hR hl hS hF)
theorem z_mmin {idx : Nat} {x v : Int32} (hd : zat y pc 3 pc2 (.invokestatic idx)) (hL : Cond.methodLink y.1.cls idx Lib.Math.min.name ∈ zT) (hf : 1 ≤ y.2.2.2.2.1) (hlo : (st.map fun v => v.category).sum + 13 ≤ y.2.2.2.2.2) (k : zR G y E pc2 ls (.int (if v < x then v else x) :: st) N u g r N' u' g') : zR G y E pc ls (.int v :: .int x :: st) N u g r N' u' g' := by
  obtain ⟨hd, rfl⟩ := hd
  have hle := k.le
  unfold zR
  refine ⟨k.le, fun p e s m args below meth c H locs Q lsA C h1 h2 hR hl hS hF => ?_⟩
  have hts := C.2.2.2.2.1
  exact va_mmin C.1 C.2.1 (C.2.2.1.trans hl.1.symm) C.2.2.2.1 (hts _ hL) (hts _ zw_min.1) (hts _ zw_math) (hts _ zw_min.2) hf (by rw [z_catmap]; exact hlo) (by show _ ≤ N' - E.1; omega) (by show _ ≤ u' - E.2; omega) hd (k.run C h1 h2 hR hl hS hF)
theorem z_mmax {idx : Nat} {x v : Int32} (hd : zat y pc 3 pc2 (.invokestatic idx)) (hL : Cond.methodLink y.1.cls idx Lib.Math.max.name ∈ zT) (hf : 1 ≤ y.2.2.2.2.1) (hlo : (st.map fun v => v.category).sum + 13 ≤ y.2.2.2.2.2) (k : zR G y E pc2 ls (.int (if x < v then v else x) :: st) N u g r N' u' g') : zR G y E pc ls (.int v :: .int x :: st) N u g r N' u' g' := by
  obtain ⟨hd, rfl⟩ := hd
  have hle := k.le
  unfold zR
  refine ⟨k.le, fun p e s m args below meth c H locs Q lsA C h1 h2 hR hl hS hF => ?_⟩
  have hts := C.2.2.2.2.1
  exact va_mmax C.1 C.2.1 (C.2.2.1.trans hl.1.symm) C.2.2.2.1 (hts _ hL) (hts _ zw_max.1) (hts _ zw_math) (hts _ zw_max.2) hf (by rw [z_catmap]; exact hlo) (by show _ ≤ N' - E.1; omega) (by show _ ≤ u' - E.2; omega) hd (k.run C h1 h2 hR hl hS hF)
/-- a whole row copied onto another of its length -/
theorem z_acopy {idx a b n : Nat} {f f2 : Nat → Int32} {i1 i2 i3 : Int32} (hd : zat y pc 3 pc2 (.invokestatic idx)) (hL : Cond.methodLink y.1.cls idx arraycopyName ∈ zT) (ha : g a = zI n f) (hb : g b = zI n f2) (e1 : i1 = nI n) (e2 : i2 = nI 0) (e3 : i3 = nI 0) (hn : n < 1000) (hka : a ≠ 1000) (hkb : b ≠ 1000) (hN : 71 ≤ N) (hf : 1 ≤ y.2.2.2.2.1) (hlo : (st.map fun v => v.category).sum + (nativeFrameWords "java/lang/System" "arraycopy" 5 + 11) ≤ y.2.2.2.2.2)
    (k : zR G y E pc2 ls st N u (zup g b (zI n f)) r N' u' g') : zR G y E pc ls (.int i1 :: .int i2 :: .ref b :: .int i3 :: .ref a :: st) N u g r N' u' g' := by
  obtain ⟨hd, rfl⟩ := hd
  subst e1
  subst e2
  subst e3
  unfold zR
  refine ⟨k.le, fun p e s m args below meth c H locs Q lsA C h1 h2 hR hl hS hF => ?_⟩
  have hts := C.2.2.2.2.1
  show W _ _ _ _ _ _ _ _ _ _ _ _ _ _ _ (F0 m pc lsA (.int (nI n) :: .int (nI 0) :: zv G (.ref b) :: .int (nI 0) :: zv G (.ref a) :: st.map (zv G)))
  rw [zref hka, zref hkb]
  refine va_copyi (ty := .int) C.1 C.2.1 (C.2.2.1.trans hl.1.symm) C.2.2.2.1 (hts _ hL) (hts _ zw_ac.2.1) (hts _ zw_ac.1) (hts _ zw_ac.2.2) C.2.2.2.2.2.1 hR.1 zW_D hS a b 0 0 (hR.get ha (by simp)) (hR.get hb (by simp)) rfl rfl rfl (nI_pos (by omega)) (nI_pos (by omega)) (nI_pos (by omega)) (by rw [nI_clamp (by omega), nI_clamp (by omega)]; omega) (by rw [nI_clamp (by omega), nI_clamp (by omega)]; omega) (fun _ _ => rfl) hf (by rw [z_catmap]; exact hlo) hd (fun H1 locs1 hP1 hD1 hS1 => ?_)
  rw [nI_clamp (by omega), nI_clamp (by omega)] at hP1
  have hR1 := hR.put hb (by simp) (c := zI n (va_cpy f f2 0 0 n)) hP1 (fun q => absurd q (by omega))
  refine k.run C h1 h2 (hR1.same (fun j hj => ?_)) hl hS1 hF
  rw [pk_cpy_in (by omega) (by omega)]
  congr 1
  omega
/-! contracts -/
def zwd (y : zY) : List Cond := Cond.code y.1 y.2.1 y.2.2.1 y.2.2.2.1 :: zT
def zPc (G : zG) (as : List Value) (N : Nat) (g : zh) : Array Value → State → Prop := fun v U => v = (as.map (zv G)).toArray ∧ zRel G N g U.heap ∧ va_K (zD G) zcls (ztys G) U ∧ zbase G ≤ U.heap.size ∧ (∀ w ∈ zNest, va_Nw w U)
def zQc (G : zG) (r : Option Value) (N : Nat) (g : zh) : Array Value → State → Outcome → State → Prop := fun _ st o t => o = .returned (r.map (zv G)) ∧ zRel G N g t.heap ∧ va_F (zA G) st t
def zC (G : zG) (y : zY) (as : List Value) (N u : Nat) (g : zh) (r : Option Value) (N' u' : Nat) (g' : zh) : Prop := (N ≤ N' ∧ u ≤ u') ∧ Met (zl G) y.1 (zwd y) (zrm y (N, u) N' u') (zPc G as N g) (zQc G r N' g') (N' - N) (u' - u) (zA G)
theorem zPc_blind {as : List Value} : FrameBlind (zPc G as N g) := fun a U g mk q => ⟨q.1, q.2.1, va_K.moved (u := U) (U := U.calling g mk a) (Vm.Alike.refl U.vm) q.2.2.1, q.2.2.2.1, fun w hw => by
  have h := q.2.2.2.2 w hw
  exact va_Nw.same (u := U) (U := U.calling g mk a) (zNest_tab w hw) rfl h⟩
theorem zgood {w : Cond} (h : w ∈ zT) : (w.onTables && w.keeps) = true ∨ ∃ ty, w = .arrayClass ty := good_of_word (List.mem_filter.mp h).2
theorem zGoodIn {ws : List Cond} (h : ∀ w ∈ ws, w ∈ zT) : GoodIn zT ws := fun w hw => ⟨h w hw, zgood (h w hw)⟩
theorem zwd_in {y1 : zY} (h : Cond.code y1.1 y1.2.1 y1.2.2.1 y1.2.2.2.1 ∈ zT) : ∀ w ∈ zwd y1, w ∈ zT := fun w hw => (List.mem_cons.mp hw).elim (fun e => e ▸ h) (fun q => q)
/-- what a return's kind asks -/
def zro (ret : Option FieldType) (r : Option Value) : Prop := match ret, r with
  | none, none => True
  | some .int, some (.int _) => True
  | some .long, some (.long _) => True
  | some .boolean, some (.int v) => narrow .boolean (.int v) = .int v
  | _, _ => False
theorem zC_of {as : List Value} (hy : plainName y.1.cls = true) (hnl : y.1.name ≠ "law") (hro : zro y.2.2.2.1 r) (hlen : (lg_sl (as.map (zv G))).length ≤ y.2.2.1) (hls : ∀ i v, ls[i]? = some (some v) → (i, v) ∈ lv_args 0 as) (k : zR G y (N, u) 0 ls [] N u g r N' u' g') : zC G y as N u g r N' u' g' := by
  refine ⟨k.le, Met.ofW (cc := y.2.1) (maxL := y.2.2.1) (ret := y.2.2.2.1) hy rfl ?_⟩
  intro p e s m args below meth c s₁ B hml hv
  obtain ⟨rfl, hR, hK, hbs, hNw⟩ := hv
  have hts := atoms_spec (ws := zwd y) B.pre
  have hown : s.vm.findClass y.1.cls = some m.cls := findClass_of_methodNamed B.named
  have hlocks := B.notSynchronized
  have hl0 := lv_entry (as.map (zv G)) (n := y.2.2.1) hlen
  rw [lg_entry_eq]
  generalize (lg_sl (as.map (zv G)) ++ List.replicate (y.2.2.1 - (lg_sl (as.map (zv G))).length) Slot.unset).toArray = lsA at hl0 ⊢
  have hl : zLoc G lsA y.2.2.1 ls := zLoc_of hl0 (fun i v hv => zargs_map (hls i v hv))
  have C : zCtx G y p s m (as.map (zv G)).toArray meth c := ⟨B.exec, B.bytes, hml, hown, fun w hw => hts w (List.mem_cons_of_mem _ hw), hK, hbs, fun q => (name_of_methodNamed B.named B.method).1.trans q, fun q => absurd q hnl, hNw⟩
  have hres := k.run (below := below) (e := e) (locs := []) (Q := MQ below (zQc G r N' g') (as.map (zv G)).toArray s (N' - N) (u' - u) (zA G)) C (Nat.le_refl _) (Nat.le_refl _) hR hl va_S.rf (fun pc' lsA' H' locs' hd hR' hS' => by
    obtain ⟨d1, d2, d3⟩ := hd
    have hq : ∀ t : State, t.heap = H' → s.WarmedH t.vm → zQc G r N' g' (as.map (zv G)).toArray s (.returned (r.map (zv G))) t := fun t ht _ => ⟨rfl, by rw [ht]; exact hR', hS'.F ht⟩
    have hret := B.returns
    revert hro d1 d2 d3 hq
    cases hrr : y.2.2.2.1 with
    | none =>
      cases r with
      | none =>
        intro hro d1 d2 d3 hq
        exact W.vret C.1 C.2.1 (hret.trans hrr) hq hS'.2.2 (d1 rfl)
      | some v => intro hro; exact False.elim hro
    | some rt =>
      cases r with
      | none => intro hro; cases rt <;> exact False.elim hro
      | some v =>
        intro hro d1 d2 d3 hq
        cases rt <;> cases v <;> first
          | exact False.elim hro
          | exact W.iret C.1 C.2.1 (hret.trans hrr) hq hS'.2.2 (d2 _ rfl)
          | exact W.lret C.1 C.2.1 (hret.trans hrr) hq hS'.2.2 (d3 _ rfl)
          | exact W.zret C.1 C.2.1 (hret.trans hrr) hro hq hS'.2.2 (d2 _ rfl))
  have e1 : (N, u).1 = N := rfl
  have e2 : (N, u).2 = u := rfl
  rw [e1, e2, Nat.sub_self, Nat.sub_self] at hres
  exact hres
/-- behind a call's run -/
theorem z_after {p : Program} {e : Env} {s : State} {m : MethodId} {args : Array Value} {below : List Frame} {meth : Method} {c : Code} {H : Heap} {locs : List Loc} {Q : State → Prop} {lsA : Array Slot} {R : Room} {st0 : List Value} {r1 : Option Value} {N1 u1 : Nat} {g1 : zh} {a1 : Array Value}
    (hS : va_S (zA G) s.heap H locs) (hrun : va_Run p (zl G) e R s m args below meth c H locs (N - E.1) (u - E.2) (N1 - N) (u1 - u) (F0 m pc lsA st0) (st.map (zv G)) (zQc G r1 N1 g1 a1) (zA G)) (h1 : E.1 ≤ N) (h2 : E.2 ≤ u) (hle : N ≤ N1 ∧ u ≤ u1)
    (kk : ∀ (H1 : Heap) (locs1 : List Loc), zRel G N1 g1 H1 → va_S (zA G) s.heap H1 locs1 → W p (zl G) e R s m args below meth c H1 locs1 (N1 - E.1) (u1 - E.2) Q (F0 m (pc + 3) lsA ((r1.toList ++ st).map (zv G)))) : W p (zl G) e R s m args below meth c H locs (N - E.1) (u - E.2) Q (F0 m pc lsA st0) := by
  intro T hT X
  obtain ⟨v, st₀, t, T', L, h0, X', hL, e1, e2, ⟨hv, hRel, hz, hk⟩, stp⟩ := hrun T hT X
  have hv1 : v = r1.map (zv G) := Outcome.returned.inj hv
  subst hv1
  rw [h0] at hz hk
  have e3 : N - E.1 + (N1 - N) = N1 - E.1 := by omega
  have e4 : u - E.2 + (u1 - u) = u1 - E.2 := by omega
  rw [e3, e4] at X'
  obtain ⟨t2, b1, b2⟩ := kk T'.heap (locs ++ L) (by rw [e1]; exact hRel) ⟨Nat.le_trans hS.1 (by rw [e1]; exact hz), fun q q1 q2 => by rw [e1, hk q (Nat.lt_of_lt_of_le q1 hS.1) q2]; exact hS.2.1 q q1 q2, fun q hq => by
      rcases List.mem_append.mp hq with h | h
      · exact hS.2.2 q h
      · exact hL q h⟩ T' rfl X'
  refine ⟨t2, stp t2 ?_, b2⟩
  have e5 : (r1.toList ++ st).map (zv G) = (r1.map (zv G)).toList ++ st.map (zv G) := by cases r1 <;> simp
  rw [e5] at b1
  exact b1
def zfit (y y1 : zY) : Bool := Nat.ble (y1.2.2.2.2.1 + 1) y.2.2.2.2.1 && Nat.ble (8 + (y1.2.2.1 + 11) + y1.2.2.2.2.2) y.2.2.2.2.2
theorem zfit_s {y1 : zY} (h : zfit y y1 = true) : y1.2.2.2.2.1 + 1 ≤ y.2.2.2.2.1 ∧ 8 + (y1.2.2.1 + 11) + y1.2.2.2.2.2 ≤ y.2.2.2.2.2 := by
  rw [zfit, Bool.and_eq_true] at h
  exact ⟨Nat.le_of_ble_eq_true h.1, Nat.le_of_ble_eq_true h.2⟩
theorem z_callV {y1 : zY} {idx n a ci : Nat} {as : List Value} {fs : List Value} {st0 : List Value} {r1 : Option Value} {N1 u1 : Nat} {g1 : zh} (hd : zat y pc 3 pc2 (.invokevirtual idx)) (hL : Cond.methodLink y.1.cls idx y1.1 ∈ zT) (hm : zmV y1 n) (hfit : zfit y y1 = true) (hc : zC G y1 (.ref a :: as) N u g r1 N1 u1 g1) (ha : g a = zO ci fs) (hci : (zcls[ci]?).map (fun q => q.1) = some y1.1.cls) (hn : as.length = n) (hst : st0 = as.reverse ++ .ref a :: st) (hcat : (st.map fun v => v.category).sum ≤ 8) (hk1 : a ≠ 1000)
    (k : zR G y E pc2 ls (r1.toList ++ st) N1 u1 g1 r N' u' g') : zR G y E pc ls st0 N u g r N' u' g' := by
  obtain ⟨hd, rfl⟩ := hd
  subst hst
  have hle := k.le
  unfold zR
  refine ⟨⟨by have := hc.1; omega, by have := hc.1; omega⟩, fun p e s m args below meth c H locs Q lsA C h1 h2 hR hl hS hF => ?_⟩
  have hts := C.2.2.2.2.1
  have hK := C.2.2.2.2.2.1
  obtain ⟨q, hq, hq1⟩ : ∃ q, zcls[ci]? = some q ∧ q.1 = y1.1.cls := by
    cases h : zcls[ci]? with
    | none => rw [h] at hci; simp at hci
    | some q => rw [h] at hci; exact ⟨q, rfl, by simpa using hci⟩
  have he := hR.get ha (zO_nd hq)
  obtain ⟨⟨w1, w2, w3, w4, w5⟩, w6, w7⟩ := hm
  have hrecv := va_recv hK hR.1 hq he
  rw [hq1] at hrecv
  have hGI : GoodIn zT (wsV y.1.cls idx y1.1.cls y1.1 (zwd y1)) := zGoodIn (fun w hw => by
    rcases List.mem_append.mp hw with h | h
    · simp only [List.mem_cons, List.not_mem_nil, or_false] at h
      rcases h with rfl | rfl | rfl | rfl
      · exact hL
      · exact w6
      · exact w7
      · exact w2
    · exact zwd_in w1 w h)
  have cw : CallW (zrm y E N' u') s args y.1.cls y1.1.cls idx y1.1 y1.2.1 y1.2.2.1 y1.2.2.2.1 (zwd y1) (zrm y1 (N, u) N1 u1) (N1 - N) (u1 - u) n := cwV n hts hGI rfl rfl rfl ⟨rfl, w3, w4, w5⟩ (zfit_s hfit)
  refine z_after (st := st) hS (va_runV (As := as.map (zv G)) (C := y1.1.cls) ⟨C.1, C.2.1, C.2.2.1, C.2.2.2.1, hts⟩ hc.2 cw ⟨zPc_blind, hrecv, fun U hU hW => ⟨by rw [List.map_cons, zref hk1], by rw [hU]; exact hR, va_K.moved hW.alike hK, by rw [hU]; exact Nat.le_trans C.2.2.2.2.2.2.1 hS.1, fun w hw => zNest_warm hW w hw (C.2.2.2.2.2.2.2.2.2 w hw)⟩⟩ rfl (by simpa using hn) hl.1 (by
    show List.map (zv G) _ = _
    rw [List.map_append, List.map_reverse, List.map_cons, zref hk1]) (lv_room (by rw [z_catmap]; exact hcat)) hd ⟨by show _ ≤ N' - E.1; have := hc.1; omega, by show _ ≤ u' - E.2; have := hc.1; omega⟩) h1 h2 hc.1 (fun H1 locs1 hR1 hS1 => k.run C (by have := hc.1; omega) (by have := hc.1; omega) hR1 hl hS1 hF)
theorem z_callS {y1 : zY} {idx n : Nat} {as : List Value} {st0 : List Value} {r1 : Option Value} {N1 u1 : Nat} {g1 : zh} (hd : zat y pc 3 pc2 (.invokestatic idx)) (hL : Cond.methodLink y.1.cls idx y1.1 ∈ zT) (hm : zmS y1 n) (hfit : zfit y y1 = true) (hc : zC G y1 as N u g r1 N1 u1 g1) (hn : as.length = n) (hst : st0 = as.reverse ++ st) (hcat : (st.map fun v => v.category).sum ≤ 8)
    (k : zR G y E pc2 ls (r1.toList ++ st) N1 u1 g1 r N' u' g') : zR G y E pc ls st0 N u g r N' u' g' := by
  obtain ⟨hd, rfl⟩ := hd
  subst hst
  have hle := k.le
  unfold zR
  refine ⟨⟨by have := hc.1; omega, by have := hc.1; omega⟩, fun p e s m args below meth c H locs Q lsA C h1 h2 hR hl hS hF => ?_⟩
  have hts := C.2.2.2.2.1
  have hK := C.2.2.2.2.2.1
  obtain ⟨⟨w1, w2, w3, w4, w5⟩, w6⟩ := hm
  have cw : CallB (zrm y E N' u') s args y.1.cls idx y1.1 y1.2.1 y1.2.2.1 y1.2.2.2.1 (zwd y1) (zrm y1 (N, u) N1 u1) (N1 - N) (u1 - u) n ∧ (Cond.static y1.1).before args s = true := ⟨callB_of n hts (zGoodIn (zwd_in w1)) rfl rfl rfl (hts _ w2) (hts _ hL) ⟨w3, w4, w5⟩ (zfit_s hfit), hts _ w6⟩
  refine z_after (st := st) hS (va_runS (As := as.map (zv G)) ⟨C.1, C.2.1, C.2.2.1, C.2.2.2.1, hts⟩ hc.2 cw ⟨zPc_blind, fun U hU hW => ⟨rfl, by rw [hU]; exact hR, va_K.moved hW.alike hK, by rw [hU]; exact Nat.le_trans C.2.2.2.2.2.2.1 hS.1, fun w hw => zNest_warm hW w hw (C.2.2.2.2.2.2.2.2.2 w hw)⟩⟩ rfl (by simpa using hn) hl.1 (by
    show List.map (zv G) _ = _
    rw [List.map_append, List.map_reverse]) (lv_room (by rw [z_catmap]; exact hcat)) hd ⟨by show _ ≤ N' - E.1; have := hc.1; omega, by show _ ≤ u' - E.2; have := hc.1; omega⟩) h1 h2 hc.1 (fun H1 locs1 hR1 hS1 => k.run C (by have := hc.1; omega) (by have := hc.1; omega) hR1 hl hS1 hF)
theorem z_callI {y1 : zY} {idx n a : Nat} {as : List Value} {st0 : List Value} {N1 u1 : Nat} {g1 : zh} (hd : zat y pc 3 pc2 (.invokespecial idx)) (hL : Cond.methodLink y.1.cls idx y1.1 ∈ zT) (hm : zmI y1 n) (hret : y1.2.2.2.1 = none) (hfit : zfit y y1 = true) (hc : zC G y1 (.ref a :: as) N u g none N1 u1 g1) (hn : as.length = n) (hst : st0 = as.reverse ++ .ref a :: st) (hcat : (st.map fun v => v.category).sum ≤ 8) (hk1 : a ≠ 1000)
    (k : zR G y E pc2 ls st N1 u1 g1 r N' u' g') : zR G y E pc ls st0 N u g r N' u' g' := by
  obtain ⟨hd, rfl⟩ := hd
  subst hst
  have hle := k.le
  unfold zR
  refine ⟨⟨by have := hc.1; omega, by have := hc.1; omega⟩, fun p e s m args below meth c H locs Q lsA C h1 h2 hR hl hS hF => ?_⟩
  have hts := C.2.2.2.2.1
  have hK := C.2.2.2.2.2.1
  obtain ⟨⟨w1, w2, w3, w4, w5⟩, w6, w7⟩ := hm
  have hw1 := w1
  rw [hret] at w1
  have cw : CallB (zrm y E N' u') s args y.1.cls idx y1.1 y1.2.1 y1.2.2.1 none (zwd y1) (zrm y1 (N, u) N1 u1) (N1 - N) (u1 - u) n ∧ y1.1.name = "<init>" ∧ (Cond.instanceMethod y1.1).before args s = true := ⟨callB_of n hts (zGoodIn (zwd_in hw1)) (by show zwd y1 = _; rw [zwd, hret]) rfl rfl (hts _ w2) (hts _ hL) ⟨w3, w4, w5⟩ (zfit_s hfit), w6, hts _ w7⟩
  refine z_after (r1 := none) (st := st) hS (va_runI (As := as.map (zv G)) ⟨C.1, C.2.1, C.2.2.1, C.2.2.2.1, hts⟩ hc.2 cw ⟨zPc_blind, fun U hU hW => ⟨by rw [List.map_cons, zref hk1], by rw [hU]; exact hR, va_K.moved hW.alike hK, by rw [hU]; exact Nat.le_trans C.2.2.2.2.2.2.1 hS.1, fun w hw => zNest_warm hW w hw (C.2.2.2.2.2.2.2.2.2 w hw)⟩⟩ rfl (by simpa using hn) hl.1 (by
    show List.map (zv G) _ = _
    rw [List.map_append, List.map_reverse, List.map_cons, zref hk1]) (lv_room (by rw [z_catmap]; exact hcat)) hd ⟨by show _ ≤ N' - E.1; have := hc.1; omega, by show _ ≤ u' - E.2; have := hc.1; omega⟩) h1 h2 hc.1 (fun H1 locs1 hR1 hS1 => k.run C (by have := hc.1; omega) (by have := hc.1; omega) hR1 hl hS1 hF)
theorem z_callN {y1 : zY} {idx n a : Nat} {host : String} {as : List Value} {st0 : List Value} {N1 u1 : Nat} {g1 : zh} (hd : zat y pc 3 pc2 (.invokespecial idx)) (hL : Cond.methodLinkNest y.1.cls idx y1.1 host ∈ zNest) (hm : zmI y1 n) (hret : y1.2.2.2.1 = none) (hfit : zfit y y1 = true) (hc : zC G y1 (.ref a :: as) N u g none N1 u1 g1) (hn : as.length = n) (hst : st0 = as.reverse ++ .ref a :: st) (hcat : (st.map fun v => v.category).sum ≤ 8) (hk1 : a ≠ 1000)
    (k : zR G y E pc2 ls st N1 u1 g1 r N' u' g') : zR G y E pc ls st0 N u g r N' u' g' := by
  obtain ⟨hd, rfl⟩ := hd
  subst hst
  have hle := k.le
  unfold zR
  refine ⟨⟨by have := hc.1; omega, by have := hc.1; omega⟩, fun p e s m args below meth c H locs Q lsA C h1 h2 hR hl hS hF => ?_⟩
  have hts := C.2.2.2.2.1
  have hK := C.2.2.2.2.2.1
  obtain ⟨⟨w1, w2, w3, w4, w5⟩, w6, w7⟩ := hm
  have cw : va_CN (zrm y E N' u') s args y.1.cls idx y1.1 host y1.2.1 y1.2.2.1 none (zwd y1) (zrm y1 (N, u) N1 u1) (N1 - N) (u1 - u) n ∧ y1.1.name = "<init>" ∧ (Cond.instanceMethod y1.1).before args s = true := ⟨va_cnB n hts (zGoodIn (zwd_in w1)) (by show zwd y1 = _; rw [zwd, hret]) rfl rfl (C.2.2.2.2.2.2.2.2.2 _ hL) (hts _ w2) ⟨w3, w4, w5⟩ (zfit_s hfit), w6, hts _ w7⟩
  refine z_after (r1 := none) (st := st) hS (va_runIN (As := as.map (zv G)) ⟨C.1, C.2.1, C.2.2.1, C.2.2.2.1, hts⟩ hc.2 cw ⟨zPc_blind, fun U hU hW => ⟨by rw [List.map_cons, zref hk1], by rw [hU]; exact hR, va_K.moved hW.alike hK, by rw [hU]; exact Nat.le_trans C.2.2.2.2.2.2.1 hS.1, fun w hw => zNest_warm hW w hw (C.2.2.2.2.2.2.2.2.2 w hw)⟩⟩ rfl (by simpa using hn) hl.1 (by
    show List.map (zv G) _ = _
    rw [List.map_append, List.map_reverse, List.map_cons, zref hk1]) (lv_room (by rw [z_catmap]; exact hcat)) hd ⟨by show _ ≤ N' - E.1; have := hc.1; omega, by show _ ≤ u' - E.2; have := hc.1; omega⟩) h1 h2 hc.1 (fun H1 locs1 hR1 hS1 => k.run C (by have := hc.1; omega) (by have := hc.1; omega) hR1 hl hS1 hF)
theorem z_top {x v : Int32} (h : x = v) (k : zR G y E pc ls (.int v :: st) N u g r N' u' g') : zR G y E pc ls (.int x :: st) N u g r N' u' g' := h ▸ k
theorem z_topl {x v : Int64} (h : x = v) (k : zR G y E pc ls (.long v :: st) N u g r N' u' g') : zR G y E pc ls (.long x :: st) N u g r N' u' g' := h ▸ k
theorem z_top2 {x v : Int32} {w : Value} (h : x = v) (k : zR G y E pc ls (w :: .int v :: st) N u g r N' u' g') : zR G y E pc ls (w :: .int x :: st) N u g r N' u' g' := h ▸ k
theorem z_heap {g2 : zh} (h : g = g2) (k : zR G y E pc ls st N u g2 r N' u' g') : zR G y E pc ls st N u g r N' u' g' := h ▸ k
theorem z_same {a n : Nat} {f f2 : Nat → Int32} (he : ∀ j, j < n → f j = f2 j) (k : zR G y E pc ls st N u (zup g a (zI n f2)) r N' u' g') : zR G y E pc ls st N u (zup g a (zI n f)) r N' u' g' := by
  unfold zR
  exact ⟨k.le, fun p e s m args below meth c H locs Q lsA C h1 h2 hR hl hS hF => k.run C h1 h2 (hR.same he) hl hS hF⟩
end ZRULES
/-! numbers on the stack -/
theorem nix_add {a b : Nat} : nI a + nI b = nI (a + b) := nI_add a b
theorem nix_mul {a b : Nat} : nI a * nI b = nI (a * b) := pk_mul a b
theorem nix_sub {a b : Nat} (h : b ≤ a) : nI a - nI b = nI (a - b) := pk_sub h
theorem nix_div {a d : Nat} (ha : a < 2 ^ 31) (h0 : 0 < d) (hd : d < 2 ^ 31) : nI a / nI d = nI (a / d) := pk_div ha h0 hd
theorem nix_rem {a d : Nat} (ha : a < 2 ^ 31) (h0 : 0 < d) (hd : d < 2 ^ 31) : nI a - nI a / nI d * nI d = nI (a % d) := pk_rem ha h0 hd
theorem nix_inc {a : Nat} : nI a + Int32.ofInt 1 = nI (a + 1) := nI_1 a
theorem nix_dec {a : Nat} (h : 1 ≤ a) : nI a + Int32.ofInt (-1) = nI (a - 1) := by
  obtain ⟨b, rfl⟩ : ∃ b, a = b + 1 := ⟨a - 1, by omega⟩
  exact pk_m1 b
theorem nix_ne {a : Nat} (h : 0 < a) (h2 : a < 2 ^ 31) : ¬ nI a = 0 := nI_ne0 h h2
def zbo (b : Bool) : Int32 := if b then 1 else 0
theorem zbo_n (b : Bool) : narrow .boolean (.int (zbo b)) = .int (zbo b) := by cases b <;> decide +kernel
theorem zbo_0 {b : Bool} (h : zbo b = 0) : b = false := by cases b with
  | false => rfl
  | true => exact absurd h (by decide +kernel)
theorem zbo_1 {b : Bool} (h : ¬ zbo b = 0) : b = true := by cases b with
  | true => rfl
  | false => exact absurd rfl h
theorem zbo_t {b : Bool} (h : b = true) : nI 1 = zbo b := by subst h; decide +kernel
theorem zbo_f {b : Bool} (h : b = false) : nI 0 = zbo b := by subst h; decide +kernel
abbrev zK (G : zG) (y : zY) (as : List Value) (g : zh) (r : Option Value) (g' : zh) : Prop := zC G y as 71 2425 g r 71 2425 g'
abbrev zS (G : zG) (y : zY) (pc : Nat) (ls : List (Option Value)) (st : List Value) (g : zh) (r : Option Value) (g' : zh) : Prop := zR G y (71, 2425) pc ls st 71 2425 g r 71 2425 g'
def zls : List Value → List (Option Value)
  | [] => []
  | v :: t => cond (Nat.beq v.category 2) (some v :: none :: zls t) (some v :: zls t)
theorem zls_in : ∀ (as : List Value) (n i : Nat) (v : Value), (zls as)[i]? = some (some v) → (n + i, v) ∈ lv_args n as
  | [], n, i, v, h => by simp [zls] at h
  | a :: t, n, i, v, h => by
    rw [zls] at h
    rcases lv_cat a with hc | hc
    · rw [hc] at h
      have h : (some a :: zls t)[i]? = some (some v) := h
      simp only [lv_args, hc]
      cases i with
      | zero =>
        simp at h
        subst h
        exact List.mem_cons_self
      | succ i =>
        simp at h
        refine List.mem_cons_of_mem _ ?_
        have := zls_in t (n + 1) i v h
        simpa [Nat.add_assoc, Nat.add_comm 1 i] using this
    · rw [hc] at h
      have h : (some a :: none :: zls t)[i]? = some (some v) := h
      simp only [lv_args, hc]
      match i, h with
      | 0, h =>
        simp at h
        subst h
        exact List.mem_cons_self
      | 1, h => simp at h
      | i + 2, h =>
        simp at h
        refine List.mem_cons_of_mem _ ?_
        have := zls_in t (n + 2) i v h
        simpa [Nat.add_assoc, Nat.add_comm 2 i] using this
theorem zls_len (G : zG) : ∀ as : List Value, (lg_sl (as.map (zv G))).length = (zls as).length
  | [] => rfl
  | a :: t => by
    have ih := zls_len G t
    rw [zls, List.map_cons, lg_sl, List.flatMap_cons, List.length_append, zv_cat]
    rw [lg_sl] at ih
    rcases lv_cat a with hc | hc <;> rw [hc] <;> simp [ih, Nat.beq] <;> omega
/-- a contract out of its walk: the arguments, then k unset places -/
theorem zK_of {G : zG} {y : zY} {N u N' u' : Nat} {g g' : zh} {r : Option Value} {as : List Value} {ls : List (Option Value)} (k : Nat) (hy : plainName y.1.cls = true) (hnl : y.1.name ≠ "law") (hro : zro y.2.2.2.1 r) (hlen : (zls as).length ≤ y.2.2.1) (hls : zls as ++ List.replicate k none = ls) (h : zR G y (N, u) 0 ls [] N u g r N' u' g') : zC G y as N u g r N' u' g' := by
  refine zC_of hy hnl hro (by rw [zls_len]; exact hlen) (fun i v hv => ?_) h
  rw [← hls] at hv
  by_cases hi : i < (zls as).length
  · rw [List.getElem?_append_left hi] at hv
    have := zls_in as 0 i v hv
    rwa [Nat.zero_add] at this
  · rw [List.getElem?_append_right (by omega)] at hv
    have := List.mem_of_getElem? hv
    rw [List.mem_replicate] at this
    exact absurd this.2 (by simp)
section ZNUM
variable {G : zG} {y : zY} {E : Nat × Nat} {pc pc2 : Nat} {ls : List (Option Value)} {st : List Value} {N u : Nat} {g : zh} {r : Option Value} {N' u' : Nat} {g' : zh}
theorem zn_eq {a b tgt : Nat} (hd : zbr y pc pc2 tgt (.if_icmp .eq)) (ha : a < 2 ^ 31) (hb : b < 2 ^ 31) (kt : a = b → zR G y E tgt ls st N u g r N' u' g') (kf : ¬ a = b → zR G y E pc2 ls st N u g r N' u' g') : zR G y E pc ls (.int (nI b) :: .int (nI a) :: st) N u g r N' u' g' := z_icmp_eq hd (fun q => kt ((nI_eq ha hb).mp q)) (fun q => kf (fun z => q ((nI_eq ha hb).mpr z)))
theorem zn_ne {a b tgt : Nat} (hd : zbr y pc pc2 tgt (.if_icmp .ne)) (ha : a < 2 ^ 31) (hb : b < 2 ^ 31) (kt : ¬ a = b → zR G y E tgt ls st N u g r N' u' g') (kf : a = b → zR G y E pc2 ls st N u g r N' u' g') : zR G y E pc ls (.int (nI b) :: .int (nI a) :: st) N u g r N' u' g' := z_icmp_ne hd (fun q => kt (fun z => q ((nI_eq ha hb).mpr z))) (fun q => kf ((nI_eq ha hb).mp q))
theorem zn_lt {a b tgt : Nat} (hd : zbr y pc pc2 tgt (.if_icmp .lt)) (ha : a < 2 ^ 31) (hb : b < 2 ^ 31) (kt : a < b → zR G y E tgt ls st N u g r N' u' g') (kf : b ≤ a → zR G y E pc2 ls st N u g r N' u' g') : zR G y E pc ls (.int (nI b) :: .int (nI a) :: st) N u g r N' u' g' := z_icmp_lt hd (fun q => kt ((nI_ltI ha hb).mp q)) (fun q => kf (Nat.not_lt.mp fun z => q ((nI_ltI ha hb).mpr z)))
theorem zn_ge {a b tgt : Nat} (hd : zbr y pc pc2 tgt (.if_icmp .ge)) (ha : a < 2 ^ 31) (hb : b < 2 ^ 31) (kt : b ≤ a → zR G y E tgt ls st N u g r N' u' g') (kf : a < b → zR G y E pc2 ls st N u g r N' u' g') : zR G y E pc ls (.int (nI b) :: .int (nI a) :: st) N u g r N' u' g' := z_icmp_ge hd (fun q => kt ((nI_leI hb ha).mp q)) (fun q => kf (Nat.not_le.mp fun z => q ((nI_leI hb ha).mpr z)))
theorem zn_gt {a b tgt : Nat} (hd : zbr y pc pc2 tgt (.if_icmp .gt)) (ha : a < 2 ^ 31) (hb : b < 2 ^ 31) (kt : b < a → zR G y E tgt ls st N u g r N' u' g') (kf : a ≤ b → zR G y E pc2 ls st N u g r N' u' g') : zR G y E pc ls (.int (nI b) :: .int (nI a) :: st) N u g r N' u' g' := z_icmp_gt hd (fun q => kt ((nI_ltI hb ha).mp q)) (fun q => kf (Nat.not_lt.mp fun z => q ((nI_ltI hb ha).mpr z)))
theorem zn_le {a b tgt : Nat} (hd : zbr y pc pc2 tgt (.if_icmp .le)) (ha : a < 2 ^ 31) (hb : b < 2 ^ 31) (kt : a ≤ b → zR G y E tgt ls st N u g r N' u' g') (kf : b < a → zR G y E pc2 ls st N u g r N' u' g') : zR G y E pc ls (.int (nI b) :: .int (nI a) :: st) N u g r N' u' g' := z_icmp_le hd (fun q => kt ((nI_leI ha hb).mp q)) (fun q => kf (Nat.not_le.mp fun z => q ((nI_leI ha hb).mpr z)))
theorem zn_if_eq {a tgt : Nat} (hd : zbr y pc pc2 tgt (.ifCond .eq)) (ha : a < 2 ^ 31) (kt : a = 0 → zR G y E tgt ls st N u g r N' u' g') (kf : ¬ a = 0 → zR G y E pc2 ls st N u g r N' u' g') : zR G y E pc ls (.int (nI a) :: st) N u g r N' u' g' := z_if_eq hd (fun q => kt ((nI_eq ha (by decide)).mp (q.trans nI_0.symm))) (fun q => kf (fun z => q (by rw [z, nI_0])))
theorem zn_if_ne {a tgt : Nat} (hd : zbr y pc pc2 tgt (.ifCond .ne)) (ha : a < 2 ^ 31) (kt : ¬ a = 0 → zR G y E tgt ls st N u g r N' u' g') (kf : a = 0 → zR G y E pc2 ls st N u g r N' u' g') : zR G y E pc ls (.int (nI a) :: st) N u g r N' u' g' := z_if_ne hd (fun q => kt (fun z => q (by rw [z, nI_0]))) (fun q => kf ((nI_eq ha (by decide)).mp (q.trans nI_0.symm)))
theorem zn_if_lt {a tgt : Nat} (hd : zbr y pc pc2 tgt (.ifCond .lt)) (ha : a < 2 ^ 31) (kf : zR G y E pc2 ls st N u g r N' u' g') : zR G y E pc ls (.int (nI a) :: st) N u g r N' u' g' := z_if_lt hd (fun q => absurd q (nI_pos ha)) (fun q => kf)
theorem zn_if_ge {a tgt : Nat} (hd : zbr y pc pc2 tgt (.ifCond .ge)) (ha : a < 2 ^ 31) (kt : zR G y E tgt ls st N u g r N' u' g') : zR G y E pc ls (.int (nI a) :: st) N u g r N' u' g' := z_if_ge hd (fun q => kt) (fun q => absurd (nI_pos' ha) q)
theorem zn_if_le {a tgt : Nat} (hd : zbr y pc pc2 tgt (.ifCond .le)) (ha : a < 2 ^ 31) (kt : a = 0 → zR G y E tgt ls st N u g r N' u' g') (kf : 0 < a → zR G y E pc2 ls st N u g r N' u' g') : zR G y E pc ls (.int (nI a) :: st) N u g r N' u' g' := z_if_le hd (fun q => kt ((Nat.eq_zero_or_pos a).resolve_right (fun z => nI_nle z ha q))) (fun q => kf (Nat.pos_of_ne_zero (fun z => q (by rw [z, nI_0]; exact Int32.le_refl 0))))
theorem zn_if_gt {a tgt : Nat} (hd : zbr y pc pc2 tgt (.ifCond .gt)) (ha : a < 2 ^ 31) (kt : 0 < a → zR G y E tgt ls st N u g r N' u' g') (kf : a = 0 → zR G y E pc2 ls st N u g r N' u' g') : zR G y E pc ls (.int (nI a) :: st) N u g r N' u' g' := z_if_gt hd (fun q => kt (Nat.pos_of_ne_zero (fun z => by rw [z, nI_0] at q; exact absurd q (by decide)))) (fun q => kf ((Nat.eq_zero_or_pos a).resolve_right (fun z => q (by rw [← nI_0]; exact nI_lt z ha))))
theorem zb_if_eq {b : Bool} {tgt : Nat} (hd : zbr y pc pc2 tgt (.ifCond .eq)) (kt : b = false → zR G y E tgt ls st N u g r N' u' g') (kf : b = true → zR G y E pc2 ls st N u g r N' u' g') : zR G y E pc ls (.int (zbo b) :: st) N u g r N' u' g' := z_if_eq hd (fun q => kt (zbo_0 q)) (fun q => kf (zbo_1 q))
theorem zb_if_ne {b : Bool} {tgt : Nat} (hd : zbr y pc pc2 tgt (.ifCond .ne)) (kt : b = true → zR G y E tgt ls st N u g r N' u' g') (kf : b = false → zR G y E pc2 ls st N u g r N' u' g') : zR G y E pc ls (.int (zbo b) :: st) N u g r N' u' g' := z_if_ne hd (fun q => kt (zbo_1 q)) (fun q => kf (zbo_0 q))
theorem z_cvi {y1 : zY} {idx n a ci : Nat} {as : List Value} {fs : List Value} {st0 : List Value} {v : Int32} {N1 u1 : Nat} {g1 : zh} (hd : zat y pc 3 pc2 (.invokevirtual idx)) (hL : Cond.methodLink y.1.cls idx y1.1 ∈ zT) (hm : zmV y1 n) (hfit : zfit y y1 = true) (hc : zC G y1 (.ref a :: as) N u g (some (.int v)) N1 u1 g1) (ha : g a = zO ci fs) (hci : (zcls[ci]?).map (fun q => q.1) = some y1.1.cls) (hn : as.length = n) (hst : st0 = as.reverse ++ .ref a :: st) (hcat : (st.map fun v => v.category).sum ≤ 8) (hk1 : a ≠ 1000) (k : zR G y E pc2 ls (.int v :: st) N1 u1 g1 r N' u' g') : zR G y E pc ls st0 N u g r N' u' g' := z_callV hd hL hm hfit hc ha hci hn hst hcat hk1 k
theorem z_cvv {y1 : zY} {idx n a ci : Nat} {as : List Value} {fs : List Value} {st0 : List Value} {N1 u1 : Nat} {g1 : zh} (hd : zat y pc 3 pc2 (.invokevirtual idx)) (hL : Cond.methodLink y.1.cls idx y1.1 ∈ zT) (hm : zmV y1 n) (hfit : zfit y y1 = true) (hc : zC G y1 (.ref a :: as) N u g none N1 u1 g1) (ha : g a = zO ci fs) (hci : (zcls[ci]?).map (fun q => q.1) = some y1.1.cls) (hn : as.length = n) (hst : st0 = as.reverse ++ .ref a :: st) (hcat : (st.map fun v => v.category).sum ≤ 8) (hk1 : a ≠ 1000) (k : zR G y E pc2 ls st N1 u1 g1 r N' u' g') : zR G y E pc ls st0 N u g r N' u' g' := z_callV hd hL hm hfit hc ha hci hn hst hcat hk1 k
theorem z_cvl {y1 : zY} {idx n a ci : Nat} {as : List Value} {fs : List Value} {st0 : List Value} {v : Int64} {N1 u1 : Nat} {g1 : zh} (hd : zat y pc 3 pc2 (.invokevirtual idx)) (hL : Cond.methodLink y.1.cls idx y1.1 ∈ zT) (hm : zmV y1 n) (hfit : zfit y y1 = true) (hc : zC G y1 (.ref a :: as) N u g (some (.long v)) N1 u1 g1) (ha : g a = zO ci fs) (hci : (zcls[ci]?).map (fun q => q.1) = some y1.1.cls) (hn : as.length = n) (hst : st0 = as.reverse ++ .ref a :: st) (hcat : (st.map fun v => v.category).sum ≤ 8) (hk1 : a ≠ 1000) (k : zR G y E pc2 ls (.long v :: st) N1 u1 g1 r N' u' g') : zR G y E pc ls st0 N u g r N' u' g' := z_callV hd hL hm hfit hc ha hci hn hst hcat hk1 k
theorem z_csi {y1 : zY} {idx n : Nat} {as : List Value} {st0 : List Value} {v : Int32} {N1 u1 : Nat} {g1 : zh} (hd : zat y pc 3 pc2 (.invokestatic idx)) (hL : Cond.methodLink y.1.cls idx y1.1 ∈ zT) (hm : zmS y1 n) (hfit : zfit y y1 = true) (hc : zC G y1 as N u g (some (.int v)) N1 u1 g1) (hn : as.length = n) (hst : st0 = as.reverse ++ st) (hcat : (st.map fun v => v.category).sum ≤ 8) (k : zR G y E pc2 ls (.int v :: st) N1 u1 g1 r N' u' g') : zR G y E pc ls st0 N u g r N' u' g' := z_callS hd hL hm hfit hc hn hst hcat k
theorem z_csv {y1 : zY} {idx n : Nat} {as : List Value} {st0 : List Value} {N1 u1 : Nat} {g1 : zh} (hd : zat y pc 3 pc2 (.invokestatic idx)) (hL : Cond.methodLink y.1.cls idx y1.1 ∈ zT) (hm : zmS y1 n) (hfit : zfit y y1 = true) (hc : zC G y1 as N u g none N1 u1 g1) (hn : as.length = n) (hst : st0 = as.reverse ++ st) (hcat : (st.map fun v => v.category).sum ≤ 8) (k : zR G y E pc2 ls st N1 u1 g1 r N' u' g') : zR G y E pc ls st0 N u g r N' u' g' := z_callS hd hL hm hfit hc hn hst hcat k
theorem z_csl {y1 : zY} {idx n : Nat} {as : List Value} {st0 : List Value} {v : Int64} {N1 u1 : Nat} {g1 : zh} (hd : zat y pc 3 pc2 (.invokestatic idx)) (hL : Cond.methodLink y.1.cls idx y1.1 ∈ zT) (hm : zmS y1 n) (hfit : zfit y y1 = true) (hc : zC G y1 as N u g (some (.long v)) N1 u1 g1) (hn : as.length = n) (hst : st0 = as.reverse ++ st) (hcat : (st.map fun v => v.category).sum ≤ 8) (k : zR G y E pc2 ls (.long v :: st) N1 u1 g1 r N' u' g') : zR G y E pc ls st0 N u g r N' u' g' := z_callS hd hL hm hfit hc hn hst hcat k
end ZNUM
theorem zk_m1 : Int32.ofInt (-1) = (-1) := by decide +kernel
theorem zk_0 : Int32.ofInt (0) = nI 0 := by decide +kernel
theorem zk_1 : Int32.ofInt (1) = nI 1 := by decide +kernel
theorem zk_2 : Int32.ofInt (2) = nI 2 := by decide +kernel
theorem zk_3 : Int32.ofInt (3) = nI 3 := by decide +kernel
theorem zk_4 : Int32.ofInt (4) = nI 4 := by decide +kernel
theorem zk_5 : Int32.ofInt (5) = nI 5 := by decide +kernel
theorem zb_m104 : (Int8.ofInt (-104)).toInt32 = (-104) := by decide +kernel
theorem zb_m103 : (Int8.ofInt (-103)).toInt32 = (-103) := by decide +kernel
theorem zb_m102 : (Int8.ofInt (-102)).toInt32 = (-102) := by decide +kernel
theorem zb_m101 : (Int8.ofInt (-101)).toInt32 = (-101) := by decide +kernel
theorem zb_6 : (Int8.ofInt (6)).toInt32 = nI 6 := by decide +kernel
theorem zb_9 : (Int8.ofInt (9)).toInt32 = nI 9 := by decide +kernel
theorem zb_10 : (Int8.ofInt (10)).toInt32 = nI 10 := by decide +kernel
theorem zb_11 : (Int8.ofInt (11)).toInt32 = nI 11 := by decide +kernel
theorem zb_12 : (Int8.ofInt (12)).toInt32 = nI 12 := by decide +kernel
theorem zb_13 : (Int8.ofInt (13)).toInt32 = nI 13 := by decide +kernel
theorem zb_14 : (Int8.ofInt (14)).toInt32 = nI 14 := by decide +kernel
theorem zb_16 : (Int8.ofInt (16)).toInt32 = nI 16 := by decide +kernel
theorem zb_18 : (Int8.ofInt (18)).toInt32 = nI 18 := by decide +kernel
theorem zb_20 : (Int8.ofInt (20)).toInt32 = nI 20 := by decide +kernel
theorem zb_27 : (Int8.ofInt (27)).toInt32 = nI 27 := by decide +kernel
theorem zb_28 : (Int8.ofInt (28)).toInt32 = nI 28 := by decide +kernel
theorem zb_30 : (Int8.ofInt (30)).toInt32 = nI 30 := by decide +kernel
theorem zb_31 : (Int8.ofInt (31)).toInt32 = nI 31 := by decide +kernel
theorem zb_38 : (Int8.ofInt (38)).toInt32 = nI 38 := by decide +kernel
theorem zb_44 : (Int8.ofInt (44)).toInt32 = nI 44 := by decide +kernel
theorem zb_48 : (Int8.ofInt (48)).toInt32 = nI 48 := by decide +kernel
theorem zb_49 : (Int8.ofInt (49)).toInt32 = nI 49 := by decide +kernel
theorem zb_57 : (Int8.ofInt (57)).toInt32 = nI 57 := by decide +kernel
theorem zb_59 : (Int8.ofInt (59)).toInt32 = nI 59 := by decide +kernel
theorem zb_60 : (Int8.ofInt (60)).toInt32 = nI 60 := by decide +kernel
theorem zb_81 : (Int8.ofInt (81)).toInt32 = nI 81 := by decide +kernel
theorem zb_90 : (Int8.ofInt (90)).toInt32 = nI 90 := by decide +kernel
theorem zb_100 : (Int8.ofInt (100)).toInt32 = nI 100 := by decide +kernel
theorem zb_126 : (Int8.ofInt (126)).toInt32 = nI 126 := by decide +kernel
theorem zs_512 : (Int16.ofInt (512)).toInt32 = nI 512 := by decide +kernel
theorem zs_999 : (Int16.ofInt (999)).toInt32 = nI 999 := by decide +kernel
theorem zs_9000 : (Int16.ofInt (9000)).toInt32 = nI 9000 := by decide +kernel
