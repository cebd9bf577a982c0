/-! THE LAYER: a walk's judgement Y over a world (a list of cells), the locals (a list) and the stack; contracts MC; a row an instruction over the kit's own rows -/
/-- classes and slots, and where the statics' rows, the text and its bytes lie -/
abbrev yD : Type := va_G × Nat × Nat × (Nat → Nat) × (Nat → Nat)
abbrev yS (D : yD) : Nat := D.2.2.2.1 0
abbrev yV (D : yD) : Nat := D.2.2.2.2 0
abbrev yA : Type := Program × Launch × Env × Room × State × MethodId × Array Value × List Frame × Method × Code × (State → Prop) × yD × List (ClassId × FieldType) × (Nat → Prop) × Nat
def Y (X : yA) (z : Nat × Nat) (ws : va_W) (lv : List (Nat × Value)) (pc : Nat) (st : List Value) : Prop :=
  match X with
  | (p, l, e, R, s, m, args, below, meth, c, Q, D, _, A, nL) => ∀ (H : Heap) (locs : List Loc) (ls : Array Slot), va_P D.1 vwCl ws H → va_D A ws → va_S A s.heap H locs → lv_has ls nL lv → W p l e R s m args below meth c H locs z.1 z.2 Q (F0 m pc ls st)
def yAb : Nat → Value := fun j => .int (([-1, 0, 0, 1, 0, 2, 4, 3] : List Int32).getD j 0)
def yOw : Nat → Value := fun j => .int (([1, 10, 11, 2, 20, 0, 0, 0, 0, 30, 0, 0, 0, 41, 40, 0, 0, 0, 0, 50, 0, 0, 60, 61, 70, 0, 0, 0, 81, 80, 0, 0] : List Int32).getD j 0)
def yNm : List Int32 := [114, 117, 104, 116, 119, 115, 100, 97, 98, 109]
def yNst : List (String × Nat × MethodName) := [("ThumbOut", 9, yX7_init), ("ThumbOut$Trip", 11, yX3_init), ("ThumbOut$Trip", 29, yX2_init), ("ThumbOut", 23, yX1_init), ("ThumbOut", 40, yX4_init), ("ThumbOut", 55, yX6_init), ("ThumbOut", 65, yX0_init), ("ThumbOut", 76, yX5_init)]
/-- what the start gives of statics and of the one text: rows outside of what is written -/
def yG (a4 : Nat × Nat × (Nat → Nat) × (Nat → Nat)) (A : Nat → Prop) (U : State) : Prop :=
  match a4 with
  | (tA, tO, adK, adV) => va_Z "ThumbOut$Bodies" "ABOVE" "[I" (.ref tA) A U U.heap ∧ va_Z "ThumbOut$Bodies" "OWN" "[I" (.ref tO) A U U.heap ∧ va_T .int tA 8 yAb A U U.heap ∧ va_T .int tO 32 yOw A U U.heap ∧ vk_S 1 [10] [yNm] adK adV A U U.heap ∧ vk_R "ThumbOut$Reader" 71 "ruhtwsdabm" (adK 0) U ∧ va_Z "java/lang/String" "COMPACT_STRINGS" "Z" (.int 1) A U U.heap ∧ va_AO "ThumbOut$Text" U ∧ va_AO "ThumbOut$Shelf" U ∧ ∀ q ∈ yNst, va_Nw (.methodLinkNest q.1 q.2.1 q.2.2 "ThumbOut") U
theorem yG.go {a4 : Nat × Nat × (Nat → Nat) × (Nat → Nat)} {A0 A1 : Nat → Prop} {s U : State} (h : yG a4 A0 s) (hvm : s.vm.Alike U.vm) (hR : ∀ a : Nat, vk_R "ThumbOut$Reader" 71 "ruhtwsdabm" a s → vk_R "ThumbOut$Reader" 71 "ruhtwsdabm" a U) (hN : ∀ (a : String) (i : Nat) (x : MethodName) (h : String), va_Nw (.methodLinkNest a i x h) s → va_Nw (.methodLinkNest a i x h) U) (hq : ∀ a : Nat, a < s.heap.size → ¬ A0 a → U.heap[a]? = s.heap[a]?) (hA : ∀ q, A1 q → A0 q) : yG a4 A1 U := by
  obtain ⟨tA, tO, adK, adV⟩ := a4
  obtain ⟨h1, h2, h3, h4, h5, h6, h7, h8, h9, h10⟩ := h
  exact ⟨((h1.kept hq).moved hvm).narrow hA, ((h2.kept hq).moved hvm).narrow hA, ((h3.kept hq).moved hvm).narrow hA, ((h4.kept hq).moved hvm).narrow hA, ((h5.kept hq).moved hvm).narrow hA, hR _ h6, ((h7.kept hq).moved hvm).narrow hA, h8.moved hvm, h9.moved hvm, fun q hq2 => hN _ _ _ _ (h10 q hq2)⟩
def YC (X : yA) (l : Launch) (D : yD) (tys : List (ClassId × FieldType)) (y : MethodName) (own : String) (cc : ByteArray) (ret : Option FieldType) (Ts : List Cond) (nL : Nat) (rm : Room) : Prop :=
  match X with
  | (p, l', _, R, s, m, args, _, meth, c, _, D', tys', A, nL') => p.tables.exec = Jvm.exec ∧ c.code = cc ∧ c.maxLocals = nL' ∧ nL = nL' ∧ s.vm.findClass own = some m.cls ∧ (∀ w ∈ Ts, w.before args s = true) ∧ va_K D'.1 vwCl tys' s ∧ (∀ q, s.heap.size ≤ q → A q) ∧ meth.locks = false ∧ meth.sig.returnType = ret ∧ rm = R ∧ l = l' ∧ D = D' ∧ tys = tys' ∧ meth.name = y.name ∧ yG D'.2 A s
def yQ (D : yD) (tys : List (ClassId × FieldType)) (A : Nat → Prop) (PO : Option Value → va_W → Prop) : Array Value → State → Outcome → State → Prop :=
  fun _ st oc t => ∃ r w', oc = .returned r ∧ PO r w' ∧ va_P D.1 vwCl w' t.heap ∧ va_K D.1 vwCl tys t ∧ va_D A w' ∧ va_F A st t
def YE (X : yA) (PO : Option Value → va_W → Prop) (z : Nat × Nat) : Prop :=
  match X with
  | (_, _, _, _, s, _, args, below, _, _, Q, D, tys, A, _) => Q = MQ below (yQ D tys A PO) args s z.1 z.2 A
def POd {β : Type} (rf : β → Option Value) (wf : β → va_W) (out : β) : Option Value → va_W → Prop := fun r w => r = rf out ∧ w = wf out
def yP (sz : Nat) (D : yD) (tys : List (ClassId × FieldType)) (w : va_W) : State → Prop := fun U => U.heap.size = sz ∧ va_P D.1 vwCl w U.heap ∧ va_K D.1 vwCl tys U ∧ va_D (fun _ => True) w ∧ yG D.2 (va_A w sz) U
/-- a method's contract: from the world w, with the arguments as, it answers r and leaves w', with PO r w' -/
def MC (l : Launch) (D : yD) (tys : List (ClassId × FieldType)) (y : MethodName) (Ts : List Cond) (rm : Room) (z : Nat × Nat) (as : List Value) (w : va_W) (PO : Option Value → va_W → Prop) : Prop :=
  ∀ sz : Nat, Met l y Ts rm (va_Pc as (yP sz D tys w)) (yQ D tys (va_A w sz) PO) z.1 z.2 (va_A w sz)
theorem MC.intro {l : Launch} {D : yD} {tys : List (ClassId × FieldType)} {y : MethodName} {Ts Ts' : List Cond} {rm : Room} {z : Nat × Nat} {as : List Value} {w : va_W} {PO : Option Value → va_W → Prop} {cc : ByteArray} {nL : Nat} {ret : Option FieldType} {own : String} {lv : List (Nat × Value)}
    (hy : plainName y.cls = true) (hyc : y.cls = own) (hw : Ts = .code y cc nL ret :: Ts') (hn : (lg_sl as).length ≤ nL) (hlv : lv_args 0 as = lv)
    (body : ∀ X : yA, YC X l D tys y own cc ret Ts nL rm → YE X PO z → Y X (0, 0) w lv 0 []) : MC l D tys y Ts rm z as w PO := by
  intro sz
  refine Met.ofW (cc := cc) (maxL := nL) (ret := ret) hy hw ?_
  intro p e s m args below meth c s₁ B hml hv
  obtain ⟨rfl, hsz, hP, hK, hD0, hG0⟩ := hv
  have hown : s.vm.findClass own = some m.cls := hyc ▸ findClass_of_methodNamed B.named
  subst hsz
  have hD := hD0.self (sz := s.heap.size)
  have hb := body (p, l, e, rm, s, m, as.toArray, below, meth, c, MQ below (yQ D tys (va_A w s.heap.size) PO) as.toArray s z.1 z.2 (va_A w s.heap.size), D, tys, va_A w s.heap.size, nL)
    ⟨B.exec, B.bytes, hml, rfl, hown, atoms_spec (ws := Ts) B.pre, hK, fun q h => Or.inr h, B.notSynchronized, B.returns, rfl, rfl, rfl, rfl, (name_of_methodNamed B.named B.method).1, hG0⟩ rfl
  have hl := lv_entry as (n := nL) hn
  rw [hlv] at hl
  rw [lg_entry_eq]
  exact hb s.heap [] _ hP hD va_S.rf hl
/-! what comes back at places of a world -/
def yput : va_W → List Nat → va_W → va_W
  | ws, [], _ => ws
  | ws, _ :: _, [] => ws
  | ws, i :: is, q :: qs => yput (ws.set i q) is qs
theorem yput_spec : ∀ (is : List Nat) (ws w1 : va_W) (k : Nat) (q : Nat × va_E), is.length = w1.length → (yput ws is w1)[k]? = some q → (∃ j : Nat, is[j]? = some k ∧ w1[j]? = some q) ∨ (k ∉ is ∧ ws[k]? = some q)
  | [], ws, w1, k, q, _, h => Or.inr ⟨List.not_mem_nil, by simpa [yput] using h⟩
  | i :: is, ws, [], k, q, hl, h => by simp at hl
  | i :: is, ws, c :: cs, k, q, hl, h => by
    rcases yput_spec is (ws.set i c) cs k q (by simpa using hl) h with ⟨j, h1, h2⟩ | ⟨h1, h2⟩
    · exact Or.inl ⟨j + 1, by simpa using h1, by simpa using h2⟩
    · by_cases hk : k = i
      · subst hk
        have hlt : k < ws.length := by
          have := (List.getElem?_eq_some_iff.mp h2).1
          simpa using this
        rw [List.getElem?_set_self hlt] at h2
        exact Or.inl ⟨0, by simp, by simpa using h2⟩
      · rw [List.getElem?_set_ne (Ne.symm hk)] at h2
        refine Or.inr ⟨?_, h2⟩
        intro hm
        rcases List.mem_cons.mp hm with h3 | h3
        · exact hk h3
        · exact h1 h3
theorem yput_fst : ∀ (is : List Nat) (ws w1 : va_W), (∀ (j i : Nat) (q q0 : Nat × va_E), is[j]? = some i → w1[j]? = some q → ws[i]? = some q0 → q0.1 = q.1) → (yput ws is w1).map Prod.fst = ws.map Prod.fst
  | [], ws, w1, _ => by simp [yput]
  | i :: is, ws, [], _ => by simp [yput]
  | i :: is, ws, c :: cs, h => by
    have hset : (ws.set i c).map Prod.fst = ws.map Prod.fst := by
      apply List.ext_getElem?
      intro n
      rw [List.getElem?_map, List.getElem?_map]
      by_cases hn : n = i
      · subst hn
        by_cases hlt : n < ws.length
        · rw [List.getElem?_set_self hlt]
          have h0 := h 0 n c ws[n] (by simp) (by simp) (List.getElem?_eq_getElem hlt)
          rw [List.getElem?_eq_getElem hlt]
          simp [h0]
        · rw [List.getElem?_eq_none (by simp; omega), List.getElem?_eq_none (by omega)]
      · rw [List.getElem?_set_ne (Ne.symm hn)]
    show (yput (ws.set i c) is cs).map Prod.fst = _
    rw [yput_fst is (ws.set i c) cs, hset]
    intro j i2 q q0 h1 h2 h3
    have hm : (ws.set i c).map Prod.fst = ws.map Prod.fst := hset
    have h4 : ((ws.set i c).map Prod.fst)[i2]? = some q0.1 := by rw [List.getElem?_map, h3]; rfl
    rw [hm, List.getElem?_map] at h4
    cases h5 : ws[i2]? with
    | none => rw [h5] at h4; cases h4
    | some q1 =>
      rw [h5] at h4
      have h6 := h (j + 1) i2 q q1 (by simpa using h1) (by simpa using h2) h5
      have h7 : q1.1 = q0.1 := Option.some.inj h4
      rw [← h7]; exact h6
theorem yD_fst {A : Nat → Prop} {w w' : va_W} (h : va_D A w) (hf : w'.map Prod.fst = w.map Prod.fst) : va_D A w' := by
  have key : ∀ (k : Nat) (q : Nat × va_E), w'[k]? = some q → ∃ q0, w[k]? = some q0 ∧ q0.1 = q.1 := by
    intro k q hk
    have h1 : (w'.map Prod.fst)[k]? = some q.1 := by rw [List.getElem?_map, hk]; rfl
    rw [hf, List.getElem?_map] at h1
    cases h2 : w[k]? with
    | none => rw [h2] at h1; cases h1
    | some q0 => rw [h2] at h1; exact ⟨q0, rfl, Option.some.inj h1⟩
  refine ⟨fun i j x y hi hj hxy => ?_, fun k q hk => ?_⟩
  · obtain ⟨x0, h1, h2⟩ := key i x hi
    obtain ⟨y0, h3, h4⟩ := key j y hj
    exact h.1 i j x0 y0 h1 h3 (by rw [h2, h4]; exact hxy)
  · obtain ⟨q0, h1, h2⟩ := key k q hk
    rw [← h2]; exact h.2 k q0 h1
theorem yjoin {A0 : Nat → Prop} {D : va_G} {ws wc w1 : va_W} {H H1 : Heap} (hP : va_P D vwCl ws H) (hD : va_D A0 ws) (is : List Nat) (hC : is.map (fun i => ws[i]?) = wc.map some) (hf : w1.map Prod.fst = wc.map Prod.fst)
    (hk : ∀ q : Nat, q < H.size → ¬ va_A wc H.size q → H1[q]? = H[q]?) (hP1 : va_P D vwCl w1 H1) : va_P D vwCl (yput ws is w1) H1 ∧ va_D A0 (yput ws is w1) := by
  have hlen : is.length = w1.length := by
    have h1 := congrArg List.length hC
    have h2 := congrArg List.length hf
    simp at h1 h2
    omega
  have at' : ∀ (k : Nat) (q : Nat × va_E), wc[k]? = some q → ∃ i, is[k]? = some i ∧ ws[i]? = some q := by
    intro k q hq
    have h1 : (is.map (fun i => ws[i]?))[k]? = some (some q) := by rw [hC, List.getElem?_map, hq]; rfl
    rw [List.getElem?_map] at h1
    cases hi : is[k]? with
    | none => rw [hi] at h1; cases h1
    | some i => rw [hi] at h1; exact ⟨i, rfl, Option.some.inj h1⟩
  refine ⟨fun k q hq => ?_, yD_fst hD (yput_fst is ws w1 fun j i q q0 h1 h2 h3 => ?_)⟩
  · rcases yput_spec is ws w1 k q hlen hq with ⟨j, h1, h2⟩ | ⟨h1, h2⟩
    · exact hP1 j q h2
    · have hlt := (hP k q h2).lt
      refine (hP k q h2).kept (hk q.1 hlt fun h => ?_)
      rcases h with ⟨k2, e, h⟩ | h
      · obtain ⟨i, h3, h4⟩ := at' k2 (q.1, e) h
        have hij := hD.1 k i q (q.1, e) h2 h4 rfl
        subst hij
        exact h1 (List.mem_of_getElem? h3)
      · omega
  · have h4 : (w1.map Prod.fst)[j]? = some q.1 := by rw [List.getElem?_map, h2]; rfl
    rw [hf, List.getElem?_map] at h4
    cases h5 : wc[j]? with
    | none => rw [h5] at h4; cases h4
    | some q2 =>
      rw [h5] at h4
      obtain ⟨i', h6, h7⟩ := at' j q2 h5
      rw [h1] at h6
      cases h6
      rw [h3] at h7
      have h8 : q0 = q2 := Option.some.inj h7
      rw [h8]
      exact Option.some.inj h4

/-- the cells that stand at places of a world (a chain of 'and's: each a check of its own) -/
def ychk (ws : va_W) : List Nat → va_W → Prop
  | [], [] => True
  | i :: is, c :: cs => ws[i]? = some c ∧ ychk ws is cs
  | [], _ :: _ => False
  | _ :: _, [] => False
theorem ychk_map : ∀ (ws : va_W) (is : List Nat) (cs : va_W), ychk ws is cs → is.map (fun i => ws[i]?) = cs.map some
  | ws, [], [], _ => rfl
  | ws, i :: is, c :: cs, h => by
    obtain ⟨h1, h2⟩ := h
    rw [List.map_cons, List.map_cons, h1, ychk_map ws is cs h2]
  | ws, [], _ :: _, h => absurd h (by intro h; exact h)
  | ws, _ :: _, [], h => absurd h (by intro h; exact h)
theorem yjoin3 {A0 : Nat → Prop} {D : va_G} {ws ws' wc w1 : va_W} {H H1 : Heap} (hP : va_P D vwCl ws H) (hD : va_D A0 ws) (is rs : List Nat) (n : Nat) (hn : ws'.length = n) (hcov : (List.range n).all (fun k => (is ++ rs).elem k) = true) (hdis : rs.all (fun k => !(is.elem k)) = true) (hC : is.map (fun i => ws[i]?) = wc.map some) (hf : w1.map Prod.fst = wc.map Prod.fst) (hI : is.map (fun i => ws'[i]?) = w1.map some) (hR : rs.map (fun i => ws[i]?) = rs.map (fun i => ws'[i]?))
    (hk : ∀ q : Nat, q < H.size → ¬ va_A wc H.size q → H1[q]? = H[q]?) (hP1 : va_P D vwCl w1 H1) : va_P D vwCl ws' H1 ∧ va_D A0 ws' := by
  -- each place is the callee's, or it is as it was
  have key : ∀ (k : Nat) (q : Nat × va_E), ws'[k]? = some q → (∃ j : Nat, is[j]? = some k ∧ w1[j]? = some q) ∨ (k ∉ is ∧ ws[k]? = some q) := by
    intro k q hq
    have hlt : k < n := by rw [← hn]; exact (List.getElem?_eq_some_iff.mp hq).1
    have h1 := List.all_eq_true.mp hcov k (List.mem_range.mpr hlt)
    simp only [List.elem_eq_mem, List.mem_append, decide_eq_true_eq] at h1
    rcases h1 with h1 | h1
    · obtain ⟨j, hj⟩ := List.getElem?_of_mem h1
      refine Or.inl ⟨j, hj, ?_⟩
      have h2 : (is.map (fun i => ws'[i]?))[j]? = some (ws'[k]?) := by rw [List.getElem?_map, hj]; rfl
      rw [hI, List.getElem?_map, hq] at h2
      cases h3 : w1[j]? with
      | none => rw [h3] at h2; cases h2
      | some q' => rw [h3] at h2; exact Option.some.inj h2
    · have h2 := List.all_eq_true.mp hdis k h1
      simp only [List.elem_eq_mem, Bool.not_eq_true', decide_eq_false_iff_not] at h2
      refine Or.inr ⟨h2, ?_⟩
      obtain ⟨j, hj⟩ := List.getElem?_of_mem h1
      have h3 : (rs.map (fun i => ws[i]?))[j]? = some (ws[k]?) := by rw [List.getElem?_map, hj]; rfl
      rw [hR, List.getElem?_map, hj] at h3
      have h4 : ws'[k]? = ws[k]? := Option.some.inj h3
      rw [← h4]; exact hq
  have at' : ∀ (k : Nat) (q : Nat × va_E), wc[k]? = some q → ∃ i, is[k]? = some i ∧ ws[i]? = some q := by
    intro k q hq
    have h1 : (is.map (fun i => ws[i]?))[k]? = some (some q) := by rw [hC, List.getElem?_map, hq]; rfl
    rw [List.getElem?_map] at h1
    cases hi : is[k]? with
    | none => rw [hi] at h1; cases h1
    | some i => rw [hi] at h1; exact ⟨i, rfl, Option.some.inj h1⟩
  have fst' : ∀ (k : Nat) (q : Nat × va_E), ws'[k]? = some q → ∃ q0, ws[k]? = some q0 ∧ q0.1 = q.1 := by
    intro k q hq
    rcases key k q hq with ⟨j, h1, h2⟩ | ⟨-, h1⟩
    · have h4 : (w1.map Prod.fst)[j]? = some q.1 := by rw [List.getElem?_map, h2]; rfl
      rw [hf, List.getElem?_map] at h4
      cases h5 : wc[j]? with
      | none => rw [h5] at h4; cases h4
      | some q2 =>
        rw [h5] at h4
        obtain ⟨i', h6, h7⟩ := at' j q2 h5
        rw [h1] at h6
        cases h6
        exact ⟨q2, h7, Option.some.inj h4⟩
    · exact ⟨q, h1, rfl⟩
  refine ⟨fun k q hq => ?_, fun i j x y hi hj hxy => ?_, fun k q hk => ?_⟩
  · rcases key k q hq with ⟨j, h1, h2⟩ | ⟨h1, h2⟩
    · exact hP1 j q h2
    · refine (hP k q h2).kept (hk q.1 (hP k q h2).lt fun h => ?_)
      rcases h with ⟨k2, e, h⟩ | h
      · obtain ⟨i, h3, h4⟩ := at' k2 (q.1, e) h
        have hij := hD.1 k i q (q.1, e) h2 h4 rfl
        subst hij
        exact h1 (List.mem_of_getElem? h3)
      · have := (hP k q h2).lt
        omega
  · obtain ⟨x0, h1, h2⟩ := fst' i x hi
    obtain ⟨y0, h3, h4⟩ := fst' j y hj
    exact hD.1 i j x0 y0 h1 h3 (by rw [h2, h4]; exact hxy)
  · obtain ⟨q0, h1, h2⟩ := fst' k q hk
    rw [← h2]; exact hD.2 k q0 h1
section YL
variable {X : yA} {l : Launch} {D : yD} {tys : List (ClassId × FieldType)} {y : MethodName} {own : String} {cc : ByteArray} {ret : Option FieldType} {Ts : List Cond} {nL : Nat} {rm : Room} {z : Nat × Nat} {ws : va_W} {lv : List (Nat × Value)} {pc : Nat} {st : List Value}
theorem Yiload_n (C : YC X l D tys y own cc ret Ts nL rm) {k : Fin 4} {i : Nat} {x : Int32} (hdg : decode cc pc = .ok (.iload_n k, 1)) (j : Nat) (hi : (k : Nat) = i) (hj : lv[j]? = some (i, .int x)) (kk : Y X z ws lv (pc + 1) (.int x :: st)) : Y X z ws lv pc st := by
  obtain ⟨p, l', e, R, s, m, args, below, meth, c, Q, D', tys', A, nL'⟩ := X
  obtain ⟨hx, hb, hml, hnl, hown, hts, hK, hA, hlk, hr, hR, hl0, hD0, ht0, hnm, hGs⟩ := C
  subst hnl hR hl0 hD0 ht0
  intro H locs ls hP hD hS hl
  exact lv_iload_n hx hb hdg hi (lv_at hl j hj) (kk H locs ls hP hD hS hl)
theorem Yiload (C : YC X l D tys y own cc ret Ts nL rm) {i : Nat} {x : Int32} (hdg : decode cc pc = .ok (.iload i, 2)) (j : Nat) (hj : lv[j]? = some (i, .int x)) (kk : Y X z ws lv (pc + 2) (.int x :: st)) : Y X z ws lv pc st := by
  obtain ⟨p, l', e, R, s, m, args, below, meth, c, Q, D', tys', A, nL'⟩ := X
  obtain ⟨hx, hb, hml, hnl, hown, hts, hK, hA, hlk, hr, hR, hl0, hD0, ht0, hnm, hGs⟩ := C
  subst hnl hR hl0 hD0 ht0
  intro H locs ls hP hD hS hl
  exact lv_iload hx hb hdg (lv_at hl j hj) (kk H locs ls hP hD hS hl)
theorem Ylload_n (C : YC X l D tys y own cc ret Ts nL rm) {k : Fin 4} {i : Nat} {x : Int64} (hdg : decode cc pc = .ok (.lload_n k, 1)) (j : Nat) (hi : (k : Nat) = i) (hj : lv[j]? = some (i, .long x)) (kk : Y X z ws lv (pc + 1) (.long x :: st)) : Y X z ws lv pc st := by
  obtain ⟨p, l', e, R, s, m, args, below, meth, c, Q, D', tys', A, nL'⟩ := X
  obtain ⟨hx, hb, hml, hnl, hown, hts, hK, hA, hlk, hr, hR, hl0, hD0, ht0, hnm, hGs⟩ := C
  subst hnl hR hl0 hD0 ht0
  intro H locs ls hP hD hS hl
  exact lv_lload_n hx hb hdg hi (lv_at hl j hj) (kk H locs ls hP hD hS hl)
theorem Ylload (C : YC X l D tys y own cc ret Ts nL rm) {i : Nat} {x : Int64} (hdg : decode cc pc = .ok (.lload i, 2)) (j : Nat) (hj : lv[j]? = some (i, .long x)) (kk : Y X z ws lv (pc + 2) (.long x :: st)) : Y X z ws lv pc st := by
  obtain ⟨p, l', e, R, s, m, args, below, meth, c, Q, D', tys', A, nL'⟩ := X
  obtain ⟨hx, hb, hml, hnl, hown, hts, hK, hA, hlk, hr, hR, hl0, hD0, ht0, hnm, hGs⟩ := C
  subst hnl hR hl0 hD0 ht0
  intro H locs ls hP hD hS hl
  exact lv_lload hx hb hdg (lv_at hl j hj) (kk H locs ls hP hD hS hl)
theorem Yaload_n (C : YC X l D tys y own cc ret Ts nL rm) {k : Fin 4} {i : Nat} {x : Nat} (hdg : decode cc pc = .ok (.aload_n k, 1)) (j : Nat) (hi : (k : Nat) = i) (hj : lv[j]? = some (i, .ref x)) (kk : Y X z ws lv (pc + 1) (.ref x :: st)) : Y X z ws lv pc st := by
  obtain ⟨p, l', e, R, s, m, args, below, meth, c, Q, D', tys', A, nL'⟩ := X
  obtain ⟨hx, hb, hml, hnl, hown, hts, hK, hA, hlk, hr, hR, hl0, hD0, ht0, hnm, hGs⟩ := C
  subst hnl hR hl0 hD0 ht0
  intro H locs ls hP hD hS hl
  exact lv_aload_n hx hb hdg hi (lv_at hl j hj) (kk H locs ls hP hD hS hl)
theorem Yaload (C : YC X l D tys y own cc ret Ts nL rm) {i : Nat} {x : Nat} (hdg : decode cc pc = .ok (.aload i, 2)) (j : Nat) (hj : lv[j]? = some (i, .ref x)) (kk : Y X z ws lv (pc + 2) (.ref x :: st)) : Y X z ws lv pc st := by
  obtain ⟨p, l', e, R, s, m, args, below, meth, c, Q, D', tys', A, nL'⟩ := X
  obtain ⟨hx, hb, hml, hnl, hown, hts, hK, hA, hlk, hr, hR, hl0, hD0, ht0, hnm, hGs⟩ := C
  subst hnl hR hl0 hD0 ht0
  intro H locs ls hP hD hS hl
  exact lv_aload hx hb hdg (lv_at hl j hj) (kk H locs ls hP hD hS hl)
def ylp : List (Nat × Value) → Nat → Value → List (Nat × Value)
  | [], i, v => [(i, v)]
  | q :: l, i, v => if q.1 = i then (i, v) :: l else if i < q.1 then (i, v) :: q :: l else q :: ylp l i v
theorem ylp_mem : ∀ (l : List (Nat × Value)) (i : Nat) (v : Value) (q : Nat × Value), q ∈ ylp l i v → q = (i, v) ∨ q ∈ l
  | [], i, v, q, h => by rcases List.mem_cons.mp h with h | h; exact Or.inl h; cases h
  | a :: l, i, v, q, h => by
    unfold ylp at h
    split at h
    · rcases List.mem_cons.mp h with h | h
      · exact Or.inl h
      · exact Or.inr (List.mem_cons_of_mem _ h)
    · split at h
      · rcases List.mem_cons.mp h with h | h
        · exact Or.inl h
        · exact Or.inr h
      · rcases List.mem_cons.mp h with h | h
        · exact Or.inr (by rw [h]; exact List.mem_cons_self)
        · rcases ylp_mem l i v q h with h | h
          · exact Or.inl h
          · exact Or.inr (List.mem_cons_of_mem _ h)
/-- the locals behind a store: what is of the old list and isn't the place (nor a long's half there), and the new value -/
def ylo (lv : List (Nat × Value)) (i : Nat) (v : Value) : List (Nat × Value) := ylp (lv.filter (fun q => !(q.1 == i) && !(q.1 + 1 == i && q.2.category == 2))) i v
def ylo2 (lv : List (Nat × Value)) (i : Nat) (v : Value) : List (Nat × Value) := ylp (lv.filter (fun q => !(q.1 == i) && (!(q.1 == i + 1) && !(q.1 + 1 == i && q.2.category == 2)))) i v
theorem ylo_has {ls : Array Slot} {lv : List (Nat × Value)} {i : Nat} {v : Value} (h : lv_has ls nL ((i, v) :: lv.filter (fun q => !(q.1 == i) && !(q.1 + 1 == i && q.2.category == 2)))) : lv_has ls nL (ylo lv i v) := by
  refine ⟨h.1, h.2.1, fun q hq => h.2.2 q ?_⟩
  rcases ylp_mem _ _ _ _ hq with h1 | h1
  · rw [h1]; exact List.mem_cons_self
  · exact List.mem_cons_of_mem _ h1
theorem ylo2_has {ls : Array Slot} {lv : List (Nat × Value)} {i : Nat} {v : Value} (h : lv_has ls nL ((i, v) :: lv.filter (fun q => !(q.1 == i) && (!(q.1 == i + 1) && !(q.1 + 1 == i && q.2.category == 2))))) : lv_has ls nL (ylo2 lv i v) := by
  refine ⟨h.1, h.2.1, fun q hq => h.2.2 q ?_⟩
  rcases ylp_mem _ _ _ _ hq with h1 | h1
  · rw [h1]; exact List.mem_cons_self
  · exact List.mem_cons_of_mem _ h1
theorem Yistore_n (C : YC X l D tys y own cc ret Ts nL rm) {k : Fin 4} {i : Nat} {x : Int32} {lv' : List (Nat × Value)} (hdg : decode cc pc = .ok (.istore_n k, 1)) (hi : (k : Nat) = i) (hn : i < nL) (hl2 : ylo lv i (.int x) = lv') (kk : Y X z ws lv' (pc + 1) st) : Y X z ws lv pc (.int x :: st) := by
  obtain ⟨p, l', e, R, s, m, args, below, meth, c, Q, D', tys', A, nL'⟩ := X
  obtain ⟨hx, hb, hml, hnl, hown, hts, hK, hA, hlk, hr, hR, hl0, hD0, ht0, hnm, hGs⟩ := C
  subst hnl hR hl0 hD0 ht0
  intro H locs ls hP hD hS hl
  exact lv_istore_n hx hb hdg hi hl hn rfl (fun ls2 h2 => kk H locs ls2 hP hD hS (hl2 ▸ ylo_has h2))
theorem Yistore (C : YC X l D tys y own cc ret Ts nL rm) {i : Nat} {x : Int32} {lv' : List (Nat × Value)} (hdg : decode cc pc = .ok (.istore i, 2)) (hn : i < nL) (hl2 : ylo lv i (.int x) = lv') (kk : Y X z ws lv' (pc + 2) st) : Y X z ws lv pc (.int x :: st) := by
  obtain ⟨p, l', e, R, s, m, args, below, meth, c, Q, D', tys', A, nL'⟩ := X
  obtain ⟨hx, hb, hml, hnl, hown, hts, hK, hA, hlk, hr, hR, hl0, hD0, ht0, hnm, hGs⟩ := C
  subst hnl hR hl0 hD0 ht0
  intro H locs ls hP hD hS hl
  exact lv_istore hx hb hdg hl hn rfl (fun ls2 h2 => kk H locs ls2 hP hD hS (hl2 ▸ ylo_has h2))
theorem Yastore_n (C : YC X l D tys y own cc ret Ts nL rm) {k : Fin 4} {i : Nat} {x : Nat} {lv' : List (Nat × Value)} (hdg : decode cc pc = .ok (.astore_n k, 1)) (hi : (k : Nat) = i) (hn : i < nL) (hl2 : ylo lv i (.ref x) = lv') (kk : Y X z ws lv' (pc + 1) st) : Y X z ws lv pc (.ref x :: st) := by
  obtain ⟨p, l', e, R, s, m, args, below, meth, c, Q, D', tys', A, nL'⟩ := X
  obtain ⟨hx, hb, hml, hnl, hown, hts, hK, hA, hlk, hr, hR, hl0, hD0, ht0, hnm, hGs⟩ := C
  subst hnl hR hl0 hD0 ht0
  intro H locs ls hP hD hS hl
  exact lv_astore_n hx hb hdg hi hl hn rfl (fun ls2 h2 => kk H locs ls2 hP hD hS (hl2 ▸ ylo_has h2))
theorem Yastore (C : YC X l D tys y own cc ret Ts nL rm) {i : Nat} {x : Nat} {lv' : List (Nat × Value)} (hdg : decode cc pc = .ok (.astore i, 2)) (hn : i < nL) (hl2 : ylo lv i (.ref x) = lv') (kk : Y X z ws lv' (pc + 2) st) : Y X z ws lv pc (.ref x :: st) := by
  obtain ⟨p, l', e, R, s, m, args, below, meth, c, Q, D', tys', A, nL'⟩ := X
  obtain ⟨hx, hb, hml, hnl, hown, hts, hK, hA, hlk, hr, hR, hl0, hD0, ht0, hnm, hGs⟩ := C
  subst hnl hR hl0 hD0 ht0
  intro H locs ls hP hD hS hl
  exact lv_astore hx hb hdg hl hn rfl (fun ls2 h2 => kk H locs ls2 hP hD hS (hl2 ▸ ylo_has h2))
theorem Ylstore (C : YC X l D tys y own cc ret Ts nL rm) {i : Nat} {x : Int64} {lv' : List (Nat × Value)} (hdg : decode cc pc = .ok (.lstore i, 2)) (hn : i + 1 < nL) (hl2 : ylo2 lv i (.long x) = lv') (kk : Y X z ws lv' (pc + 2) st) : Y X z ws lv pc (.long x :: st) := by
  obtain ⟨p, l', e, R, s, m, args, below, meth, c, Q, D', tys', A, nL'⟩ := X
  obtain ⟨hx, hb, hml, hnl, hown, hts, hK, hA, hlk, hr, hR, hl0, hD0, ht0, hnm, hGs⟩ := C
  subst hnl hR hl0 hD0 ht0
  intro H locs ls hP hD hS hl
  exact lv_lstore hx hb hdg hl hn rfl (fun ls2 h2 => kk H locs ls2 hP hD hS (hl2 ▸ ylo2_has h2))
theorem Yiinc (C : YC X l D tys y own cc ret Ts nL rm) {i : Nat} {n : Int} {x v : Int32} {lv' : List (Nat × Value)} (hdg : decode cc pc = .ok (.iinc i n, 3)) (j : Nat) (hj : lv[j]? = some (i, .int x)) (hv : x + Int32.ofInt n = v) (hn : i < nL) (hl2 : ylo lv i (.int v) = lv') (kk : Y X z ws lv' (pc + 3) st) : Y X z ws lv pc st := by
  obtain ⟨p, l', e, R, s, m, args, below, meth, c, Q, D', tys', A, nL'⟩ := X
  obtain ⟨hx, hb, hml, hnl, hown, hts, hK, hA, hlk, hr, hR, hl0, hD0, ht0, hnm, hGs⟩ := C
  subst hnl hR hl0 hD0 ht0
  intro H locs ls hP hD hS hl
  exact lv_iinc hx hb hdg hl hj hv hn rfl (fun ls2 h2 => kk H locs ls2 hP hD hS (hl2 ▸ ylo_has h2))
theorem Yjmp (C : YC X l D tys y own cc ret Ts nL rm) {lv' : List (Nat × Value)} (ks : List Nat) (hl2 : lv_pick lv ks = lv') (kk : Y X z ws lv' pc st) : Y X z ws lv pc st := by
  obtain ⟨p, l', e, R, s, m, args, below, meth, c, Q, D', tys', A, nL'⟩ := X
  obtain ⟨hx, hb, hml, hnl, hown, hts, hK, hA, hlk, hr, hR, hl0, hD0, ht0, hnm, hGs⟩ := C
  subst hnl hR hl0 hD0 ht0
  intro H locs ls hP hD hS hl
  exact kk H locs ls hP hD hS (lv_sub hl ks hl2)
theorem Yiconst (C : YC X l D tys y own cc ret Ts nL rm) {n : Int} (v : Int32) (hdg : decode cc pc = .ok (.iconst n, 1)) (hv : Int32.ofInt n = v) (kk : Y X z ws lv (pc + 1) (.int v :: st)) : Y X z ws lv pc st := by
  obtain ⟨p, l', e, R, s, m, args, below, meth, c, Q, D', tys', A, nL'⟩ := X
  obtain ⟨hx, hb, hml, hnl, hown, hts, hK, hA, hlk, hr, hR, hl0, hD0, ht0, hnm, hGs⟩ := C
  subst hnl hR hl0 hD0 ht0
  intro H locs ls hP hD hS hl
  exact lv_iconst hx hb hdg hv (kk H locs ls hP hD hS hl)
theorem Ybipush (C : YC X l D tys y own cc ret Ts nL rm) {n : Int} (v : Int32) (hdg : decode cc pc = .ok (.bipush n, 2)) (hv : (Int8.ofInt n).toInt32 = v) (kk : Y X z ws lv (pc + 2) (.int v :: st)) : Y X z ws lv pc st := by
  obtain ⟨p, l', e, R, s, m, args, below, meth, c, Q, D', tys', A, nL'⟩ := X
  obtain ⟨hx, hb, hml, hnl, hown, hts, hK, hA, hlk, hr, hR, hl0, hD0, ht0, hnm, hGs⟩ := C
  subst hnl hR hl0 hD0 ht0
  intro H locs ls hP hD hS hl
  exact lv_bipush hx hb hdg hv (kk H locs ls hP hD hS hl)
theorem Ysipush (C : YC X l D tys y own cc ret Ts nL rm) {n : Int} (v : Int32) (hdg : decode cc pc = .ok (.sipush n, 3)) (hv : (Int16.ofInt n).toInt32 = v) (kk : Y X z ws lv (pc + 3) (.int v :: st)) : Y X z ws lv pc st := by
  obtain ⟨p, l', e, R, s, m, args, below, meth, c, Q, D', tys', A, nL'⟩ := X
  obtain ⟨hx, hb, hml, hnl, hown, hts, hK, hA, hlk, hr, hR, hl0, hD0, ht0, hnm, hGs⟩ := C
  subst hnl hR hl0 hD0 ht0
  intro H locs ls hP hD hS hl
  exact lv_sipush hx hb hdg hv (kk H locs ls hP hD hS hl)
theorem Ylconst (C : YC X l D tys y own cc ret Ts nL rm) {n : Fin 2} (v : Int64) (hdg : decode cc pc = .ok (.lconst n, 1)) (hv : Int64.ofNat (n : Nat) = v) (kk : Y X z ws lv (pc + 1) (.long v :: st)) : Y X z ws lv pc st := by
  obtain ⟨p, l', e, R, s, m, args, below, meth, c, Q, D', tys', A, nL'⟩ := X
  obtain ⟨hx, hb, hml, hnl, hown, hts, hK, hA, hlk, hr, hR, hl0, hD0, ht0, hnm, hGs⟩ := C
  subst hnl hR hl0 hD0 ht0
  intro H locs ls hP hD hS hl
  exact lv_lconst hx hb hdg hv (kk H locs ls hP hD hS hl)
theorem Yldc (C : YC X l D tys y own cc ret Ts nL rm) {index : Nat} {v : Int32} (hdg : decode cc pc = .ok (.ldc index, 2)) (hc : Cond.constant own index v ∈ Ts) (kk : Y X z ws lv (pc + 2) (.int v :: st)) : Y X z ws lv pc st := by
  obtain ⟨p, l', e, R, s, m, args, below, meth, c, Q, D', tys', A, nL'⟩ := X
  obtain ⟨hx, hb, hml, hnl, hown, hts, hK, hA, hlk, hr, hR, hl0, hD0, ht0, hnm, hGs⟩ := C
  subst hnl hR hl0 hD0 ht0
  intro H locs ls hP hD hS hl
  exact lv_ldc hx hb hown (hts _ hc) hdg (kk H locs ls hP hD hS hl)
theorem Yldc_w (C : YC X l D tys y own cc ret Ts nL rm) {index : Nat} {v : Int32} (hdg : decode cc pc = .ok (.ldc_w index, 3)) (hc : Cond.constant own index v ∈ Ts) (kk : Y X z ws lv (pc + 3) (.int v :: st)) : Y X z ws lv pc st := by
  obtain ⟨p, l', e, R, s, m, args, below, meth, c, Q, D', tys', A, nL'⟩ := X
  obtain ⟨hx, hb, hml, hnl, hown, hts, hK, hA, hlk, hr, hR, hl0, hD0, ht0, hnm, hGs⟩ := C
  subst hnl hR hl0 hD0 ht0
  intro H locs ls hP hD hS hl
  exact (lv_ldcw hx hb hown (hts _ hc) hdg (kk H locs ls hP hD hS hl))
theorem Yldc2 (C : YC X l D tys y own cc ret Ts nL rm) {index : Nat} {v : Int64} (hdg : decode cc pc = .ok (.ldc2_w index, 3)) (hc : Cond.constantLong own index v ∈ Ts) (kk : Y X z ws lv (pc + 3) (.long v :: st)) : Y X z ws lv pc st := by
  obtain ⟨p, l', e, R, s, m, args, below, meth, c, Q, D', tys', A, nL'⟩ := X
  obtain ⟨hx, hb, hml, hnl, hown, hts, hK, hA, hlk, hr, hR, hl0, hD0, ht0, hnm, hGs⟩ := C
  subst hnl hR hl0 hD0 ht0
  intro H locs ls hP hD hS hl
  exact lv_ldc2 hx hb hown (hts _ hc) hdg (kk H locs ls hP hD hS hl)
theorem Ynull (C : YC X l D tys y own cc ret Ts nL rm) (hdg : decode cc pc = .ok (.aconst_null, 1)) (kk : Y X z ws lv (pc + 1) (.null :: st)) : Y X z ws lv pc st := by
  obtain ⟨p, l', e, R, s, m, args, below, meth, c, Q, D', tys', A, nL'⟩ := X
  obtain ⟨hx, hb, hml, hnl, hown, hts, hK, hA, hlk, hr, hR, hl0, hD0, ht0, hnm, hGs⟩ := C
  subst hnl hR hl0 hD0 ht0
  intro H locs ls hP hD hS hl
  exact lv_null hx hb hdg (kk H locs ls hP hD hS hl)
theorem Yiadd (C : YC X l D tys y own cc ret Ts nL rm) {x y1 : Int32} (hdg : decode cc pc = .ok (.iadd, 1)) (kk : Y X z ws lv (pc + 1) (.int (x + y1) :: st)) : Y X z ws lv pc (.int y1 :: .int x :: st) := by
  obtain ⟨p, l', e, R, s, m, args, below, meth, c, Q, D', tys', A, nL'⟩ := X
  obtain ⟨hx, hb, hml, hnl, hown, hts, hK, hA, hlk, hr, hR, hl0, hD0, ht0, hnm, hGs⟩ := C
  subst hnl hR hl0 hD0 ht0
  intro H locs ls hP hD hS hl
  exact lv_iadd hx hb hdg (kk H locs ls hP hD hS hl)
theorem Yisub (C : YC X l D tys y own cc ret Ts nL rm) {x y1 : Int32} (hdg : decode cc pc = .ok (.isub, 1)) (kk : Y X z ws lv (pc + 1) (.int (x - y1) :: st)) : Y X z ws lv pc (.int y1 :: .int x :: st) := by
  obtain ⟨p, l', e, R, s, m, args, below, meth, c, Q, D', tys', A, nL'⟩ := X
  obtain ⟨hx, hb, hml, hnl, hown, hts, hK, hA, hlk, hr, hR, hl0, hD0, ht0, hnm, hGs⟩ := C
  subst hnl hR hl0 hD0 ht0
  intro H locs ls hP hD hS hl
  exact lv_isub hx hb hdg (kk H locs ls hP hD hS hl)
theorem Yimul (C : YC X l D tys y own cc ret Ts nL rm) {x y1 : Int32} (hdg : decode cc pc = .ok (.imul, 1)) (kk : Y X z ws lv (pc + 1) (.int (x * y1) :: st)) : Y X z ws lv pc (.int y1 :: .int x :: st) := by
  obtain ⟨p, l', e, R, s, m, args, below, meth, c, Q, D', tys', A, nL'⟩ := X
  obtain ⟨hx, hb, hml, hnl, hown, hts, hK, hA, hlk, hr, hR, hl0, hD0, ht0, hnm, hGs⟩ := C
  subst hnl hR hl0 hD0 ht0
  intro H locs ls hP hD hS hl
  exact lv_imul hx hb hdg (kk H locs ls hP hD hS hl)
theorem Yiand (C : YC X l D tys y own cc ret Ts nL rm) {x y1 : Int32} (hdg : decode cc pc = .ok (.iand, 1)) (kk : Y X z ws lv (pc + 1) (.int (x &&& y1) :: st)) : Y X z ws lv pc (.int y1 :: .int x :: st) := by
  obtain ⟨p, l', e, R, s, m, args, below, meth, c, Q, D', tys', A, nL'⟩ := X
  obtain ⟨hx, hb, hml, hnl, hown, hts, hK, hA, hlk, hr, hR, hl0, hD0, ht0, hnm, hGs⟩ := C
  subst hnl hR hl0 hD0 ht0
  intro H locs ls hP hD hS hl
  exact lv_iand hx hb hdg (kk H locs ls hP hD hS hl)
theorem Yior (C : YC X l D tys y own cc ret Ts nL rm) {x y1 : Int32} (hdg : decode cc pc = .ok (.ior, 1)) (kk : Y X z ws lv (pc + 1) (.int (x ||| y1) :: st)) : Y X z ws lv pc (.int y1 :: .int x :: st) := by
  obtain ⟨p, l', e, R, s, m, args, below, meth, c, Q, D', tys', A, nL'⟩ := X
  obtain ⟨hx, hb, hml, hnl, hown, hts, hK, hA, hlk, hr, hR, hl0, hD0, ht0, hnm, hGs⟩ := C
  subst hnl hR hl0 hD0 ht0
  intro H locs ls hP hD hS hl
  exact lv_ior hx hb hdg (kk H locs ls hP hD hS hl)
theorem Yixor (C : YC X l D tys y own cc ret Ts nL rm) {x y1 : Int32} (hdg : decode cc pc = .ok (.ixor, 1)) (kk : Y X z ws lv (pc + 1) (.int (x ^^^ y1) :: st)) : Y X z ws lv pc (.int y1 :: .int x :: st) := by
  obtain ⟨p, l', e, R, s, m, args, below, meth, c, Q, D', tys', A, nL'⟩ := X
  obtain ⟨hx, hb, hml, hnl, hown, hts, hK, hA, hlk, hr, hR, hl0, hD0, ht0, hnm, hGs⟩ := C
  subst hnl hR hl0 hD0 ht0
  intro H locs ls hP hD hS hl
  exact lv_ixor hx hb hdg (kk H locs ls hP hD hS hl)
theorem Yishl (C : YC X l D tys y own cc ret Ts nL rm) {x y1 : Int32} (hdg : decode cc pc = .ok (.ishl, 1)) (kk : Y X z ws lv (pc + 1) (.int (x <<< (y1 &&& 31)) :: st)) : Y X z ws lv pc (.int y1 :: .int x :: st) := by
  obtain ⟨p, l', e, R, s, m, args, below, meth, c, Q, D', tys', A, nL'⟩ := X
  obtain ⟨hx, hb, hml, hnl, hown, hts, hK, hA, hlk, hr, hR, hl0, hD0, ht0, hnm, hGs⟩ := C
  subst hnl hR hl0 hD0 ht0
  intro H locs ls hP hD hS hl
  exact lv_ishl hx hb hdg (kk H locs ls hP hD hS hl)
theorem Yishr (C : YC X l D tys y own cc ret Ts nL rm) {x y1 : Int32} (hdg : decode cc pc = .ok (.ishr, 1)) (kk : Y X z ws lv (pc + 1) (.int (x >>> (y1 &&& 31)) :: st)) : Y X z ws lv pc (.int y1 :: .int x :: st) := by
  obtain ⟨p, l', e, R, s, m, args, below, meth, c, Q, D', tys', A, nL'⟩ := X
  obtain ⟨hx, hb, hml, hnl, hown, hts, hK, hA, hlk, hr, hR, hl0, hD0, ht0, hnm, hGs⟩ := C
  subst hnl hR hl0 hD0 ht0
  intro H locs ls hP hD hS hl
  exact lv_ishr hx hb hdg (kk H locs ls hP hD hS hl)
theorem Yland (C : YC X l D tys y own cc ret Ts nL rm) {x y1 : Int64} (hdg : decode cc pc = .ok (.land, 1)) (kk : Y X z ws lv (pc + 1) (.long (x &&& y1) :: st)) : Y X z ws lv pc (.long y1 :: .long x :: st) := by
  obtain ⟨p, l', e, R, s, m, args, below, meth, c, Q, D', tys', A, nL'⟩ := X
  obtain ⟨hx, hb, hml, hnl, hown, hts, hK, hA, hlk, hr, hR, hl0, hD0, ht0, hnm, hGs⟩ := C
  subst hnl hR hl0 hD0 ht0
  intro H locs ls hP hD hS hl
  exact lv_land hx hb hdg (kk H locs ls hP hD hS hl)
theorem Ylor (C : YC X l D tys y own cc ret Ts nL rm) {x y1 : Int64} (hdg : decode cc pc = .ok (.lor, 1)) (kk : Y X z ws lv (pc + 1) (.long (x ||| y1) :: st)) : Y X z ws lv pc (.long y1 :: .long x :: st) := by
  obtain ⟨p, l', e, R, s, m, args, below, meth, c, Q, D', tys', A, nL'⟩ := X
  obtain ⟨hx, hb, hml, hnl, hown, hts, hK, hA, hlk, hr, hR, hl0, hD0, ht0, hnm, hGs⟩ := C
  subst hnl hR hl0 hD0 ht0
  intro H locs ls hP hD hS hl
  exact lv_lor hx hb hdg (kk H locs ls hP hD hS hl)
theorem Yidiv (C : YC X l D tys y own cc ret Ts nL rm) {x y1 : Int32} (hdg : decode cc pc = .ok (.idiv, 1)) (hne : ¬ y1 = 0) (kk : Y X z ws lv (pc + 1) (.int (x / y1) :: st)) : Y X z ws lv pc (.int y1 :: .int x :: st) := by
  obtain ⟨p, l', e, R, s, m, args, below, meth, c, Q, D', tys', A, nL'⟩ := X
  obtain ⟨hx, hb, hml, hnl, hown, hts, hK, hA, hlk, hr, hR, hl0, hD0, ht0, hnm, hGs⟩ := C
  subst hnl hR hl0 hD0 ht0
  intro H locs ls hP hD hS hl
  exact lv_idiv hx hb hdg hne (kk H locs ls hP hD hS hl)
theorem Yirem (C : YC X l D tys y own cc ret Ts nL rm) {x y1 : Int32} (hdg : decode cc pc = .ok (.irem, 1)) (hne : ¬ y1 = 0) (kk : Y X z ws lv (pc + 1) (.int (x - x / y1 * y1) :: st)) : Y X z ws lv pc (.int y1 :: .int x :: st) := by
  obtain ⟨p, l', e, R, s, m, args, below, meth, c, Q, D', tys', A, nL'⟩ := X
  obtain ⟨hx, hb, hml, hnl, hown, hts, hK, hA, hlk, hr, hR, hl0, hD0, ht0, hnm, hGs⟩ := C
  subst hnl hR hl0 hD0 ht0
  intro H locs ls hP hD hS hl
  exact lv_irem hx hb hdg hne (kk H locs ls hP hD hS hl)
theorem Yiushr (C : YC X l D tys y own cc ret Ts nL rm) {x y1 : Int32} (hdg : decode cc pc = .ok (.iushr, 1)) (kk : Y X z ws lv (pc + 1) (.int ((x.toUInt32 >>> (y1.toUInt32 &&& Int32.toUInt32 31)).toInt32) :: st)) : Y X z ws lv pc (.int y1 :: .int x :: st) := by
  obtain ⟨p, l', e, R, s, m, args, below, meth, c, Q, D', tys', A, nL'⟩ := X
  obtain ⟨hx, hb, hml, hnl, hown, hts, hK, hA, hlk, hr, hR, hl0, hD0, ht0, hnm, hGs⟩ := C
  subst hnl hR hl0 hD0 ht0
  intro H locs ls hP hD hS hl
  exact lv_iushr hx hb hdg rfl (kk H locs ls hP hD hS hl)
theorem Ylshl (C : YC X l D tys y own cc ret Ts nL rm) {x : Int64} {y1 : Int32} (hdg : decode cc pc = .ok (.lshl, 1)) (kk : Y X z ws lv (pc + 1) (.long (x <<< (y1.toInt64 &&& 63)) :: st)) : Y X z ws lv pc (.int y1 :: .long x :: st) := by
  obtain ⟨p, l', e, R, s, m, args, below, meth, c, Q, D', tys', A, nL'⟩ := X
  obtain ⟨hx, hb, hml, hnl, hown, hts, hK, hA, hlk, hr, hR, hl0, hD0, ht0, hnm, hGs⟩ := C
  subst hnl hR hl0 hD0 ht0
  intro H locs ls hP hD hS hl
  exact lv_lshl hx hb hdg rfl (kk H locs ls hP hD hS hl)
theorem Yineg (C : YC X l D tys y own cc ret Ts nL rm) {x : Int32} (hdg : decode cc pc = .ok (.ineg, 1)) (kk : Y X z ws lv (pc + 1) (.int (-x) :: st)) : Y X z ws lv pc (.int x :: st) := by
  obtain ⟨p, l', e, R, s, m, args, below, meth, c, Q, D', tys', A, nL'⟩ := X
  obtain ⟨hx, hb, hml, hnl, hown, hts, hK, hA, hlk, hr, hR, hl0, hD0, ht0, hnm, hGs⟩ := C
  subst hnl hR hl0 hD0 ht0
  intro H locs ls hP hD hS hl
  exact lv_ineg hx hb hdg (kk H locs ls hP hD hS hl)
theorem Yi2l (C : YC X l D tys y own cc ret Ts nL rm) {x : Int32} (hdg : decode cc pc = .ok (.i2l, 1)) (kk : Y X z ws lv (pc + 1) (.long (x.toInt64) :: st)) : Y X z ws lv pc (.int x :: st) := by
  obtain ⟨p, l', e, R, s, m, args, below, meth, c, Q, D', tys', A, nL'⟩ := X
  obtain ⟨hx, hb, hml, hnl, hown, hts, hK, hA, hlk, hr, hR, hl0, hD0, ht0, hnm, hGs⟩ := C
  subst hnl hR hl0 hD0 ht0
  intro H locs ls hP hD hS hl
  exact lv_i2l hx hb hdg rfl (kk H locs ls hP hD hS hl)
theorem Yl2i (C : YC X l D tys y own cc ret Ts nL rm) {x : Int64} (hdg : decode cc pc = .ok (.l2i, 1)) (kk : Y X z ws lv (pc + 1) (.int (x.toInt32) :: st)) : Y X z ws lv pc (.long x :: st) := by
  obtain ⟨p, l', e, R, s, m, args, below, meth, c, Q, D', tys', A, nL'⟩ := X
  obtain ⟨hx, hb, hml, hnl, hown, hts, hK, hA, hlk, hr, hR, hl0, hD0, ht0, hnm, hGs⟩ := C
  subst hnl hR hl0 hD0 ht0
  intro H locs ls hP hD hS hl
  exact lv_l2i hx hb hdg rfl (kk H locs ls hP hD hS hl)
theorem Yi2b (C : YC X l D tys y own cc ret Ts nL rm) {x : Int32} (hdg : decode cc pc = .ok (.i2b, 1)) (kk : Y X z ws lv (pc + 1) (.int (x.toInt8.toInt32) :: st)) : Y X z ws lv pc (.int x :: st) := by
  obtain ⟨p, l', e, R, s, m, args, below, meth, c, Q, D', tys', A, nL'⟩ := X
  obtain ⟨hx, hb, hml, hnl, hown, hts, hK, hA, hlk, hr, hR, hl0, hD0, ht0, hnm, hGs⟩ := C
  subst hnl hR hl0 hD0 ht0
  intro H locs ls hP hD hS hl
  exact lv_i2b hx hb hdg rfl (kk H locs ls hP hD hS hl)
theorem Yi2s (C : YC X l D tys y own cc ret Ts nL rm) {x : Int32} (hdg : decode cc pc = .ok (.i2s, 1)) (kk : Y X z ws lv (pc + 1) (.int (x.toInt16.toInt32) :: st)) : Y X z ws lv pc (.int x :: st) := by
  obtain ⟨p, l', e, R, s, m, args, below, meth, c, Q, D', tys', A, nL'⟩ := X
  obtain ⟨hx, hb, hml, hnl, hown, hts, hK, hA, hlk, hr, hR, hl0, hD0, ht0, hnm, hGs⟩ := C
  subst hnl hR hl0 hD0 ht0
  intro H locs ls hP hD hS hl
  exact lv_i2s hx hb hdg rfl (kk H locs ls hP hD hS hl)
theorem Yi2c (C : YC X l D tys y own cc ret Ts nL rm) {x : Int32} (hdg : decode cc pc = .ok (.i2c, 1)) (kk : Y X z ws lv (pc + 1) (.int ((x.toUInt32 % 65536).toInt32) :: st)) : Y X z ws lv pc (.int x :: st) := by
  obtain ⟨p, l', e, R, s, m, args, below, meth, c, Q, D', tys', A, nL'⟩ := X
  obtain ⟨hx, hb, hml, hnl, hown, hts, hK, hA, hlk, hr, hR, hl0, hD0, ht0, hnm, hGs⟩ := C
  subst hnl hR hl0 hD0 ht0
  intro H locs ls hP hD hS hl
  exact lv_i2c hx hb hdg rfl (kk H locs ls hP hD hS hl)
theorem Ylcmp (C : YC X l D tys y own cc ret Ts nL rm) {x y1 : Int64} (hdg : decode cc pc = .ok (.lcmp, 1)) (kk : Y X z ws lv (pc + 1) (.int (lg_cmp x y1) :: st)) : Y X z ws lv pc (.long y1 :: .long x :: st) := by
  obtain ⟨p, l', e, R, s, m, args, below, meth, c, Q, D', tys', A, nL'⟩ := X
  obtain ⟨hx, hb, hml, hnl, hown, hts, hK, hA, hlk, hr, hR, hl0, hD0, ht0, hnm, hGs⟩ := C
  subst hnl hR hl0 hD0 ht0
  intro H locs ls hP hD hS hl
  exact W.lcmp hx hb hdg (kk H locs ls hP hD hS hl)
theorem Ydup (C : YC X l D tys y own cc ret Ts nL rm) {va : Value} (hdg : decode cc pc = .ok (.dup, 1)) (hva : va.category = 1) (kk : Y X z ws lv (pc + 1) (va :: va :: st)) : Y X z ws lv pc (va :: st) := by
  obtain ⟨p, l', e, R, s, m, args, below, meth, c, Q, D', tys', A, nL'⟩ := X
  obtain ⟨hx, hb, hml, hnl, hown, hts, hK, hA, hlk, hr, hR, hl0, hD0, ht0, hnm, hGs⟩ := C
  subst hnl hR hl0 hD0 ht0
  intro H locs ls hP hD hS hl
  exact lv_dup hx hb hdg hva (kk H locs ls hP hD hS hl)
theorem Ydup_x1 (C : YC X l D tys y own cc ret Ts nL rm) {va vb : Value} (hdg : decode cc pc = .ok (.dup_x1, 1)) (hva : va.category = 1) (hvb : vb.category = 1) (kk : Y X z ws lv (pc + 1) (va :: vb :: va :: st)) : Y X z ws lv pc (va :: vb :: st) := by
  obtain ⟨p, l', e, R, s, m, args, below, meth, c, Q, D', tys', A, nL'⟩ := X
  obtain ⟨hx, hb, hml, hnl, hown, hts, hK, hA, hlk, hr, hR, hl0, hD0, ht0, hnm, hGs⟩ := C
  subst hnl hR hl0 hD0 ht0
  intro H locs ls hP hD hS hl
  exact lv_dup_x1 hx hb hdg hva hvb (kk H locs ls hP hD hS hl)
theorem Ypop (C : YC X l D tys y own cc ret Ts nL rm) {va : Value} (hdg : decode cc pc = .ok (.pop, 1)) (hva : va.category = 1) (kk : Y X z ws lv (pc + 1) st) : Y X z ws lv pc (va :: st) := by
  obtain ⟨p, l', e, R, s, m, args, below, meth, c, Q, D', tys', A, nL'⟩ := X
  obtain ⟨hx, hb, hml, hnl, hown, hts, hK, hA, hlk, hr, hR, hl0, hD0, ht0, hnm, hGs⟩ := C
  subst hnl hR hl0 hD0 ht0
  intro H locs ls hP hD hS hl
  exact lv_pop hx hb hdg hva (kk H locs ls hP hD hS hl)
theorem Ygoto (C : YC X l D tys y own cc ret Ts nL rm) {off : Int} (tgt : Nat) (hdg : decode cc pc = .ok (.goto off, 3)) (ht : (pc : Int) + off = (tgt : Int)) (kk : Y X z ws lv tgt st) : Y X z ws lv pc st := by
  obtain ⟨p, l', e, R, s, m, args, below, meth, c, Q, D', tys', A, nL'⟩ := X
  obtain ⟨hx, hb, hml, hnl, hown, hts, hK, hA, hlk, hr, hR, hl0, hD0, ht0, hnm, hGs⟩ := C
  subst hnl hR hl0 hD0 ht0
  intro H locs ls hP hD hS hl
  exact lv_goto hx hb hdg ht (kk H locs ls hP hD hS hl)
theorem Yicmp_eq (C : YC X l D tys y own cc ret Ts nL rm) {β : Type} {a1 a2 : Option β} {o : Option β} {x y1 : Int32} {off : Int} (tgt : Nat) {dd : Decidable (x = y1)} (hdg : decode cc pc = .ok (.if_icmp .eq off, 3)) (ht : (pc : Int) + off = (tgt : Int)) (hxe : (@ite (Option β) (x = y1) dd a1 a2) = o) (kt : x = y1 → a1 = o → Y X z ws lv tgt st) (kf : ¬ x = y1 → a2 = o → Y X z ws lv (pc + 3) st) : Y X z ws lv pc (.int y1 :: .int x :: st) := by
  have hxx := hxe
  obtain ⟨p, l', e, R, s, m, args, below, meth, c, Q, D', tys', A, nL'⟩ := X
  obtain ⟨hx, hb, hml, hnl, hown, hts, hK, hA, hlk, hr, hR, hl0, hD0, ht0, hnm, hGs⟩ := C
  subst hnl hR hl0 hD0 ht0
  intro H locs ls hP hD hS hl
  exact lv_icmp_eq hx hb hdg ht (fun h => kt h ((if_pos h).symm.trans hxx) H locs ls hP hD hS hl) (fun h => kf h ((if_neg h).symm.trans hxx) H locs ls hP hD hS hl)
theorem Yicmp_ne (C : YC X l D tys y own cc ret Ts nL rm) {β : Type} {a1 a2 : Option β} {o : Option β} {x y1 : Int32} {off : Int} (tgt : Nat) {dd : Decidable (x = y1)} (hdg : decode cc pc = .ok (.if_icmp .ne off, 3)) (ht : (pc : Int) + off = (tgt : Int)) (hxe : (@ite (Option β) (x = y1) dd a1 a2) = o) (kt : ¬ x = y1 → a2 = o → Y X z ws lv tgt st) (kf : x = y1 → a1 = o → Y X z ws lv (pc + 3) st) : Y X z ws lv pc (.int y1 :: .int x :: st) := by
  have hxx := hxe
  obtain ⟨p, l', e, R, s, m, args, below, meth, c, Q, D', tys', A, nL'⟩ := X
  obtain ⟨hx, hb, hml, hnl, hown, hts, hK, hA, hlk, hr, hR, hl0, hD0, ht0, hnm, hGs⟩ := C
  subst hnl hR hl0 hD0 ht0
  intro H locs ls hP hD hS hl
  exact lv_icmp_ne hx hb hdg ht (fun h => kt h ((if_neg h).symm.trans hxx) H locs ls hP hD hS hl) (fun h => kf h ((if_pos h).symm.trans hxx) H locs ls hP hD hS hl)
theorem Yicmp_lt (C : YC X l D tys y own cc ret Ts nL rm) {β : Type} {a1 a2 : Option β} {o : Option β} {x y1 : Int32} {off : Int} (tgt : Nat) {dd : Decidable (x < y1)} (hdg : decode cc pc = .ok (.if_icmp .lt off, 3)) (ht : (pc : Int) + off = (tgt : Int)) (hxe : (@ite (Option β) (x < y1) dd a1 a2) = o) (kt : x < y1 → a1 = o → Y X z ws lv tgt st) (kf : ¬ x < y1 → a2 = o → Y X z ws lv (pc + 3) st) : Y X z ws lv pc (.int y1 :: .int x :: st) := by
  have hxx := hxe
  obtain ⟨p, l', e, R, s, m, args, below, meth, c, Q, D', tys', A, nL'⟩ := X
  obtain ⟨hx, hb, hml, hnl, hown, hts, hK, hA, hlk, hr, hR, hl0, hD0, ht0, hnm, hGs⟩ := C
  subst hnl hR hl0 hD0 ht0
  intro H locs ls hP hD hS hl
  exact lv_icmp_lt hx hb hdg ht (fun h => kt h ((if_pos h).symm.trans hxx) H locs ls hP hD hS hl) (fun h => kf h ((if_neg h).symm.trans hxx) H locs ls hP hD hS hl)
theorem Yicmp_ge (C : YC X l D tys y own cc ret Ts nL rm) {β : Type} {a1 a2 : Option β} {o : Option β} {x y1 : Int32} {off : Int} (tgt : Nat) {dd : Decidable (y1 ≤ x)} (hdg : decode cc pc = .ok (.if_icmp .ge off, 3)) (ht : (pc : Int) + off = (tgt : Int)) (hxe : (@ite (Option β) (y1 ≤ x) dd a1 a2) = o) (kt : y1 ≤ x → a1 = o → Y X z ws lv tgt st) (kf : ¬ y1 ≤ x → a2 = o → Y X z ws lv (pc + 3) st) : Y X z ws lv pc (.int y1 :: .int x :: st) := by
  have hxx := hxe
  obtain ⟨p, l', e, R, s, m, args, below, meth, c, Q, D', tys', A, nL'⟩ := X
  obtain ⟨hx, hb, hml, hnl, hown, hts, hK, hA, hlk, hr, hR, hl0, hD0, ht0, hnm, hGs⟩ := C
  subst hnl hR hl0 hD0 ht0
  intro H locs ls hP hD hS hl
  exact lv_icmp_ge hx hb hdg ht (fun h => kt h ((if_pos h).symm.trans hxx) H locs ls hP hD hS hl) (fun h => kf h ((if_neg h).symm.trans hxx) H locs ls hP hD hS hl)
theorem Yicmp_gt (C : YC X l D tys y own cc ret Ts nL rm) {β : Type} {a1 a2 : Option β} {o : Option β} {x y1 : Int32} {off : Int} (tgt : Nat) {dd : Decidable (y1 < x)} (hdg : decode cc pc = .ok (.if_icmp .gt off, 3)) (ht : (pc : Int) + off = (tgt : Int)) (hxe : (@ite (Option β) (y1 < x) dd a1 a2) = o) (kt : y1 < x → a1 = o → Y X z ws lv tgt st) (kf : ¬ y1 < x → a2 = o → Y X z ws lv (pc + 3) st) : Y X z ws lv pc (.int y1 :: .int x :: st) := by
  have hxx := hxe
  obtain ⟨p, l', e, R, s, m, args, below, meth, c, Q, D', tys', A, nL'⟩ := X
  obtain ⟨hx, hb, hml, hnl, hown, hts, hK, hA, hlk, hr, hR, hl0, hD0, ht0, hnm, hGs⟩ := C
  subst hnl hR hl0 hD0 ht0
  intro H locs ls hP hD hS hl
  exact lv_icmp_gt hx hb hdg ht (fun h => kt h ((if_pos h).symm.trans hxx) H locs ls hP hD hS hl) (fun h => kf h ((if_neg h).symm.trans hxx) H locs ls hP hD hS hl)
theorem Yicmp_le (C : YC X l D tys y own cc ret Ts nL rm) {β : Type} {a1 a2 : Option β} {o : Option β} {x y1 : Int32} {off : Int} (tgt : Nat) {dd : Decidable (x ≤ y1)} (hdg : decode cc pc = .ok (.if_icmp .le off, 3)) (ht : (pc : Int) + off = (tgt : Int)) (hxe : (@ite (Option β) (x ≤ y1) dd a1 a2) = o) (kt : x ≤ y1 → a1 = o → Y X z ws lv tgt st) (kf : ¬ x ≤ y1 → a2 = o → Y X z ws lv (pc + 3) st) : Y X z ws lv pc (.int y1 :: .int x :: st) := by
  have hxx := hxe
  obtain ⟨p, l', e, R, s, m, args, below, meth, c, Q, D', tys', A, nL'⟩ := X
  obtain ⟨hx, hb, hml, hnl, hown, hts, hK, hA, hlk, hr, hR, hl0, hD0, ht0, hnm, hGs⟩ := C
  subst hnl hR hl0 hD0 ht0
  intro H locs ls hP hD hS hl
  exact lv_icmp_le hx hb hdg ht (fun h => kt h ((if_pos h).symm.trans hxx) H locs ls hP hD hS hl) (fun h => kf h ((if_neg h).symm.trans hxx) H locs ls hP hD hS hl)
theorem Yif_eq (C : YC X l D tys y own cc ret Ts nL rm) {β : Type} {a1 a2 : Option β} {o : Option β} {x : Int32} {off : Int} (tgt : Nat) {dd : Decidable (x = 0)} (hdg : decode cc pc = .ok (.ifCond .eq off, 3)) (ht : (pc : Int) + off = (tgt : Int)) (hxe : (@ite (Option β) (x = 0) dd a1 a2) = o) (kt : x = 0 → a1 = o → Y X z ws lv tgt st) (kf : ¬ x = 0 → a2 = o → Y X z ws lv (pc + 3) st) : Y X z ws lv pc (.int x :: st) := by
  have hxx := hxe
  obtain ⟨p, l', e, R, s, m, args, below, meth, c, Q, D', tys', A, nL'⟩ := X
  obtain ⟨hx, hb, hml, hnl, hown, hts, hK, hA, hlk, hr, hR, hl0, hD0, ht0, hnm, hGs⟩ := C
  subst hnl hR hl0 hD0 ht0
  intro H locs ls hP hD hS hl
  exact lv_if_eq hx hb hdg ht (fun h => kt h ((if_pos h).symm.trans hxx) H locs ls hP hD hS hl) (fun h => kf h ((if_neg h).symm.trans hxx) H locs ls hP hD hS hl)
theorem Yif_ne (C : YC X l D tys y own cc ret Ts nL rm) {β : Type} {a1 a2 : Option β} {o : Option β} {x : Int32} {off : Int} (tgt : Nat) {dd : Decidable (x = 0)} (hdg : decode cc pc = .ok (.ifCond .ne off, 3)) (ht : (pc : Int) + off = (tgt : Int)) (hxe : (@ite (Option β) (x = 0) dd a1 a2) = o) (kt : ¬ x = 0 → a2 = o → Y X z ws lv tgt st) (kf : x = 0 → a1 = o → Y X z ws lv (pc + 3) st) : Y X z ws lv pc (.int x :: st) := by
  have hxx := hxe
  obtain ⟨p, l', e, R, s, m, args, below, meth, c, Q, D', tys', A, nL'⟩ := X
  obtain ⟨hx, hb, hml, hnl, hown, hts, hK, hA, hlk, hr, hR, hl0, hD0, ht0, hnm, hGs⟩ := C
  subst hnl hR hl0 hD0 ht0
  intro H locs ls hP hD hS hl
  exact lv_if_ne hx hb hdg ht (fun h => kt h ((if_neg h).symm.trans hxx) H locs ls hP hD hS hl) (fun h => kf h ((if_pos h).symm.trans hxx) H locs ls hP hD hS hl)
theorem Yif_lt (C : YC X l D tys y own cc ret Ts nL rm) {β : Type} {a1 a2 : Option β} {o : Option β} {x : Int32} {off : Int} (tgt : Nat) {dd : Decidable (x < 0)} (hdg : decode cc pc = .ok (.ifCond .lt off, 3)) (ht : (pc : Int) + off = (tgt : Int)) (hxe : (@ite (Option β) (x < 0) dd a1 a2) = o) (kt : x < 0 → a1 = o → Y X z ws lv tgt st) (kf : ¬ x < 0 → a2 = o → Y X z ws lv (pc + 3) st) : Y X z ws lv pc (.int x :: st) := by
  have hxx := hxe
  obtain ⟨p, l', e, R, s, m, args, below, meth, c, Q, D', tys', A, nL'⟩ := X
  obtain ⟨hx, hb, hml, hnl, hown, hts, hK, hA, hlk, hr, hR, hl0, hD0, ht0, hnm, hGs⟩ := C
  subst hnl hR hl0 hD0 ht0
  intro H locs ls hP hD hS hl
  exact lv_if_lt hx hb hdg ht (fun h => kt h ((if_pos h).symm.trans hxx) H locs ls hP hD hS hl) (fun h => kf h ((if_neg h).symm.trans hxx) H locs ls hP hD hS hl)
theorem Yif_ge (C : YC X l D tys y own cc ret Ts nL rm) {β : Type} {a1 a2 : Option β} {o : Option β} {x : Int32} {off : Int} (tgt : Nat) {dd : Decidable (0 ≤ x)} (hdg : decode cc pc = .ok (.ifCond .ge off, 3)) (ht : (pc : Int) + off = (tgt : Int)) (hxe : (@ite (Option β) (0 ≤ x) dd a1 a2) = o) (kt : 0 ≤ x → a1 = o → Y X z ws lv tgt st) (kf : ¬ 0 ≤ x → a2 = o → Y X z ws lv (pc + 3) st) : Y X z ws lv pc (.int x :: st) := by
  have hxx := hxe
  obtain ⟨p, l', e, R, s, m, args, below, meth, c, Q, D', tys', A, nL'⟩ := X
  obtain ⟨hx, hb, hml, hnl, hown, hts, hK, hA, hlk, hr, hR, hl0, hD0, ht0, hnm, hGs⟩ := C
  subst hnl hR hl0 hD0 ht0
  intro H locs ls hP hD hS hl
  exact lv_if_ge hx hb hdg ht (fun h => kt h ((if_pos h).symm.trans hxx) H locs ls hP hD hS hl) (fun h => kf h ((if_neg h).symm.trans hxx) H locs ls hP hD hS hl)
theorem Yif_gt (C : YC X l D tys y own cc ret Ts nL rm) {β : Type} {a1 a2 : Option β} {o : Option β} {x : Int32} {off : Int} (tgt : Nat) {dd : Decidable (0 < x)} (hdg : decode cc pc = .ok (.ifCond .gt off, 3)) (ht : (pc : Int) + off = (tgt : Int)) (hxe : (@ite (Option β) (0 < x) dd a1 a2) = o) (kt : 0 < x → a1 = o → Y X z ws lv tgt st) (kf : ¬ 0 < x → a2 = o → Y X z ws lv (pc + 3) st) : Y X z ws lv pc (.int x :: st) := by
  have hxx := hxe
  obtain ⟨p, l', e, R, s, m, args, below, meth, c, Q, D', tys', A, nL'⟩ := X
  obtain ⟨hx, hb, hml, hnl, hown, hts, hK, hA, hlk, hr, hR, hl0, hD0, ht0, hnm, hGs⟩ := C
  subst hnl hR hl0 hD0 ht0
  intro H locs ls hP hD hS hl
  exact lv_if_gt hx hb hdg ht (fun h => kt h ((if_pos h).symm.trans hxx) H locs ls hP hD hS hl) (fun h => kf h ((if_neg h).symm.trans hxx) H locs ls hP hD hS hl)
theorem Yif_le (C : YC X l D tys y own cc ret Ts nL rm) {β : Type} {a1 a2 : Option β} {o : Option β} {x : Int32} {off : Int} (tgt : Nat) {dd : Decidable (x ≤ 0)} (hdg : decode cc pc = .ok (.ifCond .le off, 3)) (ht : (pc : Int) + off = (tgt : Int)) (hxe : (@ite (Option β) (x ≤ 0) dd a1 a2) = o) (kt : x ≤ 0 → a1 = o → Y X z ws lv tgt st) (kf : ¬ x ≤ 0 → a2 = o → Y X z ws lv (pc + 3) st) : Y X z ws lv pc (.int x :: st) := by
  have hxx := hxe
  obtain ⟨p, l', e, R, s, m, args, below, meth, c, Q, D', tys', A, nL'⟩ := X
  obtain ⟨hx, hb, hml, hnl, hown, hts, hK, hA, hlk, hr, hR, hl0, hD0, ht0, hnm, hGs⟩ := C
  subst hnl hR hl0 hD0 ht0
  intro H locs ls hP hD hS hl
  exact lv_if_le hx hb hdg ht (fun h => kt h ((if_pos h).symm.trans hxx) H locs ls hP hD hS hl) (fun h => kf h ((if_neg h).symm.trans hxx) H locs ls hP hD hS hl)
/-- a truth value as the machine has it -/
def bI (b : Bool) : Int32 := if b then 1 else 0
theorem bI_z (b : Bool) : bI b = 0 ↔ b = false := by cases b <;> simp [bI]
theorem Yif_eq_b (C : YC X l D tys y own cc ret Ts nL rm) {β : Type} {a1 a2 : Option β} {o : Option β} {b : Bool} {off : Int} (tgt : Nat) (hdg : decode cc pc = .ok (.ifCond .eq off, 3)) (ht : (pc : Int) + off = (tgt : Int)) (hxe : (bif b then a1 else a2) = o) (kt : b = false → a2 = o → Y X z ws lv tgt st) (kf : b = true → a1 = o → Y X z ws lv (pc + 3) st) : Y X z ws lv pc (.int (bI b) :: st) := by
  have hxx := hxe
  obtain ⟨p, l', e, R, s, m, args, below, meth, c, Q, D', tys', A, nL'⟩ := X
  obtain ⟨hx, hb, hml, hnl, hown, hts, hK, hA, hlk, hr, hR, hl0, hD0, ht0, hnm, hGs⟩ := C
  subst hnl hR hl0 hD0 ht0
  intro H locs ls hP hD hS hl
  exact lv_if_eq hx hb hdg ht (fun h => kt ((bI_z b).mp h) (by rw [← hxx, (bI_z b).mp h]; rfl) H locs ls hP hD hS hl) (fun h => kf (by cases b <;> simp_all [bI]) (by cases b with | true => exact hxx | false => exact absurd rfl h) H locs ls hP hD hS hl)
theorem Yif_ne_b (C : YC X l D tys y own cc ret Ts nL rm) {β : Type} {a1 a2 : Option β} {o : Option β} {b : Bool} {off : Int} (tgt : Nat) (hdg : decode cc pc = .ok (.ifCond .ne off, 3)) (ht : (pc : Int) + off = (tgt : Int)) (hxe : (bif b then a1 else a2) = o) (kt : b = true → a1 = o → Y X z ws lv tgt st) (kf : b = false → a2 = o → Y X z ws lv (pc + 3) st) : Y X z ws lv pc (.int (bI b) :: st) := by
  have hxx := hxe
  obtain ⟨p, l', e, R, s, m, args, below, meth, c, Q, D', tys', A, nL'⟩ := X
  obtain ⟨hx, hb, hml, hnl, hown, hts, hK, hA, hlk, hr, hR, hl0, hD0, ht0, hnm, hGs⟩ := C
  subst hnl hR hl0 hD0 ht0
  intro H locs ls hP hD hS hl
  exact lv_if_ne hx hb hdg ht (fun h => kt (by cases b <;> simp_all [bI]) (by cases b with | true => exact hxx | false => exact absurd rfl h) H locs ls hP hD hS hl) (fun h => kf ((bI_z b).mp h) (by rw [← hxx, (bI_z b).mp h]; rfl) H locs ls hP hD hS hl)
/-- a reference that may be null -/
def nR (b : Bool) (a : Nat) : Value := bif b then .null else .ref a
theorem nR_t {b : Bool} {a : Nat} (h : b = true) : nR b a = .null := by rw [h]; rfl
theorem nR_f {b : Bool} {a : Nat} (h : b = false) : nR b a = .ref a := by rw [h]; rfl
theorem Yifnull_n (C : YC X l D tys y own cc ret Ts nL rm) {β : Type} {a1 a2 : Option β} {o : Option β} {b : Bool} {a : Nat} {off : Int} (tgt : Nat) (hdg : decode cc pc = .ok (.ifnull off, 3)) (ht : (pc : Int) + off = (tgt : Int)) (hxe : (bif b then a1 else a2) = o) (kt : b = true → a1 = o → Y X z ws lv tgt st) (kf : b = false → a2 = o → Y X z ws lv (pc + 3) st) : Y X z ws lv pc (nR b a :: st) := by
  have hxx := hxe
  clear hxe
  obtain ⟨p, l', e, R, s, m, args, below, meth, c, Q, D', tys', A, nL'⟩ := X
  obtain ⟨hx, hb, hml, hnl, hown, hts, hK, hA, hlk, hr, hR, hl0, hD0, ht0, hnm, hGs⟩ := C
  subst hnl hR hl0 hD0 ht0
  intro H locs ls hP hD hS hl
  cases b with
  | true => exact lv_ifnullN hx hb hdg ht (kt rfl hxx H locs ls hP hD hS hl)
  | false => exact lv_ifnull hx hb hdg (kf rfl hxx H locs ls hP hD hS hl)
theorem Yifnonnull_n (C : YC X l D tys y own cc ret Ts nL rm) {β : Type} {a1 a2 : Option β} {o : Option β} {b : Bool} {a : Nat} {off : Int} (tgt : Nat) (hdg : decode cc pc = .ok (.ifnonnull off, 3)) (ht : (pc : Int) + off = (tgt : Int)) (hxe : (bif b then a1 else a2) = o) (kt : b = false → a2 = o → Y X z ws lv tgt st) (kf : b = true → a1 = o → Y X z ws lv (pc + 3) st) : Y X z ws lv pc (nR b a :: st) := by
  have hxx := hxe
  clear hxe
  obtain ⟨p, l', e, R, s, m, args, below, meth, c, Q, D', tys', A, nL'⟩ := X
  obtain ⟨hx, hb, hml, hnl, hown, hts, hK, hA, hlk, hr, hR, hl0, hD0, ht0, hnm, hGs⟩ := C
  subst hnl hR hl0 hD0 ht0
  intro H locs ls hP hD hS hl
  cases b with
  | true => exact lv_ifnonnullN hx hb hdg (kf rfl hxx H locs ls hP hD hS hl)
  | false => exact lv_ifnonnull hx hb hdg ht (kt rfl hxx H locs ls hP hD hS hl)
theorem Yifnull_r (C : YC X l D tys y own cc ret Ts nL rm) {x : Nat} {off : Int} (hdg : decode cc pc = .ok (.ifnull off, 3)) (kk : Y X z ws lv (pc + 3) st) : Y X z ws lv pc (.ref x :: st) := by
  obtain ⟨p, l', e, R, s, m, args, below, meth, c, Q, D', tys', A, nL'⟩ := X
  obtain ⟨hx, hb, hml, hnl, hown, hts, hK, hA, hlk, hr, hR, hl0, hD0, ht0, hnm, hGs⟩ := C
  subst hnl hR hl0 hD0 ht0
  intro H locs ls hP hD hS hl
  exact lv_ifnull hx hb hdg (kk H locs ls hP hD hS hl)
theorem Yifnonnull_r (C : YC X l D tys y own cc ret Ts nL rm) {x : Nat} {off : Int} (tgt : Nat) (hdg : decode cc pc = .ok (.ifnonnull off, 3)) (ht : (pc : Int) + off = (tgt : Int)) (kk : Y X z ws lv tgt st) : Y X z ws lv pc (.ref x :: st) := by
  obtain ⟨p, l', e, R, s, m, args, below, meth, c, Q, D', tys', A, nL'⟩ := X
  obtain ⟨hx, hb, hml, hnl, hown, hts, hK, hA, hlk, hr, hR, hl0, hD0, ht0, hnm, hGs⟩ := C
  subst hnl hR hl0 hD0 ht0
  intro H locs ls hP hD hS hl
  exact lv_ifnonnull hx hb hdg ht (kk H locs ls hP hD hS hl)
theorem Yifnull_N (C : YC X l D tys y own cc ret Ts nL rm) {off : Int} (tgt : Nat) (hdg : decode cc pc = .ok (.ifnull off, 3)) (ht : (pc : Int) + off = (tgt : Int)) (kk : Y X z ws lv tgt st) : Y X z ws lv pc (.null :: st) := by
  obtain ⟨p, l', e, R, s, m, args, below, meth, c, Q, D', tys', A, nL'⟩ := X
  obtain ⟨hx, hb, hml, hnl, hown, hts, hK, hA, hlk, hr, hR, hl0, hD0, ht0, hnm, hGs⟩ := C
  subst hnl hR hl0 hD0 ht0
  intro H locs ls hP hD hS hl
  exact lv_ifnullN hx hb hdg ht (kk H locs ls hP hD hS hl)
theorem Yifnonnull_N (C : YC X l D tys y own cc ret Ts nL rm) {off : Int} (hdg : decode cc pc = .ok (.ifnonnull off, 3)) (kk : Y X z ws lv (pc + 3) st) : Y X z ws lv pc (.null :: st) := by
  obtain ⟨p, l', e, R, s, m, args, below, meth, c, Q, D', tys', A, nL'⟩ := X
  obtain ⟨hx, hb, hml, hnl, hown, hts, hK, hA, hlk, hr, hR, hl0, hD0, ht0, hnm, hGs⟩ := C
  subst hnl hR hl0 hD0 ht0
  intro H locs ls hP hD hS hl
  exact lv_ifnonnullN hx hb hdg (kk H locs ls hP hD hS hl)
theorem YtabIn (C : YC X l D tys y own cc ret Ts nL rm) {dflt lo hi : Int} {offs : Array Int} {len : Nat} {x v : Int32} {off : Int} (tgt : Nat) (hdg : decode cc pc = .ok (.tableswitch dflt lo hi offs, len)) (hv : x = v) (h1 : ¬ v.toInt < lo) (h2 : ¬ hi < v.toInt) (ho : offs[(v.toInt - lo).toNat]? = some off) (ht : (pc : Int) + off = (tgt : Int)) (kk : Y X z ws lv tgt st) : Y X z ws lv pc (.int x :: st) := by
  obtain ⟨p, l', e, R, s, m, args, below, meth, c, Q, D', tys', A, nL'⟩ := X
  obtain ⟨hx, hb, hml, hnl, hown, hts, hK, hA, hlk, hr, hR, hl0, hD0, ht0, hnm, hGs⟩ := C
  subst hnl hR hl0 hD0 ht0
  intro H locs ls hP hD hS hl
  subst hv
  exact lv_tableIn hx hb hdg h1 h2 ho ht (kk H locs ls hP hD hS hl)
theorem YtabOut (C : YC X l D tys y own cc ret Ts nL rm) {dflt lo hi : Int} {offs : Array Int} {len : Nat} {x : Int32} (tgt : Nat) (hdg : decode cc pc = .ok (.tableswitch dflt lo hi offs, len)) (h : x.toInt < lo ∨ hi < x.toInt) (ht : (pc : Int) + dflt = (tgt : Int)) (kk : Y X z ws lv tgt st) : Y X z ws lv pc (.int x :: st) := by
  obtain ⟨p, l', e, R, s, m, args, below, meth, c, Q, D', tys', A, nL'⟩ := X
  obtain ⟨hx, hb, hml, hnl, hown, hts, hK, hA, hlk, hr, hR, hl0, hD0, ht0, hnm, hGs⟩ := C
  subst hnl hR hl0 hD0 ht0
  intro H locs ls hP hD hS hl
  exact lv_tableOut hx hb hdg h ht (kk H locs ls hP hD hS hl)
theorem Ylook (C : YC X l D tys y own cc ret Ts nL rm) {dflt : Int} {ps : Array (Int × Int)} {len : Nat} {x : Int32} {off : Int} (tgt : Nat) (hdg : decode cc pc = .ok (.lookupswitch dflt ps, len)) (hp : (ps.toList.zip (ps.toList.drop 1)).all (fun (a, next) => a.1 < next.1) = true) (ho : Op.lookupswitch.offset ps.toList dflt x.toInt = off) (ht : (pc : Int) + off = (tgt : Int)) (kk : Y X z ws lv tgt st) : Y X z ws lv pc (.int x :: st) := by
  obtain ⟨p, l', e, R, s, m, args, below, meth, c, Q, D', tys', A, nL'⟩ := X
  obtain ⟨hx, hb, hml, hnl, hown, hts, hK, hA, hlk, hr, hR, hl0, hD0, ht0, hnm, hGs⟩ := C
  subst hnl hR hl0 hD0 ht0
  intro H locs ls hP hD hS hl
  exact lv_lookup hx hb hdg hp ho ht (kk H locs ls hP hD hS hl)
theorem yite {β : Type} {q : Prop} {dd : Decidable q} {a1 a2 o : Option β} {G : Prop} (hx : (@ite (Option β) q dd a1 a2) = o) (kt : q → a1 = o → G) (kf : ¬ q → a2 = o → G) : G := by
  by_cases h : q
  · exact kt h ((if_pos h).symm.trans hx)
  · exact kf h ((if_neg h).symm.trans hx)
theorem ybnd {α β : Type} {a : Option α} {f : α → Option β} {o : β} (hx : a.bind f = some o) : ∃ v, a = some v ∧ f v = some o := Option.bind_eq_some_iff.mp hx
theorem ne_toInt {x v : Int32} (h : ¬ x = v) : x.toInt ≠ v.toInt := fun e => h (Int32.toInt_inj.mp e)

/-- a field's link in a method's words: its class in vwCl, its place -/
def YF (Ts : List Cond) (own : String) (idx ci k : Nat) : Prop := ∃ (C : String) (T : u_T) (N : Nat), vwCl[ci]? = some (C, T, N) ∧ (∀ w ∈ u_ws C T N, w ∈ Ts) ∧ k < N ∧ Cond.fieldLink own idx (T k).1 (T k).2.1 (T k).2.2.1 ∈ Ts
def YFp (Ts : List Cond) (own : String) (idx ci k : Nat) (ty : FieldType) : Prop := ∃ (C : String) (T : u_T) (N : Nat) (ty0 : Nat → FieldType), vwCl[ci]? = some (C, T, N) ∧ (∀ w ∈ u_ws C T N, w ∈ Ts) ∧ k < N ∧ Cond.fieldLink own idx (T k).1 (T k).2.1 (T k).2.2.1 ∈ Ts ∧ (∀ k, k < N → parseFieldDescriptor (T k).2.2.1 = some (ty0 k)) ∧ (∀ a, a < N → ∀ b, b < N → a ≠ b → (T a).2.1 ≠ (T b).2.1) ∧ (T k).2.2.2 = false ∧ parseFieldDescriptor (T k).2.2.1 = some ty
def YFf (Ts : List Cond) (own : String) (idx ci k : Nat) (ty : FieldType) : Prop := ∃ (C : String) (T : u_T) (N : Nat) (ty0 : Nat → FieldType), vwCl[ci]? = some (C, T, N) ∧ (∀ w ∈ u_ws C T N, w ∈ Ts) ∧ k < N ∧ Cond.fieldLink own idx (T k).1 (T k).2.1 (T k).2.2.1 ∈ Ts ∧ (∀ k, k < N → parseFieldDescriptor (T k).2.2.1 = some (ty0 k)) ∧ (∀ a, a < N → ∀ b, b < N → a ≠ b → (T a).2.1 ≠ (T b).2.1) ∧ (T k).2.2.2 = true ∧ (T k).1 = own ∧ parseFieldDescriptor (T k).2.2.1 = some ty
theorem Yget (C : YC X l D tys y own cc ret Ts nL rm) {ci k a idx : Nat} {fs : List Value} {v : Value} (hf : YF Ts own idx ci k) (hdg : decode cc pc = .ok (.getfield idx, 3)) (q0 : Nat) (he : ws[q0]? = some (a, .inr (ci, fs))) (hv : fs[k]? = some v) (kk : Y X z ws lv (pc + 3) (v :: st)) : Y X z ws lv pc (.ref a :: st) := by
  obtain ⟨p, l', e, R, s, m, args, below, meth, c, Q, D', tys', A, nL'⟩ := X
  obtain ⟨hx, hb, hml, hnl, hown, hts, hK, hA, hlk, hr, hR, hl0, hD0, ht0, hnm, hGs⟩ := C
  subst hnl hR hl0 hD0 ht0
  obtain ⟨Cn, T, N, hc, hin, hk, hlk2⟩ := hf
  intro H locs ls hP hD hS hl
  exact va_get hx hb hts hin hown hK hP q0 he hc k hk (hts _ hlk2) (fun _ h => h) hv hdg (kk H locs ls hP hD hS hl)
theorem Yput (C : YC X l D tys y own cc ret Ts nL rm) {ci k a idx : Nat} {fs fs' : List Value} {ws' : va_W} {v : Value} {ty : FieldType} (hf : YFp Ts own idx ci k ty) (hdg : decode cc pc = .ok (.putfield idx, 3)) (q0 : Nat) (he : ws[q0]? = some (a, .inr (ci, fs))) (hn : narrow ty v = v) (hfit : fits ty v = true) (hl2 : k < fs.length) (hs : fs.set k v = fs') (hw : ws.set q0 (a, .inr (ci, fs')) = ws') (kk : Y X z ws' lv (pc + 3) st) : Y X z ws lv pc (v :: .ref a :: st) := by
  obtain ⟨p, l', e, R, s, m, args, below, meth, c, Q, D', tys', A, nL'⟩ := X
  obtain ⟨hx, hb, hml, hnl, hown, hts, hK, hA, hlk, hr, hR, hl0, hD0, ht0, hnm, hGs⟩ := C
  subst hnl hR hl0 hD0 ht0
  obtain ⟨Cn, T, N, ty0, hc, hin, hk, hlk2, hty, hnms, hfin, hd⟩ := hf
  intro H locs ls hP hD hS hl
  subst hs
  subst hw
  exact va_put hx hb hts hin ty0 hty hnms hown hK hP hD hS q0 he hc k hk (hts _ hlk2) (fun _ h => h) hfin hd hn hfit hl2 hdg (fun H1 locs1 hP1 hD1 hS1 => kk H1 locs1 ls hP1 hD1 hS1 hl)
theorem YputF (C : YC X l D tys y own cc ret Ts nL rm) {ci k a idx : Nat} {fs fs' : List Value} {ws' : va_W} {v : Value} {ty : FieldType} (hf : YFf Ts own idx ci k ty) (hinit : y.name = "<init>") (hdg : decode cc pc = .ok (.putfield idx, 3)) (q0 : Nat) (he : ws[q0]? = some (a, .inr (ci, fs))) (hn : narrow ty v = v) (hfit : fits ty v = true) (hl2 : k < fs.length) (hs : fs.set k v = fs') (hw : ws.set q0 (a, .inr (ci, fs')) = ws') (kk : Y X z ws' lv (pc + 3) st) : Y X z ws lv pc (v :: .ref a :: st) := by
  obtain ⟨p, l', e, R, s, m, args, below, meth, c, Q, D', tys', A, nL'⟩ := X
  obtain ⟨hx, hb, hml, hnl, hown, hts, hK, hA, hlk, hr, hR, hl0, hD0, ht0, hnm, hGs⟩ := C
  subst hnl hR hl0 hD0 ht0
  obtain ⟨Cn, T, N, ty0, hc, hin, hk, hlk2, hty, hnms, hfin, hdecl, hd⟩ := hf
  intro H locs ls hP hD hS hl
  subst hs
  subst hw
  exact va_putF hx hb hts hin ty0 hty hnms hown hK hP hD hS q0 he hc k hk (hts _ hlk2) (fun _ h => h) hfin (hnm.trans hinit) hdecl hd hn hfit hl2 hdg (fun H1 locs1 hP1 hD1 hS1 => kk H1 locs1 ls hP1 hD1 hS1 hl)
def inB (i : Int32) (n : Nat) : Bool := !(decide (i < 0)) && decide (i.toNatClampNeg < n)
theorem inB_in {i : Int32} {n : Nat} (h : inB i n = true) : vp_in i n := by
  unfold inB at h
  simp only [Bool.and_eq_true, Bool.not_eq_true', decide_eq_false_iff_not, decide_eq_true_eq] at h
  rintro (h1 | h1)
  · exact h.1 h1
  · omega
theorem ybif {β : Type} {b : Bool} {a1 : Option β} {o : β} (hx : (bif b then a1 else none) = some o) : b = true ∧ a1 = some o := by
  cases b with
  | true => exact ⟨rfl, hx⟩
  | false => cases hx
theorem Yiald (C : YC X l D tys y own cc ret Ts nL rm) {β : Type} {a1 : Option β} {o : β} {a n : Nat} {cA : ClassId} {f : Nat → Int32} {i : Int32} (hdg : decode cc pc = .ok (.iaload, 1)) (hx : (bif inB i n then a1 else none) = some o) (q0 t0 : Nat) (ha : ws[q0]? = some (a, .inl (cA, n, .inl f))) (ht : tys[t0]? = some (cA, .int)) (kk : a1 = some o → Y X z ws lv (pc + 1) (.int (f i.toNatClampNeg) :: st)) : Y X z ws lv pc (.int i :: .ref a :: st) := by
  obtain ⟨hi, hxx⟩ := ybif hx
  obtain ⟨p, l', e, R, s, m, args, below, meth, c, Q, D', tys', A, nL'⟩ := X
  obtain ⟨hx, hb, hml, hnl, hown, hts, hK, hA, hlk, hr, hR, hl0, hD0, ht0, hnm, hGs⟩ := C
  subst hnl hR hl0 hD0 ht0
  intro H locs ls hP hD hS hl
  exact va_iald hx hb hK hP q0 t0 ha ht (inB_in hi) hdg (kk hxx H locs ls hP hD hS hl)
theorem Yzald (C : YC X l D tys y own cc ret Ts nL rm) {β : Type} {a1 : Option β} {o : β} {a n : Nat} {cA : ClassId} {f : Nat → Int32} {i : Int32} (hdg : decode cc pc = .ok (.baload, 1)) (hx : (bif inB i n then a1 else none) = some o) (q0 t0 : Nat) (ha : ws[q0]? = some (a, .inl (cA, n, .inl f))) (ht : tys[t0]? = some (cA, .boolean)) (kk : a1 = some o → Y X z ws lv (pc + 1) (.int (f i.toNatClampNeg) :: st)) : Y X z ws lv pc (.int i :: .ref a :: st) := by
  obtain ⟨hi, hxx⟩ := ybif hx
  obtain ⟨p, l', e, R, s, m, args, below, meth, c, Q, D', tys', A, nL'⟩ := X
  obtain ⟨hx, hb, hml, hnl, hown, hts, hK, hA, hlk, hr, hR, hl0, hD0, ht0, hnm, hGs⟩ := C
  subst hnl hR hl0 hD0 ht0
  intro H locs ls hP hD hS hl
  exact va_zald hx hb hK hP q0 t0 ha ht (inB_in hi) hdg (kk hxx H locs ls hP hD hS hl)
theorem Ylald (C : YC X l D tys y own cc ret Ts nL rm) {β : Type} {a1 : Option β} {o : β} {a n : Nat} {cA : ClassId} {f : Nat → Int64} {i : Int32} (hdg : decode cc pc = .ok (.laload, 1)) (hx : (bif inB i n then a1 else none) = some o) (q0 t0 : Nat) (ha : ws[q0]? = some (a, .inl (cA, n, .inr (.inl f)))) (ht : tys[t0]? = some (cA, .long)) (kk : a1 = some o → Y X z ws lv (pc + 1) (.long (f i.toNatClampNeg) :: st)) : Y X z ws lv pc (.int i :: .ref a :: st) := by
  obtain ⟨hi, hxx⟩ := ybif hx
  obtain ⟨p, l', e, R, s, m, args, below, meth, c, Q, D', tys', A, nL'⟩ := X
  obtain ⟨hx, hb, hml, hnl, hown, hts, hK, hA, hlk, hr, hR, hl0, hD0, ht0, hnm, hGs⟩ := C
  subst hnl hR hl0 hD0 ht0
  intro H locs ls hP hD hS hl
  exact va_lald hx hb hK hP q0 t0 ha ht (inB_in hi) hdg (kk hxx H locs ls hP hD hS hl)
theorem Yaldq (C : YC X l D tys y own cc ret Ts nL rm) {β : Type} {a1 : Option β} {o : β} {a n : Nat} {cA : ClassId} {Cn : String} {f : Nat → Option Nat} {i : Int32} (hdg : decode cc pc = .ok (.aaload, 1)) (hx : (bif inB i n then a1 else none) = some o) (q0 t0 : Nat) (ha : ws[q0]? = some (a, .inl (cA, n, .inr (.inr (.inr (.inr f)))))) (ht : tys[t0]? = some (cA, .object Cn)) (kk : a1 = some o → Y X z ws lv (pc + 1) (va_rf (f i.toNatClampNeg) :: st)) : Y X z ws lv pc (.int i :: .ref a :: st) := by
  obtain ⟨hi, hxx⟩ := ybif hx
  obtain ⟨p, l', e, R, s, m, args, below, meth, c, Q, D', tys', A, nL'⟩ := X
  obtain ⟨hx, hb, hml, hnl, hown, hts, hK, hA, hlk, hr, hR, hl0, hD0, ht0, hnm, hGs⟩ := C
  subst hnl hR hl0 hD0 ht0
  intro H locs ls hP hD hS hl
  exact va_aldq hx hb hK hP q0 t0 ha ht (inB_in hi) hdg (kk hxx H locs ls hP hD hS hl)
theorem Yiast (C : YC X l D tys y own cc ret Ts nL rm) {β : Type} {a1 : Option β} {o : β} {a n : Nat} {cA : ClassId} {f : Nat → Int32} {i : Int32} {x : Int32} {ws' : va_W} (hdg : decode cc pc = .ok (.iastore, 1)) (hx : (bif inB i n then a1 else none) = some o) (q0 t0 : Nat) (ha : ws[q0]? = some (a, .inl (cA, n, .inl f))) (ht : tys[t0]? = some (cA, .int)) (hw : ws.set q0 (a, .inl (cA, n, .inl (upd f i.toNatClampNeg x))) = ws') (kk : a1 = some o → Y X z ws' lv (pc + 1) st) : Y X z ws lv pc (.int x :: .int i :: .ref a :: st) := by
  obtain ⟨hi, hxx⟩ := ybif hx
  subst hw
  obtain ⟨p, l', e, R, s, m, args, below, meth, c, Q, D', tys', A, nL'⟩ := X
  obtain ⟨hx, hb, hml, hnl, hown, hts, hK, hA, hlk, hr, hR, hl0, hD0, ht0, hnm, hGs⟩ := C
  subst hnl hR hl0 hD0 ht0
  intro H locs ls hP hD hS hl
  exact va_iast hx hb hK hP hD hS q0 t0 ha ht (inB_in hi) hdg (fun H1 locs1 hP1 hD1 hS1 => kk hxx H1 locs1 ls hP1 hD1 hS1 hl)
theorem Yzast (C : YC X l D tys y own cc ret Ts nL rm) {β : Type} {a1 : Option β} {o : β} {a n : Nat} {cA : ClassId} {f : Nat → Int32} {i : Int32} {x : Int32} {ws' : va_W} (hdg : decode cc pc = .ok (.bastore, 1)) (hx : (bif inB i n then a1 else none) = some o) (q0 t0 : Nat) (ha : ws[q0]? = some (a, .inl (cA, n, .inl f))) (ht : tys[t0]? = some (cA, .boolean)) (hw : ws.set q0 (a, .inl (cA, n, .inl (upd f i.toNatClampNeg (vp_nar .boolean x)))) = ws') (kk : a1 = some o → Y X z ws' lv (pc + 1) st) : Y X z ws lv pc (.int x :: .int i :: .ref a :: st) := by
  obtain ⟨hi, hxx⟩ := ybif hx
  subst hw
  obtain ⟨p, l', e, R, s, m, args, below, meth, c, Q, D', tys', A, nL'⟩ := X
  obtain ⟨hx, hb, hml, hnl, hown, hts, hK, hA, hlk, hr, hR, hl0, hD0, ht0, hnm, hGs⟩ := C
  subst hnl hR hl0 hD0 ht0
  intro H locs ls hP hD hS hl
  exact va_zast hx hb hK hP hD hS q0 t0 ha ht (inB_in hi) hdg (fun H1 locs1 hP1 hD1 hS1 => kk hxx H1 locs1 ls hP1 hD1 hS1 hl)
theorem Ylast (C : YC X l D tys y own cc ret Ts nL rm) {β : Type} {a1 : Option β} {o : β} {a n : Nat} {cA : ClassId} {f : Nat → Int64} {i : Int32} {x : Int64} {ws' : va_W} (hdg : decode cc pc = .ok (.lastore, 1)) (hx : (bif inB i n then a1 else none) = some o) (q0 t0 : Nat) (ha : ws[q0]? = some (a, .inl (cA, n, .inr (.inl f)))) (ht : tys[t0]? = some (cA, .long)) (hw : ws.set q0 (a, .inl (cA, n, .inr (.inl (vp_updL f i.toNatClampNeg x)))) = ws') (kk : a1 = some o → Y X z ws' lv (pc + 1) st) : Y X z ws lv pc (.long x :: .int i :: .ref a :: st) := by
  obtain ⟨hi, hxx⟩ := ybif hx
  subst hw
  obtain ⟨p, l', e, R, s, m, args, below, meth, c, Q, D', tys', A, nL'⟩ := X
  obtain ⟨hx, hb, hml, hnl, hown, hts, hK, hA, hlk, hr, hR, hl0, hD0, ht0, hnm, hGs⟩ := C
  subst hnl hR hl0 hD0 ht0
  intro H locs ls hP hD hS hl
  exact va_last hx hb hK hP hD hS q0 t0 ha ht (inB_in hi) hdg (fun H1 locs1 hP1 hD1 hS1 => kk hxx H1 locs1 ls hP1 hD1 hS1 hl)
theorem Yalen (C : YC X l D tys y own cc ret Ts nL rm) {a : Nat} {cA : ClassId} {x : vp_A} {ty : FieldType} {v : Int32} (hdg : decode cc pc = .ok (.arraylength, 1)) (q0 t0 : Nat) (ha : ws[q0]? = some (a, .inl (cA, x))) (ht : tys[t0]? = some (cA, ty)) (hv : Int32.ofNat x.1 = v) (kk : Y X z ws lv (pc + 1) (.int v :: st)) : Y X z ws lv pc (.ref a :: st) := by
  obtain ⟨p, l', e, R, s, m, args, below, meth, c, Q, D', tys', A, nL'⟩ := X
  obtain ⟨hx, hb, hml, hnl, hown, hts, hK, hA, hlk, hr, hR, hl0, hD0, ht0, hnm, hGs⟩ := C
  subst hnl hR hl0 hD0 ht0
  intro H locs ls hP hD hS hl
  exact va_alen hx hb hK hP q0 t0 ha ht hv hdg (kk H locs ls hP hD hS hl)
theorem bI_n (b : Bool) : narrow .boolean (.int (bI b)) = .int (bI b) := by cases b <;> rfl
theorem Yiret (C : YC X l D tys y own cc (some .int) Ts nL rm) {PO : Option Value → va_W → Prop} (E : YE X PO z) {v : Int32} (hdg : decode cc pc = .ok (.ireturn, 1)) (hp : PO (some (.int v)) ws) : Y X z ws lv pc [(.int v)] := by
  obtain ⟨p, l', e, R, s, m, args, below, meth, c, Q, D', tys', A, nL'⟩ := X
  obtain ⟨hx, hb, hml, hnl, hown, hts, hK, hA, hlk, hr, hR, hl0, hD0, ht0, hnm, hGs⟩ := C
  subst hnl hR hl0 hD0 ht0
  intro H locs ls hP hD hS hl
  have E' : Q = MQ below (yQ D tys A PO) args s z.1 z.2 A := E
  subst E'
  exact W.iret hx hb hr  (fun t ht hW => ⟨_, ws, rfl, hp, by rw [ht]; exact hP, va_K.moved hW.alike hK, hD, hS.F ht⟩) hS.2.2 hdg
theorem Yzret (C : YC X l D tys y own cc (some .boolean) Ts nL rm) {PO : Option Value → va_W → Prop} (E : YE X PO z) {b : Bool} (hdg : decode cc pc = .ok (.ireturn, 1)) (hp : PO (some (.int (bI b))) ws) : Y X z ws lv pc [(.int (bI b))] := by
  obtain ⟨p, l', e, R, s, m, args, below, meth, c, Q, D', tys', A, nL'⟩ := X
  obtain ⟨hx, hb, hml, hnl, hown, hts, hK, hA, hlk, hr, hR, hl0, hD0, ht0, hnm, hGs⟩ := C
  subst hnl hR hl0 hD0 ht0
  intro H locs ls hP hD hS hl
  have E' : Q = MQ below (yQ D tys A PO) args s z.1 z.2 A := E
  subst E'
  exact W.zret hx hb hr (bI_n b) (fun t ht hW => ⟨_, ws, rfl, hp, by rw [ht]; exact hP, va_K.moved hW.alike hK, hD, hS.F ht⟩) hS.2.2 hdg
theorem Ylret (C : YC X l D tys y own cc (some .long) Ts nL rm) {PO : Option Value → va_W → Prop} (E : YE X PO z) {v : Int64} (hdg : decode cc pc = .ok (.lreturn, 1)) (hp : PO (some (.long v)) ws) : Y X z ws lv pc [(.long v)] := by
  obtain ⟨p, l', e, R, s, m, args, below, meth, c, Q, D', tys', A, nL'⟩ := X
  obtain ⟨hx, hb, hml, hnl, hown, hts, hK, hA, hlk, hr, hR, hl0, hD0, ht0, hnm, hGs⟩ := C
  subst hnl hR hl0 hD0 ht0
  intro H locs ls hP hD hS hl
  have E' : Q = MQ below (yQ D tys A PO) args s z.1 z.2 A := E
  subst E'
  exact W.lret hx hb hr  (fun t ht hW => ⟨_, ws, rfl, hp, by rw [ht]; exact hP, va_K.moved hW.alike hK, hD, hS.F ht⟩) hS.2.2 hdg
theorem Yvret (C : YC X l D tys y own cc none Ts nL rm) {PO : Option Value → va_W → Prop} (E : YE X PO z)  (hdg : decode cc pc = .ok (.return_, 1)) (hp : PO none ws) : Y X z ws lv pc [] := by
  obtain ⟨p, l', e, R, s, m, args, below, meth, c, Q, D', tys', A, nL'⟩ := X
  obtain ⟨hx, hb, hml, hnl, hown, hts, hK, hA, hlk, hr, hR, hl0, hD0, ht0, hnm, hGs⟩ := C
  subst hnl hR hl0 hD0 ht0
  intro H locs ls hP hD hS hl
  have E' : Q = MQ below (yQ D tys A PO) args s z.1 z.2 A := E
  subst E'
  exact W.vret hx hb hr  (fun t ht hW => ⟨_, ws, rfl, hp, by rw [ht]; exact hP, va_K.moved hW.alike hK, hD, hS.F ht⟩) hS.2.2 hdg
theorem Yaret {Cn : String} (C : YC X l D tys y own cc (some (.object Cn)) Ts nL rm) {PO : Option Value → va_W → Prop} (E : YE X PO z) {v : Value} (hv : v = .null ∨ ∃ a, v = .ref a) (hdg : decode cc pc = .ok (.areturn, 1)) (hp : PO (some v) ws) : Y X z ws lv pc [v] := by
  obtain ⟨p, l', e, R, s, m, args, below, meth, c, Q, D', tys', A, nL'⟩ := X
  obtain ⟨hx, hb, hml, hnl, hown, hts, hK, hA, hlk, hr, hR, hl0, hD0, ht0, hnm, hGs⟩ := C
  subst hnl hR hl0 hD0 ht0
  intro H locs ls hP hD hS hl
  have E' : Q = MQ below (yQ D tys A PO) args s z.1 z.2 A := E
  subst E'
  exact W.aret hx hb hr (Or.inl ⟨_, rfl⟩) hv (fun t ht hW => ⟨_, ws, rfl, hp, by rw [ht]; exact hP, va_K.moved hW.alike hK, hD, hS.F ht⟩) hS.2.2 hdg
theorem ypo {β : Type} {rf : β → Option Value} {wf : β → va_W} {out o' : β} {r : Option Value} {w : va_W} (hx : some o' = some out) (h1 : rf o' = r) (h2 : wf o' = w) : POd rf wf out r w := by
  cases hx
  exact ⟨h1.symm, h2.symm⟩
theorem y_run {p : Program} {l : Launch} {e : Env} {R : Room} {s : State} {m : MethodId} {args : Array Value} {below : List Frame} {meth : Method} {c : Code} {H : Heap} {locs : List Loc} {cells slots : Nat} {Q : State → Prop} {mc ms : Nat} {ls : Array Slot} {st0 rest : List Value} {PO : Option Value → va_W → Prop} {A1 A0 : Nat → Prop} {H0 : Heap} {free : Addr → Prop} {a : Array Value}
    (hr : va_Run p l e R s m args below meth c H locs cells slots mc ms (F0 m pc ls st0) rest (yQ D tys A1 PO a) free) (hS : va_S A0 H0 H locs) (hA : ∀ q, q < H.size → A1 q → A0 q) (hf : ∀ q, free q → A0 q)
    (kk : ∀ (r : Option Value) (w' : va_W) (H1 : Heap) (locs1 : List Loc), PO r w' → va_P D.1 vwCl w' H1 → va_D A1 w' → H.size ≤ H1.size → (∀ q : Nat, q < H.size → ¬ A1 q → H1[q]? = H[q]?) → va_S A0 H0 H1 locs1 → W p l e R s m args below meth c H1 locs1 (cells + mc) (slots + ms) Q (F0 m (pc + 3) ls (r.toList ++ rest))) : W p l e R s m args below meth c H locs cells slots Q (F0 m pc ls st0) := by
  intro T hT X
  obtain ⟨v, st₀, t, T', L, h0, X', hL, e1, e2, ⟨r, w', hv, hp, hPw, hKw, hDw, hz, hk⟩, stp⟩ := hr T hT X
  cases hv
  rw [h0] at hz hk
  obtain ⟨t2, a1, b1⟩ := kk v w' T'.heap (locs ++ L) hp (by rw [e1]; exact hPw) hDw (by rw [e1]; exact hz) (fun q h1 h2 => by rw [e1]; exact hk q h1 h2)
    ⟨Nat.le_trans hS.1 (by rw [e1]; exact hz), fun q h1 h2 => by rw [e1, hk q (Nat.lt_of_lt_of_le h1 hS.1) (fun z => h2 (hA q (Nat.lt_of_lt_of_le h1 hS.1) z))]; exact hS.2.1 q h1 h2, fun q hq => by
      rcases List.mem_append.mp hq with h | h
      · exact hS.2.2 q h
      · exact hf _ (hL q h)⟩ T' rfl X'
  exact ⟨t2, stp t2 a1, b1⟩
theorem y_blind {as : List Value} {sz : Nat} {w : va_W} : FrameBlind (va_Pc as (yP sz D tys w)) := fun a U g mk q => by
  obtain ⟨q0, q1, qP, qK, qD, qG⟩ := q
  exact ⟨q0, q1, qP, va_K.moved (u := U) (U := U.calling g mk a) (Vm.Alike.refl U.vm) qK, qD, qG.go (U := U.calling g mk a) (Vm.Alike.refl U.vm) (fun _ h => vk_R.same (u := U) (U := U.calling g mk a) rfl h) (fun _ _ _ _ h => va_Nw.same (u := U) (U := U.calling g mk a) rfl rfl h) (fun _ _ _ => rfl) (fun _ h => h)⟩
def yfit (Ty : List Cond) (y : MethodName) (bytes : ByteArray) (maxL : Nat) (ret : Option FieldType) (n : Nat) (rmy rm : Room) : Prop :=
  (∃ Ty', Ty = Cond.code y bytes maxL ret :: Ty') ∧ (y.cls ≠ "java/lang/invoke/MethodHandle" ∧ y.cls ≠ "java/lang/invoke/VarHandle" ∧ (parseMethodDescriptor y.desc).map (fun d => d.parameters.length) = some n) ∧ rmy.frames + 1 ≤ rm.frames ∧ 8 + (maxL + 11) + rmy.locals ≤ rm.locals ∧ rmy.cells = 0 ∧ rmy.slots = 0

theorem YcallVd (C : YC X l D tys y own cc ret Ts nL rm) {y2 : MethodName} (is rs : List Nat) (n : Nat) {Ty : List Cond} {rmy : Room} {as : List Value} {w ws' : va_W} {st' : List Value} {β : Type} {rf : β → Option Value} {wf : β → va_W} {o1 : β} {bytes : ByteArray} {maxL idx : Nat} {ret2 : Option FieldType} {b ci : Nat} {Cn : String} {T : u_T} {N : Nat} {fs : List Value} (hdg : decode cc pc = .ok (.invokevirtual idx, 3)) (hM : MC l D tys y2 Ty rmy (0, 0) (.ref b :: as) w (POd rf wf o1)) (hG : GoodIn Ts (wsV own idx Cn y2 Ty)) (hyC : y2.cls = Cn) (hfit : yfit Ty y2 bytes maxL ret2 as.length rmy rm) (hci : vwCl[ci]? = some (Cn, T, N)) (q0 : Nat) (hq0 : ws[q0]? = some (b, .inr (ci, fs))) (hnd : va_nd is = true) (hroom : z.1 ≤ rm.cells ∧ z.2 ≤ rm.slots) (hrest : (st.map fun v => v.category).sum ≤ 8) (hCc : ychk ws is w) (hfst : (wf o1).map Prod.fst = w.map Prod.fst) (hlen : ws'.length = n) (hcov : (List.range n).all (fun k => (is ++ rs).elem k) = true) (hdis : rs.all (fun k => !(is.elem k)) = true) (hIc : ychk ws' is (wf o1)) (rest : va_W) (hR1 : ychk ws rs rest) (hR2 : ychk ws' rs rest) (hst : (rf o1).toList ++ st = st') (kk : Y X z ws' lv (pc + 3) st') : Y X z ws lv pc (as.reverse ++ (.ref b :: st)) := by
  subst hst
  have hC := ychk_map ws is w hCc
  have hI := ychk_map ws' is (wf o1) hIc
  have hR := (ychk_map ws rs rest hR1).trans (ychk_map ws' rs rest hR2).symm
  obtain ⟨⟨Ty', hw0⟩, ⟨hd1, hd2, hd3⟩, hfr, hlo, hzc, hzs⟩ := hfit
  obtain ⟨p, l', e, R, s, m, args, below, meth, c, Q, D', tys', A, nL'⟩ := X
  obtain ⟨hx, hb, hml, hnl, hown, hts, hK, hA, hlk, hr, hR, hl0, hD0, ht0, hnm, hGs⟩ := C
  subst hnl hR hl0 hD0 ht0
  intro H locs ls hP hD hS hl
  have hFc := va_free (wc := w) hD hS hA is hC
  have hPc : va_P D.1 vwCl w H := by
    intro k q hk
    have h1 : (is.map (fun i => ws[i]?))[k]? = some (some q) := by rw [hC, List.getElem?_map, hk]; rfl
    rw [List.getElem?_map] at h1
    cases hi : is[k]? with
    | none => rw [hi] at h1; cases h1
    | some i => rw [hi] at h1; exact hP i q (Option.some.inj h1)
  have hDc : va_D (fun _ => True) w := (hD.sub is hnd hC).weaken (fun _ _ _ _ => trivial)
  have hz1 : z.1 + 0 ≤ rm.cells := hroom.1
  have hz2 : z.2 + 0 ≤ rm.slots := hroom.2
  refine y_run (va_runV (As := as) (rest := st) ⟨hx, hb, hml, hown, hts⟩ (hM H.size) (cwV as.length hts hG hw0 hzc hzs ⟨hyC, hd1, hd2, hd3⟩ ⟨hfr, hlo⟩) ⟨y_blind, va_recv hK hP hci hq0, fun U hU hW => ⟨rfl, by rw [hU], by rw [hU]; exact hPc, va_K.moved hW.alike hK, hDc, hGs.go hW.alike (fun _ h => vk_R.warm hW h) (fun _ _ _ _ h => va_Nw.warmM hW h) (fun a ha hn => by rw [hU]; exact hS.2.1 a ha hn) hFc⟩⟩ rfl rfl hl.1 rfl (lv_room hrest) hdg ⟨hz1, hz2⟩) hS (fun q _ h => hFc q h) hFc (fun r w' H1 locs1 hp hPw hDw hz hk hS1 => ?_)
  obtain ⟨rfl, rfl⟩ := hp
  obtain ⟨hP2, hD2⟩ := yjoin3 hP hD is rs n hlen hcov hdis hC hfst hI hR hk hPw
  exact kk H1 locs1 ls hP2 hD2 hS1 hl
theorem YcallSd (C : YC X l D tys y own cc ret Ts nL rm) {y2 : MethodName} (is rs : List Nat) (n : Nat) {Ty : List Cond} {rmy : Room} {as : List Value} {w ws' : va_W} {st' : List Value} {β : Type} {rf : β → Option Value} {wf : β → va_W} {o1 : β} {bytes : ByteArray} {maxL idx : Nat} {ret2 : Option FieldType} (hdg : decode cc pc = .ok (.invokestatic idx, 3)) (hM : MC l D tys y2 Ty rmy (0, 0) as w (POd rf wf o1)) (hG : GoodIn Ts (wsS own idx y2 Ty)) (hyC : y2.cls = own) (hfit : yfit Ty y2 bytes maxL ret2 as.length rmy rm) (hnd : va_nd is = true) (hroom : z.1 ≤ rm.cells ∧ z.2 ≤ rm.slots) (hrest : (st.map fun v => v.category).sum ≤ 8) (hCc : ychk ws is w) (hfst : (wf o1).map Prod.fst = w.map Prod.fst) (hlen : ws'.length = n) (hcov : (List.range n).all (fun k => (is ++ rs).elem k) = true) (hdis : rs.all (fun k => !(is.elem k)) = true) (hIc : ychk ws' is (wf o1)) (rest : va_W) (hR1 : ychk ws rs rest) (hR2 : ychk ws' rs rest) (hst : (rf o1).toList ++ st = st') (kk : Y X z ws' lv (pc + 3) st') : Y X z ws lv pc (as.reverse ++ st) := by
  subst hst
  have hC := ychk_map ws is w hCc
  have hI := ychk_map ws' is (wf o1) hIc
  have hR := (ychk_map ws rs rest hR1).trans (ychk_map ws' rs rest hR2).symm
  obtain ⟨⟨Ty', hw0⟩, ⟨hd1, hd2, hd3⟩, hfr, hlo, hzc, hzs⟩ := hfit
  obtain ⟨p, l', e, R, s, m, args, below, meth, c, Q, D', tys', A, nL'⟩ := X
  obtain ⟨hx, hb, hml, hnl, hown, hts, hK, hA, hlk, hr, hR, hl0, hD0, ht0, hnm, hGs⟩ := C
  subst hnl hR hl0 hD0 ht0
  intro H locs ls hP hD hS hl
  have hFc := va_free (wc := w) hD hS hA is hC
  have hPc : va_P D.1 vwCl w H := by
    intro k q hk
    have h1 : (is.map (fun i => ws[i]?))[k]? = some (some q) := by rw [hC, List.getElem?_map, hk]; rfl
    rw [List.getElem?_map] at h1
    cases hi : is[k]? with
    | none => rw [hi] at h1; cases h1
    | some i => rw [hi] at h1; exact hP i q (Option.some.inj h1)
  have hDc : va_D (fun _ => True) w := (hD.sub is hnd hC).weaken (fun _ _ _ _ => trivial)
  have hz1 : z.1 + 0 ≤ rm.cells := hroom.1
  have hz2 : z.2 + 0 ≤ rm.slots := hroom.2
  refine y_run (va_runS (As := as) (rest := st) ⟨hx, hb, hml, hown, hts⟩ (hM H.size) (cwS as.length hts hG hw0 hzc hzs ⟨hyC, hd1, hd2, hd3⟩ ⟨hfr, hlo⟩) ⟨y_blind, fun U hU hW => ⟨rfl, by rw [hU], by rw [hU]; exact hPc, va_K.moved hW.alike hK, hDc, hGs.go hW.alike (fun _ h => vk_R.warm hW h) (fun _ _ _ _ h => va_Nw.warmM hW h) (fun a ha hn => by rw [hU]; exact hS.2.1 a ha hn) hFc⟩⟩ rfl rfl hl.1 rfl (lv_room hrest) hdg ⟨hz1, hz2⟩) hS (fun q _ h => hFc q h) hFc (fun r w' H1 locs1 hp hPw hDw hz hk hS1 => ?_)
  obtain ⟨rfl, rfl⟩ := hp
  obtain ⟨hP2, hD2⟩ := yjoin3 hP hD is rs n hlen hcov hdis hC hfst hI hR hk hPw
  exact kk H1 locs1 ls hP2 hD2 hS1 hl
end YL
