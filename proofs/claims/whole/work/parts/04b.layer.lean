/-! the layer, further: the arrays' classes, fuel, what Math and arraycopy do, static calls of another class -/
abbrev yT (cI cJ cZ cS cT : ClassId) : List (ClassId × FieldType) := [(cI, .int), (cJ, .long), (cZ, .boolean), (cS, .object "ThumbOut$Shelf"), (cT, .object "ThumbOut$Text")]
def yN : Nat := 100000
def okC (sp dp n : Int32) (n0 n1 : Nat) : Bool := !(decide (sp < 0)) && !(decide (dp < 0)) && !(decide (n < 0)) && decide (sp.toNatClampNeg + n.toNatClampNeg ≤ n0) && decide (dp.toNatClampNeg + n.toNatClampNeg ≤ n1)
theorem okC_in {sp dp n : Int32} {n0 n1 : Nat} (h : okC sp dp n n0 n1 = true) : ¬ sp < 0 ∧ ¬ dp < 0 ∧ ¬ n < 0 ∧ sp.toNatClampNeg + n.toNatClampNeg ≤ n0 ∧ dp.toNatClampNeg + n.toNatClampNeg ≤ n1 := by
  unfold okC at h
  simp only [Bool.and_eq_true, Bool.not_eq_true', decide_eq_false_iff_not, decide_eq_true_eq] at h
  exact ⟨h.1.1.1.1, h.1.1.1.2, h.1.1.2, h.1.2, h.2⟩
section YL2
variable {X : yA} {l : Launch} {D : yD} {tys : List (ClassId × FieldType)} {y : MethodName} {own : String} {cc : ByteArray} {ret : Option FieldType} {Ts : List Cond} {nL : Nat} {rm : Room} {z : Nat × Nat} {ws : va_W} {lv : List (Nat × Value)} {pc : Nat} {st : List Value}
theorem Ymmax (C : YC X l D tys y own cc ret Ts nL rm) {x y1 : Int32} {index : Nat} (hdg : decode cc pc = .ok (.invokestatic index, 3)) (h1 : Cond.methodLink own index Lib.Math.max.name ∈ Ts) (h2 : Cond.static Lib.Math.max.name ∈ Ts) (h3 : Cond.initialized "java/lang/Math" ∈ Ts) (h4 : Cond.code Lib.Math.max.name Lib.Math.max.code 2 (some .int) ∈ Ts) (hf : 1 ≤ rm.frames) (hlo : (st.map fun v => v.category).sum + 13 ≤ rm.locals) (hroom : z.1 ≤ rm.cells ∧ z.2 ≤ rm.slots) (kk : Y X z ws lv (pc + 3) (.int (if x < y1 then y1 else x) :: st)) : Y X z ws lv pc (.int y1 :: .int x :: st) := by
  obtain ⟨p, l', e, R, s, m, args, below, meth, c, Q, D', tys', A, nL'⟩ := X
  obtain ⟨hx, hb, hml, hnl, hown, hts, hK, hA, hlk, hr, hR, hl0, hD0, ht0, hnm, hGs⟩ := C
  subst hnl hR hl0 hD0 ht0
  intro H locs ls hP hD hS hl
  exact va_mmax hx hb (hml.trans hl.1.symm) hown (hts _ h1) (hts _ h2) (hts _ h3) (hts _ h4) hf hlo hroom.1 hroom.2 hdg (kk H locs ls hP hD hS hl)
theorem Ymmin (C : YC X l D tys y own cc ret Ts nL rm) {x y1 : Int32} {index : Nat} (hdg : decode cc pc = .ok (.invokestatic index, 3)) (h1 : Cond.methodLink own index Lib.Math.min.name ∈ Ts) (h2 : Cond.static Lib.Math.min.name ∈ Ts) (h3 : Cond.initialized "java/lang/Math" ∈ Ts) (h4 : Cond.code Lib.Math.min.name Lib.Math.min.code 2 (some .int) ∈ Ts) (hf : 1 ≤ rm.frames) (hlo : (st.map fun v => v.category).sum + 13 ≤ rm.locals) (hroom : z.1 ≤ rm.cells ∧ z.2 ≤ rm.slots) (kk : Y X z ws lv (pc + 3) (.int (if y1 < x then y1 else x) :: st)) : Y X z ws lv pc (.int y1 :: .int x :: st) := by
  obtain ⟨p, l', e, R, s, m, args, below, meth, c, Q, D', tys', A, nL'⟩ := X
  obtain ⟨hx, hb, hml, hnl, hown, hts, hK, hA, hlk, hr, hR, hl0, hD0, ht0, hnm, hGs⟩ := C
  subst hnl hR hl0 hD0 ht0
  intro H locs ls hP hD hS hl
  exact va_mmin hx hb (hml.trans hl.1.symm) hown (hts _ h1) (hts _ h2) (hts _ h3) (hts _ h4) hf hlo hroom.1 hroom.2 hdg (kk H locs ls hP hD hS hl)
theorem Ymmax_long (C : YC X l D tys y own cc ret Ts nL rm) {x y1 : Int64} {index : Nat} (hdg : decode cc pc = .ok (.invokestatic index, 3)) (h1 : Cond.methodLink own index Lib.MathLoose.max_long.x ∈ Ts) (h2 : Cond.static Lib.MathLoose.max_long.x ∈ Ts) (h3 : Cond.initialized "java/lang/Math" ∈ Ts) (h4 : Cond.code Lib.MathLoose.max_long.x Lib.MathLoose.max_long.code 4 (some .long) ∈ Ts) (hf : 1 ≤ rm.frames) (hlo : (st.map fun v => v.category).sum + 15 ≤ rm.locals) (hroom : z.1 ≤ rm.cells ∧ z.2 ≤ rm.slots) (kk : Y X z ws lv (pc + 3) (.long (if y1 < x then x else y1) :: st)) : Y X z ws lv pc (.long y1 :: .long x :: st) := by
  obtain ⟨p, l', e, R, s, m, args, below, meth, c, Q, D', tys', A, nL'⟩ := X
  obtain ⟨hx, hb, hml, hnl, hown, hts, hK, hA, hlk, hr, hR, hl0, hD0, ht0, hnm, hGs⟩ := C
  subst hnl hR hl0 hD0 ht0
  intro H locs ls hP hD hS hl
  exact va_mmax_long hx hb (hml.trans hl.1.symm) hown (hts _ h1) (hts _ h2) (hts _ h3) (hts _ h4) hf hlo hroom.1 hroom.2 hdg (kk H locs ls hP hD hS hl)
theorem Ymmin_long (C : YC X l D tys y own cc ret Ts nL rm) {x y1 : Int64} {index : Nat} (hdg : decode cc pc = .ok (.invokestatic index, 3)) (h1 : Cond.methodLink own index Lib.MathLoose.min_long.x ∈ Ts) (h2 : Cond.static Lib.MathLoose.min_long.x ∈ Ts) (h3 : Cond.initialized "java/lang/Math" ∈ Ts) (h4 : Cond.code Lib.MathLoose.min_long.x Lib.MathLoose.min_long.code 4 (some .long) ∈ Ts) (hf : 1 ≤ rm.frames) (hlo : (st.map fun v => v.category).sum + 15 ≤ rm.locals) (hroom : z.1 ≤ rm.cells ∧ z.2 ≤ rm.slots) (kk : Y X z ws lv (pc + 3) (.long (if y1 < x then y1 else x) :: st)) : Y X z ws lv pc (.long y1 :: .long x :: st) := by
  obtain ⟨p, l', e, R, s, m, args, below, meth, c, Q, D', tys', A, nL'⟩ := X
  obtain ⟨hx, hb, hml, hnl, hown, hts, hK, hA, hlk, hr, hR, hl0, hD0, ht0, hnm, hGs⟩ := C
  subst hnl hR hl0 hD0 ht0
  intro H locs ls hP hD hS hl
  exact va_mmin_long hx hb (hml.trans hl.1.symm) hown (hts _ h1) (hts _ h2) (hts _ h3) (hts _ h4) hf hlo hroom.1 hroom.2 hdg (kk H locs ls hP hD hS hl)
theorem Ymabs (C : YC X l D tys y own cc ret Ts nL rm) {x : Int32} {index : Nat} (hdg : decode cc pc = .ok (.invokestatic index, 3)) (h1 : Cond.methodLink own index Lib.Math.abs.name ∈ Ts) (h2 : Cond.static Lib.Math.abs.name ∈ Ts) (h3 : Cond.initialized "java/lang/Math" ∈ Ts) (h4 : Cond.code Lib.Math.abs.name Lib.Math.abs.code 1 (some .int) ∈ Ts) (hf : 1 ≤ rm.frames) (hlo : (st.map fun v => v.category).sum + 13 ≤ rm.locals) (hroom : z.1 ≤ rm.cells ∧ z.2 ≤ rm.slots) (kk : Y X z ws lv (pc + 3) (.int (if 0 ≤ x then x else 0 - x) :: st)) : Y X z ws lv pc (.int x :: st) := by
  obtain ⟨p, l', e, R, s, m, args, below, meth, c, Q, D', tys', A, nL'⟩ := X
  obtain ⟨hx, hb, hml, hnl, hown, hts, hK, hA, hlk, hr, hR, hl0, hD0, ht0, hnm, hGs⟩ := C
  subst hnl hR hl0 hD0 ht0
  intro H locs ls hP hD hS hl
  exact va_mabs hx hb (hml.trans hl.1.symm) hown (hts _ h1) (hts _ h2) (hts _ h3) (hts _ h4) hf hlo hroom.1 hroom.2 hdg (kk H locs ls hP hD hS hl)
theorem Ycopy_int (C : YC X l D tys y own cc ret Ts nL rm) {β : Type} {a1 : Option β} {o : β} {ws' : va_W} {index a a0 n0 n1 : Nat} {c0 c1 : ClassId} {f g : Nat → Int32} {sp dp n : Int32} (hdg : decode cc pc = .ok (.invokestatic index, 3)) (hx : (bif okC sp dp n n0 n1 then a1 else none) = some o) (h1 : Cond.methodLink own index arraycopyName ∈ Ts) (h2 : Cond.native arraycopyName ∈ Ts) (h3 : Cond.static arraycopyName ∈ Ts) (h4 : Cond.initialized "java/lang/System" ∈ Ts) (q0 q1 t0 : Nat) (ha0 : ws[q0]? = some (a0, .inl (c0, n0, .inl f))) (ha1 : ws[q1]? = some (a, .inl (c1, n1, .inl g))) (ht0 : tys[t0]? = some (c0, .int)) (ht1 : tys[t0]? = some (c1, .int)) (hf : 1 ≤ rm.frames) (hlo : (st.map fun v => v.category).sum + (nativeFrameWords "java/lang/System" "arraycopy" 5 + 11) ≤ rm.locals) (hw : ws.set q1 (a, .inl (c1, n1, .inl (va_cpy f g sp.toNatClampNeg dp.toNatClampNeg n.toNatClampNeg))) = ws') (kk : a1 = some o → Y X z ws' lv (pc + 3) st) : Y X z ws lv pc (.int n :: .int dp :: .ref a :: .int sp :: .ref a0 :: st) := by
  obtain ⟨hi, hxx⟩ := ybif hx
  obtain ⟨g1, g2, g3, g4, g5⟩ := okC_in hi
  subst hw
  obtain ⟨p, l', e, R, s, m, args, below, meth, c, Q, D', tys', A, nL'⟩ := X
  obtain ⟨hx, hb, hml, hnl, hown, hts, hK, hA, hlk, hr, hR, hl0, hD0, ht0, hnm, hGs⟩ := C
  subst hnl hR hl0 hD0 ht0
  intro H locs ls hP hD hS hl
  exact va_copyi hx hb (hml.trans hl.1.symm) hown (hts _ h1) (hts _ h2) (hts _ h3) (hts _ h4) hK hP hD hS q0 q1 t0 t0 ha0 ha1 ht0 ht1 rfl g1 g2 g3 g4 g5 (fun _ _ => rfl) hf hlo hdg (fun H1 locs1 hP1 hD1 hS1 => kk hxx H1 locs1 ls hP1 hD1 hS1 hl)
theorem Ycopy_long (C : YC X l D tys y own cc ret Ts nL rm) {β : Type} {a1 : Option β} {o : β} {ws' : va_W} {index a a0 n0 n1 : Nat} {c0 c1 : ClassId} {f g : Nat → Int64} {sp dp n : Int32} (hdg : decode cc pc = .ok (.invokestatic index, 3)) (hx : (bif okC sp dp n n0 n1 then a1 else none) = some o) (h1 : Cond.methodLink own index arraycopyName ∈ Ts) (h2 : Cond.native arraycopyName ∈ Ts) (h3 : Cond.static arraycopyName ∈ Ts) (h4 : Cond.initialized "java/lang/System" ∈ Ts) (q0 q1 t0 : Nat) (ha0 : ws[q0]? = some (a0, .inl (c0, n0, .inr (.inl f)))) (ha1 : ws[q1]? = some (a, .inl (c1, n1, .inr (.inl g)))) (ht0 : tys[t0]? = some (c0, .long)) (ht1 : tys[t0]? = some (c1, .long)) (hf : 1 ≤ rm.frames) (hlo : (st.map fun v => v.category).sum + (nativeFrameWords "java/lang/System" "arraycopy" 5 + 11) ≤ rm.locals) (hw : ws.set q1 (a, .inl (c1, n1, .inr (.inl (va_cpy f g sp.toNatClampNeg dp.toNatClampNeg n.toNatClampNeg)))) = ws') (kk : a1 = some o → Y X z ws' lv (pc + 3) st) : Y X z ws lv pc (.int n :: .int dp :: .ref a :: .int sp :: .ref a0 :: st) := by
  obtain ⟨hi, hxx⟩ := ybif hx
  obtain ⟨g1, g2, g3, g4, g5⟩ := okC_in hi
  subst hw
  obtain ⟨p, l', e, R, s, m, args, below, meth, c, Q, D', tys', A, nL'⟩ := X
  obtain ⟨hx, hb, hml, hnl, hown, hts, hK, hA, hlk, hr, hR, hl0, hD0, ht0, hnm, hGs⟩ := C
  subst hnl hR hl0 hD0 ht0
  intro H locs ls hP hD hS hl
  exact va_copyl hx hb (hml.trans hl.1.symm) hown (hts _ h1) (hts _ h2) (hts _ h3) (hts _ h4) hK hP hD hS q0 q1 t0 t0 ha0 ha1 ht0 ht1 rfl g1 g2 g3 g4 g5 (fun _ _ => rfl) hf hlo hdg (fun H1 locs1 hP1 hD1 hS1 => kk hxx H1 locs1 ls hP1 hD1 hS1 hl)
def ysABOVE (j : Nat) : Int32 := ([-1, 0, 0, 1, 0, 2, 4, 3] : List Int32).getD j 0
def ysOWN (j : Nat) : Int32 := ([1, 10, 11, 2, 20, 0, 0, 0, 0, 30, 0, 0, 0, 41, 40, 0, 0, 0, 0, 50, 0, 0, 60, 61, 70, 0, 0, 0, 81, 80, 0, 0] : List Int32).getD j 0
def YT (X : yA) (t n : Nat) (f : Nat → Value) : Prop :=
  match X with
  | (_, _, _, _, s, _, _, _, _, _, _, _, _, A, _) => va_T .int t n f A s s.heap
theorem Ygets_ABOVE (C : YC X l D tys y own cc ret Ts nL rm) {index : Nat} (hdg : decode cc pc = .ok (.getstatic index, 3)) (hlk0 : Cond.fieldLink own index "ThumbOut$Bodies" "ABOVE" "[I" ∈ Ts) (kk : ∀ t : Nat, YT X t 8 (fun j => .int (ysABOVE j)) → Y X z ws lv (pc + 3) (.ref t :: st)) : Y X z ws lv pc st := by
  obtain ⟨p, l', e, R, s, m, args, below, meth, c, Q, D', tys', A, nL'⟩ := X
  obtain ⟨hx, hb, hml, hnl, hown, hts, hK, hA, hlk, hr, hR, hl0, hD0, ht0, hnm, hGs⟩ := C
  subst hnl hR hl0 hD0 ht0
  obtain ⟨h1, h2, h3, h4, h5, h6, h7, h8, h9, h10⟩ := hGs
  intro H locs ls hP hD hS hl
  exact va_gets hx hb h1 hS hown (hts _ hlk0) (fun _ h => h) hdg (kk _ h3 H locs ls hP hD hS hl)
theorem Ygets_OWN (C : YC X l D tys y own cc ret Ts nL rm) {index : Nat} (hdg : decode cc pc = .ok (.getstatic index, 3)) (hlk0 : Cond.fieldLink own index "ThumbOut$Bodies" "OWN" "[I" ∈ Ts) (kk : ∀ t : Nat, YT X t 32 (fun j => .int (ysOWN j)) → Y X z ws lv (pc + 3) (.ref t :: st)) : Y X z ws lv pc st := by
  obtain ⟨p, l', e, R, s, m, args, below, meth, c, Q, D', tys', A, nL'⟩ := X
  obtain ⟨hx, hb, hml, hnl, hown, hts, hK, hA, hlk, hr, hR, hl0, hD0, ht0, hnm, hGs⟩ := C
  subst hnl hR hl0 hD0 ht0
  obtain ⟨h1, h2, h3, h4, h5, h6, h7, h8, h9, h10⟩ := hGs
  intro H locs ls hP hD hS hl
  exact va_gets hx hb h2 hS hown (hts _ hlk0) (fun _ h => h) hdg (kk _ h4 H locs ls hP hD hS hl)
theorem Ytald (C : YC X l D tys y own cc ret Ts nL rm) {β : Type} {a1 : Option β} {o : β} {t n : Nat} {f : Nat → Value} {v : Int32} {i : Int32} (hT : YT X t n f) (hdg : decode cc pc = .ok (.iaload, 1)) (hx : (bif inB i n then a1 else none) = some o) (hv : f i.toNatClampNeg = .int v) (kk : a1 = some o → Y X z ws lv (pc + 1) (.int v :: st)) : Y X z ws lv pc (.int i :: .ref t :: st) := by
  obtain ⟨hi, hxx⟩ := ybif hx
  obtain ⟨p, l', e, R, s, m, args, below, meth, c, Q, D', tys', A, nL'⟩ := X
  obtain ⟨hx, hb, hml, hnl, hown, hts, hK, hA, hlk, hr, hR, hl0, hD0, ht0, hnm, hGs⟩ := C
  subst hnl hR hl0 hD0 ht0
  intro H locs ls hP hD hS hl
  exact va_ti hx hb hT hS (inB_in hi) hv hdg (kk hxx H locs ls hP hD hS hl)
theorem Yaload_nN (C : YC X l D tys y own cc ret Ts nL rm) {k : Fin 4} {i : Nat} (hdg : decode cc pc = .ok (.aload_n k, 1)) (j : Nat) (hi : (k : Nat) = i) (hj : lv[j]? = some (i, .null)) (kk : Y X z ws lv (pc + 1) (.null :: st)) : Y X z ws lv pc st := by
  obtain ⟨p, l', e, R, s, m, args, below, meth, c, Q, D', tys', A, nL'⟩ := X
  obtain ⟨hx, hb, hml, hnl, hown, hts, hK, hA, hlk, hr, hR, hl0, hD0, ht0, hnm, hGs⟩ := C
  subst hnl hR hl0 hD0 ht0
  intro H locs ls hP hD hS hl
  exact lv_aload_nN hx hb hdg hi (lv_at hl j hj) (kk H locs ls hP hD hS hl)
theorem Yaload_nQ (C : YC X l D tys y own cc ret Ts nL rm) {k : Fin 4} {i : Nat} {b : Bool} {a : Nat} (hdg : decode cc pc = .ok (.aload_n k, 1)) (j : Nat) (hi : (k : Nat) = i) (hj : lv[j]? = some (i, nR b a)) (kk : Y X z ws lv (pc + 1) (nR b a :: st)) : Y X z ws lv pc st := by
  cases b with
  | true => exact Yaload_nN C hdg j hi hj kk
  | false => exact Yaload_n C hdg j hi hj kk
theorem YaloadN (C : YC X l D tys y own cc ret Ts nL rm) {i : Nat} (hdg : decode cc pc = .ok (.aload i, 2)) (j : Nat) (hj : lv[j]? = some (i, .null)) (kk : Y X z ws lv (pc + 2) (.null :: st)) : Y X z ws lv pc st := by
  obtain ⟨p, l', e, R, s, m, args, below, meth, c, Q, D', tys', A, nL'⟩ := X
  obtain ⟨hx, hb, hml, hnl, hown, hts, hK, hA, hlk, hr, hR, hl0, hD0, ht0, hnm, hGs⟩ := C
  subst hnl hR hl0 hD0 ht0
  intro H locs ls hP hD hS hl
  exact lv_aloadN hx hb hdg (lv_at hl j hj) (kk H locs ls hP hD hS hl)
theorem YaloadQ (C : YC X l D tys y own cc ret Ts nL rm) {i : Nat} {b : Bool} {a : Nat} (hdg : decode cc pc = .ok (.aload i, 2)) (j : Nat) (hj : lv[j]? = some (i, nR b a)) (kk : Y X z ws lv (pc + 2) (nR b a :: st)) : Y X z ws lv pc st := by
  cases b with
  | true => exact YaloadN C hdg j hj kk
  | false => exact Yaload C hdg j hj kk
theorem nR_n (b : Bool) (a : Nat) (Cn : String) : narrow (.object Cn) (nR b a) = nR b a := by cases b <;> rfl
theorem nR_f2 (b : Bool) (a : Nat) (Cn : String) : fits (.object Cn) (nR b a) = true := by cases b <;> rfl
theorem Yastore_nN (C : YC X l D tys y own cc ret Ts nL rm) {k : Fin 4} {i : Nat} {lv' : List (Nat × Value)} (hdg : decode cc pc = .ok (.astore_n k, 1)) (hi : (k : Nat) = i) (hn : i < nL) (hl2 : ylo lv i .null = lv') (kk : Y X z ws lv' (pc + 1) st) : Y X z ws lv pc (.null :: st) := by
  obtain ⟨p, l', e, R, s, m, args, below, meth, c, Q, D', tys', A, nL'⟩ := X
  obtain ⟨hx, hb, hml, hnl, hown, hts, hK, hA, hlk, hr, hR, hl0, hD0, ht0, hnm, hGs⟩ := C
  subst hnl hR hl0 hD0 ht0
  intro H locs ls hP hD hS hl
  exact lv_astore_nN hx hb hdg hi hl hn rfl (fun ls2 h2 => kk H locs ls2 hP hD hS (hl2 ▸ ylo_has h2))
theorem YastoreN (C : YC X l D tys y own cc ret Ts nL rm) {i : Nat} {lv' : List (Nat × Value)} (hdg : decode cc pc = .ok (.astore i, 2)) (hn : i < nL) (hl2 : ylo lv i .null = lv') (kk : Y X z ws lv' (pc + 2) st) : Y X z ws lv pc (.null :: st) := by
  obtain ⟨p, l', e, R, s, m, args, below, meth, c, Q, D', tys', A, nL'⟩ := X
  obtain ⟨hx, hb, hml, hnl, hown, hts, hK, hA, hlk, hr, hR, hl0, hD0, ht0, hnm, hGs⟩ := C
  subst hnl hR hl0 hD0 ht0
  intro H locs ls hP hD hS hl
  exact lv_astoreN hx hb hdg hl hn rfl (fun ls2 h2 => kk H locs ls2 hP hD hS (hl2 ▸ ylo_has h2))
theorem Yaldr (C : YC X l D tys y own cc ret Ts nL rm) {β : Type} {a1 : Option β} {o : β} {a n x : Nat} {cA : ClassId} {Cn : String} {f : Nat → Option Nat} {i : Int32} (hdg : decode cc pc = .ok (.aaload, 1)) (hx : (bif inB i n then a1 else none) = some o) (q0 t0 : Nat) (ha : ws[q0]? = some (a, .inl (cA, n, .inr (.inr (.inr (.inr f)))))) (ht : tys[t0]? = some (cA, .object Cn)) (hv : inB i n = true → f i.toNatClampNeg = some x) (kk : a1 = some o → Y X z ws lv (pc + 1) (.ref x :: st)) : Y X z ws lv pc (.int i :: .ref a :: st) := by
  have hi := (ybif hx).1
  refine Yaldq C hdg hx q0 t0 ha ht (fun h => ?_)
  rw [hv hi]
  exact kk h
theorem Yastr (C : YC X l D tys y own cc ret Ts nL rm) {β : Type} {a1 : Option β} {o : β} {a n v ci : Nat} {cA : ClassId} {f : Nat → Option Nat} {r : vw_C} {vs : List Value} {i : Int32} {ws' : va_W} (hdg : decode cc pc = .ok (.aastore, 1)) (hx : (bif inB i n then a1 else none) = some o) (q0 t0 qk : Nat) (ha : ws[q0]? = some (a, .inl (cA, n, .inr (.inr (.inr (.inr f)))))) (ht : tys[t0]? = some (cA, .object r.1)) (hv : ws[qk]? = some (v, .inr (ci, vs))) (hc : vwCl[ci]? = some r) (hw : ws.set q0 (a, .inl (cA, n, .inr (.inr (.inr (.inr (va_up f i.toNatClampNeg (some v))))))) = ws') (kk : a1 = some o → Y X z ws' lv (pc + 1) st) : Y X z ws lv pc (.ref v :: .int i :: .ref a :: st) := by
  obtain ⟨hi, hxx⟩ := ybif hx
  subst hw
  obtain ⟨p, l', e, R, s, m, args, below, meth, c, Q, D', tys', A, nL'⟩ := X
  obtain ⟨hx, hb, hml, hnl, hown, hts, hK, hA, hlk, hr, hR, hl0, hD0, ht0, hnm, hGs⟩ := C
  subst hnl hR hl0 hD0 ht0
  intro H locs ls hP hD hS hl
  exact va_astq hx hb hK hP hD hS q0 t0 qk ci ha ht hv hc (inB_in hi) hdg (fun H1 locs1 hP1 hD1 hS1 => kk hxx H1 locs1 ls hP1 hD1 hS1 hl)
def ysNM (j : Nat) : Int32 := yNm.getD j 0
theorem YldcS (C : YC X l D tys y own cc ret Ts nL rm) (hdg : decode cc pc = .ok (.ldc 71, 2)) (ho : own = "ThumbOut$Reader") (kk : Y X z ws lv (pc + 2) (.ref (yS D) :: st)) : Y X z ws lv pc st := by
  obtain ⟨p, l', e, R, s, m, args, below, meth, c, Q, D', tys', A, nL'⟩ := X
  obtain ⟨hx, hb, hml, hnl, hown, hts, hK, hA, hlk, hr, hR, hl0, hD0, ht0, hnm, hGs⟩ := C
  subst hnl hR hl0 hD0 ht0
  obtain ⟨h1, h2, h3, h4, h5, h6, h7, h8, h9, h10⟩ := hGs
  intro H locs ls hP hD hS hl
  subst ho
  exact va_ldcS hx hb hown h6 hdg (kk H locs ls hP hD hS hl)
theorem YgetS_coder (C : YC X l D tys y own cc ret Ts nL rm) {index : Nat} (hdg : decode cc pc = .ok (.getfield index, 3)) (hlk0 : Cond.fieldLink own index "java/lang/String" "coder" "B" ∈ Ts) (kk : Y X z ws lv (pc + 3) (.int 0 :: st)) : Y X z ws lv pc (.ref (yS D) :: st) := by
  obtain ⟨p, l', e, R, s, m, args, below, meth, c, Q, D', tys', A, nL'⟩ := X
  obtain ⟨hx, hb, hml, hnl, hown, hts, hK, hA, hlk, hr, hR, hl0, hD0, ht0, hnm, hGs⟩ := C
  subst hnl hR hl0 hD0 ht0
  obtain ⟨h1, h2, h3, h4, h5, h6, h7, h8, h9, h10⟩ := hGs
  intro H locs ls hP hD hS hl
  exact vk_getf hx hb (h5.1 0 (by decide)).2.1 hS hown (hts _ hlk0) (fun _ h => h) hdg (kk H locs ls hP hD hS hl)
theorem YgetS_value (C : YC X l D tys y own cc ret Ts nL rm) {index : Nat} (hdg : decode cc pc = .ok (.getfield index, 3)) (hlk0 : Cond.fieldLink own index "java/lang/String" "value" "[B" ∈ Ts) (kk : Y X z ws lv (pc + 3) (.ref (yV D) :: st)) : Y X z ws lv pc (.ref (yS D) :: st) := by
  obtain ⟨p, l', e, R, s, m, args, below, meth, c, Q, D', tys', A, nL'⟩ := X
  obtain ⟨hx, hb, hml, hnl, hown, hts, hK, hA, hlk, hr, hR, hl0, hD0, ht0, hnm, hGs⟩ := C
  subst hnl hR hl0 hD0 ht0
  obtain ⟨h1, h2, h3, h4, h5, h6, h7, h8, h9, h10⟩ := hGs
  intro H locs ls hP hD hS hl
  exact vk_getf hx hb (h5.1 0 (by decide)).2.2.1 hS hown (hts _ hlk0) (fun _ h => h) hdg (kk H locs ls hP hD hS hl)
theorem Ygets_CS (C : YC X l D tys y own cc ret Ts nL rm) {index : Nat} (hdg : decode cc pc = .ok (.getstatic index, 3)) (hlk0 : Cond.fieldLink own index "java/lang/String" "COMPACT_STRINGS" "Z" ∈ Ts) (kk : Y X z ws lv (pc + 3) (.int 1 :: st)) : Y X z ws lv pc st := by
  obtain ⟨p, l', e, R, s, m, args, below, meth, c, Q, D', tys', A, nL'⟩ := X
  obtain ⟨hx, hb, hml, hnl, hown, hts, hK, hA, hlk, hr, hR, hl0, hD0, ht0, hnm, hGs⟩ := C
  subst hnl hR hl0 hD0 ht0
  obtain ⟨h1, h2, h3, h4, h5, h6, h7, h8, h9, h10⟩ := hGs
  intro H locs ls hP hD hS hl
  exact va_gets hx hb h7 hS hown (hts _ hlk0) (fun _ h => h) hdg (kk H locs ls hP hD hS hl)
theorem YtbS (C : YC X l D tys y own cc ret Ts nL rm) {β : Type} {a1 : Option β} {o : β} {i : Int32} (hdg : decode cc pc = .ok (.baload, 1)) (hx : (bif inB i 10 then a1 else none) = some o) (kk : a1 = some o → Y X z ws lv (pc + 1) (.int (ysNM i.toNatClampNeg) :: st)) : Y X z ws lv pc (.int i :: .ref (yV D) :: st) := by
  obtain ⟨hi, hxx⟩ := ybif hx
  obtain ⟨p, l', e, R, s, m, args, below, meth, c, Q, D', tys', A, nL'⟩ := X
  obtain ⟨hx, hb, hml, hnl, hown, hts, hK, hA, hlk, hr, hR, hl0, hD0, ht0, hnm, hGs⟩ := C
  subst hnl hR hl0 hD0 ht0
  obtain ⟨h1, h2, h3, h4, h5, h6, h7, h8, h9, h10⟩ := hGs
  intro H locs ls hP hD hS hl
  exact va_tb hx hb (h5.1 0 (by decide)).2.2.2 hS (inB_in hi) rfl hdg (kk hxx H locs ls hP hD hS hl)
theorem YtlS (C : YC X l D tys y own cc ret Ts nL rm) (hdg : decode cc pc = .ok (.arraylength, 1)) (kk : Y X z ws lv (pc + 1) (.int 10 :: st)) : Y X z ws lv pc (.ref (yV D) :: st) := by
  obtain ⟨p, l', e, R, s, m, args, below, meth, c, Q, D', tys', A, nL'⟩ := X
  obtain ⟨hx, hb, hml, hnl, hown, hts, hK, hA, hlk, hr, hR, hl0, hD0, ht0, hnm, hGs⟩ := C
  subst hnl hR hl0 hD0 ht0
  obtain ⟨h1, h2, h3, h4, h5, h6, h7, h8, h9, h10⟩ := hGs
  intro H locs ls hP hD hS hl
  exact va_tlen hx hb (h5.1 0 (by decide)).2.2.2 hS rfl hdg (kk H locs ls hP hD hS hl)
theorem Ybret (C : YC X l D tys y own cc (some .byte) Ts nL rm) {PO : Option Value → va_W → Prop} (E : YE X PO z) {v : Int32} (hn : narrow .byte (.int v) = .int v) (hdg : decode cc pc = .ok (.ireturn, 1)) (hp : PO (some (.int v)) ws) : Y X z ws lv pc [(.int v)] := by
  obtain ⟨p, l', e, R, s, m, args, below, meth, c, Q, D', tys', A, nL'⟩ := X
  obtain ⟨hx, hb, hml, hnl, hown, hts, hK, hA, hlk, hr, hR, hl0, hD0, ht0, hnm, hGs⟩ := C
  subst hnl hR hl0 hD0 ht0
  intro H locs ls hP hD hS hl
  have E' : Q = MQ below (yQ D tys A PO) args s z.1 z.2 A := E
  subst E'
  exact W.zret hx hb hr hn (fun t ht hW => ⟨_, ws, rfl, hp, by rw [ht]; exact hP, va_K.moved hW.alike hK, hD, hS.F ht⟩) hS.2.2 hdg
theorem YcallVs (C : YC X l D tys y own cc ret Ts nL rm) {y2 : MethodName} (is rs : List Nat) (n : Nat) {Ty : List Cond} {rmy : Room} {as : List Value} {w ws' : va_W} {st' : List Value} {β : Type} {rf : β → Option Value} {wf : β → va_W} {o1 : β} {bytes : ByteArray} {maxL idx : Nat} {ret2 : Option FieldType} (hdg : decode cc pc = .ok (.invokevirtual idx, 3)) (hM : MC l D tys y2 Ty rmy (0, 0) (.ref (yS D) :: as) w (POd rf wf o1)) (hG : GoodIn Ts (wsV own idx "java/lang/String" y2 Ty)) (hyC : y2.cls = "java/lang/String") (hfit : yfit Ty y2 bytes maxL ret2 as.length rmy rm) (hnd : va_nd is = true) (hroom : z.1 ≤ rm.cells ∧ z.2 ≤ rm.slots) (hrest : (st.map fun v => v.category).sum ≤ 8) (hCc : ychk ws is w) (hfst : (wf o1).map Prod.fst = w.map Prod.fst) (hlen : ws'.length = n) (hcov : (List.range n).all (fun k => (is ++ rs).elem k) = true) (hdis : rs.all (fun k => !(is.elem k)) = true) (hIc : ychk ws' is (wf o1)) (rest : va_W) (hR1 : ychk ws rs rest) (hR2 : ychk ws' rs rest) (hst : (rf o1).toList ++ st = st') (kk : Y X z ws' lv (pc + 3) st') : Y X z ws lv pc (as.reverse ++ (.ref (yS D) :: st)) := by
  subst hst
  have hC := ychk_map ws is w hCc
  have hI := ychk_map ws' is (wf o1) hIc
  have hR := (ychk_map ws rs rest hR1).trans (ychk_map ws' rs rest hR2).symm
  obtain ⟨⟨Ty', hw0⟩, ⟨hd1, hd2, hd3⟩, hfr, hlo, hzc, hzs⟩ := hfit
  obtain ⟨p, l', e, R, s, m, args, below, meth, c, Q, D', tys', A, nL'⟩ := X
  obtain ⟨hx, hb, hml, hnl, hown, hts, hK, hA, hlk, hr, hR, hl0, hD0, ht0, hnm, hGs⟩ := C
  subst hnl hR hl0 hD0 ht0
  have hGs2 := hGs
  obtain ⟨h1, h2, h3, h4, h5, h6, h7, h8, h9, h10⟩ := hGs2
  intro H locs ls hP hD hS hl
  have hFc := va_free (wc := w) hD hS hA is hC
  have hPc : va_P D.1 vwCl w H := by
    intro k q hk
    have h1 : (is.map (fun i => ws[i]?))[k]? = some (some q) := by rw [hC, List.getElem?_map, hk]; rfl
    rw [List.getElem?_map] at h1
    cases hi : is[k]? with
    | none => rw [hi] at h1; cases h1
    | some i => rw [hi] at h1; exact hP i q (Option.some.inj h1)
  have hDc : va_D (fun _ => True) w := (hD.sub is hnd hC).weaken (fun _ _ _ _ => trivial)
  have hz1 : z.1 + 0 ≤ rm.cells := hroom.1
  have hz2 : z.2 + 0 ≤ rm.slots := hroom.2
  refine y_run (va_runV (As := as) (rest := st) ⟨hx, hb, hml, hown, hts⟩ (hM H.size) (cwV as.length hts hG hw0 hzc hzs ⟨hyC, hd1, hd2, hd3⟩ ⟨hfr, hlo⟩) ⟨y_blind, vk_recv h5 (by decide) hS, fun U hU hW => ⟨rfl, by rw [hU], by rw [hU]; exact hPc, va_K.moved hW.alike hK, hDc, hGs.go hW.alike (fun _ h => vk_R.warm hW h) (fun _ _ _ _ h => va_Nw.warmM hW h) (fun a ha hn => by rw [hU]; exact hS.2.1 a ha hn) hFc⟩⟩ rfl rfl hl.1 rfl (lv_room hrest) hdg ⟨hz1, hz2⟩) hS (fun q _ h => hFc q h) hFc (fun r w' H1 locs1 hp hPw hDw hz hk hS1 => ?_)
  obtain ⟨rfl, rfl⟩ := hp
  obtain ⟨hP2, hD2⟩ := yjoin3 hP hD is rs n hlen hcov hdis hC hfst hI hR hk hPw
  exact kk H1 locs1 ls hP2 hD2 hS1 hl
theorem YcallSo (C : YC X l D tys y own cc ret Ts nL rm) {y2 : MethodName} (is rs : List Nat) (n : Nat) {Ty : List Cond} {rmy : Room} {as : List Value} {w ws' : va_W} {st' : List Value} {β : Type} {rf : β → Option Value} {wf : β → va_W} {o1 : β} {bytes : ByteArray} {maxL idx : Nat} {ret2 : Option FieldType} (hdg : decode cc pc = .ok (.invokestatic idx, 3)) (hM : MC l D tys y2 Ty rmy (0, 0) as w (POd rf wf o1)) (hG : GoodIn Ts (va_wsS own idx y2 Ty)) (hfit : yfit Ty y2 bytes maxL ret2 as.length rmy rm) (hnd : va_nd is = true) (hroom : z.1 ≤ rm.cells ∧ z.2 ≤ rm.slots) (hrest : (st.map fun v => v.category).sum ≤ 8) (hCc : ychk ws is w) (hfst : (wf o1).map Prod.fst = w.map Prod.fst) (hlen : ws'.length = n) (hcov : (List.range n).all (fun k => (is ++ rs).elem k) = true) (hdis : rs.all (fun k => !(is.elem k)) = true) (hIc : ychk ws' is (wf o1)) (rest : va_W) (hR1 : ychk ws rs rest) (hR2 : ychk ws' rs rest) (hst : (rf o1).toList ++ st = st') (kk : Y X z ws' lv (pc + 3) st') : Y X z ws lv pc (as.reverse ++ st) := by
  subst hst
  have hC := ychk_map ws is w hCc
  have hI := ychk_map ws' is (wf o1) hIc
  have hR := (ychk_map ws rs rest hR1).trans (ychk_map ws' rs rest hR2).symm
  obtain ⟨⟨Ty', hw0⟩, ⟨hd1, hd2, hd3⟩, hfr, hlo, hzc, hzs⟩ := hfit
  obtain ⟨p, l', e, R, s, m, args, below, meth, c, Q, D', tys', A, nL'⟩ := X
  obtain ⟨hx, hb, hml, hnl, hown, hts, hK, hA, hlk, hr, hR, hl0, hD0, ht0, hnm, hGs⟩ := C
  subst hnl hR hl0 hD0 ht0
  intro H locs ls hP hD hS hl
  have hFc := va_free (wc := w) hD hS hA is hC
  have hPc : va_P D.1 vwCl w H := by
    intro k q hk
    have h1 : (is.map (fun i => ws[i]?))[k]? = some (some q) := by rw [hC, List.getElem?_map, hk]; rfl
    rw [List.getElem?_map] at h1
    cases hi : is[k]? with
    | none => rw [hi] at h1; cases h1
    | some i => rw [hi] at h1; exact hP i q (Option.some.inj h1)
  have hDc : va_D (fun _ => True) w := (hD.sub is hnd hC).weaken (fun _ _ _ _ => trivial)
  have hz1 : z.1 + 0 ≤ rm.cells := hroom.1
  have hz2 : z.2 + 0 ≤ rm.slots := hroom.2
  refine y_run (va_runS (As := as) (rest := st) ⟨hx, hb, hml, hown, hts⟩ (hM H.size) (va_cwS as.length hts hG hw0 hzc hzs ⟨hd1, hd2, hd3⟩ ⟨hfr, hlo⟩) ⟨y_blind, fun U hU hW => ⟨rfl, by rw [hU], by rw [hU]; exact hPc, va_K.moved hW.alike hK, hDc, hGs.go hW.alike (fun _ h => vk_R.warm hW h) (fun _ _ _ _ h => va_Nw.warmM hW h) (fun a ha hn => by rw [hU]; exact hS.2.1 a ha hn) hFc⟩⟩ rfl rfl hl.1 rfl (lv_room hrest) hdg ⟨hz1, hz2⟩) hS (fun q _ h => hFc q h) hFc (fun r w' H1 locs1 hp hPw hDw hz hk hS1 => ?_)
  obtain ⟨rfl, rfl⟩ := hp
  obtain ⟨hP2, hD2⟩ := yjoin3 hP hD is rs n hlen hcov hdis hC hfst hI hR hk hPw
  exact kk H1 locs1 ls hP2 hD2 hS1 hl
theorem Yeq {z' : Nat × Nat} {ws' : va_W} (hw : ws = ws') (hz : z = z') (kk : Y X z' ws' lv pc st) : Y X z ws lv pc st := by
  subst hw
  subst hz
  exact kk
theorem YobjInit (C : YC X l D tys y own cc ret Ts nL rm) {a idx : Nat} (hdg : decode cc pc = .ok (.invokespecial idx, 3)) (h1 : Cond.methodLink own idx Lib.objectInit ∈ Ts) (h2 : Cond.instanceMethod Lib.objectInit ∈ Ts) (h3 : Cond.code Lib.objectInit ⟨#[0xb1]⟩ 1 none ∈ Ts) (hf : 1 ≤ rm.frames) (hlo : (st.map fun v => v.category).sum + 12 ≤ rm.locals) (kk : Y X z ws lv (pc + 3) st) : Y X z ws lv pc (.ref a :: st) := by
  obtain ⟨p, l', e, R, s, m, args, below, meth, c, Q, D', tys', A, nL'⟩ := X
  obtain ⟨hx, hb, hml, hnl, hown, hts, hK, hA, hlk, hr, hR, hl0, hD0, ht0, hnm, hGs⟩ := C
  subst hnl hR hl0 hD0 ht0
  intro H locs ls hP hD hS hl
  exact W.objInit hx hb hown (hts _ h1) (hts _ h2) (hts _ h3) rfl (by rw [hml]; exact hl.1) rfl hdg hf (by show 2 * 0 + _ + 12 ≤ _; omega) (kk H locs ls hP hD hS hl)
theorem Ynew (C : YC X l D tys y own cc ret Ts nL rm) {Cn : String} {T : u_T} {N ci idx : Nat} {fs : List Value} (hdg : decode cc pc = .ok (.new idx, 3)) (hin : ∀ w ∈ u_ws Cn T N, w ∈ Ts) (ty : Nat → FieldType) (hty : ∀ k, k < N → parseFieldDescriptor (T k).2.2.1 = some (ty k)) (h1 : Cond.classLink own idx Cn ∈ Ts) (h2 : Cond.instantiable Cn N ∈ Ts) (h3 : Cond.initialized Cn ∈ Ts) (hc : vwCl[ci]? = some (Cn, T, N)) (hfs : ∀ j, j < N → defaultValue (ty j) = vp_V fs j) (hcells : z.1 + 1 ≤ rm.cells) (hslots : z.2 + N ≤ rm.slots) (kk : ∀ q : Nat, Y X (z.1 + 1, z.2 + N) (ws ++ [(q, .inr (ci, fs))]) lv (pc + 3) (.ref q :: st)) : Y X z ws lv pc st := by
  obtain ⟨p, l', e, R, s, m, args, below, meth, c, Q, D', tys', A, nL'⟩ := X
  obtain ⟨hx, hb, hml, hnl, hown, hts, hK, hA, hlk, hr, hR, hl0, hD0, ht0, hnm, hGs⟩ := C
  subst hnl hR hl0 hD0 ht0
  intro H locs ls hP hD hS hl
  exact va_new hx hb hts hin ty hty hown (hts _ h1) (hts _ h2) (hts _ h3) hK hP hD hS hA hc hfs hcells hslots hdg (fun q H1 hP1 hD1 hS1 => kk q H1 locs ls hP1 hD1 hS1 hl)
theorem Ynewa (C : YC X l D tys y own cc ret Ts nL rm) {atype : ArrayType} {ty : FieldType} {n : Int32} {N : Nat} {a0 : vp_A} {cA : ClassId} (hdg : decode cc pc = .ok (.newarray atype, 2)) (harr : Cond.arrayClass ty ∈ Ts) (hty : newarray.typeOf atype = ty) (hra : ∀ (U : State) (c : ClassId), va_RA U c ty = (U.vm.findClass ("[" ++ ty.toString) = some c)) (t0 : Nat) (ht : tys[t0]? = some (cA, ty)) (ha : ∀ c : ClassId, vp_cell c a0 = arrV c N (fun _ => defaultValue ty)) (hn : ¬ n < 0) (hN : n.toNatClampNeg = N) (hbytes : N * componentBytes ty ≤ 536870912) (hcells : z.1 + 1 ≤ rm.cells) (hslots : z.2 + N ≤ rm.slots) (kk : ∀ q : Nat, Y X (z.1 + 1, z.2 + N) (ws ++ [(q, .inl (cA, a0))]) lv (pc + 2) (.ref q :: st)) : Y X z ws lv pc (.int n :: st) := by
  obtain ⟨p, l', e, R, s, m, args, below, meth, c, Q, D', tys', A, nL'⟩ := X
  obtain ⟨hx, hb, hml, hnl, hown, hts, hK, hA, hlk, hr, hR, hl0, hD0, ht0, hnm, hGs⟩ := C
  subst hnl hR hl0 hD0 ht0
  subst hty
  intro H locs ls hP hD hS hl
  refine va_newa hx hb (hts _ harr) rfl hK hP hD hS hA ha hn hN hbytes hcells hslots hdg (fun q c' H1 hK1 hP1 hD1 hS1 => ?_)
  have e1 := (hK.2 t0 _ ht).2
  have e2 := (hK1.2 tys.length (c', newarray.typeOf atype) (by simp)).2
  rw [hra] at e1 e2
  rw [e1] at e2
  cases e2
  exact kk q H1 locs ls hP1 hD1 hS1 hl
theorem Ynewq_text (C : YC X l D tys y own cc ret Ts nL rm) {idx : Nat} {n : Int32} {N : Nat} {cA : ClassId} (hdg : decode cc pc = .ok (.anewarray idx, 3)) (h0 : Cond.classLink own idx "ThumbOut$Text" ∈ Ts) (t0 : Nat) (ht : tys[t0]? = some (cA, .object "ThumbOut$Text")) (hn : ¬ n < 0) (hN : n.toNatClampNeg = N) (hbytes : N * 4 ≤ 536870912) (hcells : z.1 + 1 ≤ rm.cells) (hslots : z.2 + N ≤ rm.slots) (kk : ∀ q : Nat, Y X (z.1 + 1, z.2 + N) (ws ++ [(q, .inl (cA, N, .inr (.inr (.inr (.inr (fun _ => none))))))]) lv (pc + 3) (.ref q :: st)) : Y X z ws lv pc (.int n :: st) := by
  obtain ⟨p, l', e, R, s, m, args, below, meth, c, Q, D', tys', A, nL'⟩ := X
  obtain ⟨hx, hb, hml, hnl, hown, hts, hK, hA, hlk, hr, hR, hl0, hD0, ht0, hnm, hGs⟩ := C
  subst hnl hR hl0 hD0 ht0
  obtain ⟨h1, h2, h3, h4, h5, h6, h7, h8, h9, h10⟩ := hGs
  intro H locs ls hP hD hS hl
  refine va_newq hx hb hown (hts _ h0) h8 hK hP hD hS hA hn hN hbytes hcells hslots hdg (fun q c' H1 hK1 hP1 hD1 hS1 => ?_)
  obtain ⟨_, _, _, _, _, e1⟩ := (hK.2 t0 _ ht).2
  obtain ⟨_, _, _, _, _, e2⟩ := (hK1.2 tys.length (c', .object "ThumbOut$Text") (by simp)).2
  rw [e1] at e2
  cases e2
  exact kk q H1 locs ls hP1 hD1 hS1 hl
theorem Ynewq_shelf (C : YC X l D tys y own cc ret Ts nL rm) {idx : Nat} {n : Int32} {N : Nat} {cA : ClassId} (hdg : decode cc pc = .ok (.anewarray idx, 3)) (h0 : Cond.classLink own idx "ThumbOut$Shelf" ∈ Ts) (t0 : Nat) (ht : tys[t0]? = some (cA, .object "ThumbOut$Shelf")) (hn : ¬ n < 0) (hN : n.toNatClampNeg = N) (hbytes : N * 4 ≤ 536870912) (hcells : z.1 + 1 ≤ rm.cells) (hslots : z.2 + N ≤ rm.slots) (kk : ∀ q : Nat, Y X (z.1 + 1, z.2 + N) (ws ++ [(q, .inl (cA, N, .inr (.inr (.inr (.inr (fun _ => none))))))]) lv (pc + 3) (.ref q :: st)) : Y X z ws lv pc (.int n :: st) := by
  obtain ⟨p, l', e, R, s, m, args, below, meth, c, Q, D', tys', A, nL'⟩ := X
  obtain ⟨hx, hb, hml, hnl, hown, hts, hK, hA, hlk, hr, hR, hl0, hD0, ht0, hnm, hGs⟩ := C
  subst hnl hR hl0 hD0 ht0
  obtain ⟨h1, h2, h3, h4, h5, h6, h7, h8, h9, h10⟩ := hGs
  intro H locs ls hP hD hS hl
  refine va_newq hx hb hown (hts _ h0) h9 hK hP hD hS hA hn hN hbytes hcells hslots hdg (fun q c' H1 hK1 hP1 hD1 hS1 => ?_)
  obtain ⟨_, _, _, _, _, e1⟩ := (hK.2 t0 _ ht).2
  obtain ⟨_, _, _, _, _, e2⟩ := (hK1.2 tys.length (c', .object "ThumbOut$Shelf") (by simp)).2
  rw [e1] at e2
  cases e2
  exact kk q H1 locs ls hP1 hD1 hS1 hl
theorem yput_len : ∀ (is : List Nat) (ws w1 : va_W), (yput ws is w1).length = ws.length
  | [], ws, w1 => by simp [yput]
  | i :: is, ws, [] => by simp [yput]
  | i :: is, ws, c :: cs => by rw [yput, yput_len is]; simp
theorem yjoin2 {A0 : Nat → Prop} {D : va_G} {ws wc w1 w2 : va_W} {H H1 : Heap} (hP : va_P D vwCl ws H) (hD : va_D A0 ws) (is : List Nat) (hC : is.map (fun i => ws[i]?) = wc.map some) (hf : w1.map Prod.fst = wc.map Prod.fst)
    (hk : ∀ q : Nat, q < H.size → ¬ va_A wc H.size q → H1[q]? = H[q]?) (hF : ∀ q, va_A wc H.size q → A0 q) (hP1 : va_P D vwCl (w1 ++ w2) H1) (hD1 : va_D (va_A wc H.size) (w1 ++ w2)) : va_P D vwCl (yput ws is w1 ++ w2) H1 ∧ va_D A0 (yput ws is w1 ++ w2) := by
  have hPa : va_P D vwCl w1 H1 := fun k q hq => hP1 k q (by rw [List.getElem?_append_left (List.getElem?_eq_some_iff.mp hq).1]; exact hq)
  have hPb : va_P D vwCl w2 H1 := fun k q hq => hP1 (w1.length + k) q (by rw [List.getElem?_append_right (by omega)]; simpa using hq)
  obtain ⟨g1, g2⟩ := yjoin hP hD is hC hf hk hPa
  have hfs : (yput ws is w1).map Prod.fst = ws.map Prod.fst := by
    refine yput_fst is ws w1 fun j i q q0 h1 h2 h3 => ?_
    have h4 : (w1.map Prod.fst)[j]? = some q.1 := by rw [List.getElem?_map, h2]; rfl
    rw [hf, List.getElem?_map] at h4
    have h6 : (is.map (fun i => ws[i]?))[j]? = some (ws[i]?) := by rw [List.getElem?_map, h1]; rfl
    rw [hC, List.getElem?_map] at h6
    cases h5 : wc[j]? with
    | none => rw [h5] at h4; cases h4
    | some q2 =>
      rw [h5] at h4 h6
      have h7 : some q2 = ws[i]? := Option.some.inj h6
      rw [h3] at h7
      rw [← Option.some.inj h7]
      exact Option.some.inj h4
  -- what is new lies behind the old heap
  have hnew : ∀ (k : Nat) (q : Nat × va_E), w2[k]? = some q → H.size ≤ q.1 := by
    intro k q hq
    have h1 : (w1 ++ w2)[w1.length + k]? = some q := by rw [List.getElem?_append_right (by omega)]; simpa using hq
    rcases hD1.2 _ q h1 with ⟨k2, e, h2⟩ | h2
    · exfalso
      have h3 : (wc.map Prod.fst)[k2]? = some q.1 := by rw [List.getElem?_map, h2]; rfl
      rw [← hf, List.getElem?_map] at h3
      cases h4 : w1[k2]? with
      | none => rw [h4] at h3; cases h3
      | some q1 =>
        rw [h4] at h3
        have h5 : q1.1 = q.1 := Option.some.inj h3
        have hl := (List.getElem?_eq_some_iff.mp h4).1
        have h6 := hD1.1 k2 (w1.length + k) q1 q (by rw [List.getElem?_append_left hl]; exact h4) h1 h5
        omega
    · exact h2
  refine ⟨va_P.app g1 hPb, va_D.app g2 ⟨fun i j x y hi hj hxy => ?_, fun k q hq => ?_⟩ (fun i j x y hx hy hxy => ?_)⟩
  · have h := hD1.1 (w1.length + i) (w1.length + j) x y (by rw [List.getElem?_append_right (by omega)]; simpa using hi) (by rw [List.getElem?_append_right (by omega)]; simpa using hj) hxy
    omega
  · exact hF q.1 (Or.inr (hnew k q hq))
  · have h1 := hnew j y hy
    have h2 : (ws.map Prod.fst)[i]? = some x.1 := by rw [← hfs, List.getElem?_map, hx]; rfl
    rw [List.getElem?_map] at h2
    cases h3 : ws[i]? with
    | none => rw [h3] at h2; cases h2
    | some q =>
      rw [h3] at h2
      have h4 := (hP i q h3).lt
      have h5 : q.1 = x.1 := Option.some.inj h2
      omega
theorem YcallI (C : YC X l D tys y own cc ret Ts nL rm) {y2 : MethodName} (is : List Nat) {Ty : List Cond} {rmy : Room} {zy : Nat × Nat} {as : List Value} {w : va_W} {PO : Option Value → va_W → Prop} {bytes : ByteArray} {maxL idx b : Nat} (hdg : decode cc pc = .ok (.invokespecial idx, 3)) (hM : MC l D tys y2 Ty rmy zy (.ref b :: as) w PO) (hG : GoodIn Ts Ty) (hini : Cond.initialized y2.cls ∈ Ts) (hnst : (own, idx, y2) ∈ yNst) (hin : Cond.instanceMethod y2 ∈ Ts) (hy1 : y2.name = "<init>") (hw0 : ∃ Ty', Ty = Cond.code y2 bytes maxL none :: Ty') (hd : y2.cls ≠ "java/lang/invoke/MethodHandle" ∧ y2.cls ≠ "java/lang/invoke/VarHandle" ∧ (parseMethodDescriptor y2.desc).map (fun d => d.parameters.length) = some as.length) (hfr : rmy.frames + 1 ≤ rm.frames) (hlo : 8 + (maxL + 11) + rmy.locals ≤ rm.locals) (hzc : rmy.cells = zy.1) (hzs : rmy.slots = zy.2) (hz1 : z.1 + zy.1 ≤ rm.cells) (hz2 : z.2 + zy.2 ≤ rm.slots) (hrest : (st.map fun v => v.category).sum ≤ 8) (hnd : va_nd is = true) (hC : is.map (fun i => ws[i]?) = w.map some)
    (kk : ∀ (r : Option Value) (w' : va_W), PO r w' → ∃ w1 w2 ws' : va_W, w' = w1 ++ w2 ∧ w1.map Prod.fst = w.map Prod.fst ∧ yput ws is w1 ++ w2 = ws' ∧ r = none ∧ Y X (z.1 + zy.1, z.2 + zy.2) ws' lv (pc + 3) st) : Y X z ws lv pc (as.reverse ++ (.ref b :: st)) := by
  obtain ⟨Ty', hw0⟩ := hw0
  obtain ⟨p, l', e, R, s, m, args, below, meth, c, Q, D', tys', A, nL'⟩ := X
  obtain ⟨hx, hb, hml, hnl, hown, hts, hK, hA, hlk, hr, hR, hl0, hD0, ht0, hnm, hGs⟩ := C
  subst hnl hR hl0 hD0 ht0
  have hGs2 := hGs
  obtain ⟨h1, h2, h3, h4, h5, h6, h7, h8, h9, h10⟩ := hGs2
  intro H locs ls hP hD hS hl
  have hFc := va_free (wc := w) hD hS hA is hC
  have hPc : va_P D.1 vwCl w H := by
    intro k q hk
    have h1 : (is.map (fun i => ws[i]?))[k]? = some (some q) := by rw [hC, List.getElem?_map, hk]; rfl
    rw [List.getElem?_map] at h1
    cases hi : is[k]? with
    | none => rw [hi] at h1; cases h1
    | some i => rw [hi] at h1; exact hP i q (Option.some.inj h1)
  have hDc : va_D (fun _ => True) w := (hD.sub is hnd hC).weaken (fun _ _ _ _ => trivial)
  refine y_run (va_runIN (As := as) (rest := st) ⟨hx, hb, hml, hown, hts⟩ (hM H.size) ⟨va_cnB as.length hts hG hw0 hzc hzs (h10 _ hnst) (hts _ hini) hd ⟨hfr, hlo⟩, hy1, hts _ hin⟩ ⟨y_blind, fun U hU hW => ⟨rfl, by rw [hU], by rw [hU]; exact hPc, va_K.moved hW.alike hK, hDc, hGs.go hW.alike (fun _ h => vk_R.warm hW h) (fun _ _ _ _ h => va_Nw.warmM hW h) (fun a ha hn => by rw [hU]; exact hS.2.1 a ha hn) hFc⟩⟩ rfl rfl hl.1 rfl (lv_room hrest) hdg ⟨hz1, hz2⟩) hS (fun q _ h => hFc q h) hFc (fun r w' H1 locs1 hp hPw hDw hz hk hS1 => ?_)
  obtain ⟨w1, w2, ws', rfl, hf, rfl, rfl, kq⟩ := kk r w' hp
  obtain ⟨hP2, hD2⟩ := yjoin2 hP hD is hC hf hk hFc hPw hDw
  exact kq H1 locs1 ls hP2 hD2 hS1 hl
end YL2
