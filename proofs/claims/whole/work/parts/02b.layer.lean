/-! the layer, further: the arrays' classes, fuel, what Math and arraycopy do, static calls of another class -/
abbrev yT (cI cJ cZ cS cT : ClassId) : List (ClassId × FieldType) := [(cI, .int), (cJ, .long), (cZ, .boolean), (cS, .object "ThumbOut$Shelf"), (cT, .object "ThumbOut$Text")]
def yN : Nat := 100000
def okC (sp dp n : Int32) (n0 n1 : Nat) : Bool := !(decide (sp < 0)) && !(decide (dp < 0)) && !(decide (n < 0)) && decide (sp.toNatClampNeg + n.toNatClampNeg ≤ n0) && decide (dp.toNatClampNeg + n.toNatClampNeg ≤ n1)
theorem okC_in {sp dp n : Int32} {n0 n1 : Nat} (h : okC sp dp n n0 n1 = true) : ¬ sp < 0 ∧ ¬ dp < 0 ∧ ¬ n < 0 ∧ sp.toNatClampNeg + n.toNatClampNeg ≤ n0 ∧ dp.toNatClampNeg + n.toNatClampNeg ≤ n1 := by
  unfold okC at h
  simp only [Bool.and_eq_true, Bool.not_eq_true', decide_eq_false_iff_not, decide_eq_true_eq] at h
  exact ⟨h.1.1.1.1, h.1.1.1.2, h.1.1.2, h.1.2, h.2⟩
section YL2
variable {X : yA} {l : Launch} {D : va_G} {tys : List (ClassId × FieldType)} {y : MethodName} {own : String} {cc : ByteArray} {ret : Option FieldType} {Ts : List Cond} {nL : Nat} {rm : Room} {z : Nat × Nat} {ws : va_W} {lv : List (Nat × Value)} {pc : Nat} {st : List Value}
theorem Ymmax (C : YC X l D tys y own cc ret Ts nL rm) {x y1 : Int32} {index : Nat} (hdg : decode cc pc = .ok (.invokestatic index, 3)) (h1 : Cond.methodLink own index Lib.Math.max.name ∈ Ts) (h2 : Cond.static Lib.Math.max.name ∈ Ts) (h3 : Cond.initialized "java/lang/Math" ∈ Ts) (h4 : Cond.code Lib.Math.max.name Lib.Math.max.code 2 (some .int) ∈ Ts) (hf : 1 ≤ rm.frames) (hlo : (st.map fun v => v.category).sum + 13 ≤ rm.locals) (hroom : z.1 ≤ rm.cells ∧ z.2 ≤ rm.slots) (kk : Y X z ws lv (pc + 3) (.int (if x < y1 then y1 else x) :: st)) : Y X z ws lv pc (.int y1 :: .int x :: st) := by
  obtain ⟨p, l', e, R, s, m, args, below, meth, c, Q, D', tys', A, nL'⟩ := X
  obtain ⟨hx, hb, hml, hnl, hown, hts, hK, hA, hlk, hr, hR, hl0, hD0, ht0, hnm, hGs⟩ := C
  subst hnl hR hl0 hD0 ht0
  intro H locs ls hP hD hS hl
  exact va_mmax hx hb (hml.trans hl.1.symm) hown (hts _ h1) (hts _ h2) (hts _ h3) (hts _ h4) hf hlo hroom.1 hroom.2 hdg (kk H locs ls hP hD hS hl)
theorem Ymmin (C : YC X l D tys y own cc ret Ts nL rm) {x y1 : Int32} {index : Nat} (hdg : decode cc pc = .ok (.invokestatic index, 3)) (h1 : Cond.methodLink own index Lib.Math.min.name ∈ Ts) (h2 : Cond.static Lib.Math.min.name ∈ Ts) (h3 : Cond.initialized "java/lang/Math" ∈ Ts) (h4 : Cond.code Lib.Math.min.name Lib.Math.min.code 2 (some .int) ∈ Ts) (hf : 1 ≤ rm.frames) (hlo : (st.map fun v => v.category).sum + 13 ≤ rm.locals) (hroom : z.1 ≤ rm.cells ∧ z.2 ≤ rm.slots) (kk : Y X z ws lv (pc + 3) (.int (if y1 < x then y1 else x) :: st)) : Y X z ws lv pc (.int y1 :: .int x :: st) := by
  obtain ⟨p, l', e, R, s, m, args, below, meth, c, Q, D', tys', A, nL'⟩ := X
  obtain ⟨hx, hb, hml, hnl, hown, hts, hK, hA, hlk, hr, hR, hl0, hD0, ht0, hnm, hGs⟩ := C
  subst hnl hR hl0 hD0 ht0
  intro H locs ls hP hD hS hl
  exact va_mmin hx hb (hml.trans hl.1.symm) hown (hts _ h1) (hts _ h2) (hts _ h3) (hts _ h4) hf hlo hroom.1 hroom.2 hdg (kk H locs ls hP hD hS hl)
theorem Ymmax_long (C : YC X l D tys y own cc ret Ts nL rm) {x y1 : Int64} {index : Nat} (hdg : decode cc pc = .ok (.invokestatic index, 3)) (h1 : Cond.methodLink own index Lib.MathLoose.max_long.x ∈ Ts) (h2 : Cond.static Lib.MathLoose.max_long.x ∈ Ts) (h3 : Cond.initialized "java/lang/Math" ∈ Ts) (h4 : Cond.code Lib.MathLoose.max_long.x Lib.MathLoose.max_long.code 4 (some .long) ∈ Ts) (hf : 1 ≤ rm.frames) (hlo : (st.map fun v => v.category).sum + 15 ≤ rm.locals) (hroom : z.1 ≤ rm.cells ∧ z.2 ≤ rm.slots) (kk : Y X z ws lv (pc + 3) (.long (if y1 < x then x else y1) :: st)) : Y X z ws lv pc (.long y1 :: .long x :: st) := by
  obtain ⟨p, l', e, R, s, m, args, below, meth, c, Q, D', tys', A, nL'⟩ := X
  obtain ⟨hx, hb, hml, hnl, hown, hts, hK, hA, hlk, hr, hR, hl0, hD0, ht0, hnm, hGs⟩ := C
  subst hnl hR hl0 hD0 ht0
  intro H locs ls hP hD hS hl
  exact va_mmax_long hx hb (hml.trans hl.1.symm) hown (hts _ h1) (hts _ h2) (hts _ h3) (hts _ h4) hf hlo hroom.1 hroom.2 hdg (kk H locs ls hP hD hS hl)
theorem Ymmin_long (C : YC X l D tys y own cc ret Ts nL rm) {x y1 : Int64} {index : Nat} (hdg : decode cc pc = .ok (.invokestatic index, 3)) (h1 : Cond.methodLink own index Lib.MathLoose.min_long.x ∈ Ts) (h2 : Cond.static Lib.MathLoose.min_long.x ∈ Ts) (h3 : Cond.initialized "java/lang/Math" ∈ Ts) (h4 : Cond.code Lib.MathLoose.min_long.x Lib.MathLoose.min_long.code 4 (some .long) ∈ Ts) (hf : 1 ≤ rm.frames) (hlo : (st.map fun v => v.category).sum + 15 ≤ rm.locals) (hroom : z.1 ≤ rm.cells ∧ z.2 ≤ rm.slots) (kk : Y X z ws lv (pc + 3) (.long (if y1 < x then y1 else x) :: st)) : Y X z ws lv pc (.long y1 :: .long x :: st) := by
  obtain ⟨p, l', e, R, s, m, args, below, meth, c, Q, D', tys', A, nL'⟩ := X
  obtain ⟨hx, hb, hml, hnl, hown, hts, hK, hA, hlk, hr, hR, hl0, hD0, ht0, hnm, hGs⟩ := C
  subst hnl hR hl0 hD0 ht0
  intro H locs ls hP hD hS hl
  exact va_mmin_long hx hb (hml.trans hl.1.symm) hown (hts _ h1) (hts _ h2) (hts _ h3) (hts _ h4) hf hlo hroom.1 hroom.2 hdg (kk H locs ls hP hD hS hl)
theorem Ymabs (C : YC X l D tys y own cc ret Ts nL rm) {x : Int32} {index : Nat} (hdg : decode cc pc = .ok (.invokestatic index, 3)) (h1 : Cond.methodLink own index Lib.Math.abs.name ∈ Ts) (h2 : Cond.static Lib.Math.abs.name ∈ Ts) (h3 : Cond.initialized "java/lang/Math" ∈ Ts) (h4 : Cond.code Lib.Math.abs.name Lib.Math.abs.code 1 (some .int) ∈ Ts) (hf : 1 ≤ rm.frames) (hlo : (st.map fun v => v.category).sum + 13 ≤ rm.locals) (hroom : z.1 ≤ rm.cells ∧ z.2 ≤ rm.slots) (kk : Y X z ws lv (pc + 3) (.int (if 0 ≤ x then x else 0 - x) :: st)) : Y X z ws lv pc (.int x :: st) := by
  obtain ⟨p, l', e, R, s, m, args, below, meth, c, Q, D', tys', A, nL'⟩ := X
  obtain ⟨hx, hb, hml, hnl, hown, hts, hK, hA, hlk, hr, hR, hl0, hD0, ht0, hnm, hGs⟩ := C
  subst hnl hR hl0 hD0 ht0
  intro H locs ls hP hD hS hl
  exact va_mabs hx hb (hml.trans hl.1.symm) hown (hts _ h1) (hts _ h2) (hts _ h3) (hts _ h4) hf hlo hroom.1 hroom.2 hdg (kk H locs ls hP hD hS hl)
theorem Ycopy_int (C : YC X l D tys y own cc ret Ts nL rm) {β : Type} {a1 : Option β} {o : β} {ws' : va_W} {index a a0 n0 n1 : Nat} {c0 c1 : ClassId} {f g : Nat → Int32} {sp dp n : Int32} (hdg : decode cc pc = .ok (.invokestatic index, 3)) (hx : (bif okC sp dp n n0 n1 then a1 else none) = some o) (h1 : Cond.methodLink own index arraycopyName ∈ Ts) (h2 : Cond.native arraycopyName ∈ Ts) (h3 : Cond.static arraycopyName ∈ Ts) (h4 : Cond.initialized "java/lang/System" ∈ Ts) (q0 q1 t0 : Nat) (ha0 : ws[q0]? = some (a0, .inl (c0, n0, .inl f))) (ha1 : ws[q1]? = some (a, .inl (c1, n1, .inl g))) (ht0 : tys[t0]? = some (c0, .int)) (ht1 : tys[t0]? = some (c1, .int)) (hf : 1 ≤ rm.frames) (hlo : (st.map fun v => v.category).sum + (nativeFrameWords "java/lang/System" "arraycopy" 5 + 11) ≤ rm.locals) (hw : ws.set q1 (a, .inl (c1, n1, .inl (va_cpy f g sp.toNatClampNeg dp.toNatClampNeg n.toNatClampNeg))) = ws') (kk : a1 = some o → Y X z ws' lv (pc + 3) st) : Y X z ws lv pc (.int n :: .int dp :: .ref a :: .int sp :: .ref a0 :: st) := by
  obtain ⟨hi, hxx⟩ := ybif hx
  obtain ⟨g1, g2, g3, g4, g5⟩ := okC_in hi
  subst hw
  obtain ⟨p, l', e, R, s, m, args, below, meth, c, Q, D', tys', A, nL'⟩ := X
  obtain ⟨hx, hb, hml, hnl, hown, hts, hK, hA, hlk, hr, hR, hl0, hD0, ht0, hnm, hGs⟩ := C
  subst hnl hR hl0 hD0 ht0
  intro H locs ls hP hD hS hl
  exact va_copyi hx hb (hml.trans hl.1.symm) hown (hts _ h1) (hts _ h2) (hts _ h3) (hts _ h4) hK hP hD hS q0 q1 t0 t0 ha0 ha1 ht0 ht1 rfl g1 g2 g3 g4 g5 (fun _ _ => rfl) hf hlo hdg (fun H1 locs1 hP1 hD1 hS1 => kk hxx H1 locs1 ls hP1 hD1 hS1 hl)
theorem Ycopy_long (C : YC X l D tys y own cc ret Ts nL rm) {β : Type} {a1 : Option β} {o : β} {ws' : va_W} {index a a0 n0 n1 : Nat} {c0 c1 : ClassId} {f g : Nat → Int64} {sp dp n : Int32} (hdg : decode cc pc = .ok (.invokestatic index, 3)) (hx : (bif okC sp dp n n0 n1 then a1 else none) = some o) (h1 : Cond.methodLink own index arraycopyName ∈ Ts) (h2 : Cond.native arraycopyName ∈ Ts) (h3 : Cond.static arraycopyName ∈ Ts) (h4 : Cond.initialized "java/lang/System" ∈ Ts) (q0 q1 t0 : Nat) (ha0 : ws[q0]? = some (a0, .inl (c0, n0, .inr (.inl f)))) (ha1 : ws[q1]? = some (a, .inl (c1, n1, .inr (.inl g)))) (ht0 : tys[t0]? = some (c0, .long)) (ht1 : tys[t0]? = some (c1, .long)) (hf : 1 ≤ rm.frames) (hlo : (st.map fun v => v.category).sum + (nativeFrameWords "java/lang/System" "arraycopy" 5 + 11) ≤ rm.locals) (hw : ws.set q1 (a, .inl (c1, n1, .inr (.inl (va_cpy f g sp.toNatClampNeg dp.toNatClampNeg n.toNatClampNeg)))) = ws') (kk : a1 = some o → Y X z ws' lv (pc + 3) st) : Y X z ws lv pc (.int n :: .int dp :: .ref a :: .int sp :: .ref a0 :: st) := by
  obtain ⟨hi, hxx⟩ := ybif hx
  obtain ⟨g1, g2, g3, g4, g5⟩ := okC_in hi
  subst hw
  obtain ⟨p, l', e, R, s, m, args, below, meth, c, Q, D', tys', A, nL'⟩ := X
  obtain ⟨hx, hb, hml, hnl, hown, hts, hK, hA, hlk, hr, hR, hl0, hD0, ht0, hnm, hGs⟩ := C
  subst hnl hR hl0 hD0 ht0
  intro H locs ls hP hD hS hl
  exact va_copyl hx hb (hml.trans hl.1.symm) hown (hts _ h1) (hts _ h2) (hts _ h3) (hts _ h4) hK hP hD hS q0 q1 t0 t0 ha0 ha1 ht0 ht1 rfl g1 g2 g3 g4 g5 (fun _ _ => rfl) hf hlo hdg (fun H1 locs1 hP1 hD1 hS1 => kk hxx H1 locs1 ls hP1 hD1 hS1 hl)
theorem YcallSo (C : YC X l D tys y own cc ret Ts nL rm) {y2 : MethodName} (is : List Nat) {Ty : List Cond} {rmy : Room} {as : List Value} {w ws' : va_W} {st' : List Value} {β : Type} {rf : β → Option Value} {wf : β → va_W} {o1 : β} {bytes : ByteArray} {maxL idx : Nat} {ret2 : Option FieldType} (hdg : decode cc pc = .ok (.invokestatic idx, 3)) (hM : MC l D tys y2 Ty rmy (0, 0) as w (POd rf wf o1)) (hG : GoodIn Ts (va_wsS own idx y2 Ty)) (hfit : yfit Ty y2 bytes maxL ret2 as.length rmy rm) (hnd : va_nd is = true) (hroom : z.1 ≤ rm.cells ∧ z.2 ≤ rm.slots) (hrest : (st.map fun v => v.category).sum ≤ 8) (hC : is.map (fun i => ws[i]?) = w.map some) (hfst : (wf o1).map Prod.fst = w.map Prod.fst) (hw : yput ws is (wf o1) = ws') (hst : (rf o1).toList ++ st = st') (kk : Y X z ws' lv (pc + 3) st') : Y X z ws lv pc (as.reverse ++ st) := by
  subst hw
  subst hst
  obtain ⟨⟨Ty', hw0⟩, ⟨hd1, hd2, hd3⟩, hfr, hlo, hzc, hzs⟩ := hfit
  obtain ⟨p, l', e, R, s, m, args, below, meth, c, Q, D', tys', A, nL'⟩ := X
  obtain ⟨hx, hb, hml, hnl, hown, hts, hK, hA, hlk, hr, hR, hl0, hD0, ht0, hnm, hGs⟩ := C
  subst hnl hR hl0 hD0 ht0
  intro H locs ls hP hD hS hl
  have hFc := va_free (wc := w) hD hS hA is hC
  have hPc : va_P D vwCl w H := by
    intro k q hk
    have h1 : (is.map (fun i => ws[i]?))[k]? = some (some q) := by rw [hC, List.getElem?_map, hk]; rfl
    rw [List.getElem?_map] at h1
    cases hi : is[k]? with
    | none => rw [hi] at h1; cases h1
    | some i => rw [hi] at h1; exact hP i q (Option.some.inj h1)
  have hDc : va_D (fun _ => True) w := (hD.sub is hnd hC).weaken (fun _ _ _ _ => trivial)
  have hz1 : z.1 + 0 ≤ rm.cells := hroom.1
  have hz2 : z.2 + 0 ≤ rm.slots := hroom.2
  refine y_run (va_runS (As := as) (rest := st) ⟨hx, hb, hml, hown, hts⟩ (hM H.size) (va_cwS as.length hts hG hw0 hzc hzs ⟨hd1, hd2, hd3⟩ ⟨hfr, hlo⟩) ⟨y_blind, fun U hU hW => ⟨rfl, by rw [hU], by rw [hU]; exact hPc, va_K.moved hW.alike hK, hDc, hGs.go hW.alike (fun _ h => vk_R.warm hW h) (fun a ha hn => by rw [hU]; exact hS.2.1 a ha hn) hFc⟩⟩ rfl rfl hl.1 rfl (lv_room hrest) hdg ⟨hz1, hz2⟩) hS (fun q _ h => hFc q h) hFc (fun r w' H1 locs1 hp hPw hDw hz hk hS1 => ?_)
  obtain ⟨rfl, rfl⟩ := hp
  obtain ⟨hP2, hD2⟩ := yjoin hP hD is hC hfst hk hPw
  exact kk H1 locs1 ls hP2 hD2 hS1 hl
end YL2
