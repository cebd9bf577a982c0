section YLAW
variable {X : yA} {l : Launch} {D : yD} {tys : List (ClassId × FieldType)} {y : MethodName} {own : String} {cc : ByteArray} {ret : Option FieldType} {Ts : List Cond} {nL : Nat} {rm : Room} {z : Nat × Nat} {ws : va_W} {lv : List (Nat × Value)} {pc : Nat} {st : List Value}
/-- the script: L ints xs, at a cell that no world holds -/
def YS (X : yA) (b L : Nat) (xs : Nat → Int32) : Prop :=
  match X with
  | (_, _, _, _, s, _, _, _, _, _, _, _, _, A, _) => va_X b L xs s s.heap ∧ b < s.heap.size ∧ ¬ A b
theorem Ysld (C : YC X l D tys y own cc ret Ts nL rm) {b L : Nat} {xs : Nat → Int32} (S0 : YS X b L xs) {β : Type} {a1 : Option β} {o : β} {i : Int32} (hdg : decode cc pc = .ok (.iaload, 1)) (hx : (bif inB i L then a1 else none) = some o) (kk : a1 = some o → Y X z ws lv (pc + 1) (.int (xs i.toNatClampNeg) :: st)) : Y X z ws lv pc (.int i :: .ref b :: st) := by
  obtain ⟨hi, hxx⟩ := ybif hx
  obtain ⟨p, l', e, R, s, m, args, below, meth, c, Q, D', tys', A, nL'⟩ := X
  obtain ⟨hx, hb, hml, hnl, hown, hts, hK, hA, hlk, hr, hR, hl0, hD0, ht0, hnm, hGs⟩ := C
  subst hnl hR hl0 hD0 ht0
  obtain ⟨hX, hbl, hbA⟩ := S0
  intro H locs ls hP hD hS hl
  exact va_sld hx hb hX hbl hbA hS (inB_in hi) hdg (kk hxx H locs ls hP hD hS hl)
theorem Yslen (C : YC X l D tys y own cc ret Ts nL rm) {b L : Nat} {xs : Nat → Int32} (S0 : YS X b L xs) (hdg : decode cc pc = .ok (.arraylength, 1)) (kk : Y X z ws lv (pc + 1) (.int (Int32.ofNat L) :: st)) : Y X z ws lv pc (.ref b :: st) := by
  obtain ⟨p, l', e, R, s, m, args, below, meth, c, Q, D', tys', A, nL'⟩ := X
  obtain ⟨hx, hb, hml, hnl, hown, hts, hK, hA, hlk, hr, hR, hl0, hD0, ht0, hnm, hGs⟩ := C
  subst hnl hR hl0 hD0 ht0
  obtain ⟨hX, hbl, hbA⟩ := S0
  intro H locs ls hP hD hS hl
  exact va_slen hx hb hX hbl hbA hS hdg (kk H locs ls hP hD hS hl)
/-- the same world, its cells in another order (or fewer) -/
theorem Yperm (C : YC X l D tys y own cc ret Ts nL rm) {ws' : va_W} (is : List Nat) (hc : ychk ws is ws') (hnd : va_nd is = true) (kk : Y X z ws' lv pc st) : Y X z ws lv pc st := by
  have hC := ychk_map ws is ws' hc
  obtain ⟨p, l', e, R, s, m, args, below, meth, c, Q, D', tys', A, nL'⟩ := X
  obtain ⟨hx, hb, hml, hnl, hown, hts, hK, hA, hlk, hr, hR, hl0, hD0, ht0, hnm, hGs⟩ := C
  subst hnl hR hl0 hD0 ht0
  intro H locs ls hP hD hS hl
  refine kk H locs ls (fun k q hk => ?_) (hD.sub is hnd hC) hS hl
  have h1 : (is.map (fun i => ws[i]?))[k]? = some (some q) := by rw [hC, List.getElem?_map, hk]; rfl
  rw [List.getElem?_map] at h1
  cases hi : is[k]? with
  | none => rw [hi] at h1; cases h1
  | some i => rw [hi] at h1; exact hP i q (Option.some.inj h1)
/-- a public constructor -/
theorem YcallIp (C : YC X l D tys y own cc ret Ts nL rm) {y2 : MethodName} (is : List Nat) {Ty : List Cond} {rmy : Room} {zy : Nat × Nat} {as : List Value} {w : va_W} {PO : Option Value → va_W → Prop} {bytes : ByteArray} {maxL idx b : Nat} (hdg : decode cc pc = .ok (.invokespecial idx, 3)) (hM : MC l D tys y2 Ty rmy zy (.ref b :: as) w PO) (hG : GoodIn Ts Ty) (hini : Cond.initialized y2.cls ∈ Ts) (hlk0 : Cond.methodLink own idx y2 ∈ Ts) (hin : Cond.instanceMethod y2 ∈ Ts) (hy1 : y2.name = "<init>") (hw0 : ∃ Ty', Ty = Cond.code y2 bytes maxL none :: Ty') (hd : y2.cls ≠ "java/lang/invoke/MethodHandle" ∧ y2.cls ≠ "java/lang/invoke/VarHandle" ∧ (parseMethodDescriptor y2.desc).map (fun d => d.parameters.length) = some as.length) (hfr : rmy.frames + 1 ≤ rm.frames) (hlo : 8 + (maxL + 11) + rmy.locals ≤ rm.locals) (hzc : rmy.cells = zy.1) (hzs : rmy.slots = zy.2) (hz1 : z.1 + zy.1 ≤ rm.cells) (hz2 : z.2 + zy.2 ≤ rm.slots) (hrest : (st.map fun v => v.category).sum ≤ 8) (hnd : va_nd is = true) (hC : is.map (fun i => ws[i]?) = w.map some)
    (kk : ∀ (r : Option Value) (w' : va_W), PO r w' → ∃ w1 w2 ws' : va_W, w' = w1 ++ w2 ∧ w1.map Prod.fst = w.map Prod.fst ∧ yput ws is w1 ++ w2 = ws' ∧ r = none ∧ Y X (z.1 + zy.1, z.2 + zy.2) ws' lv (pc + 3) st) : Y X z ws lv pc (as.reverse ++ (.ref b :: st)) := by
  obtain ⟨Ty', hw0⟩ := hw0
  obtain ⟨p, l', e, R, s, m, args, below, meth, c, Q, D', tys', A, nL'⟩ := X
  obtain ⟨hx, hb, hml, hnl, hown, hts, hK, hA, hlk, hr, hR, hl0, hD0, ht0, hnm, hGs⟩ := C
  subst hnl hR hl0 hD0 ht0
  intro H locs ls hP hD hS hl
  have hFc := va_free (wc := w) hD hS hA is hC
  have hPc : va_P D.1 vwCl w H := by
    intro k q hk
    have h1 : (is.map (fun i => ws[i]?))[k]? = some (some q) := by rw [hC, List.getElem?_map, hk]; rfl
    rw [List.getElem?_map] at h1
    cases hi : is[k]? with
    | none => rw [hi] at h1; cases h1
    | some i => rw [hi] at h1; exact hP i q (Option.some.inj h1)
  have hDc : va_D (fun _ => True) w := (hD.sub is hnd hC).weaken (fun _ _ _ _ => trivial)
  refine y_run (va_runI (As := as) (rest := st) ⟨hx, hb, hml, hown, hts⟩ (hM H.size) (cwI as.length hts hG hw0 hzc hzs (hts _ hini) (hts _ hlk0) (hts _ hin) hy1 hd ⟨hfr, hlo⟩) ⟨y_blind, fun U hU hW => ⟨rfl, by rw [hU], by rw [hU]; exact hPc, va_K.moved hW.alike hK, hDc, hGs.go hW.alike (fun _ h => vk_R.warm hW h) (fun _ _ _ _ h => va_Nw.warmM hW h) (fun a ha hn => by rw [hU]; exact hS.2.1 a ha hn) hFc⟩⟩ rfl rfl hl.1 rfl (lv_room hrest) hdg ⟨hz1, hz2⟩) hS (fun q _ h => hFc q h) hFc (fun r w' H1 locs1 hp hPw hDw hz hk hS1 => ?_)
  obtain ⟨w1, w2, ws', rfl, hf, rfl, rfl, kq⟩ := kk r w' hp
  obtain ⟨hP2, hD2⟩ := yjoin2 hP hD is hC hf hk hFc hPw hDw
  exact kq H1 locs1 ls hP2 hD2 hS1 hl
end YLAW
/-- the ambient of the law's own walk -/
abbrev yXL (p : Program) (l : Launch) (e : Env) (s : State) (m : MethodId) (b : Nat) (below : List Frame) (meth : Method) (c : Code) (D : yD) (cI cJ cZ cS cT : ClassId) : yA := (p, l, e, room_1, s, m, #[Value.ref b], below, meth, c, lw_Z below #[Value.ref b] s, D, yT cI cJ cZ cS cT, (fun q : Nat => s.heap.size ≤ q), 4)
/-- the law's end: 1, its room as the claim has it -/
theorem Ylaw1 {p : Program} {l : Launch} {e : Env} {s : State} {m : MethodId} {b : Nat} {below : List Frame} {meth : Method} {c : Code} {D : yD} {cI cJ cZ cS cT : ClassId} (hx : p.tables.exec = Jvm.exec) (hb : c.code = code) (hr : meth.sig.returnType = ret) (hlocks : meth.locks = false) {z : Nat × Nat} {ws : va_W} {lv : List (Nat × Value)} {pc : Nat} (hz : z.1 ≤ 600000 ∧ z.2 ≤ 7302250) (hdg : decode code pc = .ok (.ireturn, 1)) : Y (yXL p l e s m b below meth c D cI cJ cZ cS cT) z ws lv pc [.int 1] := by
  intro H locs ls hP hD hS hl
  refine va_forget (fun q hq => hS.2.2 q hq) ?_
  refine W.widen (k := 600000) (n := 7302250) hz.1 hz.2 ?_
  exact lw_ret hx hb hr hlocks hdg
/-- what the law's walk has, at its entry -/
theorem law_YC {p : Program} {s : State} {m : MethodId} {meth : Method} {c : Code} {b L : Nat} {xs : Nat → Int32} (l : Launch) (e : Env) (below : List Frame) (C0 : lw_At p s m meth c b L xs) : ∃ (D : yD) (cI cJ cZ cS cT : ClassId), YC (yXL p l e s m b below meth c D cI cJ cZ cS cT) l D (yT cI cJ cZ cS cT) (⟨RL, meth.name, "([I)Z"⟩ : MethodName) RL code ret lw_tbl 4 room_1 ∧ YS (yXL p l e s m b below meth c D cI cJ cZ cS cT) b L xs := by
  obtain ⟨D, cI, cJ, cZ, cS, cT, hK, hG⟩ := law_known C0
  obtain ⟨hx, hb, hr, hml, hown, hts, hX, hbl, hlocks, hgv⟩ := C0
  exact ⟨D, cI, cJ, cZ, cS, cT, ⟨hx, hb, hml, rfl, hown, hts, hK, fun _ h => h, hlocks, hr, rfl, rfl, rfl, rfl, rfl, hG⟩, hX, hbl, Nat.not_le.mpr hbl⟩
