section YLE
variable {X : yA} {l : Launch} {D : yD} {tys : List (ClassId × FieldType)} {y : MethodName} {own : String} {cc : ByteArray} {ret : Option FieldType} {Ts : List Cond} {nL : Nat} {rm : Room} {z : Nat × Nat} {ws : va_W} {lv : List (Nat × Value)} {pc : Nat} {st : List Value}
theorem YcallVe (C : YC X l D tys y own cc ret Ts nL rm) {y2 : MethodName} (is rs : List Nat) (n : Nat) {Ty : List Cond} {rmy : Room} {as : List Value} {w : va_W} {ws' : (Nat → Value) → va_W} {st' : List Value} {β : Type} {rf : β → Option Value} {wf : β → (Nat → Value) → va_W} {o1 : β} {bytes : ByteArray} {maxL idx : Nat} {ret2 : Option FieldType} {b ci : Nat} {Cn : String} {T : u_T} {N : Nat} {fs : List Value} (hdg : decode cc pc = .ok (.invokevirtual idx, 3)) (hM : MC l D tys y2 Ty rmy (0, 0) (.ref b :: as) w (POe rf wf o1)) (hG : GoodIn Ts (wsV own idx Cn y2 Ty)) (hyC : y2.cls = Cn) (hfit : yfit Ty y2 bytes maxL ret2 as.length rmy rm) (hci : vwCl[ci]? = some (Cn, T, N)) (q0 : Nat) (hq0 : ws[q0]? = some (b, .inr (ci, fs))) (hnd : va_nd is = true) (hroom : z.1 ≤ rm.cells ∧ z.2 ≤ rm.slots) (hrest : (st.map fun v => v.category).sum ≤ 8) (hCc : ychk ws is w) (hfst : ∀ v, (wf o1 v).map Prod.fst = w.map Prod.fst) (hlen : ∀ v, (ws' v).length = n) (hcov : (List.range n).all (fun k => (is ++ rs).elem k) = true) (hdis : rs.all (fun k => !(is.elem k)) = true) (hIc : ∀ v, ychk (ws' v) is (wf o1 v)) (rest : va_W) (hR1 : ychk ws rs rest) (hR2 : ∀ v, ychk (ws' v) rs rest) (hst : (rf o1).toList ++ st = st') (kk : ∀ v : Nat → Value, Y X z (ws' v) lv (pc + 3) st') : Y X z ws lv pc (as.reverse ++ (.ref b :: st)) := by
  subst hst
  have hC := ychk_map ws is w hCc
  have hI := fun v => ychk_map (ws' v) is (wf o1 v) (hIc v)
  have hR := fun v => (ychk_map ws rs rest hR1).trans (ychk_map (ws' v) rs rest (hR2 v)).symm
  obtain ⟨⟨Ty', hw0⟩, ⟨hd1, hd2, hd3⟩, hfr, hlo, hzc, hzs⟩ := hfit
  obtain ⟨p, l', e, R, s, m, args, below, meth, c, Q, D', tys', A, nL'⟩ := X
  obtain ⟨hx, hb, hml, hnl, hown, hts, hK, hA, hlk, hr, hR, hl0, hD0, ht0, hnm, hGs⟩ := C
  subst hnl hR hl0 hD0 ht0
  intro H locs ls hP hD hS hl
  have hFc := va_free (wc := w) hD hS hA is hC
  have hPc : va_P D.1 vwCl w H := by
    intro k q hk
    have h1 : (is.map (fun i => ws[i]?))[k]? = some (some q) := by rw [hC, List.getElem?_map, hk]; rfl
    rw [List.getElem?_map] at h1
    cases hi : is[k]? with
    | none => rw [hi] at h1; cases h1
    | some i => rw [hi] at h1; exact hP i q (Option.some.inj h1)
  have hDc : va_D (fun _ => True) w := (hD.sub is hnd hC).weaken (fun _ _ _ _ => trivial)
  have hz1 : z.1 + 0 ≤ rm.cells := hroom.1
  have hz2 : z.2 + 0 ≤ rm.slots := hroom.2
  refine y_run (va_runV (As := as) (rest := st) ⟨hx, hb, hml, hown, hts⟩ (hM H.size) (cwV as.length hts hG hw0 hzc hzs ⟨hyC, hd1, hd2, hd3⟩ ⟨hfr, hlo⟩) ⟨y_blind, va_recv hK hP hci hq0, fun U hU hW => ⟨rfl, by rw [hU], by rw [hU]; exact hPc, va_K.moved hW.alike hK, hDc, hGs.go hW.alike (fun _ h => vk_R.warm hW h) (fun _ _ _ _ h => va_Nw.warmM hW h) (fun a ha hn => by rw [hU]; exact hS.2.1 a ha hn) hFc⟩⟩ rfl rfl hl.1 rfl (lv_room hrest) hdg ⟨hz1, hz2⟩) hS (fun q _ h => hFc q h) hFc (fun r w' H1 locs1 hp hPw hDw hz hk hS1 => ?_)
  obtain ⟨rfl, v, rfl⟩ := hp
  obtain ⟨hP2, hD2⟩ := yjoin3 hP hD is rs n (hlen v) hcov hdis hC (hfst v) (hI v) (hR v) hk hPw
  exact kk v H1 locs1 ls hP2 hD2 hS1 hl
end YLE
