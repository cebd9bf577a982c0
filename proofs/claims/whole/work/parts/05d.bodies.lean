theorem fg0_has_18 : YF wsX0_has RX0 18 0 1 := ⟨RX0, TX0, 6, rfl, (fun w h => List.mem_cons_of_mem _ (List.mem_append_right _ h)), by decide, List.mem_of_getElem? (i := 1) rfl⟩
theorem yf0_has : (∃ Ty', wsX0_has = Cond.code yX0_has cX0_has 2 (some .boolean) :: Ty') ∧ (yX0_has.cls ≠ "java/lang/invoke/MethodHandle" ∧ yX0_has.cls ≠ "java/lang/invoke/VarHandle" ∧ (parseMethodDescriptor yX0_has.desc).map (fun d => d.parameters.length) = some 1) := ⟨⟨_, rfl⟩, by decide +kernel, by decide +kernel, by decide +kernel⟩
abbrev w0_has (cI cJ cZ cS cT : ClassId) (a0 a_kinds a_trace : Nat) (v_number : Int32) (v_ran : Int32) (v_self : Int32) (v_kind : Int32) : va_W := [(a0, .inr (0, [.ref a_kinds, .int v_number, .int v_ran, .ref a_trace, .int v_self, .int v_kind]))]
def x0_has (v_number : Int32) (p1 : Int32) : Option (Bool) :=
  if p1 < 0 then (some (false)) else (if v_number ≤ p1 then (some (false)) else (if 50 ≤ p1 then (some (false)) else (some (true))))
set_option maxHeartbeats 4000000 in
set_option maxRecDepth 100000 in
theorem c0_has (l : Launch) (D : yD) (cI cJ cZ cS cT : ClassId) (a0 a_kinds a_trace : Nat) (v_number : Int32) (v_ran : Int32) (v_self : Int32) (v_kind : Int32) (p1 : Int32) (out : Bool) (hx : x0_has v_number p1 = some out) : MC l D (yT cI cJ cZ cS cT) yX0_has wsX0_has ({ frames := 0, cells := 0, slots := 0, locals := 0 } : Room) (0, 0) [.ref a0, .int p1] (w0_has cI cJ cZ cS cT a0 a_kinds a_trace v_number v_ran v_self v_kind) (POd (fun o : Bool => some (.int (bI o))) (fun (o : Bool) => (w0_has cI cJ cZ cS cT a0 a_kinds a_trace v_number v_ran v_self v_kind)) out) := by
  refine MC.intro (cc := cX0_has) (nL := 2) (ret := (some .boolean)) (own := RX0) (lv := [(0, .ref a0), (1, .int p1)]) (by decide) rfl rfl (Nat.le_of_ble_eq_true rfl) rfl (fun X C E => ?_)
  unfold x0_has at hx
  refine Yiload_n C dX0_has_0 1 rfl rfl ?_
  refine Yif_lt C 22 dX0_has_1 (by decide) hx (fun _ hx => ?_) (fun _ hx => ?_)
  · skip
    refine Yiconst C 0 dX0_has_22 (by decide) ?_
    exact Yzret (b := false) C E dX0_has_23 (ypo hx rfl rfl)
  · skip
    refine Yiload_n C dX0_has_4 1 rfl rfl ?_
    refine Yaload_n C dX0_has_5 0 rfl rfl ?_
    refine Yget C fg0_has_18 dX0_has_6 0 rfl rfl ?_
    refine Yicmp_ge C 22 dX0_has_9 (by decide) hx (fun _ hx => ?_) (fun _ hx => ?_)
    · skip
      refine Yiconst C 0 dX0_has_22 (by decide) ?_
      exact Yzret (b := false) C E dX0_has_23 (ypo hx rfl rfl)
    · skip
      refine Yiload_n C dX0_has_12 1 rfl rfl ?_
      refine Ybipush C 50 dX0_has_13 (by decide) ?_
      refine Yicmp_ge C 22 dX0_has_15 (by decide) hx (fun _ hx => ?_) (fun _ hx => ?_)
      · skip
        refine Yiconst C 0 dX0_has_22 (by decide) ?_
        exact Yzret (b := false) C E dX0_has_23 (ypo hx rfl rfl)
      · skip
        refine Yiconst C 1 dX0_has_18 (by decide) ?_
        refine Ygoto C 23 dX0_has_19 (by decide) ?_
        exact Yzret (b := true) C E dX0_has_23 (ypo hx rfl rfl)
theorem fg0_add_18 : YF wsX0_add RX0 18 0 1 := ⟨RX0, TX0, 6, rfl, (fun w h => List.mem_cons_of_mem _ (List.mem_append_right _ h)), by decide, List.mem_of_getElem? (i := 1) rfl⟩
theorem fg0_add_9 : YF wsX0_add RX0 9 0 0 := ⟨RX0, TX0, 6, rfl, (fun w h => List.mem_cons_of_mem _ (List.mem_append_right _ h)), by decide, List.mem_of_getElem? (i := 2) rfl⟩
theorem fp0_add_18 : YFp wsX0_add RX0 18 0 1 (tyX0 1) := ⟨RX0, TX0, 6, tyX0, rfl, (fun w h => List.mem_cons_of_mem _ (List.mem_append_right _ h)), by decide, List.mem_of_getElem? (i := 1) rfl, tyX0_ok, nmX0, rfl, tyX0_ok _ (by decide)⟩
theorem yf0_add : (∃ Ty', wsX0_add = Cond.code yX0_add cX0_add 2 (some .int) :: Ty') ∧ (yX0_add.cls ≠ "java/lang/invoke/MethodHandle" ∧ yX0_add.cls ≠ "java/lang/invoke/VarHandle" ∧ (parseMethodDescriptor yX0_add.desc).map (fun d => d.parameters.length) = some 1) := ⟨⟨_, rfl⟩, by decide +kernel, by decide +kernel, by decide +kernel⟩
abbrev w0_add (cI cJ cZ cS cT : ClassId) (a0 a_kinds a_trace : Nat) (v_number : Int32) (v_ran : Int32) (v_self : Int32) (v_kind : Int32) (v_kinds : Nat → Int32) : va_W := [(a0, .inr (0, [.ref a_kinds, .int v_number, .int v_ran, .ref a_trace, .int v_self, .int v_kind])), (a_kinds, .inl (cI, 50, .inl v_kinds))]
def x0_add (v_number : Int32) (v_kinds : Nat → Int32) (p1 : Int32) : Option (Int32 × Int32 × (Nat → Int32)) :=
  if p1 < 0 then (some ((-1), v_number, v_kinds)) else (if p1 < 8 then (if v_number < 0 then (some ((-3), v_number, v_kinds)) else (if v_number < 50 then (bif inB v_number 50 then (some (((v_number + 1) - 1), (v_number + 1), (upd v_kinds v_number.toNatClampNeg p1))) else none) else (some ((-3), v_number, v_kinds)))) else (some ((-1), v_number, v_kinds)))
set_option maxHeartbeats 4000000 in
set_option maxRecDepth 100000 in
theorem c0_add (l : Launch) (D : yD) (cI cJ cZ cS cT : ClassId) (a0 a_kinds a_trace : Nat) (v_number : Int32) (v_ran : Int32) (v_self : Int32) (v_kind : Int32) (v_kinds : Nat → Int32) (p1 : Int32) (out : Int32 × Int32 × (Nat → Int32)) (hx : x0_add v_number v_kinds p1 = some out) : MC l D (yT cI cJ cZ cS cT) yX0_add wsX0_add ({ frames := 0, cells := 0, slots := 0, locals := 0 } : Room) (0, 0) [.ref a0, .int p1] (w0_add cI cJ cZ cS cT a0 a_kinds a_trace v_number v_ran v_self v_kind v_kinds) (POd (fun o : Int32 × Int32 × (Nat → Int32) => some (.int o.1)) (fun (o : Int32 × Int32 × (Nat → Int32)) => (w0_add cI cJ cZ cS cT a0 a_kinds a_trace o.2.1 v_ran v_self v_kind o.2.2)) out) := by
  refine MC.intro (cc := cX0_add) (nL := 2) (ret := (some .int)) (own := RX0) (lv := [(0, .ref a0), (1, .int p1)]) (by decide) rfl rfl (Nat.le_of_ble_eq_true rfl) rfl (fun X C E => ?_)
  unfold x0_add at hx
  refine Yiload_n C dX0_add_0 1 rfl rfl ?_
  refine Yif_lt C 10 dX0_add_1 (by decide) hx (fun _ hx => ?_) (fun _ hx => ?_)
  · skip
    refine Yiconst C (-1) dX0_add_10 (by decide) ?_
    exact Yiret C E dX0_add_11 (ypo hx rfl rfl)
  · skip
    refine Yiload_n C dX0_add_4 1 rfl rfl ?_
    refine Ybipush C 8 dX0_add_5 (by decide) ?_
    refine Yicmp_lt C 12 dX0_add_7 (by decide) hx (fun _ hx => ?_) (fun _ hx => ?_)
    · skip
      refine Yaload_n C dX0_add_12 0 rfl rfl ?_
      refine Yget C fg0_add_18 dX0_add_13 0 rfl rfl ?_
      refine Yif_lt C 28 dX0_add_16 (by decide) hx (fun _ hx => ?_) (fun _ hx => ?_)
      · skip
        refine Ybipush C (-3) dX0_add_28 (by decide) ?_
        exact Yiret C E dX0_add_30 (ypo hx rfl rfl)
      · skip
        refine Yaload_n C dX0_add_19 0 rfl rfl ?_
        refine Yget C fg0_add_18 dX0_add_20 0 rfl rfl ?_
        refine Ybipush C 50 dX0_add_23 (by decide) ?_
        refine Yicmp_lt C 31 dX0_add_25 (by decide) hx (fun _ hx => ?_) (fun _ hx => ?_)
        · skip
          refine Yaload_n C dX0_add_31 0 rfl rfl ?_
          refine Yget C fg0_add_9 dX0_add_32 0 rfl rfl ?_
          refine Yaload_n C dX0_add_35 0 rfl rfl ?_
          refine Yget C fg0_add_18 dX0_add_36 0 rfl rfl ?_
          refine Yiload_n C dX0_add_39 1 rfl rfl ?_
          refine Yiast (ws' := (w0_add cI cJ cZ cS cT a0 a_kinds a_trace v_number v_ran v_self v_kind (upd v_kinds v_number.toNatClampNeg p1))) C dX0_add_40 hx 1 0 rfl rfl rfl (fun hx => ?_)
          refine Yaload_n C dX0_add_41 0 rfl rfl ?_
          refine Ydup C dX0_add_42 rfl ?_
          refine Yget C fg0_add_18 dX0_add_43 0 rfl rfl ?_
          refine Yiconst C 1 dX0_add_46 (by decide) ?_
          refine Yiadd C dX0_add_47 ?_
          refine Yput (v := .int (v_number + 1)) (ws' := (w0_add cI cJ cZ cS cT a0 a_kinds a_trace (v_number + 1) v_ran v_self v_kind (upd v_kinds v_number.toNatClampNeg p1))) C fp0_add_18 dX0_add_48 0 rfl rfl rfl (Nat.le_of_ble_eq_true rfl) rfl rfl ?_
          refine Yaload_n C dX0_add_51 0 rfl rfl ?_
          refine Yget C fg0_add_18 dX0_add_52 0 rfl rfl ?_
          refine Yiconst C 1 dX0_add_55 (by decide) ?_
          refine Yisub C dX0_add_56 ?_
          exact Yiret C E dX0_add_57 (ypo hx rfl rfl)
        · skip
          refine Ybipush C (-3) dX0_add_28 (by decide) ?_
          exact Yiret C E dX0_add_30 (ypo hx rfl rfl)
    · skip
      refine Yiconst C (-1) dX0_add_10 (by decide) ?_
      exact Yiret C E dX0_add_11 (ypo hx rfl rfl)
theorem yf0_isUnder : (∃ Ty', wsX0_isUnder = Cond.code yX0_isUnder cX0_isUnder 4 (some .boolean) :: Ty') ∧ (yX0_isUnder.cls ≠ "java/lang/invoke/MethodHandle" ∧ yX0_isUnder.cls ≠ "java/lang/invoke/VarHandle" ∧ (parseMethodDescriptor yX0_isUnder.desc).map (fun d => d.parameters.length) = some 2) := ⟨⟨_, rfl⟩, by decide +kernel, by decide +kernel, by decide +kernel⟩
def x0_isUnder_4  (p1 : Int32) : Nat → Int32 → Int32 → Option (Bool)
  | 0, _, _ => none
  | n + 1, l2, l3 =>
    if 8 ≤ l3 then (some (false)) else (if l2 < 0 then (some (false)) else (if 8 ≤ l2 then (some (false)) else (if l2 = p1 then (some (true)) else (bif inB l2 8 then (x0_isUnder_4 p1 n (ysABOVE l2.toNatClampNeg) (l3 + 1)) else none))))
def x0_isUnder (p0 : Int32) (p1 : Int32) : Option (Bool) :=
  x0_isUnder_4  p1 yN p0 0
set_option maxHeartbeats 4000000 in
set_option maxRecDepth 100000 in
theorem c0_isUnder (l : Launch) (D : yD) (cI cJ cZ cS cT : ClassId) (p0 : Int32) (p1 : Int32) (out : Bool) (hx : x0_isUnder p0 p1 = some out) : MC l D (yT cI cJ cZ cS cT) yX0_isUnder wsX0_isUnder ({ frames := 0, cells := 0, slots := 0, locals := 0 } : Room) (0, 0) [.int p0, .int p1] ([] : va_W) (POd (fun o : Bool => some (.int (bI o))) (fun (o : Bool) => ([] : va_W)) out) := by
  refine MC.intro (cc := cX0_isUnder) (nL := 4) (ret := (some .boolean)) (own := RX0) (lv := [(0, .int p0), (1, .int p1)]) (by decide) rfl rfl (Nat.le_of_ble_eq_true rfl) rfl (fun X C E => ?_)
  unfold x0_isUnder at hx
  have b4 : ∀ (n4 : Nat) (l2 : Int32) (l3 : Int32), x0_isUnder_4  p1 n4 l2 l3 = some out → Y X (0, 0) ([] : va_W) [(1, .int p1), (2, .int l2), (3, .int l3)] 4 [] := by
    intro n4
    induction n4 with
    | zero =>
      intro l2 l3  hx
      rw [x0_isUnder_4] at hx
      cases hx
    | succ n4 ih4 =>
      intro l2 l3  hx
      rw [x0_isUnder_4] at hx
      refine Yiload_n C dX0_isUnder_4 2 rfl rfl ?_
      refine Ybipush C 8 dX0_isUnder_5 (by decide) ?_
      refine Yicmp_ge C 39 dX0_isUnder_7 (by decide) hx (fun _ hx => ?_) (fun _ hx => ?_)
      · skip
        refine Yiconst C 0 dX0_isUnder_39 (by decide) ?_
        exact Yzret (b := false) C E dX0_isUnder_40 (ypo hx rfl rfl)
      · skip
        refine Yiload_n C dX0_isUnder_10 1 rfl rfl ?_
        refine Yif_lt C 39 dX0_isUnder_11 (by decide) hx (fun _ hx => ?_) (fun _ hx => ?_)
        · skip
          refine Yiconst C 0 dX0_isUnder_39 (by decide) ?_
          exact Yzret (b := false) C E dX0_isUnder_40 (ypo hx rfl rfl)
        · skip
          refine Yiload_n C dX0_isUnder_14 1 rfl rfl ?_
          refine Ybipush C 8 dX0_isUnder_15 (by decide) ?_
          refine Yicmp_ge C 39 dX0_isUnder_17 (by decide) hx (fun _ hx => ?_) (fun _ hx => ?_)
          · skip
            refine Yiconst C 0 dX0_isUnder_39 (by decide) ?_
            exact Yzret (b := false) C E dX0_isUnder_40 (ypo hx rfl rfl)
          · skip
            refine Yiload_n C dX0_isUnder_20 1 rfl rfl ?_
            refine Yiload_n C dX0_isUnder_21 0 rfl rfl ?_
            refine Yicmp_ne C 27 dX0_isUnder_22 (by decide) hx (fun _ hx => ?_) (fun _ hx => ?_)
            · skip
              refine Ygets_ABOVE C dX0_isUnder_27 (List.mem_of_getElem? (i := 1) rfl) (fun t1 hT1 => ?_)
              refine Yiload_n C dX0_isUnder_30 1 rfl rfl ?_
              refine Ytald (v := (ysABOVE l2.toNatClampNeg)) C hT1 dX0_isUnder_31 hx rfl (fun hx => ?_)
              refine Yistore_n (lv' := [(1, .int p1), (2, .int (ysABOVE l2.toNatClampNeg)), (3, .int l3)]) C dX0_isUnder_32 rfl (by decide) rfl ?_
              refine Yiinc (v := l3 + 1) (lv' := [(1, .int p1), (2, .int (ysABOVE l2.toNatClampNeg)), (3, .int (l3 + 1))]) C dX0_isUnder_33 2 rfl rfl (by decide) rfl ?_
              refine Ygoto C 4 dX0_isUnder_36 (by decide) ?_
              exact ih4 (ysABOVE l2.toNatClampNeg) (l3 + 1) hx
            · skip
              refine Yiconst C 1 dX0_isUnder_25 (by decide) ?_
              exact Yzret (b := true) C E dX0_isUnder_26 (ypo hx rfl rfl)
  refine Yiload_n C dX0_isUnder_0 0 rfl rfl ?_
  refine Yistore_n (lv' := [(0, .int p0), (1, .int p1), (2, .int p0)]) C dX0_isUnder_1 rfl (by decide) rfl ?_
  refine Yiconst C 0 dX0_isUnder_2 (by decide) ?_
  refine Yistore_n (lv' := [(0, .int p0), (1, .int p1), (2, .int p0), (3, .int 0)]) C dX0_isUnder_3 rfl (by decide) rfl ?_
  exact Yjmp C [1, 2, 3] rfl (b4  yN p0 0 hx)
theorem yf0_ownerOf : (∃ Ty', wsX0_ownerOf = Cond.code yX0_ownerOf cX0_ownerOf 4 (some .int) :: Ty') ∧ (yX0_ownerOf.cls ≠ "java/lang/invoke/MethodHandle" ∧ yX0_ownerOf.cls ≠ "java/lang/invoke/VarHandle" ∧ (parseMethodDescriptor yX0_ownerOf.desc).map (fun d => d.parameters.length) = some 2) := ⟨⟨_, rfl⟩, by decide +kernel, by decide +kernel, by decide +kernel⟩
def x0_ownerOf_4  (p0 : Int32) : Nat → Int32 → Int32 → Option (Int32)
  | 0, _, _ => none
  | n + 1, l2, l3 =>
    if 8 ≤ l3 then (some ((-1))) else (if l2 < 0 then (some ((-1))) else (if 8 ≤ l2 then (some ((-1))) else (bif inB ((l2 * 4) + p0) 32 then (if (ysOWN ((l2 * 4) + p0).toNatClampNeg) = 0 then (bif inB l2 8 then (x0_ownerOf_4 p0 n (ysABOVE l2.toNatClampNeg) (l3 + 1)) else none) else (some (l2))) else none)))
def x0_ownerOf (p0 : Int32) (p1 : Int32) : Option (Int32) :=
  x0_ownerOf_4  p0 yN p1 0
set_option maxHeartbeats 4000000 in
set_option maxRecDepth 100000 in
theorem c0_ownerOf (l : Launch) (D : yD) (cI cJ cZ cS cT : ClassId) (p0 : Int32) (p1 : Int32) (out : Int32) (hx : x0_ownerOf p0 p1 = some out) : MC l D (yT cI cJ cZ cS cT) yX0_ownerOf wsX0_ownerOf ({ frames := 0, cells := 0, slots := 0, locals := 0 } : Room) (0, 0) [.int p0, .int p1] ([] : va_W) (POd (fun o : Int32 => some (.int o)) (fun (o : Int32) => ([] : va_W)) out) := by
  refine MC.intro (cc := cX0_ownerOf) (nL := 4) (ret := (some .int)) (own := RX0) (lv := [(0, .int p0), (1, .int p1)]) (by decide) rfl rfl (Nat.le_of_ble_eq_true rfl) rfl (fun X C E => ?_)
  unfold x0_ownerOf at hx
  have b4 : ∀ (n4 : Nat) (l2 : Int32) (l3 : Int32), x0_ownerOf_4  p0 n4 l2 l3 = some out → Y X (0, 0) ([] : va_W) [(0, .int p0), (2, .int l2), (3, .int l3)] 4 [] := by
    intro n4
    induction n4 with
    | zero =>
      intro l2 l3  hx
      rw [x0_ownerOf_4] at hx
      cases hx
    | succ n4 ih4 =>
      intro l2 l3  hx
      rw [x0_ownerOf_4] at hx
      refine Yiload_n C dX0_ownerOf_4 2 rfl rfl ?_
      refine Ybipush C 8 dX0_ownerOf_5 (by decide) ?_
      refine Yicmp_ge C 46 dX0_ownerOf_7 (by decide) hx (fun _ hx => ?_) (fun _ hx => ?_)
      · skip
        refine Yiconst C (-1) dX0_ownerOf_46 (by decide) ?_
        exact Yiret C E dX0_ownerOf_47 (ypo hx rfl rfl)
      · skip
        refine Yiload_n C dX0_ownerOf_10 1 rfl rfl ?_
        refine Yif_lt C 46 dX0_ownerOf_11 (by decide) hx (fun _ hx => ?_) (fun _ hx => ?_)
        · skip
          refine Yiconst C (-1) dX0_ownerOf_46 (by decide) ?_
          exact Yiret C E dX0_ownerOf_47 (ypo hx rfl rfl)
        · skip
          refine Yiload_n C dX0_ownerOf_14 1 rfl rfl ?_
          refine Ybipush C 8 dX0_ownerOf_15 (by decide) ?_
          refine Yicmp_ge C 46 dX0_ownerOf_17 (by decide) hx (fun _ hx => ?_) (fun _ hx => ?_)
          · skip
            refine Yiconst C (-1) dX0_ownerOf_46 (by decide) ?_
            exact Yiret C E dX0_ownerOf_47 (ypo hx rfl rfl)
          · skip
            refine Ygets_OWN C dX0_ownerOf_20 (List.mem_of_getElem? (i := 1) rfl) (fun t1 hT1 => ?_)
            refine Yiload_n C dX0_ownerOf_23 1 rfl rfl ?_
            refine Yiconst C 4 dX0_ownerOf_24 (by decide) ?_
            refine Yimul C dX0_ownerOf_25 ?_
            refine Yiload_n C dX0_ownerOf_26 0 rfl rfl ?_
            refine Yiadd C dX0_ownerOf_27 ?_
            refine Ytald (v := (ysOWN ((l2 * 4) + p0).toNatClampNeg)) C hT1 dX0_ownerOf_28 hx rfl (fun hx => ?_)
            refine Yif_eq C 34 dX0_ownerOf_29 (by decide) hx (fun _ hx => ?_) (fun _ hx => ?_)
            · skip
              refine Ygets_ABOVE C dX0_ownerOf_34 (List.mem_of_getElem? (i := 2) rfl) (fun t2 hT2 => ?_)
              refine Yiload_n C dX0_ownerOf_37 1 rfl rfl ?_
              refine Ytald (v := (ysABOVE l2.toNatClampNeg)) C hT2 dX0_ownerOf_38 hx rfl (fun hx => ?_)
              refine Yistore_n (lv' := [(0, .int p0), (2, .int (ysABOVE l2.toNatClampNeg)), (3, .int l3)]) C dX0_ownerOf_39 rfl (by decide) rfl ?_
              refine Yiinc (v := l3 + 1) (lv' := [(0, .int p0), (2, .int (ysABOVE l2.toNatClampNeg)), (3, .int (l3 + 1))]) C dX0_ownerOf_40 2 rfl rfl (by decide) rfl ?_
              refine Ygoto C 4 dX0_ownerOf_43 (by decide) ?_
              exact ih4 (ysABOVE l2.toNatClampNeg) (l3 + 1) hx
            · skip
              refine Yiload_n C dX0_ownerOf_32 1 rfl rfl ?_
              exact Yiret C E dX0_ownerOf_33 (ypo hx rfl rfl)
  refine Yiload_n C dX0_ownerOf_0 1 rfl rfl ?_
  refine Yistore_n (lv' := [(0, .int p0), (1, .int p1), (2, .int p1)]) C dX0_ownerOf_1 rfl (by decide) rfl ?_
  refine Yiconst C 0 dX0_ownerOf_2 (by decide) ?_
  refine Yistore_n (lv' := [(0, .int p0), (1, .int p1), (2, .int p1), (3, .int 0)]) C dX0_ownerOf_3 rfl (by decide) rfl ?_
  exact Yjmp C [0, 2, 3] rfl (b4  yN p1 0 hx)
theorem fg0_run_25 : YF wsX0_run RX0 25 0 2 := ⟨RX0, TX0, 6, rfl, (fun w h => List.mem_cons_of_mem _ (List.mem_append_right _ h)), by decide, List.mem_of_getElem? (i := 3) rfl⟩
theorem fp0_run_25 : YFp wsX0_run RX0 25 0 2 (tyX0 2) := ⟨RX0, TX0, 6, tyX0, rfl, (fun w h => List.mem_cons_of_mem _ (List.mem_append_right _ h)), by decide, List.mem_of_getElem? (i := 3) rfl, tyX0_ok, nmX0, rfl, tyX0_ok _ (by decide)⟩
theorem fg0_run_32 : YF wsX0_run RX0 32 0 4 := ⟨RX0, TX0, 6, rfl, (fun w h => List.mem_cons_of_mem _ (List.mem_append_right _ h)), by decide, List.mem_of_getElem? (i := 5) rfl⟩
theorem fg0_run_35 : YF wsX0_run RX0 35 0 5 := ⟨RX0, TX0, 6, rfl, (fun w h => List.mem_cons_of_mem _ (List.mem_append_right _ h)), by decide, List.mem_of_getElem? (i := 6) rfl⟩
theorem fg0_run_15 : YF wsX0_run RX0 15 0 3 := ⟨RX0, TX0, 6, rfl, (fun w h => List.mem_cons_of_mem _ (List.mem_append_right _ h)), by decide, List.mem_of_getElem? (i := 4) rfl⟩
theorem yf0_run : (∃ Ty', wsX0_run = Cond.code yX0_run cX0_run 9 (some .int) :: Ty') ∧ (yX0_run.cls ≠ "java/lang/invoke/MethodHandle" ∧ yX0_run.cls ≠ "java/lang/invoke/VarHandle" ∧ (parseMethodDescriptor yX0_run.desc).map (fun d => d.parameters.length) = some 4) := ⟨⟨_, rfl⟩, by decide +kernel, by decide +kernel, by decide +kernel⟩
abbrev w0_run (cI cJ cZ cS cT : ClassId) (a0 a_trace a_kinds : Nat) (v_number : Int32) (v_ran : Int32) (v_self : Int32) (v_kind : Int32) (v_trace : Nat → Int32) : va_W := [(a0, .inr (0, [.ref a_kinds, .int v_number, .int v_ran, .ref a_trace, .int v_self, .int v_kind])), (a_trace, .inl (cI, 24, .inl v_trace))]
def x0_run_67 (kR : Int32 → Int32 → Int32 → (Nat → Int32) → Int32 → Int32 → Int32 → Int32 → Option (Int32 × Int32 × (Nat → Int32)))  (v_self : Int32) (v_kind : Int32) (p3 : Int32) (v_ran : Int32) (v_trace : Nat → Int32) (l6 : Int32) (l7 : Int32) (l8 : Int32) : Option (Int32 × Int32 × (Nat → Int32)) :=
  if l8 = 1 then (some ((p3 + v_self), (v_ran + 1), v_trace)) else (if l8 = 2 then ((kR (v_ran + 1) v_self v_kind v_trace 1 v_kind p3 l7).bind fun o1 => (kR o1.2.1 v_self v_kind o1.2.2 2 v_kind 1 l7).bind fun o2 => some ((o1.1 - o2.1), o2.2.1, o2.2.2)) else (if l8 = 10 then ((kR (v_ran + 1) v_self v_kind v_trace 0 v_kind p3 l7).bind fun o3 => some ((o3.1 * 2), o3.2.1, o3.2.2)) else (if l8 = 11 then (some ((p3 ^^^ v_self), (v_ran + 1), v_trace)) else (if l8 = 20 then ((kR (v_ran + 1) v_self v_kind v_trace 0 l6 p3 l7).bind fun o4 => some ((o4.1 + 3), o4.2.1, o4.2.2)) else (if l8 = 30 then ((kR (v_ran + 1) v_self v_kind v_trace 1 l6 p3 l7).bind fun o5 => some ((-o5.1), o5.2.1, o5.2.2)) else (if l8 = 40 then ((kR (v_ran + 1) v_self v_kind v_trace 2 l6 p3 l7).bind fun o6 => some ((o6.1 * 3), o6.2.1, o6.2.2)) else (if l8 = 41 then ((kR (v_ran + 1) v_self v_kind v_trace 1 l6 (p3 + 1) l7).bind fun o7 => some (o7.1, o7.2.1, o7.2.2)) else (if l8 = 50 then ((kR (v_ran + 1) v_self v_kind v_trace 3 l6 p3 l7).bind fun o8 => some ((o8.1 ^^^ 5), o8.2.1, o8.2.2)) else (if l8 = 60 then ((kR (v_ran + 1) v_self v_kind v_trace 2 l6 p3 l7).bind fun o9 => (kR o9.2.1 v_self v_kind o9.2.2 0 v_kind 2 l7).bind fun o10 => some ((o9.1 - o10.1), o10.2.1, o10.2.2)) else (if l8 = 61 then ((kR (v_ran + 1) v_self v_kind v_trace 3 l6 p3 l7).bind fun o11 => some ((o11.1 + 1), o11.2.1, o11.2.2)) else (if l8 = 70 then ((kR (v_ran + 1) v_self v_kind v_trace 0 l6 p3 l7).bind fun o12 => some ((o12.1 * 2), o12.2.1, o12.2.2)) else (if l8 = 80 then ((kR (v_ran + 1) v_self v_kind v_trace 1 l6 p3 l7).bind fun o13 => (kR o13.2.1 v_self v_kind o13.2.2 2 v_kind 2 l7).bind fun o14 => some ((o13.1 + o14.1), o14.2.1, o14.2.2)) else (if l8 = 81 then ((kR (v_ran + 1) v_self v_kind v_trace 0 l6 p3 l7).bind fun o15 => some ((o15.1 - 1), o15.2.1, o15.2.2)) else (some (0, (v_ran + 1), v_trace)))))))))))))))
def x0_runR : Nat → Int32 → Int32 → Int32 → (Nat → Int32) → Int32 → Int32 → Int32 → Int32 → Option (Int32 × Int32 × (Nat → Int32))
  | 0, _, _, _, _, _, _, _, _ => none
  | d + 1, v_ran, v_self, v_kind, v_trace, p1, p2, p3, p4 =>
    (x0_ownerOf p1 p2).bind fun o16 => if o16 < 0 then (some (0, v_ran, v_trace)) else (if p4 ≤ 40 then (bif inB o16 8 then (bif inB ((o16 * 4) + p1) 32 then (if 24 ≤ v_ran then (x0_run_67 (x0_runR d) v_self v_kind p3 v_ran v_trace (ysABOVE o16.toNatClampNeg) (p4 + 1) (ysOWN ((o16 * 4) + p1).toNatClampNeg)) else (bif inB v_ran 24 then (x0_run_67 (x0_runR d) v_self v_kind p3 v_ran (upd v_trace v_ran.toNatClampNeg (ysOWN ((o16 * 4) + p1).toNatClampNeg)) (ysABOVE o16.toNatClampNeg) (p4 + 1) (ysOWN ((o16 * 4) + p1).toNatClampNeg)) else none)) else none) else none) else (some (0, v_ran, v_trace)))

set_option maxHeartbeats 4000000 in
set_option maxRecDepth 100000 in
theorem c0_run (l : Launch) (D : yD) (cI cJ cZ cS cT : ClassId) : ∀ d : Nat, ∀ (a0 a_trace a_kinds : Nat) (v_number : Int32) (v_ran : Int32) (v_self : Int32) (v_kind : Int32) (v_trace : Nat → Int32) (p1 : Int32) (p2 : Int32) (p3 : Int32) (p4 : Int32) (out : Int32 × Int32 × (Nat → Int32)), x0_runR d v_ran v_self v_kind v_trace p1 p2 p3 p4 = some out → MC l D (yT cI cJ cZ cS cT) yX0_run wsX0_run ({ frames := 1 + d, cells := 0, slots := 0, locals := 23 + 28 * d } : Room) (0, 0) [.ref a0, .int p1, .int p2, .int p3, .int p4] (w0_run cI cJ cZ cS cT a0 a_trace a_kinds v_number v_ran v_self v_kind v_trace) (POd (fun o : Int32 × Int32 × (Nat → Int32) => some (.int o.1)) (fun o : Int32 × Int32 × (Nat → Int32) => (w0_run cI cJ cZ cS cT a0 a_trace a_kinds v_number o.2.1 v_self v_kind o.2.2)) out) := by
  intro d
  induction d with
  | zero =>
    intros
    rename_i hx
    rw [x0_runR] at hx
    cases hx
  | succ d ihR =>
    intro a0 a_trace a_kinds v_number v_ran v_self v_kind v_trace p1 p2 p3 p4 out hx
    refine MC.intro (cc := cX0_run) (nL := 9) (ret := (some .int)) (own := RX0) (lv := [(0, .ref a0), (1, .int p1), (2, .int p2), (3, .int p3), (4, .int p4)]) (by decide) rfl rfl (Nat.le_of_ble_eq_true rfl) rfl (fun X C E => ?_)
    rw [x0_runR] at hx
    have b67 : ∀  (v_ran : Int32) (v_trace : Nat → Int32) (l6 : Int32) (l7 : Int32) (l8 : Int32), x0_run_67 (x0_runR d)  v_self v_kind p3 v_ran v_trace l6 l7 l8 = some out → Y X (0, 0) (w0_run cI cJ cZ cS cT a0 a_trace a_kinds v_number v_ran v_self v_kind v_trace) [(0, .ref a0), (3, .int p3), (6, .int l6), (7, .int l7), (8, .int l8)] 67 [] := by
      intro  v_ran v_trace l6 l7 l8  hx
      unfold x0_run_67 at hx
      refine Yaload_n C dX0_run_67 0 rfl rfl ?_
      refine Ydup C dX0_run_68 rfl ?_
      refine Yget C fg0_run_25 dX0_run_69 0 rfl rfl ?_
      refine Yiconst C 1 dX0_run_72 (by decide) ?_
      refine Yiadd C dX0_run_73 ?_
      refine Yput (v := .int (v_ran + 1)) (ws' := (w0_run cI cJ cZ cS cT a0 a_trace a_kinds v_number (v_ran + 1) v_self v_kind v_trace)) C fp0_run_25 dX0_run_74 0 rfl rfl rfl (Nat.le_of_ble_eq_true rfl) rfl rfl ?_
      refine Yiload C dX0_run_77 4 rfl ?_
      refine yite hx (fun hq hx => ?_) (fun hq0 hx => ?_)
      · skip
        refine Ylook (off := 121) C 200 dX0_run_79 (by decide) (by rw [hq]; decide) (by decide) ?_
        refine Yiload_n C dX0_run_200 1 rfl rfl ?_
        refine Yaload_n C dX0_run_201 0 rfl rfl ?_
        refine Yget C fg0_run_32 dX0_run_202 0 rfl rfl ?_
        refine Yiadd C dX0_run_205 ?_
        exact Yiret C E dX0_run_206 (ypo hx rfl rfl)
      refine yite hx (fun hq hx => ?_) (fun hq1 hx => ?_)
      · skip
        refine Ylook (off := 128) C 207 dX0_run_79 (by decide) (by rw [hq]; decide) (by decide) ?_
        refine Yaload_n C dX0_run_207 0 rfl rfl ?_
        refine Yiconst C 1 dX0_run_208 (by decide) ?_
        refine Yaload_n C dX0_run_209 0 rfl rfl ?_
        refine Yget C fg0_run_35 dX0_run_210 0 rfl rfl ?_
        refine Yiload_n C dX0_run_213 1 rfl rfl ?_
        refine Yiload C dX0_run_214 3 rfl ?_
        obtain ⟨o1, ho1, hx⟩ := ybnd hx
        refine YcallVd (ws' := (w0_run cI cJ cZ cS cT a0 a_trace a_kinds v_number o1.2.1 v_self v_kind o1.2.2)) (st' := [.int o1.1]) (st := []) (as := [.int 1, .int v_kind, .int p3, .int l7]) (b := a0) (ci := 0) C [0, 1] [] 2 dX0_run_216 (ihR a0 a_trace a_kinds v_number (v_ran + 1) v_self v_kind v_trace 1 v_kind p3 l7 o1 ho1) gX0_run_X0_run rfl ⟨yf0_run.1, yf0_run.2, (by dsimp only; omega), (by dsimp only; omega), rfl, rfl⟩ rfl 0 rfl (by decide) ⟨Nat.zero_le _, Nat.zero_le _⟩ (Nat.le_of_ble_eq_true rfl) ⟨rfl, rfl, trivial⟩ rfl rfl (by decide) (by decide) ⟨rfl, rfl, trivial⟩ [] trivial trivial rfl ?_
        refine Yaload_n C dX0_run_219 0 rfl rfl ?_
        refine Yiconst C 2 dX0_run_220 (by decide) ?_
        refine Yaload_n C dX0_run_221 0 rfl rfl ?_
        refine Yget C fg0_run_35 dX0_run_222 0 rfl rfl ?_
        refine Yiconst C 1 dX0_run_225 (by decide) ?_
        refine Yiload C dX0_run_226 3 rfl ?_
        obtain ⟨o2, ho2, hx⟩ := ybnd hx
        refine YcallVd (ws' := (w0_run cI cJ cZ cS cT a0 a_trace a_kinds v_number o2.2.1 v_self v_kind o2.2.2)) (st' := [.int o2.1, .int o1.1]) (st := [.int o1.1]) (as := [.int 2, .int v_kind, .int 1, .int l7]) (b := a0) (ci := 0) C [0, 1] [] 2 dX0_run_228 (ihR a0 a_trace a_kinds v_number o1.2.1 v_self v_kind o1.2.2 2 v_kind 1 l7 o2 ho2) gX0_run_X0_run rfl ⟨yf0_run.1, yf0_run.2, (by dsimp only; omega), (by dsimp only; omega), rfl, rfl⟩ rfl 0 rfl (by decide) ⟨Nat.zero_le _, Nat.zero_le _⟩ (Nat.le_of_ble_eq_true rfl) ⟨rfl, rfl, trivial⟩ rfl rfl (by decide) (by decide) ⟨rfl, rfl, trivial⟩ [] trivial trivial rfl ?_
        refine Yisub C dX0_run_231 ?_
        exact Yiret C E dX0_run_232 (ypo hx rfl rfl)
      refine yite hx (fun hq hx => ?_) (fun hq2 hx => ?_)
      · skip
        refine Ylook (off := 154) C 233 dX0_run_79 (by decide) (by rw [hq]; decide) (by decide) ?_
        refine Yaload_n C dX0_run_233 0 rfl rfl ?_
        refine Yiconst C 0 dX0_run_234 (by decide) ?_
        refine Yaload_n C dX0_run_235 0 rfl rfl ?_
        refine Yget C fg0_run_35 dX0_run_236 0 rfl rfl ?_
        refine Yiload_n C dX0_run_239 1 rfl rfl ?_
        refine Yiload C dX0_run_240 3 rfl ?_
        obtain ⟨o3, ho3, hx⟩ := ybnd hx
        refine YcallVd (ws' := (w0_run cI cJ cZ cS cT a0 a_trace a_kinds v_number o3.2.1 v_self v_kind o3.2.2)) (st' := [.int o3.1]) (st := []) (as := [.int 0, .int v_kind, .int p3, .int l7]) (b := a0) (ci := 0) C [0, 1] [] 2 dX0_run_242 (ihR a0 a_trace a_kinds v_number (v_ran + 1) v_self v_kind v_trace 0 v_kind p3 l7 o3 ho3) gX0_run_X0_run rfl ⟨yf0_run.1, yf0_run.2, (by dsimp only; omega), (by dsimp only; omega), rfl, rfl⟩ rfl 0 rfl (by decide) ⟨Nat.zero_le _, Nat.zero_le _⟩ (Nat.le_of_ble_eq_true rfl) ⟨rfl, rfl, trivial⟩ rfl rfl (by decide) (by decide) ⟨rfl, rfl, trivial⟩ [] trivial trivial rfl ?_
        refine Yiconst C 2 dX0_run_245 (by decide) ?_
        refine Yimul C dX0_run_246 ?_
        exact Yiret C E dX0_run_247 (ypo hx rfl rfl)
      refine yite hx (fun hq hx => ?_) (fun hq3 hx => ?_)
      · skip
        refine Ylook (off := 169) C 248 dX0_run_79 (by decide) (by rw [hq]; decide) (by decide) ?_
        refine Yiload_n C dX0_run_248 1 rfl rfl ?_
        refine Yaload_n C dX0_run_249 0 rfl rfl ?_
        refine Yget C fg0_run_32 dX0_run_250 0 rfl rfl ?_
        refine Yixor C dX0_run_253 ?_
        exact Yiret C E dX0_run_254 (ypo hx rfl rfl)
      refine yite hx (fun hq hx => ?_) (fun hq4 hx => ?_)
      · skip
        refine Ylook (off := 176) C 255 dX0_run_79 (by decide) (by rw [hq]; decide) (by decide) ?_
        refine Yaload_n C dX0_run_255 0 rfl rfl ?_
        refine Yiconst C 0 dX0_run_256 (by decide) ?_
        refine Yiload C dX0_run_257 2 rfl ?_
        refine Yiload_n C dX0_run_259 1 rfl rfl ?_
        refine Yiload C dX0_run_260 3 rfl ?_
        obtain ⟨o4, ho4, hx⟩ := ybnd hx
        refine YcallVd (ws' := (w0_run cI cJ cZ cS cT a0 a_trace a_kinds v_number o4.2.1 v_self v_kind o4.2.2)) (st' := [.int o4.1]) (st := []) (as := [.int 0, .int l6, .int p3, .int l7]) (b := a0) (ci := 0) C [0, 1] [] 2 dX0_run_262 (ihR a0 a_trace a_kinds v_number (v_ran + 1) v_self v_kind v_trace 0 l6 p3 l7 o4 ho4) gX0_run_X0_run rfl ⟨yf0_run.1, yf0_run.2, (by dsimp only; omega), (by dsimp only; omega), rfl, rfl⟩ rfl 0 rfl (by decide) ⟨Nat.zero_le _, Nat.zero_le _⟩ (Nat.le_of_ble_eq_true rfl) ⟨rfl, rfl, trivial⟩ rfl rfl (by decide) (by decide) ⟨rfl, rfl, trivial⟩ [] trivial trivial rfl ?_
        refine Yiconst C 3 dX0_run_265 (by decide) ?_
        refine Yiadd C dX0_run_266 ?_
        exact Yiret C E dX0_run_267 (ypo hx rfl rfl)
      refine yite hx (fun hq hx => ?_) (fun hq5 hx => ?_)
      · skip
        refine Ylook (off := 189) C 268 dX0_run_79 (by decide) (by rw [hq]; decide) (by decide) ?_
        refine Yaload_n C dX0_run_268 0 rfl rfl ?_
        refine Yiconst C 1 dX0_run_269 (by decide) ?_
        refine Yiload C dX0_run_270 2 rfl ?_
        refine Yiload_n C dX0_run_272 1 rfl rfl ?_
        refine Yiload C dX0_run_273 3 rfl ?_
        obtain ⟨o5, ho5, hx⟩ := ybnd hx
        refine YcallVd (ws' := (w0_run cI cJ cZ cS cT a0 a_trace a_kinds v_number o5.2.1 v_self v_kind o5.2.2)) (st' := [.int o5.1]) (st := []) (as := [.int 1, .int l6, .int p3, .int l7]) (b := a0) (ci := 0) C [0, 1] [] 2 dX0_run_275 (ihR a0 a_trace a_kinds v_number (v_ran + 1) v_self v_kind v_trace 1 l6 p3 l7 o5 ho5) gX0_run_X0_run rfl ⟨yf0_run.1, yf0_run.2, (by dsimp only; omega), (by dsimp only; omega), rfl, rfl⟩ rfl 0 rfl (by decide) ⟨Nat.zero_le _, Nat.zero_le _⟩ (Nat.le_of_ble_eq_true rfl) ⟨rfl, rfl, trivial⟩ rfl rfl (by decide) (by decide) ⟨rfl, rfl, trivial⟩ [] trivial trivial rfl ?_
        refine Yineg C dX0_run_278 ?_
        exact Yiret C E dX0_run_279 (ypo hx rfl rfl)
      refine yite hx (fun hq hx => ?_) (fun hq6 hx => ?_)
      · skip
        refine Ylook (off := 201) C 280 dX0_run_79 (by decide) (by rw [hq]; decide) (by decide) ?_
        refine Yaload_n C dX0_run_280 0 rfl rfl ?_
        refine Yiconst C 2 dX0_run_281 (by decide) ?_
        refine Yiload C dX0_run_282 2 rfl ?_
        refine Yiload_n C dX0_run_284 1 rfl rfl ?_
        refine Yiload C dX0_run_285 3 rfl ?_
        obtain ⟨o6, ho6, hx⟩ := ybnd hx
        refine YcallVd (ws' := (w0_run cI cJ cZ cS cT a0 a_trace a_kinds v_number o6.2.1 v_self v_kind o6.2.2)) (st' := [.int o6.1]) (st := []) (as := [.int 2, .int l6, .int p3, .int l7]) (b := a0) (ci := 0) C [0, 1] [] 2 dX0_run_287 (ihR a0 a_trace a_kinds v_number (v_ran + 1) v_self v_kind v_trace 2 l6 p3 l7 o6 ho6) gX0_run_X0_run rfl ⟨yf0_run.1, yf0_run.2, (by dsimp only; omega), (by dsimp only; omega), rfl, rfl⟩ rfl 0 rfl (by decide) ⟨Nat.zero_le _, Nat.zero_le _⟩ (Nat.le_of_ble_eq_true rfl) ⟨rfl, rfl, trivial⟩ rfl rfl (by decide) (by decide) ⟨rfl, rfl, trivial⟩ [] trivial trivial rfl ?_
        refine Yiconst C 3 dX0_run_290 (by decide) ?_
        refine Yimul C dX0_run_291 ?_
        exact Yiret C E dX0_run_292 (ypo hx rfl rfl)
      refine yite hx (fun hq hx => ?_) (fun hq7 hx => ?_)
      · skip
        refine Ylook (off := 214) C 293 dX0_run_79 (by decide) (by rw [hq]; decide) (by decide) ?_
        refine Yaload_n C dX0_run_293 0 rfl rfl ?_
        refine Yiconst C 1 dX0_run_294 (by decide) ?_
        refine Yiload C dX0_run_295 2 rfl ?_
        refine Yiload_n C dX0_run_297 1 rfl rfl ?_
        refine Yiconst C 1 dX0_run_298 (by decide) ?_
        refine Yiadd C dX0_run_299 ?_
        refine Yiload C dX0_run_300 3 rfl ?_
        obtain ⟨o7, ho7, hx⟩ := ybnd hx
        refine YcallVd (ws' := (w0_run cI cJ cZ cS cT a0 a_trace a_kinds v_number o7.2.1 v_self v_kind o7.2.2)) (st' := [.int o7.1]) (st := []) (as := [.int 1, .int l6, .int (p3 + 1), .int l7]) (b := a0) (ci := 0) C [0, 1] [] 2 dX0_run_302 (ihR a0 a_trace a_kinds v_number (v_ran + 1) v_self v_kind v_trace 1 l6 (p3 + 1) l7 o7 ho7) gX0_run_X0_run rfl ⟨yf0_run.1, yf0_run.2, (by dsimp only; omega), (by dsimp only; omega), rfl, rfl⟩ rfl 0 rfl (by decide) ⟨Nat.zero_le _, Nat.zero_le _⟩ (Nat.le_of_ble_eq_true rfl) ⟨rfl, rfl, trivial⟩ rfl rfl (by decide) (by decide) ⟨rfl, rfl, trivial⟩ [] trivial trivial rfl ?_
        exact Yiret C E dX0_run_305 (ypo hx rfl rfl)
      refine yite hx (fun hq hx => ?_) (fun hq8 hx => ?_)
      · skip
        refine Ylook (off := 227) C 306 dX0_run_79 (by decide) (by rw [hq]; decide) (by decide) ?_
        refine Yaload_n C dX0_run_306 0 rfl rfl ?_
        refine Yiconst C 3 dX0_run_307 (by decide) ?_
        refine Yiload C dX0_run_308 2 rfl ?_
        refine Yiload_n C dX0_run_310 1 rfl rfl ?_
        refine Yiload C dX0_run_311 3 rfl ?_
        obtain ⟨o8, ho8, hx⟩ := ybnd hx
        refine YcallVd (ws' := (w0_run cI cJ cZ cS cT a0 a_trace a_kinds v_number o8.2.1 v_self v_kind o8.2.2)) (st' := [.int o8.1]) (st := []) (as := [.int 3, .int l6, .int p3, .int l7]) (b := a0) (ci := 0) C [0, 1] [] 2 dX0_run_313 (ihR a0 a_trace a_kinds v_number (v_ran + 1) v_self v_kind v_trace 3 l6 p3 l7 o8 ho8) gX0_run_X0_run rfl ⟨yf0_run.1, yf0_run.2, (by dsimp only; omega), (by dsimp only; omega), rfl, rfl⟩ rfl 0 rfl (by decide) ⟨Nat.zero_le _, Nat.zero_le _⟩ (Nat.le_of_ble_eq_true rfl) ⟨rfl, rfl, trivial⟩ rfl rfl (by decide) (by decide) ⟨rfl, rfl, trivial⟩ [] trivial trivial rfl ?_
        refine Yiconst C 5 dX0_run_316 (by decide) ?_
        refine Yixor C dX0_run_317 ?_
        exact Yiret C E dX0_run_318 (ypo hx rfl rfl)
      refine yite hx (fun hq hx => ?_) (fun hq9 hx => ?_)
      · skip
        refine Ylook (off := 240) C 319 dX0_run_79 (by decide) (by rw [hq]; decide) (by decide) ?_
        refine Yaload_n C dX0_run_319 0 rfl rfl ?_
        refine Yiconst C 2 dX0_run_320 (by decide) ?_
        refine Yiload C dX0_run_321 2 rfl ?_
        refine Yiload_n C dX0_run_323 1 rfl rfl ?_
        refine Yiload C dX0_run_324 3 rfl ?_
        obtain ⟨o9, ho9, hx⟩ := ybnd hx
        refine YcallVd (ws' := (w0_run cI cJ cZ cS cT a0 a_trace a_kinds v_number o9.2.1 v_self v_kind o9.2.2)) (st' := [.int o9.1]) (st := []) (as := [.int 2, .int l6, .int p3, .int l7]) (b := a0) (ci := 0) C [0, 1] [] 2 dX0_run_326 (ihR a0 a_trace a_kinds v_number (v_ran + 1) v_self v_kind v_trace 2 l6 p3 l7 o9 ho9) gX0_run_X0_run rfl ⟨yf0_run.1, yf0_run.2, (by dsimp only; omega), (by dsimp only; omega), rfl, rfl⟩ rfl 0 rfl (by decide) ⟨Nat.zero_le _, Nat.zero_le _⟩ (Nat.le_of_ble_eq_true rfl) ⟨rfl, rfl, trivial⟩ rfl rfl (by decide) (by decide) ⟨rfl, rfl, trivial⟩ [] trivial trivial rfl ?_
        refine Yaload_n C dX0_run_329 0 rfl rfl ?_
        refine Yiconst C 0 dX0_run_330 (by decide) ?_
        refine Yaload_n C dX0_run_331 0 rfl rfl ?_
        refine Yget C fg0_run_35 dX0_run_332 0 rfl rfl ?_
        refine Yiconst C 2 dX0_run_335 (by decide) ?_
        refine Yiload C dX0_run_336 3 rfl ?_
        obtain ⟨o10, ho10, hx⟩ := ybnd hx
        refine YcallVd (ws' := (w0_run cI cJ cZ cS cT a0 a_trace a_kinds v_number o10.2.1 v_self v_kind o10.2.2)) (st' := [.int o10.1, .int o9.1]) (st := [.int o9.1]) (as := [.int 0, .int v_kind, .int 2, .int l7]) (b := a0) (ci := 0) C [0, 1] [] 2 dX0_run_338 (ihR a0 a_trace a_kinds v_number o9.2.1 v_self v_kind o9.2.2 0 v_kind 2 l7 o10 ho10) gX0_run_X0_run rfl ⟨yf0_run.1, yf0_run.2, (by dsimp only; omega), (by dsimp only; omega), rfl, rfl⟩ rfl 0 rfl (by decide) ⟨Nat.zero_le _, Nat.zero_le _⟩ (Nat.le_of_ble_eq_true rfl) ⟨rfl, rfl, trivial⟩ rfl rfl (by decide) (by decide) ⟨rfl, rfl, trivial⟩ [] trivial trivial rfl ?_
        refine Yisub C dX0_run_341 ?_
        exact Yiret C E dX0_run_342 (ypo hx rfl rfl)
      refine yite hx (fun hq hx => ?_) (fun hq10 hx => ?_)
      · skip
        refine Ylook (off := 264) C 343 dX0_run_79 (by decide) (by rw [hq]; decide) (by decide) ?_
        refine Yaload_n C dX0_run_343 0 rfl rfl ?_
        refine Yiconst C 3 dX0_run_344 (by decide) ?_
        refine Yiload C dX0_run_345 2 rfl ?_
        refine Yiload_n C dX0_run_347 1 rfl rfl ?_
        refine Yiload C dX0_run_348 3 rfl ?_
        obtain ⟨o11, ho11, hx⟩ := ybnd hx
        refine YcallVd (ws' := (w0_run cI cJ cZ cS cT a0 a_trace a_kinds v_number o11.2.1 v_self v_kind o11.2.2)) (st' := [.int o11.1]) (st := []) (as := [.int 3, .int l6, .int p3, .int l7]) (b := a0) (ci := 0) C [0, 1] [] 2 dX0_run_350 (ihR a0 a_trace a_kinds v_number (v_ran + 1) v_self v_kind v_trace 3 l6 p3 l7 o11 ho11) gX0_run_X0_run rfl ⟨yf0_run.1, yf0_run.2, (by dsimp only; omega), (by dsimp only; omega), rfl, rfl⟩ rfl 0 rfl (by decide) ⟨Nat.zero_le _, Nat.zero_le _⟩ (Nat.le_of_ble_eq_true rfl) ⟨rfl, rfl, trivial⟩ rfl rfl (by decide) (by decide) ⟨rfl, rfl, trivial⟩ [] trivial trivial rfl ?_
        refine Yiconst C 1 dX0_run_353 (by decide) ?_
        refine Yiadd C dX0_run_354 ?_
        exact Yiret C E dX0_run_355 (ypo hx rfl rfl)
      refine yite hx (fun hq hx => ?_) (fun hq11 hx => ?_)
      · skip
        refine Ylook (off := 277) C 356 dX0_run_79 (by decide) (by rw [hq]; decide) (by decide) ?_
        refine Yaload_n C dX0_run_356 0 rfl rfl ?_
        refine Yiconst C 0 dX0_run_357 (by decide) ?_
        refine Yiload C dX0_run_358 2 rfl ?_
        refine Yiload_n C dX0_run_360 1 rfl rfl ?_
        refine Yiload C dX0_run_361 3 rfl ?_
        obtain ⟨o12, ho12, hx⟩ := ybnd hx
        refine YcallVd (ws' := (w0_run cI cJ cZ cS cT a0 a_trace a_kinds v_number o12.2.1 v_self v_kind o12.2.2)) (st' := [.int o12.1]) (st := []) (as := [.int 0, .int l6, .int p3, .int l7]) (b := a0) (ci := 0) C [0, 1] [] 2 dX0_run_363 (ihR a0 a_trace a_kinds v_number (v_ran + 1) v_self v_kind v_trace 0 l6 p3 l7 o12 ho12) gX0_run_X0_run rfl ⟨yf0_run.1, yf0_run.2, (by dsimp only; omega), (by dsimp only; omega), rfl, rfl⟩ rfl 0 rfl (by decide) ⟨Nat.zero_le _, Nat.zero_le _⟩ (Nat.le_of_ble_eq_true rfl) ⟨rfl, rfl, trivial⟩ rfl rfl (by decide) (by decide) ⟨rfl, rfl, trivial⟩ [] trivial trivial rfl ?_
        refine Yiconst C 2 dX0_run_366 (by decide) ?_
        refine Yimul C dX0_run_367 ?_
        exact Yiret C E dX0_run_368 (ypo hx rfl rfl)
      refine yite hx (fun hq hx => ?_) (fun hq12 hx => ?_)
      · skip
        refine Ylook (off := 290) C 369 dX0_run_79 (by decide) (by rw [hq]; decide) (by decide) ?_
        refine Yaload_n C dX0_run_369 0 rfl rfl ?_
        refine Yiconst C 1 dX0_run_370 (by decide) ?_
        refine Yiload C dX0_run_371 2 rfl ?_
        refine Yiload_n C dX0_run_373 1 rfl rfl ?_
        refine Yiload C dX0_run_374 3 rfl ?_
        obtain ⟨o13, ho13, hx⟩ := ybnd hx
        refine YcallVd (ws' := (w0_run cI cJ cZ cS cT a0 a_trace a_kinds v_number o13.2.1 v_self v_kind o13.2.2)) (st' := [.int o13.1]) (st := []) (as := [.int 1, .int l6, .int p3, .int l7]) (b := a0) (ci := 0) C [0, 1] [] 2 dX0_run_376 (ihR a0 a_trace a_kinds v_number (v_ran + 1) v_self v_kind v_trace 1 l6 p3 l7 o13 ho13) gX0_run_X0_run rfl ⟨yf0_run.1, yf0_run.2, (by dsimp only; omega), (by dsimp only; omega), rfl, rfl⟩ rfl 0 rfl (by decide) ⟨Nat.zero_le _, Nat.zero_le _⟩ (Nat.le_of_ble_eq_true rfl) ⟨rfl, rfl, trivial⟩ rfl rfl (by decide) (by decide) ⟨rfl, rfl, trivial⟩ [] trivial trivial rfl ?_
        refine Yaload_n C dX0_run_379 0 rfl rfl ?_
        refine Yiconst C 2 dX0_run_380 (by decide) ?_
        refine Yaload_n C dX0_run_381 0 rfl rfl ?_
        refine Yget C fg0_run_35 dX0_run_382 0 rfl rfl ?_
        refine Yiconst C 2 dX0_run_385 (by decide) ?_
        refine Yiload C dX0_run_386 3 rfl ?_
        obtain ⟨o14, ho14, hx⟩ := ybnd hx
        refine YcallVd (ws' := (w0_run cI cJ cZ cS cT a0 a_trace a_kinds v_number o14.2.1 v_self v_kind o14.2.2)) (st' := [.int o14.1, .int o13.1]) (st := [.int o13.1]) (as := [.int 2, .int v_kind, .int 2, .int l7]) (b := a0) (ci := 0) C [0, 1] [] 2 dX0_run_388 (ihR a0 a_trace a_kinds v_number o13.2.1 v_self v_kind o13.2.2 2 v_kind 2 l7 o14 ho14) gX0_run_X0_run rfl ⟨yf0_run.1, yf0_run.2, (by dsimp only; omega), (by dsimp only; omega), rfl, rfl⟩ rfl 0 rfl (by decide) ⟨Nat.zero_le _, Nat.zero_le _⟩ (Nat.le_of_ble_eq_true rfl) ⟨rfl, rfl, trivial⟩ rfl rfl (by decide) (by decide) ⟨rfl, rfl, trivial⟩ [] trivial trivial rfl ?_
        refine Yiadd C dX0_run_391 ?_
        exact Yiret C E dX0_run_392 (ypo hx rfl rfl)
      refine yite hx (fun hq hx => ?_) (fun hq13 hx => ?_)
      · skip
        refine Ylook (off := 314) C 393 dX0_run_79 (by decide) (by rw [hq]; decide) (by decide) ?_
        refine Yaload_n C dX0_run_393 0 rfl rfl ?_
        refine Yiconst C 0 dX0_run_394 (by decide) ?_
        refine Yiload C dX0_run_395 2 rfl ?_
        refine Yiload_n C dX0_run_397 1 rfl rfl ?_
        refine Yiload C dX0_run_398 3 rfl ?_
        obtain ⟨o15, ho15, hx⟩ := ybnd hx
        refine YcallVd (ws' := (w0_run cI cJ cZ cS cT a0 a_trace a_kinds v_number o15.2.1 v_self v_kind o15.2.2)) (st' := [.int o15.1]) (st := []) (as := [.int 0, .int l6, .int p3, .int l7]) (b := a0) (ci := 0) C [0, 1] [] 2 dX0_run_400 (ihR a0 a_trace a_kinds v_number (v_ran + 1) v_self v_kind v_trace 0 l6 p3 l7 o15 ho15) gX0_run_X0_run rfl ⟨yf0_run.1, yf0_run.2, (by dsimp only; omega), (by dsimp only; omega), rfl, rfl⟩ rfl 0 rfl (by decide) ⟨Nat.zero_le _, Nat.zero_le _⟩ (Nat.le_of_ble_eq_true rfl) ⟨rfl, rfl, trivial⟩ rfl rfl (by decide) (by decide) ⟨rfl, rfl, trivial⟩ [] trivial trivial rfl ?_
        refine Yiconst C 1 dX0_run_403 (by decide) ?_
        refine Yisub C dX0_run_404 ?_
        exact Yiret C E dX0_run_405 (ypo hx rfl rfl)
      refine Ylook (off := 327) C 406 dX0_run_79 (by decide) (by have e0 : l8.toInt ≠ 1 := ne_toInt hq0; have e1 : l8.toInt ≠ 2 := ne_toInt hq1; have e2 : l8.toInt ≠ 10 := ne_toInt hq2; have e3 : l8.toInt ≠ 11 := ne_toInt hq3; have e4 : l8.toInt ≠ 20 := ne_toInt hq4; have e5 : l8.toInt ≠ 30 := ne_toInt hq5; have e6 : l8.toInt ≠ 40 := ne_toInt hq6; have e7 : l8.toInt ≠ 41 := ne_toInt hq7; have e8 : l8.toInt ≠ 50 := ne_toInt hq8; have e9 : l8.toInt ≠ 60 := ne_toInt hq9; have e10 : l8.toInt ≠ 61 := ne_toInt hq10; have e11 : l8.toInt ≠ 70 := ne_toInt hq11; have e12 : l8.toInt ≠ 80 := ne_toInt hq12; have e13 : l8.toInt ≠ 81 := ne_toInt hq13; simp [Op.lookupswitch.offset, e0, e1, e2, e3, e4, e5, e6, e7, e8, e9, e10, e11, e12, e13, e0.symm, e1.symm, e2.symm, e3.symm, e4.symm, e5.symm, e6.symm, e7.symm, e8.symm, e9.symm, e10.symm, e11.symm, e12.symm, e13.symm]) (by decide) ?_
      refine Yiconst C 0 dX0_run_406 (by decide) ?_
      exact Yiret C E dX0_run_407 (ypo hx rfl rfl)
    refine Yiload_n C dX0_run_0 1 rfl rfl ?_
    refine Yiload_n C dX0_run_1 2 rfl rfl ?_
    obtain ⟨o16, ho16, hx⟩ := ybnd hx
    refine YcallSd (ws' := (w0_run cI cJ cZ cS cT a0 a_trace a_kinds v_number v_ran v_self v_kind v_trace)) (st' := [.int o16]) (st := []) (as := [.int p1, .int p2]) C [] [0, 1] 2 dX0_run_2 (c0_ownerOf l D cI cJ cZ cS cT p1 p2 o16 ho16) gX0_run_X0_ownerOf rfl ⟨yf0_ownerOf.1, yf0_ownerOf.2, (by dsimp only; omega), (by dsimp only; omega), rfl, rfl⟩ (by decide) ⟨Nat.zero_le _, Nat.zero_le _⟩ (Nat.le_of_ble_eq_true rfl) trivial rfl rfl (by decide) (by decide) trivial [(a0, .inr (0, [.ref a_kinds, .int v_number, .int v_ran, .ref a_trace, .int v_self, .int v_kind])), (a_trace, .inl (cI, 24, .inl v_trace))] ⟨rfl, rfl, trivial⟩ ⟨rfl, rfl, trivial⟩ rfl ?_
    refine Yistore (lv' := [(0, .ref a0), (1, .int p1), (2, .int p2), (3, .int p3), (4, .int p4), (5, .int o16)]) C dX0_run_5 (by decide) rfl ?_
    refine Yiload C dX0_run_7 5 rfl ?_
    refine Yif_lt C 19 dX0_run_9 (by decide) hx (fun _ hx => ?_) (fun _ hx => ?_)
    · skip
      refine Yiconst C 0 dX0_run_19 (by decide) ?_
      exact Yiret C E dX0_run_20 (ypo hx rfl rfl)
    · skip
      refine Yiload C dX0_run_12 4 rfl ?_
      refine Ybipush C 40 dX0_run_14 (by decide) ?_
      refine Yicmp_le C 21 dX0_run_16 (by decide) hx (fun _ hx => ?_) (fun _ hx => ?_)
      · skip
        refine Ygets_ABOVE C dX0_run_21 (List.mem_of_getElem? (i := 1) rfl) (fun t17 hT17 => ?_)
        refine Yiload C dX0_run_24 5 rfl ?_
        refine Ytald (v := (ysABOVE o16.toNatClampNeg)) C hT17 dX0_run_26 hx rfl (fun hx => ?_)
        refine Yistore (lv' := [(0, .ref a0), (1, .int p1), (2, .int p2), (3, .int p3), (4, .int p4), (5, .int o16), (6, .int (ysABOVE o16.toNatClampNeg))]) C dX0_run_27 (by decide) rfl ?_
        refine Yiload C dX0_run_29 4 rfl ?_
        refine Yiconst C 1 dX0_run_31 (by decide) ?_
        refine Yiadd C dX0_run_32 ?_
        refine Yistore (lv' := [(0, .ref a0), (1, .int p1), (2, .int p2), (3, .int p3), (4, .int p4), (5, .int o16), (6, .int (ysABOVE o16.toNatClampNeg)), (7, .int (p4 + 1))]) C dX0_run_33 (by decide) rfl ?_
        refine Ygets_OWN C dX0_run_35 (List.mem_of_getElem? (i := 2) rfl) (fun t18 hT18 => ?_)
        refine Yiload C dX0_run_38 5 rfl ?_
        refine Yiconst C 4 dX0_run_40 (by decide) ?_
        refine Yimul C dX0_run_41 ?_
        refine Yiload_n C dX0_run_42 1 rfl rfl ?_
        refine Yiadd C dX0_run_43 ?_
        refine Ytald (v := (ysOWN ((o16 * 4) + p1).toNatClampNeg)) C hT18 dX0_run_44 hx rfl (fun hx => ?_)
        refine Yistore (lv' := [(0, .ref a0), (1, .int p1), (2, .int p2), (3, .int p3), (4, .int p4), (5, .int o16), (6, .int (ysABOVE o16.toNatClampNeg)), (7, .int (p4 + 1)), (8, .int (ysOWN ((o16 * 4) + p1).toNatClampNeg))]) C dX0_run_45 (by decide) rfl ?_
        refine Yaload_n C dX0_run_47 0 rfl rfl ?_
        refine Yget C fg0_run_25 dX0_run_48 0 rfl rfl ?_
        refine Ybipush C 24 dX0_run_51 (by decide) ?_
        refine Yicmp_ge C 67 dX0_run_53 (by decide) hx (fun _ hx => ?_) (fun _ hx => ?_)
        · skip
          exact Yjmp C [0, 3, 6, 7, 8] rfl (b67  v_ran v_trace (ysABOVE o16.toNatClampNeg) (p4 + 1) (ysOWN ((o16 * 4) + p1).toNatClampNeg) hx)
        · skip
          refine Yaload_n C dX0_run_56 0 rfl rfl ?_
          refine Yget C fg0_run_15 dX0_run_57 0 rfl rfl ?_
          refine Yaload_n C dX0_run_60 0 rfl rfl ?_
          refine Yget C fg0_run_25 dX0_run_61 0 rfl rfl ?_
          refine Yiload C dX0_run_64 8 rfl ?_
          refine Yiast (ws' := (w0_run cI cJ cZ cS cT a0 a_trace a_kinds v_number v_ran v_self v_kind (upd v_trace v_ran.toNatClampNeg (ysOWN ((o16 * 4) + p1).toNatClampNeg)))) C dX0_run_66 hx 1 0 rfl rfl rfl (fun hx => ?_)
          exact Yjmp C [0, 3, 6, 7, 8] rfl (b67  v_ran (upd v_trace v_ran.toNatClampNeg (ysOWN ((o16 * 4) + p1).toNatClampNeg)) (ysABOVE o16.toNatClampNeg) (p4 + 1) (ysOWN ((o16 * 4) + p1).toNatClampNeg) hx)
      · skip
        refine Yiconst C 0 dX0_run_19 (by decide) ?_
        exact Yiret C E dX0_run_20 (ypo hx rfl rfl)
theorem fp0_perform_25 : YFp wsX0_perform RX0 25 0 2 (tyX0 2) := ⟨RX0, TX0, 6, tyX0, rfl, (fun w h => List.mem_cons_of_mem _ (List.mem_append_right _ h)), by decide, List.mem_of_getElem? (i := 1) rfl, tyX0_ok, nmX0, rfl, tyX0_ok _ (by decide)⟩
theorem fp0_perform_32 : YFp wsX0_perform RX0 32 0 4 (tyX0 4) := ⟨RX0, TX0, 6, tyX0, rfl, (fun w h => List.mem_cons_of_mem _ (List.mem_append_right _ h)), by decide, List.mem_of_getElem? (i := 2) rfl, tyX0_ok, nmX0, rfl, tyX0_ok _ (by decide)⟩
theorem fg0_perform_9 : YF wsX0_perform RX0 9 0 0 := ⟨RX0, TX0, 6, rfl, (fun w h => List.mem_cons_of_mem _ (List.mem_append_right _ h)), by decide, List.mem_of_getElem? (i := 3) rfl⟩
theorem fp0_perform_35 : YFp wsX0_perform RX0 35 0 5 (tyX0 5) := ⟨RX0, TX0, 6, tyX0, rfl, (fun w h => List.mem_cons_of_mem _ (List.mem_append_right _ h)), by decide, List.mem_of_getElem? (i := 4) rfl, tyX0_ok, nmX0, rfl, tyX0_ok _ (by decide)⟩
theorem fg0_perform_35 : YF wsX0_perform RX0 35 0 5 := ⟨RX0, TX0, 6, rfl, (fun w h => List.mem_cons_of_mem _ (List.mem_append_right _ h)), by decide, List.mem_of_getElem? (i := 4) rfl⟩
theorem yf0_perform : (∃ Ty', wsX0_perform = Cond.code yX0_perform cX0_perform 4 (some .int) :: Ty') ∧ (yX0_perform.cls ≠ "java/lang/invoke/MethodHandle" ∧ yX0_perform.cls ≠ "java/lang/invoke/VarHandle" ∧ (parseMethodDescriptor yX0_perform.desc).map (fun d => d.parameters.length) = some 3) := ⟨⟨_, rfl⟩, by decide +kernel, by decide +kernel, by decide +kernel⟩
abbrev w0_perform (cI cJ cZ cS cT : ClassId) (a0 a_kinds a_trace : Nat) (v_number : Int32) (v_ran : Int32) (v_self : Int32) (v_kind : Int32) (v_kinds : Nat → Int32) (v_trace : Nat → Int32) : va_W := [(a0, .inr (0, [.ref a_kinds, .int v_number, .int v_ran, .ref a_trace, .int v_self, .int v_kind])), (a_kinds, .inl (cI, 50, .inl v_kinds)), (a_trace, .inl (cI, 24, .inl v_trace))]
def x0_perform (v_number : Int32) (v_ran : Int32) (v_self : Int32) (v_kind : Int32) (v_kinds : Nat → Int32) (v_trace : Nat → Int32) (p1 : Int32) (p2 : Int32) (p3 : Int32) : Option (Int32 × Int32 × Int32 × Int32 × (Nat → Int32)) :=
  (x0_has v_number p1).bind fun o1 => bif o1 then (if p2 < 0 then (some (0, 0, v_self, v_kind, v_trace)) else (if p2 < 4 then (bif inB p1 50 then ((x0_runR 64 0 p1 (v_kinds p1.toNatClampNeg) v_trace p2 (v_kinds p1.toNatClampNeg) p3 0).bind fun o2 => some (o2.1, o2.2.1, p1, (v_kinds p1.toNatClampNeg), o2.2.2)) else none) else (some (0, 0, v_self, v_kind, v_trace)))) else (some (0, 0, v_self, v_kind, v_trace))
set_option maxHeartbeats 4000000 in
set_option maxRecDepth 100000 in
theorem c0_perform (l : Launch) (D : yD) (cI cJ cZ cS cT : ClassId) (a0 a_kinds a_trace : Nat) (v_number : Int32) (v_ran : Int32) (v_self : Int32) (v_kind : Int32) (v_kinds : Nat → Int32) (v_trace : Nat → Int32) (p1 : Int32) (p2 : Int32) (p3 : Int32) (out : Int32 × Int32 × Int32 × Int32 × (Nat → Int32)) (hx : x0_perform v_number v_ran v_self v_kind v_kinds v_trace p1 p2 p3 = some out) : MC l D (yT cI cJ cZ cS cT) yX0_perform wsX0_perform ({ frames := 66, cells := 0, slots := 0, locals := 1843 } : Room) (0, 0) [.ref a0, .int p1, .int p2, .int p3] (w0_perform cI cJ cZ cS cT a0 a_kinds a_trace v_number v_ran v_self v_kind v_kinds v_trace) (POd (fun o : Int32 × Int32 × Int32 × Int32 × (Nat → Int32) => some (.int o.1)) (fun (o : Int32 × Int32 × Int32 × Int32 × (Nat → Int32)) => (w0_perform cI cJ cZ cS cT a0 a_kinds a_trace v_number o.2.1 o.2.2.1 o.2.2.2.1 v_kinds o.2.2.2.2)) out) := by
  refine MC.intro (cc := cX0_perform) (nL := 4) (ret := (some .int)) (own := RX0) (lv := [(0, .ref a0), (1, .int p1), (2, .int p2), (3, .int p3)]) (by decide) rfl rfl (Nat.le_of_ble_eq_true rfl) rfl (fun X C E => ?_)
  unfold x0_perform at hx
  refine Yaload_n C dX0_perform_0 0 rfl rfl ?_
  refine Yiconst C 0 dX0_perform_1 (by decide) ?_
  refine Yput (v := .int 0) (ws' := (w0_perform cI cJ cZ cS cT a0 a_kinds a_trace v_number 0 v_self v_kind v_kinds v_trace)) C fp0_perform_25 dX0_perform_2 0 rfl rfl rfl (Nat.le_of_ble_eq_true rfl) rfl rfl ?_
  refine Yaload_n C dX0_perform_5 0 rfl rfl ?_
  refine Yiload_n C dX0_perform_6 1 rfl rfl ?_
  obtain ⟨o1, ho1, hx⟩ := ybnd hx
  refine YcallVd (ws' := (w0_perform cI cJ cZ cS cT a0 a_kinds a_trace v_number 0 v_self v_kind v_kinds v_trace)) (st' := [.int (bI o1)]) (st := []) (as := [.int p1]) (b := a0) (ci := 0) C [0] [1, 2] 3 dX0_perform_7 (c0_has l D cI cJ cZ cS cT a0 a_kinds a_trace v_number 0 v_self v_kind p1 o1 ho1) gX0_perform_X0_has rfl ⟨yf0_has.1, yf0_has.2, Nat.le_of_ble_eq_true rfl, Nat.le_of_ble_eq_true rfl, rfl, rfl⟩ rfl 0 rfl (by decide) ⟨Nat.zero_le _, Nat.zero_le _⟩ (Nat.le_of_ble_eq_true rfl) ⟨rfl, trivial⟩ rfl rfl (by decide) (by decide) ⟨rfl, trivial⟩ [(a_kinds, .inl (cI, 50, .inl v_kinds)), (a_trace, .inl (cI, 24, .inl v_trace))] ⟨rfl, rfl, trivial⟩ ⟨rfl, rfl, trivial⟩ rfl ?_
  refine Yif_eq_b C 22 dX0_perform_10 (by decide) hx (fun _ hx => ?_) (fun _ hx => ?_)
  · skip
    refine Yiconst C 0 dX0_perform_22 (by decide) ?_
    exact Yiret C E dX0_perform_23 (ypo hx rfl rfl)
  · skip
    refine Yiload_n C dX0_perform_13 2 rfl rfl ?_
    refine Yif_lt C 22 dX0_perform_14 (by decide) hx (fun _ hx => ?_) (fun _ hx => ?_)
    · skip
      refine Yiconst C 0 dX0_perform_22 (by decide) ?_
      exact Yiret C E dX0_perform_23 (ypo hx rfl rfl)
    · skip
      refine Yiload_n C dX0_perform_17 2 rfl rfl ?_
      refine Yiconst C 4 dX0_perform_18 (by decide) ?_
      refine Yicmp_lt C 24 dX0_perform_19 (by decide) hx (fun _ hx => ?_) (fun _ hx => ?_)
      · skip
        refine Yaload_n C dX0_perform_24 0 rfl rfl ?_
        refine Yiload_n C dX0_perform_25 1 rfl rfl ?_
        refine Yput (v := .int p1) (ws' := (w0_perform cI cJ cZ cS cT a0 a_kinds a_trace v_number 0 p1 v_kind v_kinds v_trace)) C fp0_perform_32 dX0_perform_26 0 rfl rfl rfl (Nat.le_of_ble_eq_true rfl) rfl rfl ?_
        refine Yaload_n C dX0_perform_29 0 rfl rfl ?_
        refine Yaload_n C dX0_perform_30 0 rfl rfl ?_
        refine Yget C fg0_perform_9 dX0_perform_31 0 rfl rfl ?_
        refine Yiload_n C dX0_perform_34 1 rfl rfl ?_
        refine Yiald C dX0_perform_35 hx 1 0 rfl rfl (fun hx => ?_)
        refine Yput (v := .int (v_kinds p1.toNatClampNeg)) (ws' := (w0_perform cI cJ cZ cS cT a0 a_kinds a_trace v_number 0 p1 (v_kinds p1.toNatClampNeg) v_kinds v_trace)) C fp0_perform_35 dX0_perform_36 0 rfl rfl rfl (Nat.le_of_ble_eq_true rfl) rfl rfl ?_
        refine Yaload_n C dX0_perform_39 0 rfl rfl ?_
        refine Yiload_n C dX0_perform_40 2 rfl rfl ?_
        refine Yaload_n C dX0_perform_41 0 rfl rfl ?_
        refine Yget C fg0_perform_35 dX0_perform_42 0 rfl rfl ?_
        refine Yiload_n C dX0_perform_45 3 rfl rfl ?_
        refine Yiconst C 0 dX0_perform_46 (by decide) ?_
        obtain ⟨o2, ho2, hx⟩ := ybnd hx
        refine YcallVd (ws' := (w0_perform cI cJ cZ cS cT a0 a_kinds a_trace v_number o2.2.1 p1 (v_kinds p1.toNatClampNeg) v_kinds o2.2.2)) (st' := [.int o2.1]) (st := []) (as := [.int p2, .int (v_kinds p1.toNatClampNeg), .int p3, .int 0]) (b := a0) (ci := 0) C [0, 2] [1] 3 dX0_perform_47 (c0_run l D cI cJ cZ cS cT 64 a0 a_trace a_kinds v_number 0 p1 (v_kinds p1.toNatClampNeg) v_trace p2 (v_kinds p1.toNatClampNeg) p3 0 o2 ho2) gX0_perform_X0_run rfl ⟨yf0_run.1, yf0_run.2, Nat.le_of_ble_eq_true rfl, Nat.le_of_ble_eq_true rfl, rfl, rfl⟩ rfl 0 rfl (by decide) ⟨Nat.zero_le _, Nat.zero_le _⟩ (Nat.le_of_ble_eq_true rfl) ⟨rfl, rfl, trivial⟩ rfl rfl (by decide) (by decide) ⟨rfl, rfl, trivial⟩ [(a_kinds, .inl (cI, 50, .inl v_kinds))] ⟨rfl, trivial⟩ ⟨rfl, trivial⟩ rfl ?_
        exact Yiret C E dX0_perform_50 (ypo hx rfl rfl)
      · skip
        refine Yiconst C 0 dX0_perform_22 (by decide) ?_
        exact Yiret C E dX0_perform_23 (ypo hx rfl rfl)
theorem fg0_traced_25 : YF wsX0_traced RX0 25 0 2 := ⟨RX0, TX0, 6, rfl, (fun w h => List.mem_cons_of_mem _ (List.mem_append_right _ h)), by decide, List.mem_of_getElem? (i := 1) rfl⟩
theorem fg0_traced_15 : YF wsX0_traced RX0 15 0 3 := ⟨RX0, TX0, 6, rfl, (fun w h => List.mem_cons_of_mem _ (List.mem_append_right _ h)), by decide, List.mem_of_getElem? (i := 2) rfl⟩
theorem yf0_traced : (∃ Ty', wsX0_traced = Cond.code yX0_traced cX0_traced 2 (some .int) :: Ty') ∧ (yX0_traced.cls ≠ "java/lang/invoke/MethodHandle" ∧ yX0_traced.cls ≠ "java/lang/invoke/VarHandle" ∧ (parseMethodDescriptor yX0_traced.desc).map (fun d => d.parameters.length) = some 1) := ⟨⟨_, rfl⟩, by decide +kernel, by decide +kernel, by decide +kernel⟩
abbrev w0_traced (cI cJ cZ cS cT : ClassId) (a0 a_trace a_kinds : Nat) (v_number : Int32) (v_ran : Int32) (v_self : Int32) (v_kind : Int32) (v_trace : Nat → Int32) : va_W := [(a0, .inr (0, [.ref a_kinds, .int v_number, .int v_ran, .ref a_trace, .int v_self, .int v_kind])), (a_trace, .inl (cI, 24, .inl v_trace))]
def x0_traced (v_ran : Int32) (v_trace : Nat → Int32) (p1 : Int32) : Option (Int32) :=
  if p1 < 0 then (some ((-1))) else (if v_ran ≤ p1 then (some ((-1))) else (if 24 ≤ p1 then (some ((-1))) else (bif inB p1 24 then (some ((v_trace p1.toNatClampNeg))) else none)))
set_option maxHeartbeats 4000000 in
set_option maxRecDepth 100000 in
theorem c0_traced (l : Launch) (D : yD) (cI cJ cZ cS cT : ClassId) (a0 a_trace a_kinds : Nat) (v_number : Int32) (v_ran : Int32) (v_self : Int32) (v_kind : Int32) (v_trace : Nat → Int32) (p1 : Int32) (out : Int32) (hx : x0_traced v_ran v_trace p1 = some out) : MC l D (yT cI cJ cZ cS cT) yX0_traced wsX0_traced ({ frames := 0, cells := 0, slots := 0, locals := 0 } : Room) (0, 0) [.ref a0, .int p1] (w0_traced cI cJ cZ cS cT a0 a_trace a_kinds v_number v_ran v_self v_kind v_trace) (POd (fun o : Int32 => some (.int o)) (fun (o : Int32) => (w0_traced cI cJ cZ cS cT a0 a_trace a_kinds v_number v_ran v_self v_kind v_trace)) out) := by
  refine MC.intro (cc := cX0_traced) (nL := 2) (ret := (some .int)) (own := RX0) (lv := [(0, .ref a0), (1, .int p1)]) (by decide) rfl rfl (Nat.le_of_ble_eq_true rfl) rfl (fun X C E => ?_)
  unfold x0_traced at hx
  refine Yiload_n C dX0_traced_0 1 rfl rfl ?_
  refine Yif_lt C 27 dX0_traced_1 (by decide) hx (fun _ hx => ?_) (fun _ hx => ?_)
  · skip
    refine Yiconst C (-1) dX0_traced_27 (by decide) ?_
    exact Yiret C E dX0_traced_28 (ypo hx rfl rfl)
  · skip
    refine Yiload_n C dX0_traced_4 1 rfl rfl ?_
    refine Yaload_n C dX0_traced_5 0 rfl rfl ?_
    refine Yget C fg0_traced_25 dX0_traced_6 0 rfl rfl ?_
    refine Yicmp_ge C 27 dX0_traced_9 (by decide) hx (fun _ hx => ?_) (fun _ hx => ?_)
    · skip
      refine Yiconst C (-1) dX0_traced_27 (by decide) ?_
      exact Yiret C E dX0_traced_28 (ypo hx rfl rfl)
    · skip
      refine Yiload_n C dX0_traced_12 1 rfl rfl ?_
      refine Ybipush C 24 dX0_traced_13 (by decide) ?_
      refine Yicmp_ge C 27 dX0_traced_15 (by decide) hx (fun _ hx => ?_) (fun _ hx => ?_)
      · skip
        refine Yiconst C (-1) dX0_traced_27 (by decide) ?_
        exact Yiret C E dX0_traced_28 (ypo hx rfl rfl)
      · skip
        refine Yaload_n C dX0_traced_18 0 rfl rfl ?_
        refine Yget C fg0_traced_15 dX0_traced_19 0 rfl rfl ?_
        refine Yiload_n C dX0_traced_22 1 rfl rfl ?_
        refine Yiald C dX0_traced_23 hx 1 0 rfl rfl (fun hx => ?_)
        refine Ygoto C 28 dX0_traced_24 (by decide) ?_
        exact Yiret C E dX0_traced_28 (ypo hx rfl rfl)
