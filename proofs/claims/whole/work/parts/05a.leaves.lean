theorem yfj7_fill_53178 : (∃ Ty', wsJ7_fill_53178 = Cond.code yJ7_fill_53178 cJ7_fill_53178 4 none :: Ty') ∧ (yJ7_fill_53178.cls ≠ "java/lang/invoke/MethodHandle" ∧ yJ7_fill_53178.cls ≠ "java/lang/invoke/VarHandle" ∧ (parseMethodDescriptor yJ7_fill_53178.desc).map (fun d => d.parameters.length) = some 2) := ⟨⟨_, rfl⟩, by decide +kernel, by decide +kernel, by decide +kernel⟩
abbrev wj7_fill_53178 (cI cJ cZ cS cT : ClassId) (a_p0 : Nat) (v_p0 : Nat → Int32) : va_W := [(a_p0, .inl (cI, 8, .inl v_p0))]
def xj7_fill_53178_5  (p1 : Int32) (l3 : Int32) : Nat → (Nat → Int32) → Int32 → Option ((Nat → Int32))
  | 0, _, _ => none
  | n + 1, v_p0, l2 =>
    if l3 ≤ l2 then (some (v_p0)) else (bif inB l2 8 then (xj7_fill_53178_5 p1 l3 n (upd v_p0 l2.toNatClampNeg p1) (l2 + 1)) else none)
def xj7_fill_53178 (v_p0 : Nat → Int32) (p1 : Int32) : Option ((Nat → Int32)) :=
  xj7_fill_53178_5  p1 8 yN v_p0 0
set_option maxHeartbeats 4000000 in
set_option maxRecDepth 100000 in
theorem cj7_fill_53178 (l : Launch) (D : yD) (cI cJ cZ cS cT : ClassId) (a_p0 : Nat) (v_p0 : Nat → Int32) (p1 : Int32) (out : (Nat → Int32)) (hx : xj7_fill_53178 v_p0 p1 = some out) : MC l D (yT cI cJ cZ cS cT) yJ7_fill_53178 wsJ7_fill_53178 ({ frames := 0, cells := 0, slots := 0, locals := 0 } : Room) (0, 0) [.ref a_p0, .int p1] (wj7_fill_53178 cI cJ cZ cS cT a_p0 v_p0) (POd (fun o : (Nat → Int32) => none) (fun (o : (Nat → Int32)) => (wj7_fill_53178 cI cJ cZ cS cT a_p0 o)) out) := by
  refine MC.intro (cc := cJ7_fill_53178) (nL := 4) (ret := none) (own := RJ7) (lv := [(0, .ref a_p0), (1, .int p1)]) (by decide) rfl rfl (Nat.le_of_ble_eq_true rfl) rfl (fun X C E => ?_)
  unfold xj7_fill_53178 at hx
  have b5 : ∀ (l3 : Int32), ∀ (n5 : Nat) (v_p0 : Nat → Int32) (l2 : Int32), xj7_fill_53178_5  p1 l3 n5 v_p0 l2 = some out → Y X (0, 0) (wj7_fill_53178 cI cJ cZ cS cT a_p0 v_p0) [(0, .ref a_p0), (1, .int p1), (2, .int l2), (3, .int l3)] 5 [] := by
    intro l3
    intro n5
    induction n5 with
    | zero =>
      intro v_p0 l2  hx
      rw [xj7_fill_53178_5] at hx
      cases hx
    | succ n5 ih5 =>
      intro v_p0 l2  hx
      rw [xj7_fill_53178_5] at hx
      refine Yiload_n C dJ7_fill_53178_5 2 rfl rfl ?_
      refine Yiload_n C dJ7_fill_53178_6 3 rfl rfl ?_
      refine Yicmp_ge C 20 dJ7_fill_53178_7 (by decide) hx (fun _ hx => ?_) (fun _ hx => ?_)
      · skip
        exact Yvret C E dJ7_fill_53178_20 (ypo hx rfl rfl)
      · skip
        refine Yaload_n C dJ7_fill_53178_10 0 rfl rfl ?_
        refine Yiload_n C dJ7_fill_53178_11 2 rfl rfl ?_
        refine Yiload_n C dJ7_fill_53178_12 1 rfl rfl ?_
        refine Yiast (ws' := (wj7_fill_53178 cI cJ cZ cS cT a_p0 (upd v_p0 l2.toNatClampNeg p1))) C dJ7_fill_53178_13 hx 0 0 rfl rfl rfl (fun hx => ?_)
        refine Yiinc (v := l2 + 1) (lv' := [(0, .ref a_p0), (1, .int p1), (2, .int (l2 + 1)), (3, .int l3)]) C dJ7_fill_53178_14 2 rfl rfl (by decide) rfl ?_
        refine Ygoto C 5 dJ7_fill_53178_17 (by decide) ?_
        exact ih5 (upd v_p0 l2.toNatClampNeg p1) (l2 + 1) hx
  refine Yiconst C 0 dJ7_fill_53178_0 (by decide) ?_
  refine Yistore_n (lv' := [(0, .ref a_p0), (1, .int p1), (2, .int 0)]) C dJ7_fill_53178_1 rfl (by decide) rfl ?_
  refine Yaload_n C dJ7_fill_53178_2 0 rfl rfl ?_
  refine Yalen (v := 8) C dJ7_fill_53178_3 0 0 rfl rfl rfl ?_
  refine Yistore_n (lv' := [(0, .ref a_p0), (1, .int p1), (2, .int 0), (3, .int 8)]) C dJ7_fill_53178_4 rfl (by decide) rfl ?_
  exact b5 8 yN v_p0 0 hx
theorem yfj7_fill_d0a16 : (∃ Ty', wsJ7_fill_d0a16 = Cond.code yJ7_fill_d0a16 cJ7_fill_d0a16 5 none :: Ty') ∧ (yJ7_fill_d0a16.cls ≠ "java/lang/invoke/MethodHandle" ∧ yJ7_fill_d0a16.cls ≠ "java/lang/invoke/VarHandle" ∧ (parseMethodDescriptor yJ7_fill_d0a16.desc).map (fun d => d.parameters.length) = some 2) := ⟨⟨_, rfl⟩, by decide +kernel, by decide +kernel, by decide +kernel⟩
abbrev wj7_fill_d0a16 (cI cJ cZ cS cT : ClassId) (a_p0 : Nat) (v_p0 : Nat → Int64) : va_W := [(a_p0, .inl (cJ, 60, .inr (.inl v_p0)))]
def xj7_fill_d0a16_6  (p1 : Int64) (l4 : Int32) : Nat → (Nat → Int64) → Int32 → Option ((Nat → Int64))
  | 0, _, _ => none
  | n + 1, v_p0, l3 =>
    if l4 ≤ l3 then (some (v_p0)) else (bif inB l3 60 then (xj7_fill_d0a16_6 p1 l4 n (vp_updL v_p0 l3.toNatClampNeg p1) (l3 + 1)) else none)
def xj7_fill_d0a16 (v_p0 : Nat → Int64) (p1 : Int64) : Option ((Nat → Int64)) :=
  xj7_fill_d0a16_6  p1 60 yN v_p0 0
set_option maxHeartbeats 4000000 in
set_option maxRecDepth 100000 in
theorem cj7_fill_d0a16 (l : Launch) (D : yD) (cI cJ cZ cS cT : ClassId) (a_p0 : Nat) (v_p0 : Nat → Int64) (p1 : Int64) (out : (Nat → Int64)) (hx : xj7_fill_d0a16 v_p0 p1 = some out) : MC l D (yT cI cJ cZ cS cT) yJ7_fill_d0a16 wsJ7_fill_d0a16 ({ frames := 0, cells := 0, slots := 0, locals := 0 } : Room) (0, 0) [.ref a_p0, .long p1] (wj7_fill_d0a16 cI cJ cZ cS cT a_p0 v_p0) (POd (fun o : (Nat → Int64) => none) (fun (o : (Nat → Int64)) => (wj7_fill_d0a16 cI cJ cZ cS cT a_p0 o)) out) := by
  refine MC.intro (cc := cJ7_fill_d0a16) (nL := 5) (ret := none) (own := RJ7) (lv := [(0, .ref a_p0), (1, .long p1)]) (by decide) rfl rfl (Nat.le_of_ble_eq_true rfl) rfl (fun X C E => ?_)
  unfold xj7_fill_d0a16 at hx
  have b6 : ∀ (l4 : Int32), ∀ (n6 : Nat) (v_p0 : Nat → Int64) (l3 : Int32), xj7_fill_d0a16_6  p1 l4 n6 v_p0 l3 = some out → Y X (0, 0) (wj7_fill_d0a16 cI cJ cZ cS cT a_p0 v_p0) [(0, .ref a_p0), (1, .long p1), (3, .int l3), (4, .int l4)] 6 [] := by
    intro l4
    intro n6
    induction n6 with
    | zero =>
      intro v_p0 l3  hx
      rw [xj7_fill_d0a16_6] at hx
      cases hx
    | succ n6 ih6 =>
      intro v_p0 l3  hx
      rw [xj7_fill_d0a16_6] at hx
      refine Yiload_n C dJ7_fill_d0a16_6 2 rfl rfl ?_
      refine Yiload C dJ7_fill_d0a16_7 3 rfl ?_
      refine Yicmp_ge C 22 dJ7_fill_d0a16_9 (by decide) hx (fun _ hx => ?_) (fun _ hx => ?_)
      · skip
        exact Yvret C E dJ7_fill_d0a16_22 (ypo hx rfl rfl)
      · skip
        refine Yaload_n C dJ7_fill_d0a16_12 0 rfl rfl ?_
        refine Yiload_n C dJ7_fill_d0a16_13 2 rfl rfl ?_
        refine Ylload_n C dJ7_fill_d0a16_14 1 rfl rfl ?_
        refine Ylast (ws' := (wj7_fill_d0a16 cI cJ cZ cS cT a_p0 (vp_updL v_p0 l3.toNatClampNeg p1))) C dJ7_fill_d0a16_15 hx 0 1 rfl rfl rfl (fun hx => ?_)
        refine Yiinc (v := l3 + 1) (lv' := [(0, .ref a_p0), (1, .long p1), (3, .int (l3 + 1)), (4, .int l4)]) C dJ7_fill_d0a16_16 2 rfl rfl (by decide) rfl ?_
        refine Ygoto C 6 dJ7_fill_d0a16_19 (by decide) ?_
        exact ih6 (vp_updL v_p0 l3.toNatClampNeg p1) (l3 + 1) hx
  refine Yiconst C 0 dJ7_fill_d0a16_0 (by decide) ?_
  refine Yistore_n (lv' := [(0, .ref a_p0), (1, .long p1), (3, .int 0)]) C dJ7_fill_d0a16_1 rfl (by decide) rfl ?_
  refine Yaload_n C dJ7_fill_d0a16_2 0 rfl rfl ?_
  refine Yalen (v := 60) C dJ7_fill_d0a16_3 0 1 rfl rfl rfl ?_
  refine Yistore (lv' := [(0, .ref a_p0), (1, .long p1), (3, .int 0), (4, .int 60)]) C dJ7_fill_d0a16_4 (by decide) rfl ?_
  exact b6 60 yN v_p0 0 hx
theorem fg3_hasPlace_36 : YF wsX3_hasPlace RX3 36 3 0 := ⟨RX3, TX3, 10, rfl, (fun w h => List.mem_cons_of_mem _ (List.mem_append_right _ h)), by decide, List.mem_of_getElem? (i := 1) rfl⟩
theorem yf3_hasPlace : (∃ Ty', wsX3_hasPlace = Cond.code yX3_hasPlace cX3_hasPlace 2 (some .boolean) :: Ty') ∧ (yX3_hasPlace.cls ≠ "java/lang/invoke/MethodHandle" ∧ yX3_hasPlace.cls ≠ "java/lang/invoke/VarHandle" ∧ (parseMethodDescriptor yX3_hasPlace.desc).map (fun d => d.parameters.length) = some 1) := ⟨⟨_, rfl⟩, by decide +kernel, by decide +kernel, by decide +kernel⟩
abbrev w3_hasPlace (cI cJ cZ cS cT : ClassId) (a0 a_room a_pumps a_from a_to a_flow a_minutes a_danger a_foot : Nat) (v_places : Int32) (v_roads : Int32) : va_W := [(a0, .inr (3, [.int v_places, .int v_roads, .ref a_room, .ref a_pumps, .ref a_from, .ref a_to, .ref a_flow, .ref a_minutes, .ref a_danger, .ref a_foot]))]
def x3_hasPlace (v_places : Int32) (p1 : Int32) : Option (Bool) :=
  if p1 < 0 then (some (false)) else (if v_places ≤ p1 then (some (false)) else (if 8 ≤ p1 then (some (false)) else (some (true))))
set_option maxHeartbeats 4000000 in
set_option maxRecDepth 100000 in
theorem c3_hasPlace (l : Launch) (D : yD) (cI cJ cZ cS cT : ClassId) (a0 a_room a_pumps a_from a_to a_flow a_minutes a_danger a_foot : Nat) (v_places : Int32) (v_roads : Int32) (p1 : Int32) (out : Bool) (hx : x3_hasPlace v_places p1 = some out) : MC l D (yT cI cJ cZ cS cT) yX3_hasPlace wsX3_hasPlace ({ frames := 0, cells := 0, slots := 0, locals := 0 } : Room) (0, 0) [.ref a0, .int p1] (w3_hasPlace cI cJ cZ cS cT a0 a_room a_pumps a_from a_to a_flow a_minutes a_danger a_foot v_places v_roads) (POd (fun o : Bool => some (.int (bI o))) (fun (o : Bool) => (w3_hasPlace cI cJ cZ cS cT a0 a_room a_pumps a_from a_to a_flow a_minutes a_danger a_foot v_places v_roads)) out) := by
  refine MC.intro (cc := cX3_hasPlace) (nL := 2) (ret := (some .boolean)) (own := RX3) (lv := [(0, .ref a0), (1, .int p1)]) (by decide) rfl rfl (Nat.le_of_ble_eq_true rfl) rfl (fun X C E => ?_)
  unfold x3_hasPlace at hx
  refine Yiload_n C dX3_hasPlace_0 1 rfl rfl ?_
  refine Yif_lt C 22 dX3_hasPlace_1 (by decide) hx (fun _ hx => ?_) (fun _ hx => ?_)
  · skip
    refine Yiconst C 0 dX3_hasPlace_22 (by decide) ?_
    exact Yzret (b := false) C E dX3_hasPlace_23 (ypo hx rfl rfl)
  · skip
    refine Yiload_n C dX3_hasPlace_4 1 rfl rfl ?_
    refine Yaload_n C dX3_hasPlace_5 0 rfl rfl ?_
    refine Yget C fg3_hasPlace_36 dX3_hasPlace_6 0 rfl rfl ?_
    refine Yicmp_ge C 22 dX3_hasPlace_9 (by decide) hx (fun _ hx => ?_) (fun _ hx => ?_)
    · skip
      refine Yiconst C 0 dX3_hasPlace_22 (by decide) ?_
      exact Yzret (b := false) C E dX3_hasPlace_23 (ypo hx rfl rfl)
    · skip
      refine Yiload_n C dX3_hasPlace_12 1 rfl rfl ?_
      refine Ybipush C 8 dX3_hasPlace_13 (by decide) ?_
      refine Yicmp_ge C 22 dX3_hasPlace_15 (by decide) hx (fun _ hx => ?_) (fun _ hx => ?_)
      · skip
        refine Yiconst C 0 dX3_hasPlace_22 (by decide) ?_
        exact Yzret (b := false) C E dX3_hasPlace_23 (ypo hx rfl rfl)
      · skip
        refine Yiconst C 1 dX3_hasPlace_18 (by decide) ?_
        refine Ygoto C 23 dX3_hasPlace_19 (by decide) ?_
        exact Yzret (b := true) C E dX3_hasPlace_23 (ypo hx rfl rfl)
theorem fg3_hasRoad_40 : YF wsX3_hasRoad RX3 40 3 1 := ⟨RX3, TX3, 10, rfl, (fun w h => List.mem_cons_of_mem _ (List.mem_append_right _ h)), by decide, List.mem_of_getElem? (i := 1) rfl⟩
theorem yf3_hasRoad : (∃ Ty', wsX3_hasRoad = Cond.code yX3_hasRoad cX3_hasRoad 2 (some .boolean) :: Ty') ∧ (yX3_hasRoad.cls ≠ "java/lang/invoke/MethodHandle" ∧ yX3_hasRoad.cls ≠ "java/lang/invoke/VarHandle" ∧ (parseMethodDescriptor yX3_hasRoad.desc).map (fun d => d.parameters.length) = some 1) := ⟨⟨_, rfl⟩, by decide +kernel, by decide +kernel, by decide +kernel⟩
abbrev w3_hasRoad (cI cJ cZ cS cT : ClassId) (a0 a_room a_pumps a_from a_to a_flow a_minutes a_danger a_foot : Nat) (v_places : Int32) (v_roads : Int32) : va_W := [(a0, .inr (3, [.int v_places, .int v_roads, .ref a_room, .ref a_pumps, .ref a_from, .ref a_to, .ref a_flow, .ref a_minutes, .ref a_danger, .ref a_foot]))]
def x3_hasRoad (v_roads : Int32) (p1 : Int32) : Option (Bool) :=
  if p1 < 0 then (some (false)) else (if v_roads ≤ p1 then (some (false)) else (if 16 ≤ p1 then (some (false)) else (some (true))))
set_option maxHeartbeats 4000000 in
set_option maxRecDepth 100000 in
theorem c3_hasRoad (l : Launch) (D : yD) (cI cJ cZ cS cT : ClassId) (a0 a_room a_pumps a_from a_to a_flow a_minutes a_danger a_foot : Nat) (v_places : Int32) (v_roads : Int32) (p1 : Int32) (out : Bool) (hx : x3_hasRoad v_roads p1 = some out) : MC l D (yT cI cJ cZ cS cT) yX3_hasRoad wsX3_hasRoad ({ frames := 0, cells := 0, slots := 0, locals := 0 } : Room) (0, 0) [.ref a0, .int p1] (w3_hasRoad cI cJ cZ cS cT a0 a_room a_pumps a_from a_to a_flow a_minutes a_danger a_foot v_places v_roads) (POd (fun o : Bool => some (.int (bI o))) (fun (o : Bool) => (w3_hasRoad cI cJ cZ cS cT a0 a_room a_pumps a_from a_to a_flow a_minutes a_danger a_foot v_places v_roads)) out) := by
  refine MC.intro (cc := cX3_hasRoad) (nL := 2) (ret := (some .boolean)) (own := RX3) (lv := [(0, .ref a0), (1, .int p1)]) (by decide) rfl rfl (Nat.le_of_ble_eq_true rfl) rfl (fun X C E => ?_)
  unfold x3_hasRoad at hx
  refine Yiload_n C dX3_hasRoad_0 1 rfl rfl ?_
  refine Yif_lt C 22 dX3_hasRoad_1 (by decide) hx (fun _ hx => ?_) (fun _ hx => ?_)
  · skip
    refine Yiconst C 0 dX3_hasRoad_22 (by decide) ?_
    exact Yzret (b := false) C E dX3_hasRoad_23 (ypo hx rfl rfl)
  · skip
    refine Yiload_n C dX3_hasRoad_4 1 rfl rfl ?_
    refine Yaload_n C dX3_hasRoad_5 0 rfl rfl ?_
    refine Yget C fg3_hasRoad_40 dX3_hasRoad_6 0 rfl rfl ?_
    refine Yicmp_ge C 22 dX3_hasRoad_9 (by decide) hx (fun _ hx => ?_) (fun _ hx => ?_)
    · skip
      refine Yiconst C 0 dX3_hasRoad_22 (by decide) ?_
      exact Yzret (b := false) C E dX3_hasRoad_23 (ypo hx rfl rfl)
    · skip
      refine Yiload_n C dX3_hasRoad_12 1 rfl rfl ?_
      refine Ybipush C 16 dX3_hasRoad_13 (by decide) ?_
      refine Yicmp_ge C 22 dX3_hasRoad_15 (by decide) hx (fun _ hx => ?_) (fun _ hx => ?_)
      · skip
        refine Yiconst C 0 dX3_hasRoad_22 (by decide) ?_
        exact Yzret (b := false) C E dX3_hasRoad_23 (ypo hx rfl rfl)
      · skip
        refine Yiconst C 1 dX3_hasRoad_18 (by decide) ?_
        refine Ygoto C 23 dX3_hasRoad_19 (by decide) ?_
        exact Yzret (b := true) C E dX3_hasRoad_23 (ypo hx rfl rfl)
theorem yf3_hasPair : (∃ Ty', wsX3_hasPair = Cond.code yX3_hasPair cX3_hasPair 2 (some .boolean) :: Ty') ∧ (yX3_hasPair.cls ≠ "java/lang/invoke/MethodHandle" ∧ yX3_hasPair.cls ≠ "java/lang/invoke/VarHandle" ∧ (parseMethodDescriptor yX3_hasPair.desc).map (fun d => d.parameters.length) = some 1) := ⟨⟨_, rfl⟩, by decide +kernel, by decide +kernel, by decide +kernel⟩
abbrev w3_hasPair (cI cJ cZ cS cT : ClassId) (a0 a_room a_pumps a_from a_to a_flow a_minutes a_danger a_foot : Nat) (v_places : Int32) (v_roads : Int32) : va_W := [(a0, .inr (3, [.int v_places, .int v_roads, .ref a_room, .ref a_pumps, .ref a_from, .ref a_to, .ref a_flow, .ref a_minutes, .ref a_danger, .ref a_foot]))]
def x3_hasPair (v_places : Int32) (p1 : Int32) : Option (Bool) :=
  if p1 < 0 then (some (false)) else ((x3_hasPlace v_places (p1 / 10)).bind fun o1 => bif o1 then ((x3_hasPlace v_places (p1 - p1 / 10 * 10)).bind fun o2 => bif o2 then (some (true)) else (some (false))) else (some (false)))
set_option maxHeartbeats 4000000 in
set_option maxRecDepth 100000 in
theorem c3_hasPair (l : Launch) (D : yD) (cI cJ cZ cS cT : ClassId) (a0 a_room a_pumps a_from a_to a_flow a_minutes a_danger a_foot : Nat) (v_places : Int32) (v_roads : Int32) (p1 : Int32) (out : Bool) (hx : x3_hasPair v_places p1 = some out) : MC l D (yT cI cJ cZ cS cT) yX3_hasPair wsX3_hasPair ({ frames := 1, cells := 0, slots := 0, locals := 21 } : Room) (0, 0) [.ref a0, .int p1] (w3_hasPair cI cJ cZ cS cT a0 a_room a_pumps a_from a_to a_flow a_minutes a_danger a_foot v_places v_roads) (POd (fun o : Bool => some (.int (bI o))) (fun (o : Bool) => (w3_hasPair cI cJ cZ cS cT a0 a_room a_pumps a_from a_to a_flow a_minutes a_danger a_foot v_places v_roads)) out) := by
  refine MC.intro (cc := cX3_hasPair) (nL := 2) (ret := (some .boolean)) (own := RX3) (lv := [(0, .ref a0), (1, .int p1)]) (by decide) rfl rfl (Nat.le_of_ble_eq_true rfl) rfl (fun X C E => ?_)
  unfold x3_hasPair at hx
  refine Yiload_n C dX3_hasPair_0 1 rfl rfl ?_
  refine Yif_lt C 30 dX3_hasPair_1 (by decide) hx (fun _ hx => ?_) (fun _ hx => ?_)
  · skip
    refine Yiconst C 0 dX3_hasPair_30 (by decide) ?_
    exact Yzret (b := false) C E dX3_hasPair_31 (ypo hx rfl rfl)
  · skip
    refine Yaload_n C dX3_hasPair_4 0 rfl rfl ?_
    refine Yiload_n C dX3_hasPair_5 1 rfl rfl ?_
    refine Ybipush C 10 dX3_hasPair_6 (by decide) ?_
    refine Yidiv C dX3_hasPair_8 (by decide) ?_
    obtain ⟨o1, ho1, hx⟩ := ybnd hx
    refine YcallVd (ws' := (w3_hasPair cI cJ cZ cS cT a0 a_room a_pumps a_from a_to a_flow a_minutes a_danger a_foot v_places v_roads)) (st' := [.int (bI o1)]) (st := []) (as := [.int (p1 / 10)]) (b := a0) (ci := 3) C [0] [] 1 dX3_hasPair_9 (c3_hasPlace l D cI cJ cZ cS cT a0 a_room a_pumps a_from a_to a_flow a_minutes a_danger a_foot v_places v_roads (p1 / 10) o1 ho1) gX3_hasPair_X3_hasPlace rfl ⟨yf3_hasPlace.1, yf3_hasPlace.2, Nat.le_of_ble_eq_true rfl, Nat.le_of_ble_eq_true rfl, rfl, rfl⟩ rfl 0 rfl (by decide) ⟨Nat.zero_le _, Nat.zero_le _⟩ (Nat.le_of_ble_eq_true rfl) ⟨rfl, trivial⟩ rfl rfl (by decide) (by decide) ⟨rfl, trivial⟩ [] trivial trivial rfl ?_
    refine Yif_eq_b C 30 dX3_hasPair_12 (by decide) hx (fun _ hx => ?_) (fun _ hx => ?_)
    · skip
      refine Yiconst C 0 dX3_hasPair_30 (by decide) ?_
      exact Yzret (b := false) C E dX3_hasPair_31 (ypo hx rfl rfl)
    · skip
      refine Yaload_n C dX3_hasPair_15 0 rfl rfl ?_
      refine Yiload_n C dX3_hasPair_16 1 rfl rfl ?_
      refine Ybipush C 10 dX3_hasPair_17 (by decide) ?_
      refine Yirem C dX3_hasPair_19 (by decide) ?_
      obtain ⟨o2, ho2, hx⟩ := ybnd hx
      refine YcallVd (ws' := (w3_hasPair cI cJ cZ cS cT a0 a_room a_pumps a_from a_to a_flow a_minutes a_danger a_foot v_places v_roads)) (st' := [.int (bI o2)]) (st := []) (as := [.int (p1 - p1 / 10 * 10)]) (b := a0) (ci := 3) C [0] [] 1 dX3_hasPair_20 (c3_hasPlace l D cI cJ cZ cS cT a0 a_room a_pumps a_from a_to a_flow a_minutes a_danger a_foot v_places v_roads (p1 - p1 / 10 * 10) o2 ho2) gX3_hasPair_X3_hasPlace rfl ⟨yf3_hasPlace.1, yf3_hasPlace.2, Nat.le_of_ble_eq_true rfl, Nat.le_of_ble_eq_true rfl, rfl, rfl⟩ rfl 0 rfl (by decide) ⟨Nat.zero_le _, Nat.zero_le _⟩ (Nat.le_of_ble_eq_true rfl) ⟨rfl, trivial⟩ rfl rfl (by decide) (by decide) ⟨rfl, trivial⟩ [] trivial trivial rfl ?_
      refine Yif_eq_b C 30 dX3_hasPair_23 (by decide) hx (fun _ hx => ?_) (fun _ hx => ?_)
      · skip
        refine Yiconst C 0 dX3_hasPair_30 (by decide) ?_
        exact Yzret (b := false) C E dX3_hasPair_31 (ypo hx rfl rfl)
      · skip
        refine Yiconst C 1 dX3_hasPair_26 (by decide) ?_
        refine Ygoto C 31 dX3_hasPair_27 (by decide) ?_
        exact Yzret (b := true) C E dX3_hasPair_31 (ypo hx rfl rfl)
theorem fg3_flowOf_24 : YF wsX3_flowOf RX3 24 3 6 := ⟨RX3, TX3, 10, rfl, (fun w h => List.mem_cons_of_mem _ (List.mem_append_right _ h)), by decide, List.mem_of_getElem? (i := 1) rfl⟩
theorem yf3_flowOf : (∃ Ty', wsX3_flowOf = Cond.code yX3_flowOf cX3_flowOf 2 (some .int) :: Ty') ∧ (yX3_flowOf.cls ≠ "java/lang/invoke/MethodHandle" ∧ yX3_flowOf.cls ≠ "java/lang/invoke/VarHandle" ∧ (parseMethodDescriptor yX3_flowOf.desc).map (fun d => d.parameters.length) = some 1) := ⟨⟨_, rfl⟩, by decide +kernel, by decide +kernel, by decide +kernel⟩
abbrev w3_flowOf (cI cJ cZ cS cT : ClassId) (a0 a_flow a_room a_pumps a_from a_to a_minutes a_danger a_foot : Nat) (v_places : Int32) (v_roads : Int32) (v_flow : Nat → Int32) : va_W := [(a0, .inr (3, [.int v_places, .int v_roads, .ref a_room, .ref a_pumps, .ref a_from, .ref a_to, .ref a_flow, .ref a_minutes, .ref a_danger, .ref a_foot])), (a_flow, .inl (cI, 16, .inl v_flow))]
def x3_flowOf (v_flow : Nat → Int32) (p1 : Int32) : Option (Int32) :=
  if p1 < 0 then (some (0)) else (if 16 ≤ p1 then (some (0)) else (bif inB p1 16 then (some ((v_flow p1.toNatClampNeg))) else none))
set_option maxHeartbeats 4000000 in
set_option maxRecDepth 100000 in
theorem c3_flowOf (l : Launch) (D : yD) (cI cJ cZ cS cT : ClassId) (a0 a_flow a_room a_pumps a_from a_to a_minutes a_danger a_foot : Nat) (v_places : Int32) (v_roads : Int32) (v_flow : Nat → Int32) (p1 : Int32) (out : Int32) (hx : x3_flowOf v_flow p1 = some out) : MC l D (yT cI cJ cZ cS cT) yX3_flowOf wsX3_flowOf ({ frames := 0, cells := 0, slots := 0, locals := 0 } : Room) (0, 0) [.ref a0, .int p1] (w3_flowOf cI cJ cZ cS cT a0 a_flow a_room a_pumps a_from a_to a_minutes a_danger a_foot v_places v_roads v_flow) (POd (fun o : Int32 => some (.int o)) (fun (o : Int32) => (w3_flowOf cI cJ cZ cS cT a0 a_flow a_room a_pumps a_from a_to a_minutes a_danger a_foot v_places v_roads v_flow)) out) := by
  refine MC.intro (cc := cX3_flowOf) (nL := 2) (ret := (some .int)) (own := RX3) (lv := [(0, .ref a0), (1, .int p1)]) (by decide) rfl rfl (Nat.le_of_ble_eq_true rfl) rfl (fun X C E => ?_)
  unfold x3_flowOf at hx
  refine Yiload_n C dX3_flowOf_0 1 rfl rfl ?_
  refine Yif_lt C 22 dX3_flowOf_1 (by decide) hx (fun _ hx => ?_) (fun _ hx => ?_)
  · skip
    refine Yiconst C 0 dX3_flowOf_22 (by decide) ?_
    exact Yiret C E dX3_flowOf_23 (ypo hx rfl rfl)
  · skip
    refine Yiload_n C dX3_flowOf_4 1 rfl rfl ?_
    refine Yaload_n C dX3_flowOf_5 0 rfl rfl ?_
    refine Yget C fg3_flowOf_24 dX3_flowOf_6 0 rfl rfl ?_
    refine Yalen (v := 16) C dX3_flowOf_9 1 0 rfl rfl rfl ?_
    refine Yicmp_ge C 22 dX3_flowOf_10 (by decide) hx (fun _ hx => ?_) (fun _ hx => ?_)
    · skip
      refine Yiconst C 0 dX3_flowOf_22 (by decide) ?_
      exact Yiret C E dX3_flowOf_23 (ypo hx rfl rfl)
    · skip
      refine Yaload_n C dX3_flowOf_13 0 rfl rfl ?_
      refine Yget C fg3_flowOf_24 dX3_flowOf_14 0 rfl rfl ?_
      refine Yiload_n C dX3_flowOf_17 1 rfl rfl ?_
      refine Yiald C dX3_flowOf_18 hx 1 0 rfl rfl (fun hx => ?_)
      refine Ygoto C 23 dX3_flowOf_19 (by decide) ?_
      exact Yiret C E dX3_flowOf_23 (ypo hx rfl rfl)
theorem yf3_cars : (∃ Ty', wsX3_cars = Cond.code yX3_cars cX3_cars 2 (some .int) :: Ty') ∧ (yX3_cars.cls ≠ "java/lang/invoke/MethodHandle" ∧ yX3_cars.cls ≠ "java/lang/invoke/VarHandle" ∧ (parseMethodDescriptor yX3_cars.desc).map (fun d => d.parameters.length) = some 1) := ⟨⟨_, rfl⟩, by decide +kernel, by decide +kernel, by decide +kernel⟩
abbrev w3_cars (cI cJ cZ cS cT : ClassId) (a0 a_flow a_room a_pumps a_from a_to a_minutes a_danger a_foot : Nat) (v_places : Int32) (v_roads : Int32) (v_flow : Nat → Int32) : va_W := [(a0, .inr (3, [.int v_places, .int v_roads, .ref a_room, .ref a_pumps, .ref a_from, .ref a_to, .ref a_flow, .ref a_minutes, .ref a_danger, .ref a_foot])), (a_flow, .inl (cI, 16, .inl v_flow))]
def x3_cars (v_flow : Nat → Int32) (p1 : Int32) : Option (Int32) :=
  (x3_flowOf v_flow p1).bind fun o1 => some ((24 * o1))
set_option maxHeartbeats 4000000 in
set_option maxRecDepth 100000 in
theorem c3_cars (l : Launch) (D : yD) (cI cJ cZ cS cT : ClassId) (a0 a_flow a_room a_pumps a_from a_to a_minutes a_danger a_foot : Nat) (v_places : Int32) (v_roads : Int32) (v_flow : Nat → Int32) (p1 : Int32) (out : Int32) (hx : x3_cars v_flow p1 = some out) : MC l D (yT cI cJ cZ cS cT) yX3_cars wsX3_cars ({ frames := 1, cells := 0, slots := 0, locals := 21 } : Room) (0, 0) [.ref a0, .int p1] (w3_cars cI cJ cZ cS cT a0 a_flow a_room a_pumps a_from a_to a_minutes a_danger a_foot v_places v_roads v_flow) (POd (fun o : Int32 => some (.int o)) (fun (o : Int32) => (w3_cars cI cJ cZ cS cT a0 a_flow a_room a_pumps a_from a_to a_minutes a_danger a_foot v_places v_roads v_flow)) out) := by
  refine MC.intro (cc := cX3_cars) (nL := 2) (ret := (some .int)) (own := RX3) (lv := [(0, .ref a0), (1, .int p1)]) (by decide) rfl rfl (Nat.le_of_ble_eq_true rfl) rfl (fun X C E => ?_)
  unfold x3_cars at hx
  refine Ybipush C 24 dX3_cars_0 (by decide) ?_
  refine Yaload_n C dX3_cars_2 0 rfl rfl ?_
  refine Yiload_n C dX3_cars_3 1 rfl rfl ?_
  obtain ⟨o1, ho1, hx⟩ := ybnd hx
  refine YcallVd (ws' := (w3_cars cI cJ cZ cS cT a0 a_flow a_room a_pumps a_from a_to a_minutes a_danger a_foot v_places v_roads v_flow)) (st' := [.int o1, .int 24]) (st := [.int 24]) (as := [.int p1]) (b := a0) (ci := 3) C [0, 1] [] 2 dX3_cars_4 (c3_flowOf l D cI cJ cZ cS cT a0 a_flow a_room a_pumps a_from a_to a_minutes a_danger a_foot v_places v_roads v_flow p1 o1 ho1) gX3_cars_X3_flowOf rfl ⟨yf3_flowOf.1, yf3_flowOf.2, Nat.le_of_ble_eq_true rfl, Nat.le_of_ble_eq_true rfl, rfl, rfl⟩ rfl 0 rfl (by decide) ⟨Nat.zero_le _, Nat.zero_le _⟩ (Nat.le_of_ble_eq_true rfl) ⟨rfl, rfl, trivial⟩ rfl rfl (by decide) (by decide) ⟨rfl, rfl, trivial⟩ [] trivial trivial rfl ?_
  refine Yimul C dX3_cars_7 ?_
  exact Yiret C E dX3_cars_8 (ypo hx rfl rfl)
theorem yf3_hasCar : (∃ Ty', wsX3_hasCar = Cond.code yX3_hasCar cX3_hasCar 3 (some .boolean) :: Ty') ∧ (yX3_hasCar.cls ≠ "java/lang/invoke/MethodHandle" ∧ yX3_hasCar.cls ≠ "java/lang/invoke/VarHandle" ∧ (parseMethodDescriptor yX3_hasCar.desc).map (fun d => d.parameters.length) = some 2) := ⟨⟨_, rfl⟩, by decide +kernel, by decide +kernel, by decide +kernel⟩
abbrev w3_hasCar (cI cJ cZ cS cT : ClassId) (a0 a_flow a_room a_pumps a_from a_to a_minutes a_danger a_foot : Nat) (v_places : Int32) (v_roads : Int32) (v_flow : Nat → Int32) : va_W := [(a0, .inr (3, [.int v_places, .int v_roads, .ref a_room, .ref a_pumps, .ref a_from, .ref a_to, .ref a_flow, .ref a_minutes, .ref a_danger, .ref a_foot])), (a_flow, .inl (cI, 16, .inl v_flow))]
def x3_hasCar (v_roads : Int32) (v_flow : Nat → Int32) (p1 : Int32) (p2 : Int32) : Option (Bool) :=
  (x3_hasRoad v_roads p1).bind fun o1 => bif o1 then (if p2 < 0 then (some (false)) else ((x3_cars v_flow p1).bind fun o2 => if o2 ≤ p2 then (some (false)) else (some (true)))) else (some (false))
set_option maxHeartbeats 4000000 in
set_option maxRecDepth 100000 in
theorem c3_hasCar (l : Launch) (D : yD) (cI cJ cZ cS cT : ClassId) (a0 a_flow a_room a_pumps a_from a_to a_minutes a_danger a_foot : Nat) (v_places : Int32) (v_roads : Int32) (v_flow : Nat → Int32) (p1 : Int32) (p2 : Int32) (out : Bool) (hx : x3_hasCar v_roads v_flow p1 p2 = some out) : MC l D (yT cI cJ cZ cS cT) yX3_hasCar wsX3_hasCar ({ frames := 2, cells := 0, slots := 0, locals := 42 } : Room) (0, 0) [.ref a0, .int p1, .int p2] (w3_hasCar cI cJ cZ cS cT a0 a_flow a_room a_pumps a_from a_to a_minutes a_danger a_foot v_places v_roads v_flow) (POd (fun o : Bool => some (.int (bI o))) (fun (o : Bool) => (w3_hasCar cI cJ cZ cS cT a0 a_flow a_room a_pumps a_from a_to a_minutes a_danger a_foot v_places v_roads v_flow)) out) := by
  refine MC.intro (cc := cX3_hasCar) (nL := 3) (ret := (some .boolean)) (own := RX3) (lv := [(0, .ref a0), (1, .int p1), (2, .int p2)]) (by decide) rfl rfl (Nat.le_of_ble_eq_true rfl) rfl (fun X C E => ?_)
  unfold x3_hasCar at hx
  refine Yaload_n C dX3_hasCar_0 0 rfl rfl ?_
  refine Yiload_n C dX3_hasCar_1 1 rfl rfl ?_
  obtain ⟨o1, ho1, hx⟩ := ybnd hx
  refine YcallVd (ws' := (w3_hasCar cI cJ cZ cS cT a0 a_flow a_room a_pumps a_from a_to a_minutes a_danger a_foot v_places v_roads v_flow)) (st' := [.int (bI o1)]) (st := []) (as := [.int p1]) (b := a0) (ci := 3) C [0] [1] 2 dX3_hasCar_2 (c3_hasRoad l D cI cJ cZ cS cT a0 a_room a_pumps a_from a_to a_flow a_minutes a_danger a_foot v_places v_roads p1 o1 ho1) gX3_hasCar_X3_hasRoad rfl ⟨yf3_hasRoad.1, yf3_hasRoad.2, Nat.le_of_ble_eq_true rfl, Nat.le_of_ble_eq_true rfl, rfl, rfl⟩ rfl 0 rfl (by decide) ⟨Nat.zero_le _, Nat.zero_le _⟩ (Nat.le_of_ble_eq_true rfl) ⟨rfl, trivial⟩ rfl rfl (by decide) (by decide) ⟨rfl, trivial⟩ [(a_flow, .inl (cI, 16, .inl v_flow))] ⟨rfl, trivial⟩ ⟨rfl, trivial⟩ rfl ?_
  refine Yif_eq_b C 25 dX3_hasCar_5 (by decide) hx (fun _ hx => ?_) (fun _ hx => ?_)
  · skip
    refine Yiconst C 0 dX3_hasCar_25 (by decide) ?_
    exact Yzret (b := false) C E dX3_hasCar_26 (ypo hx rfl rfl)
  · skip
    refine Yiload_n C dX3_hasCar_8 2 rfl rfl ?_
    refine Yif_lt C 25 dX3_hasCar_9 (by decide) hx (fun _ hx => ?_) (fun _ hx => ?_)
    · skip
      refine Yiconst C 0 dX3_hasCar_25 (by decide) ?_
      exact Yzret (b := false) C E dX3_hasCar_26 (ypo hx rfl rfl)
    · skip
      refine Yiload_n C dX3_hasCar_12 2 rfl rfl ?_
      refine Yaload_n C dX3_hasCar_13 0 rfl rfl ?_
      refine Yiload_n C dX3_hasCar_14 1 rfl rfl ?_
      obtain ⟨o2, ho2, hx⟩ := ybnd hx
      refine YcallVd (ws' := (w3_hasCar cI cJ cZ cS cT a0 a_flow a_room a_pumps a_from a_to a_minutes a_danger a_foot v_places v_roads v_flow)) (st' := [.int o2, .int p2]) (st := [.int p2]) (as := [.int p1]) (b := a0) (ci := 3) C [0, 1] [] 2 dX3_hasCar_15 (c3_cars l D cI cJ cZ cS cT a0 a_flow a_room a_pumps a_from a_to a_minutes a_danger a_foot v_places v_roads v_flow p1 o2 ho2) gX3_hasCar_X3_cars rfl ⟨yf3_cars.1, yf3_cars.2, Nat.le_of_ble_eq_true rfl, Nat.le_of_ble_eq_true rfl, rfl, rfl⟩ rfl 0 rfl (by decide) ⟨Nat.zero_le _, Nat.zero_le _⟩ (Nat.le_of_ble_eq_true rfl) ⟨rfl, rfl, trivial⟩ rfl rfl (by decide) (by decide) ⟨rfl, rfl, trivial⟩ [] trivial trivial rfl ?_
      refine Yicmp_ge C 25 dX3_hasCar_18 (by decide) hx (fun _ hx => ?_) (fun _ hx => ?_)
      · skip
        refine Yiconst C 0 dX3_hasCar_25 (by decide) ?_
        exact Yzret (b := false) C E dX3_hasCar_26 (ypo hx rfl rfl)
      · skip
        refine Yiconst C 1 dX3_hasCar_21 (by decide) ?_
        refine Ygoto C 26 dX3_hasCar_22 (by decide) ?_
        exact Yzret (b := true) C E dX3_hasCar_26 (ypo hx rfl rfl)
theorem fg3_roomOf_9 : YF wsX3_roomOf RX3 9 3 2 := ⟨RX3, TX3, 10, rfl, (fun w h => List.mem_cons_of_mem _ (List.mem_append_right _ h)), by decide, List.mem_of_getElem? (i := 1) rfl⟩
theorem yf3_roomOf : (∃ Ty', wsX3_roomOf = Cond.code yX3_roomOf cX3_roomOf 2 (some .int) :: Ty') ∧ (yX3_roomOf.cls ≠ "java/lang/invoke/MethodHandle" ∧ yX3_roomOf.cls ≠ "java/lang/invoke/VarHandle" ∧ (parseMethodDescriptor yX3_roomOf.desc).map (fun d => d.parameters.length) = some 1) := ⟨⟨_, rfl⟩, by decide +kernel, by decide +kernel, by decide +kernel⟩
abbrev w3_roomOf (cI cJ cZ cS cT : ClassId) (a0 a_room a_pumps a_from a_to a_flow a_minutes a_danger a_foot : Nat) (v_places : Int32) (v_roads : Int32) (v_room : Nat → Int32) : va_W := [(a0, .inr (3, [.int v_places, .int v_roads, .ref a_room, .ref a_pumps, .ref a_from, .ref a_to, .ref a_flow, .ref a_minutes, .ref a_danger, .ref a_foot])), (a_room, .inl (cI, 8, .inl v_room))]
def x3_roomOf (v_room : Nat → Int32) (p1 : Int32) : Option (Int32) :=
  if p1 < 0 then (some (0)) else (if 8 ≤ p1 then (some (0)) else (bif inB p1 8 then (some ((v_room p1.toNatClampNeg))) else none))
set_option maxHeartbeats 4000000 in
set_option maxRecDepth 100000 in
theorem c3_roomOf (l : Launch) (D : yD) (cI cJ cZ cS cT : ClassId) (a0 a_room a_pumps a_from a_to a_flow a_minutes a_danger a_foot : Nat) (v_places : Int32) (v_roads : Int32) (v_room : Nat → Int32) (p1 : Int32) (out : Int32) (hx : x3_roomOf v_room p1 = some out) : MC l D (yT cI cJ cZ cS cT) yX3_roomOf wsX3_roomOf ({ frames := 0, cells := 0, slots := 0, locals := 0 } : Room) (0, 0) [.ref a0, .int p1] (w3_roomOf cI cJ cZ cS cT a0 a_room a_pumps a_from a_to a_flow a_minutes a_danger a_foot v_places v_roads v_room) (POd (fun o : Int32 => some (.int o)) (fun (o : Int32) => (w3_roomOf cI cJ cZ cS cT a0 a_room a_pumps a_from a_to a_flow a_minutes a_danger a_foot v_places v_roads v_room)) out) := by
  refine MC.intro (cc := cX3_roomOf) (nL := 2) (ret := (some .int)) (own := RX3) (lv := [(0, .ref a0), (1, .int p1)]) (by decide) rfl rfl (Nat.le_of_ble_eq_true rfl) rfl (fun X C E => ?_)
  unfold x3_roomOf at hx
  refine Yiload_n C dX3_roomOf_0 1 rfl rfl ?_
  refine Yif_lt C 22 dX3_roomOf_1 (by decide) hx (fun _ hx => ?_) (fun _ hx => ?_)
  · skip
    refine Yiconst C 0 dX3_roomOf_22 (by decide) ?_
    exact Yiret C E dX3_roomOf_23 (ypo hx rfl rfl)
  · skip
    refine Yiload_n C dX3_roomOf_4 1 rfl rfl ?_
    refine Yaload_n C dX3_roomOf_5 0 rfl rfl ?_
    refine Yget C fg3_roomOf_9 dX3_roomOf_6 0 rfl rfl ?_
    refine Yalen (v := 8) C dX3_roomOf_9 1 0 rfl rfl rfl ?_
    refine Yicmp_ge C 22 dX3_roomOf_10 (by decide) hx (fun _ hx => ?_) (fun _ hx => ?_)
    · skip
      refine Yiconst C 0 dX3_roomOf_22 (by decide) ?_
      exact Yiret C E dX3_roomOf_23 (ypo hx rfl rfl)
    · skip
      refine Yaload_n C dX3_roomOf_13 0 rfl rfl ?_
      refine Yget C fg3_roomOf_9 dX3_roomOf_14 0 rfl rfl ?_
      refine Yiload_n C dX3_roomOf_17 1 rfl rfl ?_
      refine Yiald C dX3_roomOf_18 hx 1 0 rfl rfl (fun hx => ?_)
      refine Ygoto C 23 dX3_roomOf_19 (by decide) ?_
      exact Yiret C E dX3_roomOf_23 (ypo hx rfl rfl)
theorem fg3_pumpsOf_15 : YF wsX3_pumpsOf RX3 15 3 3 := ⟨RX3, TX3, 10, rfl, (fun w h => List.mem_cons_of_mem _ (List.mem_append_right _ h)), by decide, List.mem_of_getElem? (i := 1) rfl⟩
theorem yf3_pumpsOf : (∃ Ty', wsX3_pumpsOf = Cond.code yX3_pumpsOf cX3_pumpsOf 2 (some .int) :: Ty') ∧ (yX3_pumpsOf.cls ≠ "java/lang/invoke/MethodHandle" ∧ yX3_pumpsOf.cls ≠ "java/lang/invoke/VarHandle" ∧ (parseMethodDescriptor yX3_pumpsOf.desc).map (fun d => d.parameters.length) = some 1) := ⟨⟨_, rfl⟩, by decide +kernel, by decide +kernel, by decide +kernel⟩
abbrev w3_pumpsOf (cI cJ cZ cS cT : ClassId) (a0 a_pumps a_room a_from a_to a_flow a_minutes a_danger a_foot : Nat) (v_places : Int32) (v_roads : Int32) (v_pumps : Nat → Int32) : va_W := [(a0, .inr (3, [.int v_places, .int v_roads, .ref a_room, .ref a_pumps, .ref a_from, .ref a_to, .ref a_flow, .ref a_minutes, .ref a_danger, .ref a_foot])), (a_pumps, .inl (cI, 8, .inl v_pumps))]
def x3_pumpsOf (v_pumps : Nat → Int32) (p1 : Int32) : Option (Int32) :=
  if p1 < 0 then (some (0)) else (if 8 ≤ p1 then (some (0)) else (bif inB p1 8 then (some ((v_pumps p1.toNatClampNeg))) else none))
set_option maxHeartbeats 4000000 in
set_option maxRecDepth 100000 in
theorem c3_pumpsOf (l : Launch) (D : yD) (cI cJ cZ cS cT : ClassId) (a0 a_pumps a_room a_from a_to a_flow a_minutes a_danger a_foot : Nat) (v_places : Int32) (v_roads : Int32) (v_pumps : Nat → Int32) (p1 : Int32) (out : Int32) (hx : x3_pumpsOf v_pumps p1 = some out) : MC l D (yT cI cJ cZ cS cT) yX3_pumpsOf wsX3_pumpsOf ({ frames := 0, cells := 0, slots := 0, locals := 0 } : Room) (0, 0) [.ref a0, .int p1] (w3_pumpsOf cI cJ cZ cS cT a0 a_pumps a_room a_from a_to a_flow a_minutes a_danger a_foot v_places v_roads v_pumps) (POd (fun o : Int32 => some (.int o)) (fun (o : Int32) => (w3_pumpsOf cI cJ cZ cS cT a0 a_pumps a_room a_from a_to a_flow a_minutes a_danger a_foot v_places v_roads v_pumps)) out) := by
  refine MC.intro (cc := cX3_pumpsOf) (nL := 2) (ret := (some .int)) (own := RX3) (lv := [(0, .ref a0), (1, .int p1)]) (by decide) rfl rfl (Nat.le_of_ble_eq_true rfl) rfl (fun X C E => ?_)
  unfold x3_pumpsOf at hx
  refine Yiload_n C dX3_pumpsOf_0 1 rfl rfl ?_
  refine Yif_lt C 22 dX3_pumpsOf_1 (by decide) hx (fun _ hx => ?_) (fun _ hx => ?_)
  · skip
    refine Yiconst C 0 dX3_pumpsOf_22 (by decide) ?_
    exact Yiret C E dX3_pumpsOf_23 (ypo hx rfl rfl)
  · skip
    refine Yiload_n C dX3_pumpsOf_4 1 rfl rfl ?_
    refine Yaload_n C dX3_pumpsOf_5 0 rfl rfl ?_
    refine Yget C fg3_pumpsOf_15 dX3_pumpsOf_6 0 rfl rfl ?_
    refine Yalen (v := 8) C dX3_pumpsOf_9 1 0 rfl rfl rfl ?_
    refine Yicmp_ge C 22 dX3_pumpsOf_10 (by decide) hx (fun _ hx => ?_) (fun _ hx => ?_)
    · skip
      refine Yiconst C 0 dX3_pumpsOf_22 (by decide) ?_
      exact Yiret C E dX3_pumpsOf_23 (ypo hx rfl rfl)
    · skip
      refine Yaload_n C dX3_pumpsOf_13 0 rfl rfl ?_
      refine Yget C fg3_pumpsOf_15 dX3_pumpsOf_14 0 rfl rfl ?_
      refine Yiload_n C dX3_pumpsOf_17 1 rfl rfl ?_
      refine Yiald C dX3_pumpsOf_18 hx 1 0 rfl rfl (fun hx => ?_)
      refine Ygoto C 23 dX3_pumpsOf_19 (by decide) ?_
      exact Yiret C E dX3_pumpsOf_23 (ypo hx rfl rfl)
theorem fg3_startOf_18 : YF wsX3_startOf RX3 18 3 4 := ⟨RX3, TX3, 10, rfl, (fun w h => List.mem_cons_of_mem _ (List.mem_append_right _ h)), by decide, List.mem_of_getElem? (i := 1) rfl⟩
theorem yf3_startOf : (∃ Ty', wsX3_startOf = Cond.code yX3_startOf cX3_startOf 2 (some .int) :: Ty') ∧ (yX3_startOf.cls ≠ "java/lang/invoke/MethodHandle" ∧ yX3_startOf.cls ≠ "java/lang/invoke/VarHandle" ∧ (parseMethodDescriptor yX3_startOf.desc).map (fun d => d.parameters.length) = some 1) := ⟨⟨_, rfl⟩, by decide +kernel, by decide +kernel, by decide +kernel⟩
abbrev w3_startOf (cI cJ cZ cS cT : ClassId) (a0 a_from a_room a_pumps a_to a_flow a_minutes a_danger a_foot : Nat) (v_places : Int32) (v_roads : Int32) (v_from : Nat → Int32) : va_W := [(a0, .inr (3, [.int v_places, .int v_roads, .ref a_room, .ref a_pumps, .ref a_from, .ref a_to, .ref a_flow, .ref a_minutes, .ref a_danger, .ref a_foot])), (a_from, .inl (cI, 16, .inl v_from))]
def x3_startOf (v_from : Nat → Int32) (p1 : Int32) : Option (Int32) :=
  if p1 < 0 then (some ((-1))) else (if 16 ≤ p1 then (some ((-1))) else (bif inB p1 16 then (some ((v_from p1.toNatClampNeg))) else none))
set_option maxHeartbeats 4000000 in
set_option maxRecDepth 100000 in
theorem c3_startOf (l : Launch) (D : yD) (cI cJ cZ cS cT : ClassId) (a0 a_from a_room a_pumps a_to a_flow a_minutes a_danger a_foot : Nat) (v_places : Int32) (v_roads : Int32) (v_from : Nat → Int32) (p1 : Int32) (out : Int32) (hx : x3_startOf v_from p1 = some out) : MC l D (yT cI cJ cZ cS cT) yX3_startOf wsX3_startOf ({ frames := 0, cells := 0, slots := 0, locals := 0 } : Room) (0, 0) [.ref a0, .int p1] (w3_startOf cI cJ cZ cS cT a0 a_from a_room a_pumps a_to a_flow a_minutes a_danger a_foot v_places v_roads v_from) (POd (fun o : Int32 => some (.int o)) (fun (o : Int32) => (w3_startOf cI cJ cZ cS cT a0 a_from a_room a_pumps a_to a_flow a_minutes a_danger a_foot v_places v_roads v_from)) out) := by
  refine MC.intro (cc := cX3_startOf) (nL := 2) (ret := (some .int)) (own := RX3) (lv := [(0, .ref a0), (1, .int p1)]) (by decide) rfl rfl (Nat.le_of_ble_eq_true rfl) rfl (fun X C E => ?_)
  unfold x3_startOf at hx
  refine Yiload_n C dX3_startOf_0 1 rfl rfl ?_
  refine Yif_lt C 22 dX3_startOf_1 (by decide) hx (fun _ hx => ?_) (fun _ hx => ?_)
  · skip
    refine Yiconst C (-1) dX3_startOf_22 (by decide) ?_
    exact Yiret C E dX3_startOf_23 (ypo hx rfl rfl)
  · skip
    refine Yiload_n C dX3_startOf_4 1 rfl rfl ?_
    refine Yaload_n C dX3_startOf_5 0 rfl rfl ?_
    refine Yget C fg3_startOf_18 dX3_startOf_6 0 rfl rfl ?_
    refine Yalen (v := 16) C dX3_startOf_9 1 0 rfl rfl rfl ?_
    refine Yicmp_ge C 22 dX3_startOf_10 (by decide) hx (fun _ hx => ?_) (fun _ hx => ?_)
    · skip
      refine Yiconst C (-1) dX3_startOf_22 (by decide) ?_
      exact Yiret C E dX3_startOf_23 (ypo hx rfl rfl)
    · skip
      refine Yaload_n C dX3_startOf_13 0 rfl rfl ?_
      refine Yget C fg3_startOf_18 dX3_startOf_14 0 rfl rfl ?_
      refine Yiload_n C dX3_startOf_17 1 rfl rfl ?_
      refine Yiald C dX3_startOf_18 hx 1 0 rfl rfl (fun hx => ?_)
      refine Ygoto C 23 dX3_startOf_19 (by decide) ?_
      exact Yiret C E dX3_startOf_23 (ypo hx rfl rfl)
theorem fg3_endOf_21 : YF wsX3_endOf RX3 21 3 5 := ⟨RX3, TX3, 10, rfl, (fun w h => List.mem_cons_of_mem _ (List.mem_append_right _ h)), by decide, List.mem_of_getElem? (i := 1) rfl⟩
theorem yf3_endOf : (∃ Ty', wsX3_endOf = Cond.code yX3_endOf cX3_endOf 2 (some .int) :: Ty') ∧ (yX3_endOf.cls ≠ "java/lang/invoke/MethodHandle" ∧ yX3_endOf.cls ≠ "java/lang/invoke/VarHandle" ∧ (parseMethodDescriptor yX3_endOf.desc).map (fun d => d.parameters.length) = some 1) := ⟨⟨_, rfl⟩, by decide +kernel, by decide +kernel, by decide +kernel⟩
abbrev w3_endOf (cI cJ cZ cS cT : ClassId) (a0 a_to a_room a_pumps a_from a_flow a_minutes a_danger a_foot : Nat) (v_places : Int32) (v_roads : Int32) (v_to : Nat → Int32) : va_W := [(a0, .inr (3, [.int v_places, .int v_roads, .ref a_room, .ref a_pumps, .ref a_from, .ref a_to, .ref a_flow, .ref a_minutes, .ref a_danger, .ref a_foot])), (a_to, .inl (cI, 16, .inl v_to))]
def x3_endOf (v_to : Nat → Int32) (p1 : Int32) : Option (Int32) :=
  if p1 < 0 then (some ((-1))) else (if 16 ≤ p1 then (some ((-1))) else (bif inB p1 16 then (some ((v_to p1.toNatClampNeg))) else none))
set_option maxHeartbeats 4000000 in
set_option maxRecDepth 100000 in
theorem c3_endOf (l : Launch) (D : yD) (cI cJ cZ cS cT : ClassId) (a0 a_to a_room a_pumps a_from a_flow a_minutes a_danger a_foot : Nat) (v_places : Int32) (v_roads : Int32) (v_to : Nat → Int32) (p1 : Int32) (out : Int32) (hx : x3_endOf v_to p1 = some out) : MC l D (yT cI cJ cZ cS cT) yX3_endOf wsX3_endOf ({ frames := 0, cells := 0, slots := 0, locals := 0 } : Room) (0, 0) [.ref a0, .int p1] (w3_endOf cI cJ cZ cS cT a0 a_to a_room a_pumps a_from a_flow a_minutes a_danger a_foot v_places v_roads v_to) (POd (fun o : Int32 => some (.int o)) (fun (o : Int32) => (w3_endOf cI cJ cZ cS cT a0 a_to a_room a_pumps a_from a_flow a_minutes a_danger a_foot v_places v_roads v_to)) out) := by
  refine MC.intro (cc := cX3_endOf) (nL := 2) (ret := (some .int)) (own := RX3) (lv := [(0, .ref a0), (1, .int p1)]) (by decide) rfl rfl (Nat.le_of_ble_eq_true rfl) rfl (fun X C E => ?_)
  unfold x3_endOf at hx
  refine Yiload_n C dX3_endOf_0 1 rfl rfl ?_
  refine Yif_lt C 22 dX3_endOf_1 (by decide) hx (fun _ hx => ?_) (fun _ hx => ?_)
  · skip
    refine Yiconst C (-1) dX3_endOf_22 (by decide) ?_
    exact Yiret C E dX3_endOf_23 (ypo hx rfl rfl)
  · skip
    refine Yiload_n C dX3_endOf_4 1 rfl rfl ?_
    refine Yaload_n C dX3_endOf_5 0 rfl rfl ?_
    refine Yget C fg3_endOf_21 dX3_endOf_6 0 rfl rfl ?_
    refine Yalen (v := 16) C dX3_endOf_9 1 0 rfl rfl rfl ?_
    refine Yicmp_ge C 22 dX3_endOf_10 (by decide) hx (fun _ hx => ?_) (fun _ hx => ?_)
    · skip
      refine Yiconst C (-1) dX3_endOf_22 (by decide) ?_
      exact Yiret C E dX3_endOf_23 (ypo hx rfl rfl)
    · skip
      refine Yaload_n C dX3_endOf_13 0 rfl rfl ?_
      refine Yget C fg3_endOf_21 dX3_endOf_14 0 rfl rfl ?_
      refine Yiload_n C dX3_endOf_17 1 rfl rfl ?_
      refine Yiald C dX3_endOf_18 hx 1 0 rfl rfl (fun hx => ?_)
      refine Ygoto C 23 dX3_endOf_19 (by decide) ?_
      exact Yiret C E dX3_endOf_23 (ypo hx rfl rfl)
theorem fg3_minutesOf_27 : YF wsX3_minutesOf RX3 27 3 7 := ⟨RX3, TX3, 10, rfl, (fun w h => List.mem_cons_of_mem _ (List.mem_append_right _ h)), by decide, List.mem_of_getElem? (i := 1) rfl⟩
theorem yf3_minutesOf : (∃ Ty', wsX3_minutesOf = Cond.code yX3_minutesOf cX3_minutesOf 2 (some .int) :: Ty') ∧ (yX3_minutesOf.cls ≠ "java/lang/invoke/MethodHandle" ∧ yX3_minutesOf.cls ≠ "java/lang/invoke/VarHandle" ∧ (parseMethodDescriptor yX3_minutesOf.desc).map (fun d => d.parameters.length) = some 1) := ⟨⟨_, rfl⟩, by decide +kernel, by decide +kernel, by decide +kernel⟩
abbrev w3_minutesOf (cI cJ cZ cS cT : ClassId) (a0 a_minutes a_room a_pumps a_from a_to a_flow a_danger a_foot : Nat) (v_places : Int32) (v_roads : Int32) (v_minutes : Nat → Int32) : va_W := [(a0, .inr (3, [.int v_places, .int v_roads, .ref a_room, .ref a_pumps, .ref a_from, .ref a_to, .ref a_flow, .ref a_minutes, .ref a_danger, .ref a_foot])), (a_minutes, .inl (cI, 16, .inl v_minutes))]
def x3_minutesOf (v_minutes : Nat → Int32) (p1 : Int32) : Option (Int32) :=
  if p1 < 0 then (some (0)) else (if 16 ≤ p1 then (some (0)) else (bif inB p1 16 then (some ((v_minutes p1.toNatClampNeg))) else none))
set_option maxHeartbeats 4000000 in
set_option maxRecDepth 100000 in
theorem c3_minutesOf (l : Launch) (D : yD) (cI cJ cZ cS cT : ClassId) (a0 a_minutes a_room a_pumps a_from a_to a_flow a_danger a_foot : Nat) (v_places : Int32) (v_roads : Int32) (v_minutes : Nat → Int32) (p1 : Int32) (out : Int32) (hx : x3_minutesOf v_minutes p1 = some out) : MC l D (yT cI cJ cZ cS cT) yX3_minutesOf wsX3_minutesOf ({ frames := 0, cells := 0, slots := 0, locals := 0 } : Room) (0, 0) [.ref a0, .int p1] (w3_minutesOf cI cJ cZ cS cT a0 a_minutes a_room a_pumps a_from a_to a_flow a_danger a_foot v_places v_roads v_minutes) (POd (fun o : Int32 => some (.int o)) (fun (o : Int32) => (w3_minutesOf cI cJ cZ cS cT a0 a_minutes a_room a_pumps a_from a_to a_flow a_danger a_foot v_places v_roads v_minutes)) out) := by
  refine MC.intro (cc := cX3_minutesOf) (nL := 2) (ret := (some .int)) (own := RX3) (lv := [(0, .ref a0), (1, .int p1)]) (by decide) rfl rfl (Nat.le_of_ble_eq_true rfl) rfl (fun X C E => ?_)
  unfold x3_minutesOf at hx
  refine Yiload_n C dX3_minutesOf_0 1 rfl rfl ?_
  refine Yif_lt C 22 dX3_minutesOf_1 (by decide) hx (fun _ hx => ?_) (fun _ hx => ?_)
  · skip
    refine Yiconst C 0 dX3_minutesOf_22 (by decide) ?_
    exact Yiret C E dX3_minutesOf_23 (ypo hx rfl rfl)
  · skip
    refine Yiload_n C dX3_minutesOf_4 1 rfl rfl ?_
    refine Yaload_n C dX3_minutesOf_5 0 rfl rfl ?_
    refine Yget C fg3_minutesOf_27 dX3_minutesOf_6 0 rfl rfl ?_
    refine Yalen (v := 16) C dX3_minutesOf_9 1 0 rfl rfl rfl ?_
    refine Yicmp_ge C 22 dX3_minutesOf_10 (by decide) hx (fun _ hx => ?_) (fun _ hx => ?_)
    · skip
      refine Yiconst C 0 dX3_minutesOf_22 (by decide) ?_
      exact Yiret C E dX3_minutesOf_23 (ypo hx rfl rfl)
    · skip
      refine Yaload_n C dX3_minutesOf_13 0 rfl rfl ?_
      refine Yget C fg3_minutesOf_27 dX3_minutesOf_14 0 rfl rfl ?_
      refine Yiload_n C dX3_minutesOf_17 1 rfl rfl ?_
      refine Yiald C dX3_minutesOf_18 hx 1 0 rfl rfl (fun hx => ?_)
      refine Ygoto C 23 dX3_minutesOf_19 (by decide) ?_
      exact Yiret C E dX3_minutesOf_23 (ypo hx rfl rfl)
theorem fg3_dangerOf_30 : YF wsX3_dangerOf RX3 30 3 8 := ⟨RX3, TX3, 10, rfl, (fun w h => List.mem_cons_of_mem _ (List.mem_append_right _ h)), by decide, List.mem_of_getElem? (i := 1) rfl⟩
theorem yf3_dangerOf : (∃ Ty', wsX3_dangerOf = Cond.code yX3_dangerOf cX3_dangerOf 2 (some .int) :: Ty') ∧ (yX3_dangerOf.cls ≠ "java/lang/invoke/MethodHandle" ∧ yX3_dangerOf.cls ≠ "java/lang/invoke/VarHandle" ∧ (parseMethodDescriptor yX3_dangerOf.desc).map (fun d => d.parameters.length) = some 1) := ⟨⟨_, rfl⟩, by decide +kernel, by decide +kernel, by decide +kernel⟩
abbrev w3_dangerOf (cI cJ cZ cS cT : ClassId) (a0 a_danger a_room a_pumps a_from a_to a_flow a_minutes a_foot : Nat) (v_places : Int32) (v_roads : Int32) (v_danger : Nat → Int32) : va_W := [(a0, .inr (3, [.int v_places, .int v_roads, .ref a_room, .ref a_pumps, .ref a_from, .ref a_to, .ref a_flow, .ref a_minutes, .ref a_danger, .ref a_foot])), (a_danger, .inl (cI, 16, .inl v_danger))]
def x3_dangerOf (v_danger : Nat → Int32) (p1 : Int32) : Option (Int32) :=
  if p1 < 0 then (some (0)) else (if 16 ≤ p1 then (some (0)) else (bif inB p1 16 then (some ((v_danger p1.toNatClampNeg))) else none))
set_option maxHeartbeats 4000000 in
set_option maxRecDepth 100000 in
theorem c3_dangerOf (l : Launch) (D : yD) (cI cJ cZ cS cT : ClassId) (a0 a_danger a_room a_pumps a_from a_to a_flow a_minutes a_foot : Nat) (v_places : Int32) (v_roads : Int32) (v_danger : Nat → Int32) (p1 : Int32) (out : Int32) (hx : x3_dangerOf v_danger p1 = some out) : MC l D (yT cI cJ cZ cS cT) yX3_dangerOf wsX3_dangerOf ({ frames := 0, cells := 0, slots := 0, locals := 0 } : Room) (0, 0) [.ref a0, .int p1] (w3_dangerOf cI cJ cZ cS cT a0 a_danger a_room a_pumps a_from a_to a_flow a_minutes a_foot v_places v_roads v_danger) (POd (fun o : Int32 => some (.int o)) (fun (o : Int32) => (w3_dangerOf cI cJ cZ cS cT a0 a_danger a_room a_pumps a_from a_to a_flow a_minutes a_foot v_places v_roads v_danger)) out) := by
  refine MC.intro (cc := cX3_dangerOf) (nL := 2) (ret := (some .int)) (own := RX3) (lv := [(0, .ref a0), (1, .int p1)]) (by decide) rfl rfl (Nat.le_of_ble_eq_true rfl) rfl (fun X C E => ?_)
  unfold x3_dangerOf at hx
  refine Yiload_n C dX3_dangerOf_0 1 rfl rfl ?_
  refine Yif_lt C 22 dX3_dangerOf_1 (by decide) hx (fun _ hx => ?_) (fun _ hx => ?_)
  · skip
    refine Yiconst C 0 dX3_dangerOf_22 (by decide) ?_
    exact Yiret C E dX3_dangerOf_23 (ypo hx rfl rfl)
  · skip
    refine Yiload_n C dX3_dangerOf_4 1 rfl rfl ?_
    refine Yaload_n C dX3_dangerOf_5 0 rfl rfl ?_
    refine Yget C fg3_dangerOf_30 dX3_dangerOf_6 0 rfl rfl ?_
    refine Yalen (v := 16) C dX3_dangerOf_9 1 0 rfl rfl rfl ?_
    refine Yicmp_ge C 22 dX3_dangerOf_10 (by decide) hx (fun _ hx => ?_) (fun _ hx => ?_)
    · skip
      refine Yiconst C 0 dX3_dangerOf_22 (by decide) ?_
      exact Yiret C E dX3_dangerOf_23 (ypo hx rfl rfl)
    · skip
      refine Yaload_n C dX3_dangerOf_13 0 rfl rfl ?_
      refine Yget C fg3_dangerOf_30 dX3_dangerOf_14 0 rfl rfl ?_
      refine Yiload_n C dX3_dangerOf_17 1 rfl rfl ?_
      refine Yiald C dX3_dangerOf_18 hx 1 0 rfl rfl (fun hx => ?_)
      refine Ygoto C 23 dX3_dangerOf_19 (by decide) ?_
      exact Yiret C E dX3_dangerOf_23 (ypo hx rfl rfl)
theorem fg3_hasDanger_40 : YF wsX3_hasDanger RX3 40 3 1 := ⟨RX3, TX3, 10, rfl, (fun w h => List.mem_cons_of_mem _ (List.mem_append_right _ h)), by decide, List.mem_of_getElem? (i := 1) rfl⟩
theorem yf3_hasDanger : (∃ Ty', wsX3_hasDanger = Cond.code yX3_hasDanger cX3_hasDanger 3 (some .boolean) :: Ty') ∧ (yX3_hasDanger.cls ≠ "java/lang/invoke/MethodHandle" ∧ yX3_hasDanger.cls ≠ "java/lang/invoke/VarHandle" ∧ (parseMethodDescriptor yX3_hasDanger.desc).map (fun d => d.parameters.length) = some 1) := ⟨⟨_, rfl⟩, by decide +kernel, by decide +kernel, by decide +kernel⟩
abbrev w3_hasDanger (cI cJ cZ cS cT : ClassId) (a0 a_danger a_room a_pumps a_from a_to a_flow a_minutes a_foot : Nat) (v_places : Int32) (v_roads : Int32) (v_danger : Nat → Int32) : va_W := [(a0, .inr (3, [.int v_places, .int v_roads, .ref a_room, .ref a_pumps, .ref a_from, .ref a_to, .ref a_flow, .ref a_minutes, .ref a_danger, .ref a_foot])), (a_danger, .inl (cI, 16, .inl v_danger))]
def x3_hasDanger_2  (v_roads : Int32) (v_danger : Nat → Int32) (p1 : Int32) : Nat → Int32 → Option (Bool)
  | 0, _ => none
  | n + 1, l2 =>
    if v_roads ≤ l2 then (some (false)) else ((x3_dangerOf v_danger l2).bind fun o1 => if o1 = p1 then (some (true)) else (x3_hasDanger_2 v_roads v_danger p1 n (l2 + 1)))
def x3_hasDanger (v_roads : Int32) (v_danger : Nat → Int32) (p1 : Int32) : Option (Bool) :=
  x3_hasDanger_2  v_roads v_danger p1 yN 0
set_option maxHeartbeats 4000000 in
set_option maxRecDepth 100000 in
theorem c3_hasDanger (l : Launch) (D : yD) (cI cJ cZ cS cT : ClassId) (a0 a_danger a_room a_pumps a_from a_to a_flow a_minutes a_foot : Nat) (v_places : Int32) (v_roads : Int32) (v_danger : Nat → Int32) (p1 : Int32) (out : Bool) (hx : x3_hasDanger v_roads v_danger p1 = some out) : MC l D (yT cI cJ cZ cS cT) yX3_hasDanger wsX3_hasDanger ({ frames := 1, cells := 0, slots := 0, locals := 21 } : Room) (0, 0) [.ref a0, .int p1] (w3_hasDanger cI cJ cZ cS cT a0 a_danger a_room a_pumps a_from a_to a_flow a_minutes a_foot v_places v_roads v_danger) (POd (fun o : Bool => some (.int (bI o))) (fun (o : Bool) => (w3_hasDanger cI cJ cZ cS cT a0 a_danger a_room a_pumps a_from a_to a_flow a_minutes a_foot v_places v_roads v_danger)) out) := by
  refine MC.intro (cc := cX3_hasDanger) (nL := 3) (ret := (some .boolean)) (own := RX3) (lv := [(0, .ref a0), (1, .int p1)]) (by decide) rfl rfl (Nat.le_of_ble_eq_true rfl) rfl (fun X C E => ?_)
  unfold x3_hasDanger at hx
  have b2 : ∀ (n2 : Nat) (l2 : Int32), x3_hasDanger_2  v_roads v_danger p1 n2 l2 = some out → Y X (0, 0) (w3_hasDanger cI cJ cZ cS cT a0 a_danger a_room a_pumps a_from a_to a_flow a_minutes a_foot v_places v_roads v_danger) [(0, .ref a0), (1, .int p1), (2, .int l2)] 2 [] := by
    intro n2
    induction n2 with
    | zero =>
      intro l2  hx
      rw [x3_hasDanger_2] at hx
      cases hx
    | succ n2 ih2 =>
      intro l2  hx
      rw [x3_hasDanger_2] at hx
      refine Yiload_n C dX3_hasDanger_2 2 rfl rfl ?_
      refine Yaload_n C dX3_hasDanger_3 0 rfl rfl ?_
      refine Yget C fg3_hasDanger_40 dX3_hasDanger_4 0 rfl rfl ?_
      refine Yicmp_ge C 27 dX3_hasDanger_7 (by decide) hx (fun _ hx => ?_) (fun _ hx => ?_)
      · skip
        refine Yiconst C 0 dX3_hasDanger_27 (by decide) ?_
        exact Yzret (b := false) C E dX3_hasDanger_28 (ypo hx rfl rfl)
      · skip
        refine Yaload_n C dX3_hasDanger_10 0 rfl rfl ?_
        refine Yiload_n C dX3_hasDanger_11 2 rfl rfl ?_
        obtain ⟨o1, ho1, hx⟩ := ybnd hx
        refine YcallVd (ws' := (w3_hasDanger cI cJ cZ cS cT a0 a_danger a_room a_pumps a_from a_to a_flow a_minutes a_foot v_places v_roads v_danger)) (st' := [.int o1]) (st := []) (as := [.int l2]) (b := a0) (ci := 3) C [0, 1] [] 2 dX3_hasDanger_12 (c3_dangerOf l D cI cJ cZ cS cT a0 a_danger a_room a_pumps a_from a_to a_flow a_minutes a_foot v_places v_roads v_danger l2 o1 ho1) gX3_hasDanger_X3_dangerOf rfl ⟨yf3_dangerOf.1, yf3_dangerOf.2, Nat.le_of_ble_eq_true rfl, Nat.le_of_ble_eq_true rfl, rfl, rfl⟩ rfl 0 rfl (by decide) ⟨Nat.zero_le _, Nat.zero_le _⟩ (Nat.le_of_ble_eq_true rfl) ⟨rfl, rfl, trivial⟩ rfl rfl (by decide) (by decide) ⟨rfl, rfl, trivial⟩ [] trivial trivial rfl ?_
        refine Yiload_n C dX3_hasDanger_15 1 rfl rfl ?_
        refine Yicmp_ne C 21 dX3_hasDanger_16 (by decide) hx (fun _ hx => ?_) (fun _ hx => ?_)
        · skip
          refine Yiinc (v := l2 + 1) (lv' := [(0, .ref a0), (1, .int p1), (2, .int (l2 + 1))]) C dX3_hasDanger_21 2 rfl rfl (by decide) rfl ?_
          refine Ygoto C 2 dX3_hasDanger_24 (by decide) ?_
          exact ih2 (l2 + 1) hx
        · skip
          refine Yiconst C 1 dX3_hasDanger_19 (by decide) ?_
          exact Yzret (b := true) C E dX3_hasDanger_20 (ypo hx rfl rfl)
  refine Yiconst C 0 dX3_hasDanger_0 (by decide) ?_
  refine Yistore_n (lv' := [(0, .ref a0), (1, .int p1), (2, .int 0)]) C dX3_hasDanger_1 rfl (by decide) rfl ?_
  exact b2  yN 0 hx
theorem fg3_addPlace_36 : YF wsX3_addPlace RX3 36 3 0 := ⟨RX3, TX3, 10, rfl, (fun w h => List.mem_cons_of_mem _ (List.mem_append_right _ h)), by decide, List.mem_of_getElem? (i := 1) rfl⟩
theorem fg3_addPlace_9 : YF wsX3_addPlace RX3 9 3 2 := ⟨RX3, TX3, 10, rfl, (fun w h => List.mem_cons_of_mem _ (List.mem_append_right _ h)), by decide, List.mem_of_getElem? (i := 2) rfl⟩
theorem fg3_addPlace_15 : YF wsX3_addPlace RX3 15 3 3 := ⟨RX3, TX3, 10, rfl, (fun w h => List.mem_cons_of_mem _ (List.mem_append_right _ h)), by decide, List.mem_of_getElem? (i := 3) rfl⟩
theorem fp3_addPlace_36 : YFp wsX3_addPlace RX3 36 3 0 (tyX3 0) := ⟨RX3, TX3, 10, tyX3, rfl, (fun w h => List.mem_cons_of_mem _ (List.mem_append_right _ h)), by decide, List.mem_of_getElem? (i := 1) rfl, tyX3_ok, nmX3, rfl, tyX3_ok _ (by decide)⟩
theorem yf3_addPlace : (∃ Ty', wsX3_addPlace = Cond.code yX3_addPlace cX3_addPlace 3 (some .int) :: Ty') ∧ (yX3_addPlace.cls ≠ "java/lang/invoke/MethodHandle" ∧ yX3_addPlace.cls ≠ "java/lang/invoke/VarHandle" ∧ (parseMethodDescriptor yX3_addPlace.desc).map (fun d => d.parameters.length) = some 2) := ⟨⟨_, rfl⟩, by decide +kernel, by decide +kernel, by decide +kernel⟩
abbrev w3_addPlace (cI cJ cZ cS cT : ClassId) (a0 a_pumps a_room a_from a_to a_flow a_minutes a_danger a_foot : Nat) (v_places : Int32) (v_roads : Int32) (v_pumps : Nat → Int32) (v_room : Nat → Int32) : va_W := [(a0, .inr (3, [.int v_places, .int v_roads, .ref a_room, .ref a_pumps, .ref a_from, .ref a_to, .ref a_flow, .ref a_minutes, .ref a_danger, .ref a_foot])), (a_pumps, .inl (cI, 8, .inl v_pumps)), (a_room, .inl (cI, 8, .inl v_room))]
def x3_addPlace (v_places : Int32) (v_pumps : Nat → Int32) (v_room : Nat → Int32) (p1 : Int32) (p2 : Int32) : Option (Int32 × Int32 × (Nat → Int32) × (Nat → Int32)) :=
  if v_places < 0 then (some ((-3), v_places, v_pumps, v_room)) else (if v_places < 8 then (bif inB v_places 8 then (bif inB v_places 8 then (some (((v_places + 1) - 1), (v_places + 1), (upd v_pumps v_places.toNatClampNeg p2), (upd v_room v_places.toNatClampNeg p1))) else none) else none) else (some ((-3), v_places, v_pumps, v_room)))
set_option maxHeartbeats 4000000 in
set_option maxRecDepth 100000 in
theorem c3_addPlace (l : Launch) (D : yD) (cI cJ cZ cS cT : ClassId) (a0 a_pumps a_room a_from a_to a_flow a_minutes a_danger a_foot : Nat) (v_places : Int32) (v_roads : Int32) (v_pumps : Nat → Int32) (v_room : Nat → Int32) (p1 : Int32) (p2 : Int32) (out : Int32 × Int32 × (Nat → Int32) × (Nat → Int32)) (hx : x3_addPlace v_places v_pumps v_room p1 p2 = some out) : MC l D (yT cI cJ cZ cS cT) yX3_addPlace wsX3_addPlace ({ frames := 0, cells := 0, slots := 0, locals := 0 } : Room) (0, 0) [.ref a0, .int p1, .int p2] (w3_addPlace cI cJ cZ cS cT a0 a_pumps a_room a_from a_to a_flow a_minutes a_danger a_foot v_places v_roads v_pumps v_room) (POd (fun o : Int32 × Int32 × (Nat → Int32) × (Nat → Int32) => some (.int o.1)) (fun (o : Int32 × Int32 × (Nat → Int32) × (Nat → Int32)) => (w3_addPlace cI cJ cZ cS cT a0 a_pumps a_room a_from a_to a_flow a_minutes a_danger a_foot o.2.1 v_roads o.2.2.1 o.2.2.2)) out) := by
  refine MC.intro (cc := cX3_addPlace) (nL := 3) (ret := (some .int)) (own := RX3) (lv := [(0, .ref a0), (1, .int p1), (2, .int p2)]) (by decide) rfl rfl (Nat.le_of_ble_eq_true rfl) rfl (fun X C E => ?_)
  unfold x3_addPlace at hx
  refine Yaload_n C dX3_addPlace_0 0 rfl rfl ?_
  refine Yget C fg3_addPlace_36 dX3_addPlace_1 0 rfl rfl ?_
  refine Yif_lt C 16 dX3_addPlace_4 (by decide) hx (fun _ hx => ?_) (fun _ hx => ?_)
  · skip
    refine Ybipush C (-3) dX3_addPlace_16 (by decide) ?_
    exact Yiret C E dX3_addPlace_18 (ypo hx rfl rfl)
  · skip
    refine Yaload_n C dX3_addPlace_7 0 rfl rfl ?_
    refine Yget C fg3_addPlace_36 dX3_addPlace_8 0 rfl rfl ?_
    refine Ybipush C 8 dX3_addPlace_11 (by decide) ?_
    refine Yicmp_lt C 19 dX3_addPlace_13 (by decide) hx (fun _ hx => ?_) (fun _ hx => ?_)
    · skip
      refine Yaload_n C dX3_addPlace_19 0 rfl rfl ?_
      refine Yget C fg3_addPlace_9 dX3_addPlace_20 0 rfl rfl ?_
      refine Yaload_n C dX3_addPlace_23 0 rfl rfl ?_
      refine Yget C fg3_addPlace_36 dX3_addPlace_24 0 rfl rfl ?_
      refine Yiload_n C dX3_addPlace_27 1 rfl rfl ?_
      refine Yiast (ws' := (w3_addPlace cI cJ cZ cS cT a0 a_pumps a_room a_from a_to a_flow a_minutes a_danger a_foot v_places v_roads v_pumps (upd v_room v_places.toNatClampNeg p1))) C dX3_addPlace_28 hx 2 0 rfl rfl rfl (fun hx => ?_)
      refine Yaload_n C dX3_addPlace_29 0 rfl rfl ?_
      refine Yget C fg3_addPlace_15 dX3_addPlace_30 0 rfl rfl ?_
      refine Yaload_n C dX3_addPlace_33 0 rfl rfl ?_
      refine Yget C fg3_addPlace_36 dX3_addPlace_34 0 rfl rfl ?_
      refine Yiload_n C dX3_addPlace_37 2 rfl rfl ?_
      refine Yiast (ws' := (w3_addPlace cI cJ cZ cS cT a0 a_pumps a_room a_from a_to a_flow a_minutes a_danger a_foot v_places v_roads (upd v_pumps v_places.toNatClampNeg p2) (upd v_room v_places.toNatClampNeg p1))) C dX3_addPlace_38 hx 1 0 rfl rfl rfl (fun hx => ?_)
      refine Yaload_n C dX3_addPlace_39 0 rfl rfl ?_
      refine Ydup C dX3_addPlace_40 rfl ?_
      refine Yget C fg3_addPlace_36 dX3_addPlace_41 0 rfl rfl ?_
      refine Yiconst C 1 dX3_addPlace_44 (by decide) ?_
      refine Yiadd C dX3_addPlace_45 ?_
      refine Yput (v := .int (v_places + 1)) (ws' := (w3_addPlace cI cJ cZ cS cT a0 a_pumps a_room a_from a_to a_flow a_minutes a_danger a_foot (v_places + 1) v_roads (upd v_pumps v_places.toNatClampNeg p2) (upd v_room v_places.toNatClampNeg p1))) C fp3_addPlace_36 dX3_addPlace_46 0 rfl rfl rfl (Nat.le_of_ble_eq_true rfl) rfl rfl ?_
      refine Yaload_n C dX3_addPlace_49 0 rfl rfl ?_
      refine Yget C fg3_addPlace_36 dX3_addPlace_50 0 rfl rfl ?_
      refine Yiconst C 1 dX3_addPlace_53 (by decide) ?_
      refine Yisub C dX3_addPlace_54 ?_
      exact Yiret C E dX3_addPlace_55 (ypo hx rfl rfl)
    · skip
      refine Ybipush C (-3) dX3_addPlace_16 (by decide) ?_
      exact Yiret C E dX3_addPlace_18 (ypo hx rfl rfl)
theorem fg3_addRoad_40 : YF wsX3_addRoad RX3 40 3 1 := ⟨RX3, TX3, 10, rfl, (fun w h => List.mem_cons_of_mem _ (List.mem_append_right _ h)), by decide, List.mem_of_getElem? (i := 1) rfl⟩
theorem fg3_addRoad_18 : YF wsX3_addRoad RX3 18 3 4 := ⟨RX3, TX3, 10, rfl, (fun w h => List.mem_cons_of_mem _ (List.mem_append_right _ h)), by decide, List.mem_of_getElem? (i := 2) rfl⟩
theorem fg3_addRoad_21 : YF wsX3_addRoad RX3 21 3 5 := ⟨RX3, TX3, 10, rfl, (fun w h => List.mem_cons_of_mem _ (List.mem_append_right _ h)), by decide, List.mem_of_getElem? (i := 3) rfl⟩
theorem fg3_addRoad_24 : YF wsX3_addRoad RX3 24 3 6 := ⟨RX3, TX3, 10, rfl, (fun w h => List.mem_cons_of_mem _ (List.mem_append_right _ h)), by decide, List.mem_of_getElem? (i := 4) rfl⟩
theorem fg3_addRoad_27 : YF wsX3_addRoad RX3 27 3 7 := ⟨RX3, TX3, 10, rfl, (fun w h => List.mem_cons_of_mem _ (List.mem_append_right _ h)), by decide, List.mem_of_getElem? (i := 5) rfl⟩
theorem fg3_addRoad_30 : YF wsX3_addRoad RX3 30 3 8 := ⟨RX3, TX3, 10, rfl, (fun w h => List.mem_cons_of_mem _ (List.mem_append_right _ h)), by decide, List.mem_of_getElem? (i := 6) rfl⟩
theorem fp3_addRoad_40 : YFp wsX3_addRoad RX3 40 3 1 (tyX3 1) := ⟨RX3, TX3, 10, tyX3, rfl, (fun w h => List.mem_cons_of_mem _ (List.mem_append_right _ h)), by decide, List.mem_of_getElem? (i := 1) rfl, tyX3_ok, nmX3, rfl, tyX3_ok _ (by decide)⟩
theorem yf3_addRoad : (∃ Ty', wsX3_addRoad = Cond.code yX3_addRoad cX3_addRoad 5 (some .int) :: Ty') ∧ (yX3_addRoad.cls ≠ "java/lang/invoke/MethodHandle" ∧ yX3_addRoad.cls ≠ "java/lang/invoke/VarHandle" ∧ (parseMethodDescriptor yX3_addRoad.desc).map (fun d => d.parameters.length) = some 4) := ⟨⟨_, rfl⟩, by decide +kernel, by decide +kernel, by decide +kernel⟩
abbrev w3_addRoad (cI cJ cZ cS cT : ClassId) (a0 a_danger a_flow a_from a_minutes a_to a_room a_pumps a_foot : Nat) (v_places : Int32) (v_roads : Int32) (v_danger : Nat → Int32) (v_flow : Nat → Int32) (v_from : Nat → Int32) (v_minutes : Nat → Int32) (v_to : Nat → Int32) : va_W := [(a0, .inr (3, [.int v_places, .int v_roads, .ref a_room, .ref a_pumps, .ref a_from, .ref a_to, .ref a_flow, .ref a_minutes, .ref a_danger, .ref a_foot])), (a_danger, .inl (cI, 16, .inl v_danger)), (a_flow, .inl (cI, 16, .inl v_flow)), (a_from, .inl (cI, 16, .inl v_from)), (a_minutes, .inl (cI, 16, .inl v_minutes)), (a_to, .inl (cI, 16, .inl v_to))]
def x3_addRoad (v_places : Int32) (v_roads : Int32) (v_danger : Nat → Int32) (v_flow : Nat → Int32) (v_from : Nat → Int32) (v_minutes : Nat → Int32) (v_to : Nat → Int32) (p1 : Int32) (p2 : Int32) (p3 : Int32) (p4 : Int32) : Option (Int32 × Int32 × (Nat → Int32) × (Nat → Int32) × (Nat → Int32) × (Nat → Int32) × (Nat → Int32)) :=
  (x3_hasPair v_places p1).bind fun o1 => bif o1 then (if (p1 / 10) = (p1 - p1 / 10 * 10) then (some ((-1), v_roads, v_danger, v_flow, v_from, v_minutes, v_to)) else (if p2 < 1 then (some ((-1), v_roads, v_danger, v_flow, v_from, v_minutes, v_to)) else (if 60 < p2 then (some ((-1), v_roads, v_danger, v_flow, v_from, v_minutes, v_to)) else (if p3 < 1 then (some ((-1), v_roads, v_danger, v_flow, v_from, v_minutes, v_to)) else (if 300 < p3 then (some ((-1), v_roads, v_danger, v_flow, v_from, v_minutes, v_to)) else (if p4 < 0 then (some ((-1), v_roads, v_danger, v_flow, v_from, v_minutes, v_to)) else (if p4 ≤ 99 then (if v_roads < 0 then (some ((-3), v_roads, v_danger, v_flow, v_from, v_minutes, v_to)) else (if v_roads < 16 then (bif inB v_roads 16 then (bif inB v_roads 16 then (bif inB v_roads 16 then (bif inB v_roads 16 then (bif inB v_roads 16 then (some (((v_roads + 1) - 1), (v_roads + 1), (upd v_danger v_roads.toNatClampNeg p4), (upd v_flow v_roads.toNatClampNeg p2), (upd v_from v_roads.toNatClampNeg (p1 / 10)), (upd v_minutes v_roads.toNatClampNeg p3), (upd v_to v_roads.toNatClampNeg (p1 - p1 / 10 * 10)))) else none) else none) else none) else none) else none) else (some ((-3), v_roads, v_danger, v_flow, v_from, v_minutes, v_to)))) else (some ((-1), v_roads, v_danger, v_flow, v_from, v_minutes, v_to))))))))) else (some ((-1), v_roads, v_danger, v_flow, v_from, v_minutes, v_to))
set_option maxHeartbeats 4000000 in
set_option maxRecDepth 100000 in
theorem c3_addRoad (l : Launch) (D : yD) (cI cJ cZ cS cT : ClassId) (a0 a_danger a_flow a_from a_minutes a_to a_room a_pumps a_foot : Nat) (v_places : Int32) (v_roads : Int32) (v_danger : Nat → Int32) (v_flow : Nat → Int32) (v_from : Nat → Int32) (v_minutes : Nat → Int32) (v_to : Nat → Int32) (p1 : Int32) (p2 : Int32) (p3 : Int32) (p4 : Int32) (out : Int32 × Int32 × (Nat → Int32) × (Nat → Int32) × (Nat → Int32) × (Nat → Int32) × (Nat → Int32)) (hx : x3_addRoad v_places v_roads v_danger v_flow v_from v_minutes v_to p1 p2 p3 p4 = some out) : MC l D (yT cI cJ cZ cS cT) yX3_addRoad wsX3_addRoad ({ frames := 2, cells := 0, slots := 0, locals := 42 } : Room) (0, 0) [.ref a0, .int p1, .int p2, .int p3, .int p4] (w3_addRoad cI cJ cZ cS cT a0 a_danger a_flow a_from a_minutes a_to a_room a_pumps a_foot v_places v_roads v_danger v_flow v_from v_minutes v_to) (POd (fun o : Int32 × Int32 × (Nat → Int32) × (Nat → Int32) × (Nat → Int32) × (Nat → Int32) × (Nat → Int32) => some (.int o.1)) (fun (o : Int32 × Int32 × (Nat → Int32) × (Nat → Int32) × (Nat → Int32) × (Nat → Int32) × (Nat → Int32)) => (w3_addRoad cI cJ cZ cS cT a0 a_danger a_flow a_from a_minutes a_to a_room a_pumps a_foot v_places o.2.1 o.2.2.1 o.2.2.2.1 o.2.2.2.2.1 o.2.2.2.2.2.1 o.2.2.2.2.2.2)) out) := by
  refine MC.intro (cc := cX3_addRoad) (nL := 5) (ret := (some .int)) (own := RX3) (lv := [(0, .ref a0), (1, .int p1), (2, .int p2), (3, .int p3), (4, .int p4)]) (by decide) rfl rfl (Nat.le_of_ble_eq_true rfl) rfl (fun X C E => ?_)
  unfold x3_addRoad at hx
  refine Yaload_n C dX3_addRoad_0 0 rfl rfl ?_
  refine Yiload_n C dX3_addRoad_1 1 rfl rfl ?_
  obtain ⟨o1, ho1, hx⟩ := ybnd hx
  refine YcallVd (ws' := (w3_addRoad cI cJ cZ cS cT a0 a_danger a_flow a_from a_minutes a_to a_room a_pumps a_foot v_places v_roads v_danger v_flow v_from v_minutes v_to)) (st' := [.int (bI o1)]) (st := []) (as := [.int p1]) (b := a0) (ci := 3) C [0] [1, 2, 3, 4, 5] 6 dX3_addRoad_2 (c3_hasPair l D cI cJ cZ cS cT a0 a_room a_pumps a_from a_to a_flow a_minutes a_danger a_foot v_places v_roads p1 o1 ho1) gX3_addRoad_X3_hasPair rfl ⟨yf3_hasPair.1, yf3_hasPair.2, Nat.le_of_ble_eq_true rfl, Nat.le_of_ble_eq_true rfl, rfl, rfl⟩ rfl 0 rfl (by decide) ⟨Nat.zero_le _, Nat.zero_le _⟩ (Nat.le_of_ble_eq_true rfl) ⟨rfl, trivial⟩ rfl rfl (by decide) (by decide) ⟨rfl, trivial⟩ [(a_danger, .inl (cI, 16, .inl v_danger)), (a_flow, .inl (cI, 16, .inl v_flow)), (a_from, .inl (cI, 16, .inl v_from)), (a_minutes, .inl (cI, 16, .inl v_minutes)), (a_to, .inl (cI, 16, .inl v_to))] ⟨rfl, rfl, rfl, rfl, rfl, trivial⟩ ⟨rfl, rfl, rfl, rfl, rfl, trivial⟩ rfl ?_
  refine Yif_eq_b C 54 dX3_addRoad_5 (by decide) hx (fun _ hx => ?_) (fun _ hx => ?_)
  · skip
    refine Yiconst C (-1) dX3_addRoad_54 (by decide) ?_
    exact Yiret C E dX3_addRoad_55 (ypo hx rfl rfl)
  · skip
    refine Yiload_n C dX3_addRoad_8 1 rfl rfl ?_
    refine Ybipush C 10 dX3_addRoad_9 (by decide) ?_
    refine Yidiv C dX3_addRoad_11 (by decide) ?_
    refine Yiload_n C dX3_addRoad_12 1 rfl rfl ?_
    refine Ybipush C 10 dX3_addRoad_13 (by decide) ?_
    refine Yirem C dX3_addRoad_15 (by decide) ?_
    refine Yicmp_eq C 54 dX3_addRoad_16 (by decide) hx (fun _ hx => ?_) (fun _ hx => ?_)
    · skip
      refine Yiconst C (-1) dX3_addRoad_54 (by decide) ?_
      exact Yiret C E dX3_addRoad_55 (ypo hx rfl rfl)
    · skip
      refine Yiload_n C dX3_addRoad_19 2 rfl rfl ?_
      refine Yiconst C 1 dX3_addRoad_20 (by decide) ?_
      refine Yicmp_lt C 54 dX3_addRoad_21 (by decide) hx (fun _ hx => ?_) (fun _ hx => ?_)
      · skip
        refine Yiconst C (-1) dX3_addRoad_54 (by decide) ?_
        exact Yiret C E dX3_addRoad_55 (ypo hx rfl rfl)
      · skip
        refine Yiload_n C dX3_addRoad_24 2 rfl rfl ?_
        refine Ybipush C 60 dX3_addRoad_25 (by decide) ?_
        refine Yicmp_gt C 54 dX3_addRoad_27 (by decide) hx (fun _ hx => ?_) (fun _ hx => ?_)
        · skip
          refine Yiconst C (-1) dX3_addRoad_54 (by decide) ?_
          exact Yiret C E dX3_addRoad_55 (ypo hx rfl rfl)
        · skip
          refine Yiload_n C dX3_addRoad_30 3 rfl rfl ?_
          refine Yiconst C 1 dX3_addRoad_31 (by decide) ?_
          refine Yicmp_lt C 54 dX3_addRoad_32 (by decide) hx (fun _ hx => ?_) (fun _ hx => ?_)
          · skip
            refine Yiconst C (-1) dX3_addRoad_54 (by decide) ?_
            exact Yiret C E dX3_addRoad_55 (ypo hx rfl rfl)
          · skip
            refine Yiload_n C dX3_addRoad_35 3 rfl rfl ?_
            refine Ysipush C 300 dX3_addRoad_36 (by decide) ?_
            refine Yicmp_gt C 54 dX3_addRoad_39 (by decide) hx (fun _ hx => ?_) (fun _ hx => ?_)
            · skip
              refine Yiconst C (-1) dX3_addRoad_54 (by decide) ?_
              exact Yiret C E dX3_addRoad_55 (ypo hx rfl rfl)
            · skip
              refine Yiload C dX3_addRoad_42 4 rfl ?_
              refine Yif_lt C 54 dX3_addRoad_44 (by decide) hx (fun _ hx => ?_) (fun _ hx => ?_)
              · skip
                refine Yiconst C (-1) dX3_addRoad_54 (by decide) ?_
                exact Yiret C E dX3_addRoad_55 (ypo hx rfl rfl)
              · skip
                refine Yiload C dX3_addRoad_47 4 rfl ?_
                refine Ybipush C 99 dX3_addRoad_49 (by decide) ?_
                refine Yicmp_le C 56 dX3_addRoad_51 (by decide) hx (fun _ hx => ?_) (fun _ hx => ?_)
                · skip
                  refine Yaload_n C dX3_addRoad_56 0 rfl rfl ?_
                  refine Yget C fg3_addRoad_40 dX3_addRoad_57 0 rfl rfl ?_
                  refine Yif_lt C 72 dX3_addRoad_60 (by decide) hx (fun _ hx => ?_) (fun _ hx => ?_)
                  · skip
                    refine Ybipush C (-3) dX3_addRoad_72 (by decide) ?_
                    exact Yiret C E dX3_addRoad_74 (ypo hx rfl rfl)
                  · skip
                    refine Yaload_n C dX3_addRoad_63 0 rfl rfl ?_
                    refine Yget C fg3_addRoad_40 dX3_addRoad_64 0 rfl rfl ?_
                    refine Ybipush C 16 dX3_addRoad_67 (by decide) ?_
                    refine Yicmp_lt C 75 dX3_addRoad_69 (by decide) hx (fun _ hx => ?_) (fun _ hx => ?_)
                    · skip
                      refine Yaload_n C dX3_addRoad_75 0 rfl rfl ?_
                      refine Yget C fg3_addRoad_18 dX3_addRoad_76 0 rfl rfl ?_
                      refine Yaload_n C dX3_addRoad_79 0 rfl rfl ?_
                      refine Yget C fg3_addRoad_40 dX3_addRoad_80 0 rfl rfl ?_
                      refine Yiload_n C dX3_addRoad_83 1 rfl rfl ?_
                      refine Ybipush C 10 dX3_addRoad_84 (by decide) ?_
                      refine Yidiv C dX3_addRoad_86 (by decide) ?_
                      refine Yiast (ws' := (w3_addRoad cI cJ cZ cS cT a0 a_danger a_flow a_from a_minutes a_to a_room a_pumps a_foot v_places v_roads v_danger v_flow (upd v_from v_roads.toNatClampNeg (p1 / 10)) v_minutes v_to)) C dX3_addRoad_87 hx 3 0 rfl rfl rfl (fun hx => ?_)
                      refine Yaload_n C dX3_addRoad_88 0 rfl rfl ?_
                      refine Yget C fg3_addRoad_21 dX3_addRoad_89 0 rfl rfl ?_
                      refine Yaload_n C dX3_addRoad_92 0 rfl rfl ?_
                      refine Yget C fg3_addRoad_40 dX3_addRoad_93 0 rfl rfl ?_
                      refine Yiload_n C dX3_addRoad_96 1 rfl rfl ?_
                      refine Ybipush C 10 dX3_addRoad_97 (by decide) ?_
                      refine Yirem C dX3_addRoad_99 (by decide) ?_
                      refine Yiast (ws' := (w3_addRoad cI cJ cZ cS cT a0 a_danger a_flow a_from a_minutes a_to a_room a_pumps a_foot v_places v_roads v_danger v_flow (upd v_from v_roads.toNatClampNeg (p1 / 10)) v_minutes (upd v_to v_roads.toNatClampNeg (p1 - p1 / 10 * 10)))) C dX3_addRoad_100 hx 5 0 rfl rfl rfl (fun hx => ?_)
                      refine Yaload_n C dX3_addRoad_101 0 rfl rfl ?_
                      refine Yget C fg3_addRoad_24 dX3_addRoad_102 0 rfl rfl ?_
                      refine Yaload_n C dX3_addRoad_105 0 rfl rfl ?_
                      refine Yget C fg3_addRoad_40 dX3_addRoad_106 0 rfl rfl ?_
                      refine Yiload_n C dX3_addRoad_109 2 rfl rfl ?_
                      refine Yiast (ws' := (w3_addRoad cI cJ cZ cS cT a0 a_danger a_flow a_from a_minutes a_to a_room a_pumps a_foot v_places v_roads v_danger (upd v_flow v_roads.toNatClampNeg p2) (upd v_from v_roads.toNatClampNeg (p1 / 10)) v_minutes (upd v_to v_roads.toNatClampNeg (p1 - p1 / 10 * 10)))) C dX3_addRoad_110 hx 2 0 rfl rfl rfl (fun hx => ?_)
                      refine Yaload_n C dX3_addRoad_111 0 rfl rfl ?_
                      refine Yget C fg3_addRoad_27 dX3_addRoad_112 0 rfl rfl ?_
                      refine Yaload_n C dX3_addRoad_115 0 rfl rfl ?_
                      refine Yget C fg3_addRoad_40 dX3_addRoad_116 0 rfl rfl ?_
                      refine Yiload_n C dX3_addRoad_119 3 rfl rfl ?_
                      refine Yiast (ws' := (w3_addRoad cI cJ cZ cS cT a0 a_danger a_flow a_from a_minutes a_to a_room a_pumps a_foot v_places v_roads v_danger (upd v_flow v_roads.toNatClampNeg p2) (upd v_from v_roads.toNatClampNeg (p1 / 10)) (upd v_minutes v_roads.toNatClampNeg p3) (upd v_to v_roads.toNatClampNeg (p1 - p1 / 10 * 10)))) C dX3_addRoad_120 hx 4 0 rfl rfl rfl (fun hx => ?_)
                      refine Yaload_n C dX3_addRoad_121 0 rfl rfl ?_
                      refine Yget C fg3_addRoad_30 dX3_addRoad_122 0 rfl rfl ?_
                      refine Yaload_n C dX3_addRoad_125 0 rfl rfl ?_
                      refine Yget C fg3_addRoad_40 dX3_addRoad_126 0 rfl rfl ?_
                      refine Yiload C dX3_addRoad_129 4 rfl ?_
                      refine Yiast (ws' := (w3_addRoad cI cJ cZ cS cT a0 a_danger a_flow a_from a_minutes a_to a_room a_pumps a_foot v_places v_roads (upd v_danger v_roads.toNatClampNeg p4) (upd v_flow v_roads.toNatClampNeg p2) (upd v_from v_roads.toNatClampNeg (p1 / 10)) (upd v_minutes v_roads.toNatClampNeg p3) (upd v_to v_roads.toNatClampNeg (p1 - p1 / 10 * 10)))) C dX3_addRoad_131 hx 1 0 rfl rfl rfl (fun hx => ?_)
                      refine Yaload_n C dX3_addRoad_132 0 rfl rfl ?_
                      refine Ydup C dX3_addRoad_133 rfl ?_
                      refine Yget C fg3_addRoad_40 dX3_addRoad_134 0 rfl rfl ?_
                      refine Yiconst C 1 dX3_addRoad_137 (by decide) ?_
                      refine Yiadd C dX3_addRoad_138 ?_
                      refine Yput (v := .int (v_roads + 1)) (ws' := (w3_addRoad cI cJ cZ cS cT a0 a_danger a_flow a_from a_minutes a_to a_room a_pumps a_foot v_places (v_roads + 1) (upd v_danger v_roads.toNatClampNeg p4) (upd v_flow v_roads.toNatClampNeg p2) (upd v_from v_roads.toNatClampNeg (p1 / 10)) (upd v_minutes v_roads.toNatClampNeg p3) (upd v_to v_roads.toNatClampNeg (p1 - p1 / 10 * 10)))) C fp3_addRoad_40 dX3_addRoad_139 0 rfl rfl rfl (Nat.le_of_ble_eq_true rfl) rfl rfl ?_
                      refine Yaload_n C dX3_addRoad_142 0 rfl rfl ?_
                      refine Yget C fg3_addRoad_40 dX3_addRoad_143 0 rfl rfl ?_
                      refine Yiconst C 1 dX3_addRoad_146 (by decide) ?_
                      refine Yisub C dX3_addRoad_147 ?_
                      exact Yiret C E dX3_addRoad_148 (ypo hx rfl rfl)
                    · skip
                      refine Ybipush C (-3) dX3_addRoad_72 (by decide) ?_
                      exact Yiret C E dX3_addRoad_74 (ypo hx rfl rfl)
                · skip
                  refine Yiconst C (-1) dX3_addRoad_54 (by decide) ?_
                  exact Yiret C E dX3_addRoad_55 (ypo hx rfl rfl)
theorem fg3_onFoot_33 : YF wsX3_onFoot RX3 33 3 9 := ⟨RX3, TX3, 10, rfl, (fun w h => List.mem_cons_of_mem _ (List.mem_append_right _ h)), by decide, List.mem_of_getElem? (i := 1) rfl⟩
theorem yf3_onFoot : (∃ Ty', wsX3_onFoot = Cond.code yX3_onFoot cX3_onFoot 3 (some .int) :: Ty') ∧ (yX3_onFoot.cls ≠ "java/lang/invoke/MethodHandle" ∧ yX3_onFoot.cls ≠ "java/lang/invoke/VarHandle" ∧ (parseMethodDescriptor yX3_onFoot.desc).map (fun d => d.parameters.length) = some 2) := ⟨⟨_, rfl⟩, by decide +kernel, by decide +kernel, by decide +kernel⟩
abbrev w3_onFoot (cI cJ cZ cS cT : ClassId) (a0 a_foot a_room a_pumps a_from a_to a_flow a_minutes a_danger : Nat) (v_places : Int32) (v_roads : Int32) (v_foot : Nat → Int32) : va_W := [(a0, .inr (3, [.int v_places, .int v_roads, .ref a_room, .ref a_pumps, .ref a_from, .ref a_to, .ref a_flow, .ref a_minutes, .ref a_danger, .ref a_foot])), (a_foot, .inl (cI, 64, .inl v_foot))]
def x3_onFoot (v_places : Int32) (v_foot : Nat → Int32) (p1 : Int32) (p2 : Int32) : Option (Int32) :=
  (x3_hasPlace v_places p1).bind fun o1 => bif o1 then ((x3_hasPlace v_places p2).bind fun o2 => bif o2 then (bif inB ((p1 * 8) + p2) 64 then (some ((v_foot ((p1 * 8) + p2).toNatClampNeg))) else none) else (some (0))) else (some (0))
set_option maxHeartbeats 4000000 in
set_option maxRecDepth 100000 in
theorem c3_onFoot (l : Launch) (D : yD) (cI cJ cZ cS cT : ClassId) (a0 a_foot a_room a_pumps a_from a_to a_flow a_minutes a_danger : Nat) (v_places : Int32) (v_roads : Int32) (v_foot : Nat → Int32) (p1 : Int32) (p2 : Int32) (out : Int32) (hx : x3_onFoot v_places v_foot p1 p2 = some out) : MC l D (yT cI cJ cZ cS cT) yX3_onFoot wsX3_onFoot ({ frames := 1, cells := 0, slots := 0, locals := 21 } : Room) (0, 0) [.ref a0, .int p1, .int p2] (w3_onFoot cI cJ cZ cS cT a0 a_foot a_room a_pumps a_from a_to a_flow a_minutes a_danger v_places v_roads v_foot) (POd (fun o : Int32 => some (.int o)) (fun (o : Int32) => (w3_onFoot cI cJ cZ cS cT a0 a_foot a_room a_pumps a_from a_to a_flow a_minutes a_danger v_places v_roads v_foot)) out) := by
  refine MC.intro (cc := cX3_onFoot) (nL := 3) (ret := (some .int)) (own := RX3) (lv := [(0, .ref a0), (1, .int p1), (2, .int p2)]) (by decide) rfl rfl (Nat.le_of_ble_eq_true rfl) rfl (fun X C E => ?_)
  unfold x3_onFoot at hx
  refine Yaload_n C dX3_onFoot_0 0 rfl rfl ?_
  refine Yiload_n C dX3_onFoot_1 1 rfl rfl ?_
  obtain ⟨o1, ho1, hx⟩ := ybnd hx
  refine YcallVd (ws' := (w3_onFoot cI cJ cZ cS cT a0 a_foot a_room a_pumps a_from a_to a_flow a_minutes a_danger v_places v_roads v_foot)) (st' := [.int (bI o1)]) (st := []) (as := [.int p1]) (b := a0) (ci := 3) C [0] [1] 2 dX3_onFoot_2 (c3_hasPlace l D cI cJ cZ cS cT a0 a_room a_pumps a_from a_to a_flow a_minutes a_danger a_foot v_places v_roads p1 o1 ho1) gX3_onFoot_X3_hasPlace rfl ⟨yf3_hasPlace.1, yf3_hasPlace.2, Nat.le_of_ble_eq_true rfl, Nat.le_of_ble_eq_true rfl, rfl, rfl⟩ rfl 0 rfl (by decide) ⟨Nat.zero_le _, Nat.zero_le _⟩ (Nat.le_of_ble_eq_true rfl) ⟨rfl, trivial⟩ rfl rfl (by decide) (by decide) ⟨rfl, trivial⟩ [(a_foot, .inl (cI, 64, .inl v_foot))] ⟨rfl, trivial⟩ ⟨rfl, trivial⟩ rfl ?_
  refine Yif_eq_b C 30 dX3_onFoot_5 (by decide) hx (fun _ hx => ?_) (fun _ hx => ?_)
  · skip
    refine Yiconst C 0 dX3_onFoot_30 (by decide) ?_
    exact Yiret C E dX3_onFoot_31 (ypo hx rfl rfl)
  · skip
    refine Yaload_n C dX3_onFoot_8 0 rfl rfl ?_
    refine Yiload_n C dX3_onFoot_9 2 rfl rfl ?_
    obtain ⟨o2, ho2, hx⟩ := ybnd hx
    refine YcallVd (ws' := (w3_onFoot cI cJ cZ cS cT a0 a_foot a_room a_pumps a_from a_to a_flow a_minutes a_danger v_places v_roads v_foot)) (st' := [.int (bI o2)]) (st := []) (as := [.int p2]) (b := a0) (ci := 3) C [0] [1] 2 dX3_onFoot_10 (c3_hasPlace l D cI cJ cZ cS cT a0 a_room a_pumps a_from a_to a_flow a_minutes a_danger a_foot v_places v_roads p2 o2 ho2) gX3_onFoot_X3_hasPlace rfl ⟨yf3_hasPlace.1, yf3_hasPlace.2, Nat.le_of_ble_eq_true rfl, Nat.le_of_ble_eq_true rfl, rfl, rfl⟩ rfl 0 rfl (by decide) ⟨Nat.zero_le _, Nat.zero_le _⟩ (Nat.le_of_ble_eq_true rfl) ⟨rfl, trivial⟩ rfl rfl (by decide) (by decide) ⟨rfl, trivial⟩ [(a_foot, .inl (cI, 64, .inl v_foot))] ⟨rfl, trivial⟩ ⟨rfl, trivial⟩ rfl ?_
    refine Yif_eq_b C 30 dX3_onFoot_13 (by decide) hx (fun _ hx => ?_) (fun _ hx => ?_)
    · skip
      refine Yiconst C 0 dX3_onFoot_30 (by decide) ?_
      exact Yiret C E dX3_onFoot_31 (ypo hx rfl rfl)
    · skip
      refine Yaload_n C dX3_onFoot_16 0 rfl rfl ?_
      refine Yget C fg3_onFoot_33 dX3_onFoot_17 0 rfl rfl ?_
      refine Yiload_n C dX3_onFoot_20 1 rfl rfl ?_
      refine Ybipush C 8 dX3_onFoot_21 (by decide) ?_
      refine Yimul C dX3_onFoot_23 ?_
      refine Yiload_n C dX3_onFoot_24 2 rfl rfl ?_
      refine Yiadd C dX3_onFoot_25 ?_
      refine Yiald C dX3_onFoot_26 hx 1 0 rfl rfl (fun hx => ?_)
      refine Ygoto C 31 dX3_onFoot_27 (by decide) ?_
      exact Yiret C E dX3_onFoot_31 (ypo hx rfl rfl)
theorem fg3_setOnFoot_33 : YF wsX3_setOnFoot RX3 33 3 9 := ⟨RX3, TX3, 10, rfl, (fun w h => List.mem_cons_of_mem _ (List.mem_append_right _ h)), by decide, List.mem_of_getElem? (i := 1) rfl⟩
theorem yf3_setOnFoot : (∃ Ty', wsX3_setOnFoot = Cond.code yX3_setOnFoot cX3_setOnFoot 4 none :: Ty') ∧ (yX3_setOnFoot.cls ≠ "java/lang/invoke/MethodHandle" ∧ yX3_setOnFoot.cls ≠ "java/lang/invoke/VarHandle" ∧ (parseMethodDescriptor yX3_setOnFoot.desc).map (fun d => d.parameters.length) = some 3) := ⟨⟨_, rfl⟩, by decide +kernel, by decide +kernel, by decide +kernel⟩
abbrev w3_setOnFoot (cI cJ cZ cS cT : ClassId) (a0 a_foot a_room a_pumps a_from a_to a_flow a_minutes a_danger : Nat) (v_places : Int32) (v_roads : Int32) (v_foot : Nat → Int32) : va_W := [(a0, .inr (3, [.int v_places, .int v_roads, .ref a_room, .ref a_pumps, .ref a_from, .ref a_to, .ref a_flow, .ref a_minutes, .ref a_danger, .ref a_foot])), (a_foot, .inl (cI, 64, .inl v_foot))]
def x3_setOnFoot (v_places : Int32) (v_foot : Nat → Int32) (p1 : Int32) (p2 : Int32) (p3 : Int32) : Option ((Nat → Int32)) :=
  (x3_hasPlace v_places p1).bind fun o1 => bif o1 then ((x3_hasPlace v_places p2).bind fun o2 => bif o2 then (bif inB ((p1 * 8) + p2) 64 then (some ((upd v_foot ((p1 * 8) + p2).toNatClampNeg p3))) else none) else (some (v_foot))) else (some (v_foot))
set_option maxHeartbeats 4000000 in
set_option maxRecDepth 100000 in
theorem c3_setOnFoot (l : Launch) (D : yD) (cI cJ cZ cS cT : ClassId) (a0 a_foot a_room a_pumps a_from a_to a_flow a_minutes a_danger : Nat) (v_places : Int32) (v_roads : Int32) (v_foot : Nat → Int32) (p1 : Int32) (p2 : Int32) (p3 : Int32) (out : (Nat → Int32)) (hx : x3_setOnFoot v_places v_foot p1 p2 p3 = some out) : MC l D (yT cI cJ cZ cS cT) yX3_setOnFoot wsX3_setOnFoot ({ frames := 1, cells := 0, slots := 0, locals := 21 } : Room) (0, 0) [.ref a0, .int p1, .int p2, .int p3] (w3_setOnFoot cI cJ cZ cS cT a0 a_foot a_room a_pumps a_from a_to a_flow a_minutes a_danger v_places v_roads v_foot) (POd (fun o : (Nat → Int32) => none) (fun (o : (Nat → Int32)) => (w3_setOnFoot cI cJ cZ cS cT a0 a_foot a_room a_pumps a_from a_to a_flow a_minutes a_danger v_places v_roads o)) out) := by
  refine MC.intro (cc := cX3_setOnFoot) (nL := 4) (ret := none) (own := RX3) (lv := [(0, .ref a0), (1, .int p1), (2, .int p2), (3, .int p3)]) (by decide) rfl rfl (Nat.le_of_ble_eq_true rfl) rfl (fun X C E => ?_)
  unfold x3_setOnFoot at hx
  refine Yaload_n C dX3_setOnFoot_0 0 rfl rfl ?_
  refine Yiload_n C dX3_setOnFoot_1 1 rfl rfl ?_
  obtain ⟨o1, ho1, hx⟩ := ybnd hx
  refine YcallVd (ws' := (w3_setOnFoot cI cJ cZ cS cT a0 a_foot a_room a_pumps a_from a_to a_flow a_minutes a_danger v_places v_roads v_foot)) (st' := [.int (bI o1)]) (st := []) (as := [.int p1]) (b := a0) (ci := 3) C [0] [1] 2 dX3_setOnFoot_2 (c3_hasPlace l D cI cJ cZ cS cT a0 a_room a_pumps a_from a_to a_flow a_minutes a_danger a_foot v_places v_roads p1 o1 ho1) gX3_setOnFoot_X3_hasPlace rfl ⟨yf3_hasPlace.1, yf3_hasPlace.2, Nat.le_of_ble_eq_true rfl, Nat.le_of_ble_eq_true rfl, rfl, rfl⟩ rfl 0 rfl (by decide) ⟨Nat.zero_le _, Nat.zero_le _⟩ (Nat.le_of_ble_eq_true rfl) ⟨rfl, trivial⟩ rfl rfl (by decide) (by decide) ⟨rfl, trivial⟩ [(a_foot, .inl (cI, 64, .inl v_foot))] ⟨rfl, trivial⟩ ⟨rfl, trivial⟩ rfl ?_
  refine Yif_eq_b C 28 dX3_setOnFoot_5 (by decide) hx (fun _ hx => ?_) (fun _ hx => ?_)
  · skip
    exact Yvret C E dX3_setOnFoot_28 (ypo hx rfl rfl)
  · skip
    refine Yaload_n C dX3_setOnFoot_8 0 rfl rfl ?_
    refine Yiload_n C dX3_setOnFoot_9 2 rfl rfl ?_
    obtain ⟨o2, ho2, hx⟩ := ybnd hx
    refine YcallVd (ws' := (w3_setOnFoot cI cJ cZ cS cT a0 a_foot a_room a_pumps a_from a_to a_flow a_minutes a_danger v_places v_roads v_foot)) (st' := [.int (bI o2)]) (st := []) (as := [.int p2]) (b := a0) (ci := 3) C [0] [1] 2 dX3_setOnFoot_10 (c3_hasPlace l D cI cJ cZ cS cT a0 a_room a_pumps a_from a_to a_flow a_minutes a_danger a_foot v_places v_roads p2 o2 ho2) gX3_setOnFoot_X3_hasPlace rfl ⟨yf3_hasPlace.1, yf3_hasPlace.2, Nat.le_of_ble_eq_true rfl, Nat.le_of_ble_eq_true rfl, rfl, rfl⟩ rfl 0 rfl (by decide) ⟨Nat.zero_le _, Nat.zero_le _⟩ (Nat.le_of_ble_eq_true rfl) ⟨rfl, trivial⟩ rfl rfl (by decide) (by decide) ⟨rfl, trivial⟩ [(a_foot, .inl (cI, 64, .inl v_foot))] ⟨rfl, trivial⟩ ⟨rfl, trivial⟩ rfl ?_
    refine Yif_eq_b C 28 dX3_setOnFoot_13 (by decide) hx (fun _ hx => ?_) (fun _ hx => ?_)
    · skip
      exact Yvret C E dX3_setOnFoot_28 (ypo hx rfl rfl)
    · skip
      refine Yaload_n C dX3_setOnFoot_16 0 rfl rfl ?_
      refine Yget C fg3_setOnFoot_33 dX3_setOnFoot_17 0 rfl rfl ?_
      refine Yiload_n C dX3_setOnFoot_20 1 rfl rfl ?_
      refine Ybipush C 8 dX3_setOnFoot_21 (by decide) ?_
      refine Yimul C dX3_setOnFoot_23 ?_
      refine Yiload_n C dX3_setOnFoot_24 2 rfl rfl ?_
      refine Yiadd C dX3_setOnFoot_25 ?_
      refine Yiload_n C dX3_setOnFoot_26 3 rfl rfl ?_
      refine Yiast (ws' := (w3_setOnFoot cI cJ cZ cS cT a0 a_foot a_room a_pumps a_from a_to a_flow a_minutes a_danger v_places v_roads (upd v_foot ((p1 * 8) + p2).toNatClampNeg p3))) C dX3_setOnFoot_27 hx 1 0 rfl rfl rfl (fun hx => ?_)
      exact Yvret C E dX3_setOnFoot_28 (ypo hx rfl rfl)
theorem yf3_mayBecome : (∃ Ty', wsX3_mayBecome = Cond.code yX3_mayBecome cX3_mayBecome 4 (some .boolean) :: Ty') ∧ (yX3_mayBecome.cls ≠ "java/lang/invoke/MethodHandle" ∧ yX3_mayBecome.cls ≠ "java/lang/invoke/VarHandle" ∧ (parseMethodDescriptor yX3_mayBecome.desc).map (fun d => d.parameters.length) = some 3) := ⟨⟨_, rfl⟩, by decide +kernel, by decide +kernel, by decide +kernel⟩
abbrev w3_mayBecome (cI cJ cZ cS cT : ClassId) (a0 a_room a_pumps a_from a_to a_flow a_minutes a_danger a_foot : Nat) (v_places : Int32) (v_roads : Int32) : va_W := [(a0, .inr (3, [.int v_places, .int v_roads, .ref a_room, .ref a_pumps, .ref a_from, .ref a_to, .ref a_flow, .ref a_minutes, .ref a_danger, .ref a_foot]))]
def x3_mayBecome (v_places : Int32) (v_roads : Int32) (p1 : Int32) (p2 : Int32) (p3 : Int32) : Option (Bool) :=
  if p2 = 0 then ((x3_hasPlace v_places p1).bind fun o1 => bif o1 then (if p3 < 0 then (some (false)) else (if 9 < p3 then (some (false)) else (some (true)))) else (some (false))) else (if p2 = 1 then ((x3_hasRoad v_roads p1).bind fun o2 => bif o2 then (if p3 < 1 then (some (false)) else (if 60 < p3 then (some (false)) else (some (true)))) else (some (false))) else (if p2 = 2 then ((x3_hasRoad v_roads p1).bind fun o3 => bif o3 then (if p3 < 0 then (some (false)) else (if 99 < p3 then (some (false)) else (some (true)))) else (some (false))) else (some (false))))
set_option maxHeartbeats 4000000 in
set_option maxRecDepth 100000 in
theorem c3_mayBecome (l : Launch) (D : yD) (cI cJ cZ cS cT : ClassId) (a0 a_room a_pumps a_from a_to a_flow a_minutes a_danger a_foot : Nat) (v_places : Int32) (v_roads : Int32) (p1 : Int32) (p2 : Int32) (p3 : Int32) (out : Bool) (hx : x3_mayBecome v_places v_roads p1 p2 p3 = some out) : MC l D (yT cI cJ cZ cS cT) yX3_mayBecome wsX3_mayBecome ({ frames := 1, cells := 0, slots := 0, locals := 21 } : Room) (0, 0) [.ref a0, .int p1, .int p2, .int p3] (w3_mayBecome cI cJ cZ cS cT a0 a_room a_pumps a_from a_to a_flow a_minutes a_danger a_foot v_places v_roads) (POd (fun o : Bool => some (.int (bI o))) (fun (o : Bool) => (w3_mayBecome cI cJ cZ cS cT a0 a_room a_pumps a_from a_to a_flow a_minutes a_danger a_foot v_places v_roads)) out) := by
  refine MC.intro (cc := cX3_mayBecome) (nL := 4) (ret := (some .boolean)) (own := RX3) (lv := [(0, .ref a0), (1, .int p1), (2, .int p2), (3, .int p3)]) (by decide) rfl rfl (Nat.le_of_ble_eq_true rfl) rfl (fun X C E => ?_)
  unfold x3_mayBecome at hx
  refine Yiload_n C dX3_mayBecome_0 2 rfl rfl ?_
  refine yite hx (fun hq hx => ?_) (fun hq0 hx => ?_)
  · skip
    refine YtabIn (v := 0) (off := 27) C 28 dX3_mayBecome_1 hq (by decide) (by decide) (by decide) (by decide) ?_
    refine Yaload_n C dX3_mayBecome_28 0 rfl rfl ?_
    refine Yiload_n C dX3_mayBecome_29 1 rfl rfl ?_
    obtain ⟨o1, ho1, hx⟩ := ybnd hx
    refine YcallVd (ws' := (w3_mayBecome cI cJ cZ cS cT a0 a_room a_pumps a_from a_to a_flow a_minutes a_danger a_foot v_places v_roads)) (st' := [.int (bI o1)]) (st := []) (as := [.int p1]) (b := a0) (ci := 3) C [0] [] 1 dX3_mayBecome_30 (c3_hasPlace l D cI cJ cZ cS cT a0 a_room a_pumps a_from a_to a_flow a_minutes a_danger a_foot v_places v_roads p1 o1 ho1) gX3_mayBecome_X3_hasPlace rfl ⟨yf3_hasPlace.1, yf3_hasPlace.2, Nat.le_of_ble_eq_true rfl, Nat.le_of_ble_eq_true rfl, rfl, rfl⟩ rfl 0 rfl (by decide) ⟨Nat.zero_le _, Nat.zero_le _⟩ (Nat.le_of_ble_eq_true rfl) ⟨rfl, trivial⟩ rfl rfl (by decide) (by decide) ⟨rfl, trivial⟩ [] trivial trivial rfl ?_
    refine Yif_eq_b C 50 dX3_mayBecome_33 (by decide) hx (fun _ hx => ?_) (fun _ hx => ?_)
    · skip
      refine Yiconst C 0 dX3_mayBecome_50 (by decide) ?_
      exact Yzret (b := false) C E dX3_mayBecome_51 (ypo hx rfl rfl)
    · skip
      refine Yiload_n C dX3_mayBecome_36 3 rfl rfl ?_
      refine Yif_lt C 50 dX3_mayBecome_37 (by decide) hx (fun _ hx => ?_) (fun _ hx => ?_)
      · skip
        refine Yiconst C 0 dX3_mayBecome_50 (by decide) ?_
        exact Yzret (b := false) C E dX3_mayBecome_51 (ypo hx rfl rfl)
      · skip
        refine Yiload_n C dX3_mayBecome_40 3 rfl rfl ?_
        refine Ybipush C 9 dX3_mayBecome_41 (by decide) ?_
        refine Yicmp_gt C 50 dX3_mayBecome_43 (by decide) hx (fun _ hx => ?_) (fun _ hx => ?_)
        · skip
          refine Yiconst C 0 dX3_mayBecome_50 (by decide) ?_
          exact Yzret (b := false) C E dX3_mayBecome_51 (ypo hx rfl rfl)
        · skip
          refine Yiconst C 1 dX3_mayBecome_46 (by decide) ?_
          refine Ygoto C 51 dX3_mayBecome_47 (by decide) ?_
          exact Yzret (b := true) C E dX3_mayBecome_51 (ypo hx rfl rfl)
  refine yite hx (fun hq hx => ?_) (fun hq1 hx => ?_)
  · skip
    refine YtabIn (v := 1) (off := 51) C 52 dX3_mayBecome_1 hq (by decide) (by decide) (by decide) (by decide) ?_
    refine Yaload_n C dX3_mayBecome_52 0 rfl rfl ?_
    refine Yiload_n C dX3_mayBecome_53 1 rfl rfl ?_
    obtain ⟨o2, ho2, hx⟩ := ybnd hx
    refine YcallVd (ws' := (w3_mayBecome cI cJ cZ cS cT a0 a_room a_pumps a_from a_to a_flow a_minutes a_danger a_foot v_places v_roads)) (st' := [.int (bI o2)]) (st := []) (as := [.int p1]) (b := a0) (ci := 3) C [0] [] 1 dX3_mayBecome_54 (c3_hasRoad l D cI cJ cZ cS cT a0 a_room a_pumps a_from a_to a_flow a_minutes a_danger a_foot v_places v_roads p1 o2 ho2) gX3_mayBecome_X3_hasRoad rfl ⟨yf3_hasRoad.1, yf3_hasRoad.2, Nat.le_of_ble_eq_true rfl, Nat.le_of_ble_eq_true rfl, rfl, rfl⟩ rfl 0 rfl (by decide) ⟨Nat.zero_le _, Nat.zero_le _⟩ (Nat.le_of_ble_eq_true rfl) ⟨rfl, trivial⟩ rfl rfl (by decide) (by decide) ⟨rfl, trivial⟩ [] trivial trivial rfl ?_
    refine Yif_eq_b C 75 dX3_mayBecome_57 (by decide) hx (fun _ hx => ?_) (fun _ hx => ?_)
    · skip
      refine Yiconst C 0 dX3_mayBecome_75 (by decide) ?_
      exact Yzret (b := false) C E dX3_mayBecome_76 (ypo hx rfl rfl)
    · skip
      refine Yiload_n C dX3_mayBecome_60 3 rfl rfl ?_
      refine Yiconst C 1 dX3_mayBecome_61 (by decide) ?_
      refine Yicmp_lt C 75 dX3_mayBecome_62 (by decide) hx (fun _ hx => ?_) (fun _ hx => ?_)
      · skip
        refine Yiconst C 0 dX3_mayBecome_75 (by decide) ?_
        exact Yzret (b := false) C E dX3_mayBecome_76 (ypo hx rfl rfl)
      · skip
        refine Yiload_n C dX3_mayBecome_65 3 rfl rfl ?_
        refine Ybipush C 60 dX3_mayBecome_66 (by decide) ?_
        refine Yicmp_gt C 75 dX3_mayBecome_68 (by decide) hx (fun _ hx => ?_) (fun _ hx => ?_)
        · skip
          refine Yiconst C 0 dX3_mayBecome_75 (by decide) ?_
          exact Yzret (b := false) C E dX3_mayBecome_76 (ypo hx rfl rfl)
        · skip
          refine Yiconst C 1 dX3_mayBecome_71 (by decide) ?_
          refine Ygoto C 76 dX3_mayBecome_72 (by decide) ?_
          exact Yzret (b := true) C E dX3_mayBecome_76 (ypo hx rfl rfl)
  refine yite hx (fun hq hx => ?_) (fun hq2 hx => ?_)
  · skip
    refine YtabIn (v := 2) (off := 76) C 77 dX3_mayBecome_1 hq (by decide) (by decide) (by decide) (by decide) ?_
    refine Yaload_n C dX3_mayBecome_77 0 rfl rfl ?_
    refine Yiload_n C dX3_mayBecome_78 1 rfl rfl ?_
    obtain ⟨o3, ho3, hx⟩ := ybnd hx
    refine YcallVd (ws' := (w3_mayBecome cI cJ cZ cS cT a0 a_room a_pumps a_from a_to a_flow a_minutes a_danger a_foot v_places v_roads)) (st' := [.int (bI o3)]) (st := []) (as := [.int p1]) (b := a0) (ci := 3) C [0] [] 1 dX3_mayBecome_79 (c3_hasRoad l D cI cJ cZ cS cT a0 a_room a_pumps a_from a_to a_flow a_minutes a_danger a_foot v_places v_roads p1 o3 ho3) gX3_mayBecome_X3_hasRoad rfl ⟨yf3_hasRoad.1, yf3_hasRoad.2, Nat.le_of_ble_eq_true rfl, Nat.le_of_ble_eq_true rfl, rfl, rfl⟩ rfl 0 rfl (by decide) ⟨Nat.zero_le _, Nat.zero_le _⟩ (Nat.le_of_ble_eq_true rfl) ⟨rfl, trivial⟩ rfl rfl (by decide) (by decide) ⟨rfl, trivial⟩ [] trivial trivial rfl ?_
    refine Yif_eq_b C 99 dX3_mayBecome_82 (by decide) hx (fun _ hx => ?_) (fun _ hx => ?_)
    · skip
      refine Yiconst C 0 dX3_mayBecome_99 (by decide) ?_
      exact Yzret (b := false) C E dX3_mayBecome_100 (ypo hx rfl rfl)
    · skip
      refine Yiload_n C dX3_mayBecome_85 3 rfl rfl ?_
      refine Yif_lt C 99 dX3_mayBecome_86 (by decide) hx (fun _ hx => ?_) (fun _ hx => ?_)
      · skip
        refine Yiconst C 0 dX3_mayBecome_99 (by decide) ?_
        exact Yzret (b := false) C E dX3_mayBecome_100 (ypo hx rfl rfl)
      · skip
        refine Yiload_n C dX3_mayBecome_89 3 rfl rfl ?_
        refine Ybipush C 99 dX3_mayBecome_90 (by decide) ?_
        refine Yicmp_gt C 99 dX3_mayBecome_92 (by decide) hx (fun _ hx => ?_) (fun _ hx => ?_)
        · skip
          refine Yiconst C 0 dX3_mayBecome_99 (by decide) ?_
          exact Yzret (b := false) C E dX3_mayBecome_100 (ypo hx rfl rfl)
        · skip
          refine Yiconst C 1 dX3_mayBecome_95 (by decide) ?_
          refine Ygoto C 100 dX3_mayBecome_96 (by decide) ?_
          exact Yzret (b := true) C E dX3_mayBecome_100 (ypo hx rfl rfl)
  refine YtabOut C 101 dX3_mayBecome_1 (by have e0 : p2.toInt ≠ 0 := ne_toInt hq0; have e1 : p2.toInt ≠ 1 := ne_toInt hq1; have e2 : p2.toInt ≠ 2 := ne_toInt hq2; omega) (by decide) ?_
  refine Yiconst C 0 dX3_mayBecome_101 (by decide) ?_
  exact Yzret (b := false) C E dX3_mayBecome_102 (ypo hx rfl rfl)
theorem yf3_valueOf : (∃ Ty', wsX3_valueOf = Cond.code yX3_valueOf cX3_valueOf 3 (some .int) :: Ty') ∧ (yX3_valueOf.cls ≠ "java/lang/invoke/MethodHandle" ∧ yX3_valueOf.cls ≠ "java/lang/invoke/VarHandle" ∧ (parseMethodDescriptor yX3_valueOf.desc).map (fun d => d.parameters.length) = some 2) := ⟨⟨_, rfl⟩, by decide +kernel, by decide +kernel, by decide +kernel⟩
abbrev w3_valueOf (cI cJ cZ cS cT : ClassId) (a0 a_danger a_flow a_room a_pumps a_from a_to a_minutes a_foot : Nat) (v_places : Int32) (v_roads : Int32) (v_danger : Nat → Int32) (v_flow : Nat → Int32) (v_room : Nat → Int32) : va_W := [(a0, .inr (3, [.int v_places, .int v_roads, .ref a_room, .ref a_pumps, .ref a_from, .ref a_to, .ref a_flow, .ref a_minutes, .ref a_danger, .ref a_foot])), (a_danger, .inl (cI, 16, .inl v_danger)), (a_flow, .inl (cI, 16, .inl v_flow)), (a_room, .inl (cI, 8, .inl v_room))]
def x3_valueOf (v_danger : Nat → Int32) (v_flow : Nat → Int32) (v_room : Nat → Int32) (p1 : Int32) (p2 : Int32) : Option (Int32) :=
  if p2 = 0 then ((x3_roomOf v_room p1).bind fun o3 => some (o3)) else (if p2 = 1 then ((x3_flowOf v_flow p1).bind fun o2 => some (o2)) else ((x3_dangerOf v_danger p1).bind fun o1 => some (o1)))
set_option maxHeartbeats 4000000 in
set_option maxRecDepth 100000 in
theorem c3_valueOf (l : Launch) (D : yD) (cI cJ cZ cS cT : ClassId) (a0 a_danger a_flow a_room a_pumps a_from a_to a_minutes a_foot : Nat) (v_places : Int32) (v_roads : Int32) (v_danger : Nat → Int32) (v_flow : Nat → Int32) (v_room : Nat → Int32) (p1 : Int32) (p2 : Int32) (out : Int32) (hx : x3_valueOf v_danger v_flow v_room p1 p2 = some out) : MC l D (yT cI cJ cZ cS cT) yX3_valueOf wsX3_valueOf ({ frames := 1, cells := 0, slots := 0, locals := 21 } : Room) (0, 0) [.ref a0, .int p1, .int p2] (w3_valueOf cI cJ cZ cS cT a0 a_danger a_flow a_room a_pumps a_from a_to a_minutes a_foot v_places v_roads v_danger v_flow v_room) (POd (fun o : Int32 => some (.int o)) (fun (o : Int32) => (w3_valueOf cI cJ cZ cS cT a0 a_danger a_flow a_room a_pumps a_from a_to a_minutes a_foot v_places v_roads v_danger v_flow v_room)) out) := by
  refine MC.intro (cc := cX3_valueOf) (nL := 3) (ret := (some .int)) (own := RX3) (lv := [(0, .ref a0), (1, .int p1), (2, .int p2)]) (by decide) rfl rfl (Nat.le_of_ble_eq_true rfl) rfl (fun X C E => ?_)
  unfold x3_valueOf at hx
  refine Yiload_n C dX3_valueOf_0 2 rfl rfl ?_
  refine Yif_ne C 10 dX3_valueOf_1 (by decide) hx (fun _ hx => ?_) (fun _ hx => ?_)
  · skip
    refine Yiload_n C dX3_valueOf_10 2 rfl rfl ?_
    refine Yiconst C 1 dX3_valueOf_11 (by decide) ?_
    refine Yicmp_ne C 23 dX3_valueOf_12 (by decide) hx (fun _ hx => ?_) (fun _ hx => ?_)
    · skip
      refine Yaload_n C dX3_valueOf_23 0 rfl rfl ?_
      refine Yiload_n C dX3_valueOf_24 1 rfl rfl ?_
      obtain ⟨o1, ho1, hx⟩ := ybnd hx
      refine YcallVd (ws' := (w3_valueOf cI cJ cZ cS cT a0 a_danger a_flow a_room a_pumps a_from a_to a_minutes a_foot v_places v_roads v_danger v_flow v_room)) (st' := [.int o1]) (st := []) (as := [.int p1]) (b := a0) (ci := 3) C [0, 1] [2, 3] 4 dX3_valueOf_25 (c3_dangerOf l D cI cJ cZ cS cT a0 a_danger a_room a_pumps a_from a_to a_flow a_minutes a_foot v_places v_roads v_danger p1 o1 ho1) gX3_valueOf_X3_dangerOf rfl ⟨yf3_dangerOf.1, yf3_dangerOf.2, Nat.le_of_ble_eq_true rfl, Nat.le_of_ble_eq_true rfl, rfl, rfl⟩ rfl 0 rfl (by decide) ⟨Nat.zero_le _, Nat.zero_le _⟩ (Nat.le_of_ble_eq_true rfl) ⟨rfl, rfl, trivial⟩ rfl rfl (by decide) (by decide) ⟨rfl, rfl, trivial⟩ [(a_flow, .inl (cI, 16, .inl v_flow)), (a_room, .inl (cI, 8, .inl v_room))] ⟨rfl, rfl, trivial⟩ ⟨rfl, rfl, trivial⟩ rfl ?_
      exact Yiret C E dX3_valueOf_28 (ypo hx rfl rfl)
    · skip
      refine Yaload_n C dX3_valueOf_15 0 rfl rfl ?_
      refine Yiload_n C dX3_valueOf_16 1 rfl rfl ?_
      obtain ⟨o2, ho2, hx⟩ := ybnd hx
      refine YcallVd (ws' := (w3_valueOf cI cJ cZ cS cT a0 a_danger a_flow a_room a_pumps a_from a_to a_minutes a_foot v_places v_roads v_danger v_flow v_room)) (st' := [.int o2]) (st := []) (as := [.int p1]) (b := a0) (ci := 3) C [0, 2] [1, 3] 4 dX3_valueOf_17 (c3_flowOf l D cI cJ cZ cS cT a0 a_flow a_room a_pumps a_from a_to a_minutes a_danger a_foot v_places v_roads v_flow p1 o2 ho2) gX3_valueOf_X3_flowOf rfl ⟨yf3_flowOf.1, yf3_flowOf.2, Nat.le_of_ble_eq_true rfl, Nat.le_of_ble_eq_true rfl, rfl, rfl⟩ rfl 0 rfl (by decide) ⟨Nat.zero_le _, Nat.zero_le _⟩ (Nat.le_of_ble_eq_true rfl) ⟨rfl, rfl, trivial⟩ rfl rfl (by decide) (by decide) ⟨rfl, rfl, trivial⟩ [(a_danger, .inl (cI, 16, .inl v_danger)), (a_room, .inl (cI, 8, .inl v_room))] ⟨rfl, rfl, trivial⟩ ⟨rfl, rfl, trivial⟩ rfl ?_
      refine Ygoto C 28 dX3_valueOf_20 (by decide) ?_
      exact Yiret C E dX3_valueOf_28 (ypo hx rfl rfl)
  · skip
    refine Yaload_n C dX3_valueOf_4 0 rfl rfl ?_
    refine Yiload_n C dX3_valueOf_5 1 rfl rfl ?_
    obtain ⟨o3, ho3, hx⟩ := ybnd hx
    refine YcallVd (ws' := (w3_valueOf cI cJ cZ cS cT a0 a_danger a_flow a_room a_pumps a_from a_to a_minutes a_foot v_places v_roads v_danger v_flow v_room)) (st' := [.int o3]) (st := []) (as := [.int p1]) (b := a0) (ci := 3) C [0, 3] [1, 2] 4 dX3_valueOf_6 (c3_roomOf l D cI cJ cZ cS cT a0 a_room a_pumps a_from a_to a_flow a_minutes a_danger a_foot v_places v_roads v_room p1 o3 ho3) gX3_valueOf_X3_roomOf rfl ⟨yf3_roomOf.1, yf3_roomOf.2, Nat.le_of_ble_eq_true rfl, Nat.le_of_ble_eq_true rfl, rfl, rfl⟩ rfl 0 rfl (by decide) ⟨Nat.zero_le _, Nat.zero_le _⟩ (Nat.le_of_ble_eq_true rfl) ⟨rfl, rfl, trivial⟩ rfl rfl (by decide) (by decide) ⟨rfl, rfl, trivial⟩ [(a_danger, .inl (cI, 16, .inl v_danger)), (a_flow, .inl (cI, 16, .inl v_flow))] ⟨rfl, rfl, trivial⟩ ⟨rfl, rfl, trivial⟩ rfl ?_
    exact Yiret C E dX3_valueOf_9 (ypo hx rfl rfl)
theorem fg3_change_30 : YF wsX3_change RX3 30 3 8 := ⟨RX3, TX3, 10, rfl, (fun w h => List.mem_cons_of_mem _ (List.mem_append_right _ h)), by decide, List.mem_of_getElem? (i := 3) rfl⟩
theorem fg3_change_24 : YF wsX3_change RX3 24 3 6 := ⟨RX3, TX3, 10, rfl, (fun w h => List.mem_cons_of_mem _ (List.mem_append_right _ h)), by decide, List.mem_of_getElem? (i := 2) rfl⟩
theorem fg3_change_9 : YF wsX3_change RX3 9 3 2 := ⟨RX3, TX3, 10, rfl, (fun w h => List.mem_cons_of_mem _ (List.mem_append_right _ h)), by decide, List.mem_of_getElem? (i := 1) rfl⟩
theorem yf3_change : (∃ Ty', wsX3_change = Cond.code yX3_change cX3_change 4 none :: Ty') ∧ (yX3_change.cls ≠ "java/lang/invoke/MethodHandle" ∧ yX3_change.cls ≠ "java/lang/invoke/VarHandle" ∧ (parseMethodDescriptor yX3_change.desc).map (fun d => d.parameters.length) = some 3) := ⟨⟨_, rfl⟩, by decide +kernel, by decide +kernel, by decide +kernel⟩
abbrev w3_change (cI cJ cZ cS cT : ClassId) (a0 a_danger a_flow a_room a_pumps a_from a_to a_minutes a_foot : Nat) (v_places : Int32) (v_roads : Int32) (v_danger : Nat → Int32) (v_flow : Nat → Int32) (v_room : Nat → Int32) : va_W := [(a0, .inr (3, [.int v_places, .int v_roads, .ref a_room, .ref a_pumps, .ref a_from, .ref a_to, .ref a_flow, .ref a_minutes, .ref a_danger, .ref a_foot])), (a_danger, .inl (cI, 16, .inl v_danger)), (a_flow, .inl (cI, 16, .inl v_flow)), (a_room, .inl (cI, 8, .inl v_room))]
def x3_change (v_places : Int32) (v_roads : Int32) (v_danger : Nat → Int32) (v_flow : Nat → Int32) (v_room : Nat → Int32) (p1 : Int32) (p2 : Int32) (p3 : Int32) : Option ((Nat → Int32) × (Nat → Int32) × (Nat → Int32)) :=
  (x3_mayBecome v_places v_roads p1 p2 p3).bind fun o1 => bif o1 then (if p2 = 0 then (bif inB p1 8 then (some (v_danger, v_flow, (upd v_room p1.toNatClampNeg p3))) else none) else (if p2 = 1 then (bif inB p1 16 then (some (v_danger, (upd v_flow p1.toNatClampNeg p3), v_room)) else none) else (bif inB p1 16 then (some ((upd v_danger p1.toNatClampNeg p3), v_flow, v_room)) else none))) else (some (v_danger, v_flow, v_room))
set_option maxHeartbeats 4000000 in
set_option maxRecDepth 100000 in
theorem c3_change (l : Launch) (D : yD) (cI cJ cZ cS cT : ClassId) (a0 a_danger a_flow a_room a_pumps a_from a_to a_minutes a_foot : Nat) (v_places : Int32) (v_roads : Int32) (v_danger : Nat → Int32) (v_flow : Nat → Int32) (v_room : Nat → Int32) (p1 : Int32) (p2 : Int32) (p3 : Int32) (out : (Nat → Int32) × (Nat → Int32) × (Nat → Int32)) (hx : x3_change v_places v_roads v_danger v_flow v_room p1 p2 p3 = some out) : MC l D (yT cI cJ cZ cS cT) yX3_change wsX3_change ({ frames := 2, cells := 0, slots := 0, locals := 44 } : Room) (0, 0) [.ref a0, .int p1, .int p2, .int p3] (w3_change cI cJ cZ cS cT a0 a_danger a_flow a_room a_pumps a_from a_to a_minutes a_foot v_places v_roads v_danger v_flow v_room) (POd (fun o : (Nat → Int32) × (Nat → Int32) × (Nat → Int32) => none) (fun (o : (Nat → Int32) × (Nat → Int32) × (Nat → Int32)) => (w3_change cI cJ cZ cS cT a0 a_danger a_flow a_room a_pumps a_from a_to a_minutes a_foot v_places v_roads o.1 o.2.1 o.2.2)) out) := by
  refine MC.intro (cc := cX3_change) (nL := 4) (ret := none) (own := RX3) (lv := [(0, .ref a0), (1, .int p1), (2, .int p2), (3, .int p3)]) (by decide) rfl rfl (Nat.le_of_ble_eq_true rfl) rfl (fun X C E => ?_)
  unfold x3_change at hx
  refine Yaload_n C dX3_change_0 0 rfl rfl ?_
  refine Yiload_n C dX3_change_1 1 rfl rfl ?_
  refine Yiload_n C dX3_change_2 2 rfl rfl ?_
  refine Yiload_n C dX3_change_3 3 rfl rfl ?_
  obtain ⟨o1, ho1, hx⟩ := ybnd hx
  refine YcallVd (ws' := (w3_change cI cJ cZ cS cT a0 a_danger a_flow a_room a_pumps a_from a_to a_minutes a_foot v_places v_roads v_danger v_flow v_room)) (st' := [.int (bI o1)]) (st := []) (as := [.int p1, .int p2, .int p3]) (b := a0) (ci := 3) C [0] [1, 2, 3] 4 dX3_change_4 (c3_mayBecome l D cI cJ cZ cS cT a0 a_room a_pumps a_from a_to a_flow a_minutes a_danger a_foot v_places v_roads p1 p2 p3 o1 ho1) gX3_change_X3_mayBecome rfl ⟨yf3_mayBecome.1, yf3_mayBecome.2, Nat.le_of_ble_eq_true rfl, Nat.le_of_ble_eq_true rfl, rfl, rfl⟩ rfl 0 rfl (by decide) ⟨Nat.zero_le _, Nat.zero_le _⟩ (Nat.le_of_ble_eq_true rfl) ⟨rfl, trivial⟩ rfl rfl (by decide) (by decide) ⟨rfl, trivial⟩ [(a_danger, .inl (cI, 16, .inl v_danger)), (a_flow, .inl (cI, 16, .inl v_flow)), (a_room, .inl (cI, 8, .inl v_room))] ⟨rfl, rfl, rfl, trivial⟩ ⟨rfl, rfl, rfl, trivial⟩ rfl ?_
  refine Yif_ne_b C 11 dX3_change_7 (by decide) hx (fun _ hx => ?_) (fun _ hx => ?_)
  · skip
    refine Yiload_n C dX3_change_11 2 rfl rfl ?_
    refine Yif_ne C 25 dX3_change_12 (by decide) hx (fun _ hx => ?_) (fun _ hx => ?_)
    · skip
      refine Yiload_n C dX3_change_25 2 rfl rfl ?_
      refine Yiconst C 1 dX3_change_26 (by decide) ?_
      refine Yicmp_ne C 40 dX3_change_27 (by decide) hx (fun _ hx => ?_) (fun _ hx => ?_)
      · skip
        refine Yaload_n C dX3_change_40 0 rfl rfl ?_
        refine Yget C fg3_change_30 dX3_change_41 0 rfl rfl ?_
        refine Yiload_n C dX3_change_44 1 rfl rfl ?_
        refine Yiload_n C dX3_change_45 3 rfl rfl ?_
        refine Yiast (ws' := (w3_change cI cJ cZ cS cT a0 a_danger a_flow a_room a_pumps a_from a_to a_minutes a_foot v_places v_roads (upd v_danger p1.toNatClampNeg p3) v_flow v_room)) C dX3_change_46 hx 1 0 rfl rfl rfl (fun hx => ?_)
        exact Yvret C E dX3_change_47 (ypo hx rfl rfl)
      · skip
        refine Yaload_n C dX3_change_30 0 rfl rfl ?_
        refine Yget C fg3_change_24 dX3_change_31 0 rfl rfl ?_
        refine Yiload_n C dX3_change_34 1 rfl rfl ?_
        refine Yiload_n C dX3_change_35 3 rfl rfl ?_
        refine Yiast (ws' := (w3_change cI cJ cZ cS cT a0 a_danger a_flow a_room a_pumps a_from a_to a_minutes a_foot v_places v_roads v_danger (upd v_flow p1.toNatClampNeg p3) v_room)) C dX3_change_36 hx 2 0 rfl rfl rfl (fun hx => ?_)
        refine Ygoto C 47 dX3_change_37 (by decide) ?_
        exact Yvret C E dX3_change_47 (ypo hx rfl rfl)
    · skip
      refine Yaload_n C dX3_change_15 0 rfl rfl ?_
      refine Yget C fg3_change_9 dX3_change_16 0 rfl rfl ?_
      refine Yiload_n C dX3_change_19 1 rfl rfl ?_
      refine Yiload_n C dX3_change_20 3 rfl rfl ?_
      refine Yiast (ws' := (w3_change cI cJ cZ cS cT a0 a_danger a_flow a_room a_pumps a_from a_to a_minutes a_foot v_places v_roads v_danger v_flow (upd v_room p1.toNatClampNeg p3))) C dX3_change_21 hx 3 0 rfl rfl rfl (fun hx => ?_)
      refine Ygoto C 47 dX3_change_22 (by decide) ?_
      exact Yvret C E dX3_change_47 (ypo hx rfl rfl)
  · skip
    exact Yvret C E dX3_change_10 (ypo hx rfl rfl)
theorem yf3_passes : (∃ Ty', wsX3_passes = Cond.code yX3_passes cX3_passes 4 (some .int) :: Ty') ∧ (yX3_passes.cls ≠ "java/lang/invoke/MethodHandle" ∧ yX3_passes.cls ≠ "java/lang/invoke/VarHandle" ∧ (parseMethodDescriptor yX3_passes.desc).map (fun d => d.parameters.length) = some 2) := ⟨⟨_, rfl⟩, by decide +kernel, by decide +kernel, by decide +kernel⟩
abbrev w3_passes (cI cJ cZ cS cT : ClassId) (a0 a_flow a_room a_pumps a_from a_to a_minutes a_danger a_foot : Nat) (v_places : Int32) (v_roads : Int32) (v_flow : Nat → Int32) : va_W := [(a0, .inr (3, [.int v_places, .int v_roads, .ref a_room, .ref a_pumps, .ref a_from, .ref a_to, .ref a_flow, .ref a_minutes, .ref a_danger, .ref a_foot])), (a_flow, .inl (cI, 16, .inl v_flow))]
def x3_passes (v_flow : Nat → Int32) (p1 : Int32) (p2 : Int32) : Option (Int32) :=
  (x3_flowOf v_flow p1).bind fun o1 => if 1 ≤ o1 then (if o1 = 0 then none else (some (((60 * p2) / o1)))) else (some (1440))
set_option maxHeartbeats 4000000 in
set_option maxRecDepth 100000 in
theorem c3_passes (l : Launch) (D : yD) (cI cJ cZ cS cT : ClassId) (a0 a_flow a_room a_pumps a_from a_to a_minutes a_danger a_foot : Nat) (v_places : Int32) (v_roads : Int32) (v_flow : Nat → Int32) (p1 : Int32) (p2 : Int32) (out : Int32) (hx : x3_passes v_flow p1 p2 = some out) : MC l D (yT cI cJ cZ cS cT) yX3_passes wsX3_passes ({ frames := 1, cells := 0, slots := 0, locals := 21 } : Room) (0, 0) [.ref a0, .int p1, .int p2] (w3_passes cI cJ cZ cS cT a0 a_flow a_room a_pumps a_from a_to a_minutes a_danger a_foot v_places v_roads v_flow) (POd (fun o : Int32 => some (.int o)) (fun (o : Int32) => (w3_passes cI cJ cZ cS cT a0 a_flow a_room a_pumps a_from a_to a_minutes a_danger a_foot v_places v_roads v_flow)) out) := by
  refine MC.intro (cc := cX3_passes) (nL := 4) (ret := (some .int)) (own := RX3) (lv := [(0, .ref a0), (1, .int p1), (2, .int p2)]) (by decide) rfl rfl (Nat.le_of_ble_eq_true rfl) rfl (fun X C E => ?_)
  unfold x3_passes at hx
  refine Yaload_n C dX3_passes_0 0 rfl rfl ?_
  refine Yiload_n C dX3_passes_1 1 rfl rfl ?_
  obtain ⟨o1, ho1, hx⟩ := ybnd hx
  refine YcallVd (ws' := (w3_passes cI cJ cZ cS cT a0 a_flow a_room a_pumps a_from a_to a_minutes a_danger a_foot v_places v_roads v_flow)) (st' := [.int o1]) (st := []) (as := [.int p1]) (b := a0) (ci := 3) C [0, 1] [] 2 dX3_passes_2 (c3_flowOf l D cI cJ cZ cS cT a0 a_flow a_room a_pumps a_from a_to a_minutes a_danger a_foot v_places v_roads v_flow p1 o1 ho1) gX3_passes_X3_flowOf rfl ⟨yf3_flowOf.1, yf3_flowOf.2, Nat.le_of_ble_eq_true rfl, Nat.le_of_ble_eq_true rfl, rfl, rfl⟩ rfl 0 rfl (by decide) ⟨Nat.zero_le _, Nat.zero_le _⟩ (Nat.le_of_ble_eq_true rfl) ⟨rfl, rfl, trivial⟩ rfl rfl (by decide) (by decide) ⟨rfl, rfl, trivial⟩ [] trivial trivial rfl ?_
  refine Yistore_n (lv' := [(0, .ref a0), (1, .int p1), (2, .int p2), (3, .int o1)]) C dX3_passes_5 rfl (by decide) rfl ?_
  refine Yiload_n C dX3_passes_6 3 rfl rfl ?_
  refine Yiconst C 1 dX3_passes_7 (by decide) ?_
  refine Yicmp_ge C 17 dX3_passes_8 (by decide) hx (fun _ hx => ?_) (fun _ hx => ?_)
  · skip
    refine Ybipush C 60 dX3_passes_17 (by decide) ?_
    refine Yiload_n C dX3_passes_19 2 rfl rfl ?_
    refine Yimul C dX3_passes_20 ?_
    refine Yiload_n C dX3_passes_21 3 rfl rfl ?_
    refine yite hx (fun _ hx => by cases hx) (fun hne hx => ?_)
    refine Yidiv C dX3_passes_22 hne ?_
    exact Yiret C E dX3_passes_23 (ypo hx rfl rfl)
  · skip
    refine Ysipush C 1440 dX3_passes_11 (by decide) ?_
    refine Ygoto C 23 dX3_passes_14 (by decide) ?_
    exact Yiret C E dX3_passes_23 (ypo hx rfl rfl)
theorem yf3_firstCarSince : (∃ Ty', wsX3_firstCarSince = Cond.code yX3_firstCarSince cX3_firstCarSince 3 (some .int) :: Ty') ∧ (yX3_firstCarSince.cls ≠ "java/lang/invoke/MethodHandle" ∧ yX3_firstCarSince.cls ≠ "java/lang/invoke/VarHandle" ∧ (parseMethodDescriptor yX3_firstCarSince.desc).map (fun d => d.parameters.length) = some 2) := ⟨⟨_, rfl⟩, by decide +kernel, by decide +kernel, by decide +kernel⟩
abbrev w3_firstCarSince (cI cJ cZ cS cT : ClassId) (a0 a_flow a_room a_pumps a_from a_to a_minutes a_danger a_foot : Nat) (v_places : Int32) (v_roads : Int32) (v_flow : Nat → Int32) : va_W := [(a0, .inr (3, [.int v_places, .int v_roads, .ref a_room, .ref a_pumps, .ref a_from, .ref a_to, .ref a_flow, .ref a_minutes, .ref a_danger, .ref a_foot])), (a_flow, .inl (cI, 16, .inl v_flow))]
def x3_firstCarSince (v_flow : Nat → Int32) (p1 : Int32) (p2 : Int32) : Option (Int32) :=
  (x3_flowOf v_flow p1).bind fun o1 => some ((((p2 * o1) + 59) / 60))
set_option maxHeartbeats 4000000 in
set_option maxRecDepth 100000 in
theorem c3_firstCarSince (l : Launch) (D : yD) (cI cJ cZ cS cT : ClassId) (a0 a_flow a_room a_pumps a_from a_to a_minutes a_danger a_foot : Nat) (v_places : Int32) (v_roads : Int32) (v_flow : Nat → Int32) (p1 : Int32) (p2 : Int32) (out : Int32) (hx : x3_firstCarSince v_flow p1 p2 = some out) : MC l D (yT cI cJ cZ cS cT) yX3_firstCarSince wsX3_firstCarSince ({ frames := 1, cells := 0, slots := 0, locals := 21 } : Room) (0, 0) [.ref a0, .int p1, .int p2] (w3_firstCarSince cI cJ cZ cS cT a0 a_flow a_room a_pumps a_from a_to a_minutes a_danger a_foot v_places v_roads v_flow) (POd (fun o : Int32 => some (.int o)) (fun (o : Int32) => (w3_firstCarSince cI cJ cZ cS cT a0 a_flow a_room a_pumps a_from a_to a_minutes a_danger a_foot v_places v_roads v_flow)) out) := by
  refine MC.intro (cc := cX3_firstCarSince) (nL := 3) (ret := (some .int)) (own := RX3) (lv := [(0, .ref a0), (1, .int p1), (2, .int p2)]) (by decide) rfl rfl (Nat.le_of_ble_eq_true rfl) rfl (fun X C E => ?_)
  unfold x3_firstCarSince at hx
  refine Yiload_n C dX3_firstCarSince_0 2 rfl rfl ?_
  refine Yaload_n C dX3_firstCarSince_1 0 rfl rfl ?_
  refine Yiload_n C dX3_firstCarSince_2 1 rfl rfl ?_
  obtain ⟨o1, ho1, hx⟩ := ybnd hx
  refine YcallVd (ws' := (w3_firstCarSince cI cJ cZ cS cT a0 a_flow a_room a_pumps a_from a_to a_minutes a_danger a_foot v_places v_roads v_flow)) (st' := [.int o1, .int p2]) (st := [.int p2]) (as := [.int p1]) (b := a0) (ci := 3) C [0, 1] [] 2 dX3_firstCarSince_3 (c3_flowOf l D cI cJ cZ cS cT a0 a_flow a_room a_pumps a_from a_to a_minutes a_danger a_foot v_places v_roads v_flow p1 o1 ho1) gX3_firstCarSince_X3_flowOf rfl ⟨yf3_flowOf.1, yf3_flowOf.2, Nat.le_of_ble_eq_true rfl, Nat.le_of_ble_eq_true rfl, rfl, rfl⟩ rfl 0 rfl (by decide) ⟨Nat.zero_le _, Nat.zero_le _⟩ (Nat.le_of_ble_eq_true rfl) ⟨rfl, rfl, trivial⟩ rfl rfl (by decide) (by decide) ⟨rfl, rfl, trivial⟩ [] trivial trivial rfl ?_
  refine Yimul C dX3_firstCarSince_6 ?_
  refine Ybipush C 59 dX3_firstCarSince_7 (by decide) ?_
  refine Yiadd C dX3_firstCarSince_9 ?_
  refine Ybipush C 60 dX3_firstCarSince_10 (by decide) ?_
  refine Yidiv C dX3_firstCarSince_12 (by decide) ?_
  exact Yiret C E dX3_firstCarSince_13 (ypo hx rfl rfl)
theorem fg3_measureTo_40 : YF wsX3_measureTo RX3 40 3 1 := ⟨RX3, TX3, 10, rfl, (fun w h => List.mem_cons_of_mem _ (List.mem_append_right _ h)), by decide, List.mem_of_getElem? (i := 2) rfl⟩
theorem fg3_measureTo_36 : YF wsX3_measureTo RX3 36 3 0 := ⟨RX3, TX3, 10, rfl, (fun w h => List.mem_cons_of_mem _ (List.mem_append_right _ h)), by decide, List.mem_of_getElem? (i := 1) rfl⟩
theorem yf3_measureTo : (∃ Ty', wsX3_measureTo = Cond.code yX3_measureTo cX3_measureTo 9 none :: Ty') ∧ (yX3_measureTo.cls ≠ "java/lang/invoke/MethodHandle" ∧ yX3_measureTo.cls ≠ "java/lang/invoke/VarHandle" ∧ (parseMethodDescriptor yX3_measureTo.desc).map (fun d => d.parameters.length) = some 2) := ⟨⟨_, rfl⟩, by decide +kernel, by decide +kernel, by decide +kernel⟩
abbrev w3_measureTo (cI cJ cZ cS cT : ClassId) (a0 a_p2 a_from a_minutes a_to a_room a_pumps a_flow a_danger a_foot : Nat) (v_places : Int32) (v_roads : Int32) (v_from : Nat → Int32) (v_minutes : Nat → Int32) (v_to : Nat → Int32) (v_p2 : Nat → Int32) : va_W := [(a0, .inr (3, [.int v_places, .int v_roads, .ref a_room, .ref a_pumps, .ref a_from, .ref a_to, .ref a_flow, .ref a_minutes, .ref a_danger, .ref a_foot])), (a_from, .inl (cI, 16, .inl v_from)), (a_minutes, .inl (cI, 16, .inl v_minutes)), (a_to, .inl (cI, 16, .inl v_to)), (a_p2, .inl (cI, 8, .inl v_p2))]
def x3_measureTo_132 (k32 : (Nat → Int32) → Int32 → Int32 → Option ((Nat → Int32))) (v_places : Int32) (v_roads : Int32) (v_from : Nat → Int32) (v_minutes : Nat → Int32) (v_to : Nat → Int32) (v_p2 : Nat → Int32) (l3 : Int32) (l4 : Int32) : Option ((Nat → Int32)) :=
  k32 v_p2 l3 (l4 + 1)
def x3_measureTo_126 (k32 : (Nat → Int32) → Int32 → Int32 → Option ((Nat → Int32))) (k50 : (Nat → Int32) → Int32 → Int32 → Option ((Nat → Int32))) (v_places : Int32) (v_roads : Int32) (v_from : Nat → Int32) (v_minutes : Nat → Int32) (v_to : Nat → Int32) (l4 : Int32) (v_p2 : Nat → Int32) (l3 : Int32) (l5 : Int32) : Option ((Nat → Int32)) :=
  k50 v_p2 l3 (l5 + 1)
def x3_measureTo_50 (k32 : (Nat → Int32) → Int32 → Int32 → Option ((Nat → Int32))) (v_places : Int32) (v_roads : Int32) (v_from : Nat → Int32) (v_minutes : Nat → Int32) (v_to : Nat → Int32) (l4 : Int32) : Nat → (Nat → Int32) → Int32 → Int32 → Option ((Nat → Int32))
  | 0, _, _, _ => none
  | n + 1, v_p2, l3, l5 =>
    if v_roads ≤ l5 then (x3_measureTo_132 k32 v_places v_roads v_from v_minutes v_to v_p2 l3 l4) else ((x3_startOf v_from l5).bind fun o1 => (x3_endOf v_to l5).bind fun o2 => (x3_hasPlace v_places o1).bind fun o3 => bif o3 then ((x3_hasPlace v_places o2).bind fun o4 => bif o4 then (bif inB o2 8 then ((x3_minutesOf v_minutes l5).bind fun o5 => bif inB o1 8 then (if (v_p2 o1.toNatClampNeg) ≤ ((v_p2 o2.toNatClampNeg) + o5) then (x3_measureTo_126 k32 (fun z0 z1 z2 => x3_measureTo_50 k32 v_places v_roads v_from v_minutes v_to l4 n z0 z1 z2) v_places v_roads v_from v_minutes v_to l4 v_p2 l3 l5) else (bif inB o1 8 then (x3_measureTo_126 k32 (fun z0 z1 z2 => x3_measureTo_50 k32 v_places v_roads v_from v_minutes v_to l4 n z0 z1 z2) v_places v_roads v_from v_minutes v_to l4 (upd v_p2 o1.toNatClampNeg ((v_p2 o2.toNatClampNeg) + o5)) 1 l5) else none)) else none) else none) else (x3_measureTo_126 k32 (fun z0 z1 z2 => x3_measureTo_50 k32 v_places v_roads v_from v_minutes v_to l4 n z0 z1 z2) v_places v_roads v_from v_minutes v_to l4 v_p2 l3 l5)) else (x3_measureTo_126 k32 (fun z0 z1 z2 => x3_measureTo_50 k32 v_places v_roads v_from v_minutes v_to l4 n z0 z1 z2) v_places v_roads v_from v_minutes v_to l4 v_p2 l3 l5))
def x3_measureTo_32  (v_places : Int32) (v_roads : Int32) (v_from : Nat → Int32) (v_minutes : Nat → Int32) (v_to : Nat → Int32) : Nat → (Nat → Int32) → Int32 → Int32 → Option ((Nat → Int32))
  | 0, _, _, _ => none
  | n + 1, v_p2, l3, l4 =>
    if v_places ≤ l4 then (some (v_p2)) else (if l3 = 0 then (some (v_p2)) else (x3_measureTo_50 (fun z0 z1 z2 => x3_measureTo_32 v_places v_roads v_from v_minutes v_to n z0 z1 z2) v_places v_roads v_from v_minutes v_to l4 yN v_p2 0 0))
def x3_measureTo (v_places : Int32) (v_roads : Int32) (v_from : Nat → Int32) (v_minutes : Nat → Int32) (v_to : Nat → Int32) (v_p2 : Nat → Int32) (p1 : Int32) : Option ((Nat → Int32)) :=
  (xj7_fill_53178 v_p2 9999).bind fun o6 => (x3_hasPlace v_places p1).bind fun o7 => bif o7 then (if (8 : Int32) ≤ 8 then (bif inB p1 8 then (x3_measureTo_32  v_places v_roads v_from v_minutes v_to yN (upd o6 p1.toNatClampNeg 0) 1 0) else none) else (none)) else (some (o6))
set_option maxHeartbeats 4000000 in
set_option maxRecDepth 100000 in
theorem c3_measureTo (l : Launch) (D : yD) (cI cJ cZ cS cT : ClassId) (a0 a_p2 a_from a_minutes a_to a_room a_pumps a_flow a_danger a_foot : Nat) (v_places : Int32) (v_roads : Int32) (v_from : Nat → Int32) (v_minutes : Nat → Int32) (v_to : Nat → Int32) (v_p2 : Nat → Int32) (p1 : Int32) (out : (Nat → Int32)) (hx : x3_measureTo v_places v_roads v_from v_minutes v_to v_p2 p1 = some out) : MC l D (yT cI cJ cZ cS cT) yX3_measureTo wsX3_measureTo ({ frames := 1, cells := 0, slots := 0, locals := 23 } : Room) (0, 0) [.ref a0, .int p1, .ref a_p2] (w3_measureTo cI cJ cZ cS cT a0 a_p2 a_from a_minutes a_to a_room a_pumps a_flow a_danger a_foot v_places v_roads v_from v_minutes v_to v_p2) (POd (fun o : (Nat → Int32) => none) (fun (o : (Nat → Int32)) => (w3_measureTo cI cJ cZ cS cT a0 a_p2 a_from a_minutes a_to a_room a_pumps a_flow a_danger a_foot v_places v_roads v_from v_minutes v_to o)) out) := by
  refine MC.intro (cc := cX3_measureTo) (nL := 9) (ret := none) (own := RX3) (lv := [(0, .ref a0), (1, .int p1), (2, .ref a_p2)]) (by decide) rfl rfl (Nat.le_of_ble_eq_true rfl) rfl (fun X C E => ?_)
  unfold x3_measureTo at hx
  have b32 : ∀ (n32 : Nat) (v_p2 : Nat → Int32) (l3 : Int32) (l4 : Int32), x3_measureTo_32  v_places v_roads v_from v_minutes v_to n32 v_p2 l3 l4 = some out → Y X (0, 0) (w3_measureTo cI cJ cZ cS cT a0 a_p2 a_from a_minutes a_to a_room a_pumps a_flow a_danger a_foot v_places v_roads v_from v_minutes v_to v_p2) [(0, .ref a0), (2, .ref a_p2), (3, .int l3), (4, .int l4)] 32 [] := by
    intro n32
    induction n32 with
    | zero =>
      intro v_p2 l3 l4  hx
      rw [x3_measureTo_32] at hx
      cases hx
    | succ n32 ih32 =>
      intro v_p2 l3 l4  hx
      rw [x3_measureTo_32] at hx
      have b50 : ∀ (l4 : Int32), ∀ (n50 : Nat) (v_p2 : Nat → Int32) (l3 : Int32) (l5 : Int32), x3_measureTo_50 (fun z0 z1 z2 => x3_measureTo_32 v_places v_roads v_from v_minutes v_to n32 z0 z1 z2) v_places v_roads v_from v_minutes v_to l4 n50 v_p2 l3 l5 = some out → Y X (0, 0) (w3_measureTo cI cJ cZ cS cT a0 a_p2 a_from a_minutes a_to a_room a_pumps a_flow a_danger a_foot v_places v_roads v_from v_minutes v_to v_p2) [(0, .ref a0), (2, .ref a_p2), (3, .int l3), (4, .int l4), (5, .int l5)] 50 [] := by
        intro l4
        intro n50
        induction n50 with
        | zero =>
          intro v_p2 l3 l5  hx
          rw [x3_measureTo_50] at hx
          cases hx
        | succ n50 ih50 =>
          intro v_p2 l3 l5  hx
          rw [x3_measureTo_50] at hx
          have b132 : ∀  (v_p2 : Nat → Int32) (l3 : Int32) (l4 : Int32), x3_measureTo_132 (fun z0 z1 z2 => x3_measureTo_32 v_places v_roads v_from v_minutes v_to n32 z0 z1 z2) v_places v_roads v_from v_minutes v_to v_p2 l3 l4 = some out → Y X (0, 0) (w3_measureTo cI cJ cZ cS cT a0 a_p2 a_from a_minutes a_to a_room a_pumps a_flow a_danger a_foot v_places v_roads v_from v_minutes v_to v_p2) [(0, .ref a0), (2, .ref a_p2), (3, .int l3), (4, .int l4)] 132 [] := by
            intro  v_p2 l3 l4  hx
            unfold x3_measureTo_132 at hx
            refine Yiinc (v := l4 + 1) (lv' := [(0, .ref a0), (2, .ref a_p2), (3, .int l3), (4, .int (l4 + 1))]) C dX3_measureTo_132 3 rfl rfl (by decide) rfl ?_
            refine Ygoto C 32 dX3_measureTo_135 (by decide) ?_
            exact ih32 v_p2 l3 (l4 + 1) hx
          have b126 : ∀  (v_p2 : Nat → Int32) (l3 : Int32) (l5 : Int32), x3_measureTo_126 (fun z0 z1 z2 => x3_measureTo_32 v_places v_roads v_from v_minutes v_to n32 z0 z1 z2) (fun z0 z1 z2 => x3_measureTo_50 (fun z0 z1 z2 => x3_measureTo_32 v_places v_roads v_from v_minutes v_to n32 z0 z1 z2) v_places v_roads v_from v_minutes v_to l4 n50 z0 z1 z2) v_places v_roads v_from v_minutes v_to l4 v_p2 l3 l5 = some out → Y X (0, 0) (w3_measureTo cI cJ cZ cS cT a0 a_p2 a_from a_minutes a_to a_room a_pumps a_flow a_danger a_foot v_places v_roads v_from v_minutes v_to v_p2) [(0, .ref a0), (2, .ref a_p2), (3, .int l3), (4, .int l4), (5, .int l5)] 126 [] := by
            intro  v_p2 l3 l5  hx
            unfold x3_measureTo_126 at hx
            refine Yiinc (v := l5 + 1) (lv' := [(0, .ref a0), (2, .ref a_p2), (3, .int l3), (4, .int l4), (5, .int (l5 + 1))]) C dX3_measureTo_126 4 rfl rfl (by decide) rfl ?_
            refine Ygoto C 50 dX3_measureTo_129 (by decide) ?_
            exact ih50 v_p2 l3 (l5 + 1) hx
          refine Yiload C dX3_measureTo_50 4 rfl ?_
          refine Yaload_n C dX3_measureTo_52 0 rfl rfl ?_
          refine Yget C fg3_measureTo_40 dX3_measureTo_53 0 rfl rfl ?_
          refine Yicmp_ge C 132 dX3_measureTo_56 (by decide) hx (fun _ hx => ?_) (fun _ hx => ?_)
          · skip
            exact Yjmp C [0, 1, 2, 3] rfl (b132  v_p2 l3 l4 hx)
          · skip
            refine Yaload_n C dX3_measureTo_59 0 rfl rfl ?_
            refine Yiload C dX3_measureTo_60 4 rfl ?_
            obtain ⟨o1, ho1, hx⟩ := ybnd hx
            refine YcallVd (ws' := (w3_measureTo cI cJ cZ cS cT a0 a_p2 a_from a_minutes a_to a_room a_pumps a_flow a_danger a_foot v_places v_roads v_from v_minutes v_to v_p2)) (st' := [.int o1]) (st := []) (as := [.int l5]) (b := a0) (ci := 3) C [0, 1] [2, 3, 4] 5 dX3_measureTo_62 (c3_startOf l D cI cJ cZ cS cT a0 a_from a_room a_pumps a_to a_flow a_minutes a_danger a_foot v_places v_roads v_from l5 o1 ho1) gX3_measureTo_X3_startOf rfl ⟨yf3_startOf.1, yf3_startOf.2, Nat.le_of_ble_eq_true rfl, Nat.le_of_ble_eq_true rfl, rfl, rfl⟩ rfl 0 rfl (by decide) ⟨Nat.zero_le _, Nat.zero_le _⟩ (Nat.le_of_ble_eq_true rfl) ⟨rfl, rfl, trivial⟩ rfl rfl (by decide) (by decide) ⟨rfl, rfl, trivial⟩ [(a_minutes, .inl (cI, 16, .inl v_minutes)), (a_to, .inl (cI, 16, .inl v_to)), (a_p2, .inl (cI, 8, .inl v_p2))] ⟨rfl, rfl, rfl, trivial⟩ ⟨rfl, rfl, rfl, trivial⟩ rfl ?_
            refine Yistore (lv' := [(0, .ref a0), (2, .ref a_p2), (3, .int l3), (4, .int l4), (5, .int l5), (6, .int o1)]) C dX3_measureTo_65 (by decide) rfl ?_
            refine Yaload_n C dX3_measureTo_67 0 rfl rfl ?_
            refine Yiload C dX3_measureTo_68 4 rfl ?_
            obtain ⟨o2, ho2, hx⟩ := ybnd hx
            refine YcallVd (ws' := (w3_measureTo cI cJ cZ cS cT a0 a_p2 a_from a_minutes a_to a_room a_pumps a_flow a_danger a_foot v_places v_roads v_from v_minutes v_to v_p2)) (st' := [.int o2]) (st := []) (as := [.int l5]) (b := a0) (ci := 3) C [0, 3] [1, 2, 4] 5 dX3_measureTo_70 (c3_endOf l D cI cJ cZ cS cT a0 a_to a_room a_pumps a_from a_flow a_minutes a_danger a_foot v_places v_roads v_to l5 o2 ho2) gX3_measureTo_X3_endOf rfl ⟨yf3_endOf.1, yf3_endOf.2, Nat.le_of_ble_eq_true rfl, Nat.le_of_ble_eq_true rfl, rfl, rfl⟩ rfl 0 rfl (by decide) ⟨Nat.zero_le _, Nat.zero_le _⟩ (Nat.le_of_ble_eq_true rfl) ⟨rfl, rfl, trivial⟩ rfl rfl (by decide) (by decide) ⟨rfl, rfl, trivial⟩ [(a_from, .inl (cI, 16, .inl v_from)), (a_minutes, .inl (cI, 16, .inl v_minutes)), (a_p2, .inl (cI, 8, .inl v_p2))] ⟨rfl, rfl, rfl, trivial⟩ ⟨rfl, rfl, rfl, trivial⟩ rfl ?_
            refine Yistore (lv' := [(0, .ref a0), (2, .ref a_p2), (3, .int l3), (4, .int l4), (5, .int l5), (6, .int o1), (7, .int o2)]) C dX3_measureTo_73 (by decide) rfl ?_
            refine Yaload_n C dX3_measureTo_75 0 rfl rfl ?_
            refine Yiload C dX3_measureTo_76 5 rfl ?_
            obtain ⟨o3, ho3, hx⟩ := ybnd hx
            refine YcallVd (ws' := (w3_measureTo cI cJ cZ cS cT a0 a_p2 a_from a_minutes a_to a_room a_pumps a_flow a_danger a_foot v_places v_roads v_from v_minutes v_to v_p2)) (st' := [.int (bI o3)]) (st := []) (as := [.int o1]) (b := a0) (ci := 3) C [0] [1, 2, 3, 4] 5 dX3_measureTo_78 (c3_hasPlace l D cI cJ cZ cS cT a0 a_room a_pumps a_from a_to a_flow a_minutes a_danger a_foot v_places v_roads o1 o3 ho3) gX3_measureTo_X3_hasPlace rfl ⟨yf3_hasPlace.1, yf3_hasPlace.2, Nat.le_of_ble_eq_true rfl, Nat.le_of_ble_eq_true rfl, rfl, rfl⟩ rfl 0 rfl (by decide) ⟨Nat.zero_le _, Nat.zero_le _⟩ (Nat.le_of_ble_eq_true rfl) ⟨rfl, trivial⟩ rfl rfl (by decide) (by decide) ⟨rfl, trivial⟩ [(a_from, .inl (cI, 16, .inl v_from)), (a_minutes, .inl (cI, 16, .inl v_minutes)), (a_to, .inl (cI, 16, .inl v_to)), (a_p2, .inl (cI, 8, .inl v_p2))] ⟨rfl, rfl, rfl, rfl, trivial⟩ ⟨rfl, rfl, rfl, rfl, trivial⟩ rfl ?_
            refine Yif_eq_b C 126 dX3_measureTo_81 (by decide) hx (fun _ hx => ?_) (fun _ hx => ?_)
            · skip
              exact Yjmp C [0, 1, 2, 3, 4] rfl (b126  v_p2 l3 l5 hx)
            · skip
              refine Yaload_n C dX3_measureTo_84 0 rfl rfl ?_
              refine Yiload C dX3_measureTo_85 6 rfl ?_
              obtain ⟨o4, ho4, hx⟩ := ybnd hx
              refine YcallVd (ws' := (w3_measureTo cI cJ cZ cS cT a0 a_p2 a_from a_minutes a_to a_room a_pumps a_flow a_danger a_foot v_places v_roads v_from v_minutes v_to v_p2)) (st' := [.int (bI o4)]) (st := []) (as := [.int o2]) (b := a0) (ci := 3) C [0] [1, 2, 3, 4] 5 dX3_measureTo_87 (c3_hasPlace l D cI cJ cZ cS cT a0 a_room a_pumps a_from a_to a_flow a_minutes a_danger a_foot v_places v_roads o2 o4 ho4) gX3_measureTo_X3_hasPlace rfl ⟨yf3_hasPlace.1, yf3_hasPlace.2, Nat.le_of_ble_eq_true rfl, Nat.le_of_ble_eq_true rfl, rfl, rfl⟩ rfl 0 rfl (by decide) ⟨Nat.zero_le _, Nat.zero_le _⟩ (Nat.le_of_ble_eq_true rfl) ⟨rfl, trivial⟩ rfl rfl (by decide) (by decide) ⟨rfl, trivial⟩ [(a_from, .inl (cI, 16, .inl v_from)), (a_minutes, .inl (cI, 16, .inl v_minutes)), (a_to, .inl (cI, 16, .inl v_to)), (a_p2, .inl (cI, 8, .inl v_p2))] ⟨rfl, rfl, rfl, rfl, trivial⟩ ⟨rfl, rfl, rfl, rfl, trivial⟩ rfl ?_
              refine Yif_ne_b C 96 dX3_measureTo_90 (by decide) hx (fun _ hx => ?_) (fun _ hx => ?_)
              · skip
                refine Yaload_n C dX3_measureTo_96 1 rfl rfl ?_
                refine Yiload C dX3_measureTo_97 6 rfl ?_
                refine Yiald C dX3_measureTo_99 hx 4 0 rfl rfl (fun hx => ?_)
                refine Yaload_n C dX3_measureTo_100 0 rfl rfl ?_
                refine Yiload C dX3_measureTo_101 4 rfl ?_
                obtain ⟨o5, ho5, hx⟩ := ybnd hx
                refine YcallVd (ws' := (w3_measureTo cI cJ cZ cS cT a0 a_p2 a_from a_minutes a_to a_room a_pumps a_flow a_danger a_foot v_places v_roads v_from v_minutes v_to v_p2)) (st' := [.int o5, .int (v_p2 o2.toNatClampNeg)]) (st := [.int (v_p2 o2.toNatClampNeg)]) (as := [.int l5]) (b := a0) (ci := 3) C [0, 2] [1, 3, 4] 5 dX3_measureTo_103 (c3_minutesOf l D cI cJ cZ cS cT a0 a_minutes a_room a_pumps a_from a_to a_flow a_danger a_foot v_places v_roads v_minutes l5 o5 ho5) gX3_measureTo_X3_minutesOf rfl ⟨yf3_minutesOf.1, yf3_minutesOf.2, Nat.le_of_ble_eq_true rfl, Nat.le_of_ble_eq_true rfl, rfl, rfl⟩ rfl 0 rfl (by decide) ⟨Nat.zero_le _, Nat.zero_le _⟩ (Nat.le_of_ble_eq_true rfl) ⟨rfl, rfl, trivial⟩ rfl rfl (by decide) (by decide) ⟨rfl, rfl, trivial⟩ [(a_from, .inl (cI, 16, .inl v_from)), (a_to, .inl (cI, 16, .inl v_to)), (a_p2, .inl (cI, 8, .inl v_p2))] ⟨rfl, rfl, rfl, trivial⟩ ⟨rfl, rfl, rfl, trivial⟩ rfl ?_
                refine Yiadd C dX3_measureTo_106 ?_
                refine Yistore (lv' := [(0, .ref a0), (2, .ref a_p2), (3, .int l3), (4, .int l4), (5, .int l5), (6, .int o1), (7, .int o2), (8, .int ((v_p2 o2.toNatClampNeg) + o5))]) C dX3_measureTo_107 (by decide) rfl ?_
                refine Yiload C dX3_measureTo_109 7 rfl ?_
                refine Yaload_n C dX3_measureTo_111 1 rfl rfl ?_
                refine Yiload C dX3_measureTo_112 5 rfl ?_
                refine Yiald C dX3_measureTo_114 hx 4 0 rfl rfl (fun hx => ?_)
                refine Yicmp_ge C 126 dX3_measureTo_115 (by decide) hx (fun _ hx => ?_) (fun _ hx => ?_)
                · skip
                  exact Yjmp C [0, 1, 2, 3, 4] rfl (b126  v_p2 l3 l5 hx)
                · skip
                  refine Yaload_n C dX3_measureTo_118 1 rfl rfl ?_
                  refine Yiload C dX3_measureTo_119 5 rfl ?_
                  refine Yiload C dX3_measureTo_121 7 rfl ?_
                  refine Yiast (ws' := (w3_measureTo cI cJ cZ cS cT a0 a_p2 a_from a_minutes a_to a_room a_pumps a_flow a_danger a_foot v_places v_roads v_from v_minutes v_to (upd v_p2 o1.toNatClampNeg ((v_p2 o2.toNatClampNeg) + o5)))) C dX3_measureTo_123 hx 4 0 rfl rfl rfl (fun hx => ?_)
                  refine Yiconst C 1 dX3_measureTo_124 (by decide) ?_
                  refine Yistore_n (lv' := [(0, .ref a0), (2, .ref a_p2), (3, .int 1), (4, .int l4), (5, .int l5), (6, .int o1), (7, .int o2), (8, .int ((v_p2 o2.toNatClampNeg) + o5))]) C dX3_measureTo_125 rfl (by decide) rfl ?_
                  exact Yjmp C [0, 1, 2, 3, 4] rfl (b126  (upd v_p2 o1.toNatClampNeg ((v_p2 o2.toNatClampNeg) + o5)) 1 l5 hx)
              · skip
                refine Ygoto C 126 dX3_measureTo_93 (by decide) ?_
                exact Yjmp C [0, 1, 2, 3, 4] rfl (b126  v_p2 l3 l5 hx)
      refine Yiload C dX3_measureTo_32 3 rfl ?_
      refine Yaload_n C dX3_measureTo_34 0 rfl rfl ?_
      refine Yget C fg3_measureTo_36 dX3_measureTo_35 0 rfl rfl ?_
      refine Yicmp_ge C 138 dX3_measureTo_38 (by decide) hx (fun _ hx => ?_) (fun _ hx => ?_)
      · skip
        exact Yvret C E dX3_measureTo_138 (ypo hx rfl rfl)
      · skip
        refine Yiload_n C dX3_measureTo_41 2 rfl rfl ?_
        refine Yif_eq C 138 dX3_measureTo_42 (by decide) hx (fun _ hx => ?_) (fun _ hx => ?_)
        · skip
          exact Yvret C E dX3_measureTo_138 (ypo hx rfl rfl)
        · skip
          refine Yiconst C 0 dX3_measureTo_45 (by decide) ?_
          refine Yistore_n (lv' := [(0, .ref a0), (2, .ref a_p2), (3, .int 0), (4, .int l4)]) C dX3_measureTo_46 rfl (by decide) rfl ?_
          refine Yiconst C 0 dX3_measureTo_47 (by decide) ?_
          refine Yistore (lv' := [(0, .ref a0), (2, .ref a_p2), (3, .int 0), (4, .int l4), (5, .int 0)]) C dX3_measureTo_48 (by decide) rfl ?_
          exact b50 l4 yN v_p2 0 0 hx
  refine Yaload_n C dX3_measureTo_0 2 rfl rfl ?_
  refine Ysipush C 9999 dX3_measureTo_1 (by decide) ?_
  obtain ⟨o6, ho6, hx⟩ := ybnd hx
  refine YcallSo (ws' := (w3_measureTo cI cJ cZ cS cT a0 a_p2 a_from a_minutes a_to a_room a_pumps a_flow a_danger a_foot v_places v_roads v_from v_minutes v_to o6)) (st' := []) (st := []) (as := [.ref a_p2, .int 9999]) C [4] [0, 1, 2, 3] 5 dX3_measureTo_4 (cj7_fill_53178 l D cI cJ cZ cS cT a_p2 v_p2 9999 o6 ho6) gX3_measureTo_J7_fill_53178 ⟨yfj7_fill_53178.1, yfj7_fill_53178.2, Nat.le_of_ble_eq_true rfl, Nat.le_of_ble_eq_true rfl, rfl, rfl⟩ (by decide) ⟨Nat.zero_le _, Nat.zero_le _⟩ (Nat.le_of_ble_eq_true rfl) ⟨rfl, trivial⟩ rfl rfl (by decide) (by decide) ⟨rfl, trivial⟩ [(a0, .inr (3, [.int v_places, .int v_roads, .ref a_room, .ref a_pumps, .ref a_from, .ref a_to, .ref a_flow, .ref a_minutes, .ref a_danger, .ref a_foot])), (a_from, .inl (cI, 16, .inl v_from)), (a_minutes, .inl (cI, 16, .inl v_minutes)), (a_to, .inl (cI, 16, .inl v_to))] ⟨rfl, rfl, rfl, rfl, trivial⟩ ⟨rfl, rfl, rfl, rfl, trivial⟩ rfl ?_
  refine Yaload_n C dX3_measureTo_7 0 rfl rfl ?_
  refine Yiload_n C dX3_measureTo_8 1 rfl rfl ?_
  obtain ⟨o7, ho7, hx⟩ := ybnd hx
  refine YcallVd (ws' := (w3_measureTo cI cJ cZ cS cT a0 a_p2 a_from a_minutes a_to a_room a_pumps a_flow a_danger a_foot v_places v_roads v_from v_minutes v_to o6)) (st' := [.int (bI o7)]) (st := []) (as := [.int p1]) (b := a0) (ci := 3) C [0] [1, 2, 3, 4] 5 dX3_measureTo_9 (c3_hasPlace l D cI cJ cZ cS cT a0 a_room a_pumps a_from a_to a_flow a_minutes a_danger a_foot v_places v_roads p1 o7 ho7) gX3_measureTo_X3_hasPlace rfl ⟨yf3_hasPlace.1, yf3_hasPlace.2, Nat.le_of_ble_eq_true rfl, Nat.le_of_ble_eq_true rfl, rfl, rfl⟩ rfl 0 rfl (by decide) ⟨Nat.zero_le _, Nat.zero_le _⟩ (Nat.le_of_ble_eq_true rfl) ⟨rfl, trivial⟩ rfl rfl (by decide) (by decide) ⟨rfl, trivial⟩ [(a_from, .inl (cI, 16, .inl v_from)), (a_minutes, .inl (cI, 16, .inl v_minutes)), (a_to, .inl (cI, 16, .inl v_to)), (a_p2, .inl (cI, 8, .inl o6))] ⟨rfl, rfl, rfl, rfl, trivial⟩ ⟨rfl, rfl, rfl, rfl, trivial⟩ rfl ?_
  refine Yif_eq_b C 22 dX3_measureTo_12 (by decide) hx (fun _ hx => ?_) (fun _ hx => ?_)
  · skip
    exact Yvret C E dX3_measureTo_22 (ypo hx rfl rfl)
  · skip
    refine Yaload_n C dX3_measureTo_15 2 rfl rfl ?_
    refine Yalen (v := 8) C dX3_measureTo_16 4 0 rfl rfl rfl ?_
    refine Ybipush C 8 dX3_measureTo_17 (by decide) ?_
    refine Yicmp_ge C 23 dX3_measureTo_19 (by decide) hx (fun _ hx => ?_) (fun _ hx => ?_)
    · skip
      refine Yaload_n C dX3_measureTo_23 2 rfl rfl ?_
      refine Yiload_n C dX3_measureTo_24 1 rfl rfl ?_
      refine Yiconst C 0 dX3_measureTo_25 (by decide) ?_
      refine Yiast (ws' := (w3_measureTo cI cJ cZ cS cT a0 a_p2 a_from a_minutes a_to a_room a_pumps a_flow a_danger a_foot v_places v_roads v_from v_minutes v_to (upd o6 p1.toNatClampNeg 0))) C dX3_measureTo_26 hx 4 0 rfl rfl rfl (fun hx => ?_)
      refine Yiconst C 1 dX3_measureTo_27 (by decide) ?_
      refine Yistore_n (lv' := [(0, .ref a0), (1, .int p1), (2, .ref a_p2), (3, .int 1)]) C dX3_measureTo_28 rfl (by decide) rfl ?_
      refine Yiconst C 0 dX3_measureTo_29 (by decide) ?_
      refine Yistore (lv' := [(0, .ref a0), (1, .int p1), (2, .ref a_p2), (3, .int 1), (4, .int 0)]) C dX3_measureTo_30 (by decide) rfl ?_
      exact Yjmp C [0, 2, 3, 4] rfl (b32  yN (upd o6 p1.toNatClampNeg 0) 1 0 hx)
    · cases hx
theorem fg1_dropOldest_11 : YF wsX1_dropOldest RX1 11 1 0 := ⟨RX1, TX1, 6, rfl, (fun w h => List.mem_cons_of_mem _ (List.mem_append_right _ h)), by decide, List.mem_of_getElem? (i := 1) rfl⟩
theorem fg1_dropOldest_15 : YF wsX1_dropOldest RX1 15 1 1 := ⟨RX1, TX1, 6, rfl, (fun w h => List.mem_cons_of_mem _ (List.mem_append_right _ h)), by decide, List.mem_of_getElem? (i := 6) rfl⟩
theorem fg1_dropOldest_18 : YF wsX1_dropOldest RX1 18 1 2 := ⟨RX1, TX1, 6, rfl, (fun w h => List.mem_cons_of_mem _ (List.mem_append_right _ h)), by decide, List.mem_of_getElem? (i := 7) rfl⟩
theorem fg1_dropOldest_21 : YF wsX1_dropOldest RX1 21 1 3 := ⟨RX1, TX1, 6, rfl, (fun w h => List.mem_cons_of_mem _ (List.mem_append_right _ h)), by decide, List.mem_of_getElem? (i := 8) rfl⟩
theorem fp1_dropOldest_24 : YFp wsX1_dropOldest RX1 24 1 4 (tyX1 4) := ⟨RX1, TX1, 6, tyX1, rfl, (fun w h => List.mem_cons_of_mem _ (List.mem_append_right _ h)), by decide, List.mem_of_getElem? (i := 9) rfl, tyX1_ok, nmX1, rfl, tyX1_ok _ (by decide)⟩
theorem yf1_dropOldest : (∃ Ty', wsX1_dropOldest = Cond.code yX1_dropOldest cX1_dropOldest 1 none :: Ty') ∧ (yX1_dropOldest.cls ≠ "java/lang/invoke/MethodHandle" ∧ yX1_dropOldest.cls ≠ "java/lang/invoke/VarHandle" ∧ (parseMethodDescriptor yX1_dropOldest.desc).map (fun d => d.parameters.length) = some 0) := ⟨⟨_, rfl⟩, by decide +kernel, by decide +kernel, by decide +kernel⟩
abbrev w1_dropOldest (cI cJ cZ cS cT : ClassId) (a0 a_news a_numbers a_olds a_whats : Nat) (v_done : Int32) (v_size : Int32) (v_news : Nat → Int32) (v_numbers : Nat → Int32) (v_olds : Nat → Int32) (v_whats : Nat → Int32) : va_W := [(a0, .inr (1, [.ref a_numbers, .ref a_whats, .ref a_olds, .ref a_news, .int v_done, .int v_size])), (a_news, .inl (cI, 40, .inl v_news)), (a_numbers, .inl (cI, 40, .inl v_numbers)), (a_olds, .inl (cI, 40, .inl v_olds)), (a_whats, .inl (cI, 40, .inl v_whats))]
def x1_dropOldest (v_done : Int32) (v_news : Nat → Int32) (v_numbers : Nat → Int32) (v_olds : Nat → Int32) (v_whats : Nat → Int32) : Option (Int32 × (Nat → Int32) × (Nat → Int32) × (Nat → Int32) × (Nat → Int32)) :=
  bif okC 1 0 39 40 40 then (bif okC 1 0 39 40 40 then (bif okC 1 0 39 40 40 then (bif okC 1 0 39 40 40 then (some (39, (va_cpy v_news v_news (1 : Int32).toNatClampNeg (0 : Int32).toNatClampNeg (39 : Int32).toNatClampNeg), (va_cpy v_numbers v_numbers (1 : Int32).toNatClampNeg (0 : Int32).toNatClampNeg (39 : Int32).toNatClampNeg), (va_cpy v_olds v_olds (1 : Int32).toNatClampNeg (0 : Int32).toNatClampNeg (39 : Int32).toNatClampNeg), (va_cpy v_whats v_whats (1 : Int32).toNatClampNeg (0 : Int32).toNatClampNeg (39 : Int32).toNatClampNeg))) else none) else none) else none) else none
set_option maxHeartbeats 4000000 in
set_option maxRecDepth 100000 in
theorem c1_dropOldest (l : Launch) (D : yD) (cI cJ cZ cS cT : ClassId) (a0 a_news a_numbers a_olds a_whats : Nat) (v_done : Int32) (v_size : Int32) (v_news : Nat → Int32) (v_numbers : Nat → Int32) (v_olds : Nat → Int32) (v_whats : Nat → Int32) (out : Int32 × (Nat → Int32) × (Nat → Int32) × (Nat → Int32) × (Nat → Int32)) (hx : x1_dropOldest v_done v_news v_numbers v_olds v_whats = some out) : MC l D (yT cI cJ cZ cS cT) yX1_dropOldest wsX1_dropOldest ({ frames := 1, cells := 0, slots := 0, locals := 64 } : Room) (0, 0) [.ref a0] (w1_dropOldest cI cJ cZ cS cT a0 a_news a_numbers a_olds a_whats v_done v_size v_news v_numbers v_olds v_whats) (POd (fun o : Int32 × (Nat → Int32) × (Nat → Int32) × (Nat → Int32) × (Nat → Int32) => none) (fun (o : Int32 × (Nat → Int32) × (Nat → Int32) × (Nat → Int32) × (Nat → Int32)) => (w1_dropOldest cI cJ cZ cS cT a0 a_news a_numbers a_olds a_whats o.1 v_size o.2.1 o.2.2.1 o.2.2.2.1 o.2.2.2.2)) out) := by
  refine MC.intro (cc := cX1_dropOldest) (nL := 1) (ret := none) (own := RX1) (lv := [(0, .ref a0)]) (by decide) rfl rfl (Nat.le_of_ble_eq_true rfl) rfl (fun X C E => ?_)
  unfold x1_dropOldest at hx
  refine Yaload_n C dX1_dropOldest_0 0 rfl rfl ?_
  refine Yget C fg1_dropOldest_11 dX1_dropOldest_1 0 rfl rfl ?_
  refine Yiconst C 1 dX1_dropOldest_4 (by decide) ?_
  refine Yaload_n C dX1_dropOldest_5 0 rfl rfl ?_
  refine Yget C fg1_dropOldest_11 dX1_dropOldest_6 0 rfl rfl ?_
  refine Yiconst C 0 dX1_dropOldest_9 (by decide) ?_
  refine Ybipush C 39 dX1_dropOldest_10 (by decide) ?_
  refine Ycopy_int (ws' := (w1_dropOldest cI cJ cZ cS cT a0 a_news a_numbers a_olds a_whats v_done v_size v_news (va_cpy v_numbers v_numbers (1 : Int32).toNatClampNeg (0 : Int32).toNatClampNeg (39 : Int32).toNatClampNeg) v_olds v_whats)) C dX1_dropOldest_12 hx (List.mem_of_getElem? (i := 2) rfl) (List.mem_of_getElem? (i := 3) rfl) (List.mem_of_getElem? (i := 4) rfl) (List.mem_of_getElem? (i := 5) rfl) 2 2 0 rfl rfl rfl rfl (Nat.le_of_ble_eq_true rfl) (Nat.le_of_ble_eq_true rfl) rfl (fun hx => ?_)
  refine Yaload_n C dX1_dropOldest_15 0 rfl rfl ?_
  refine Yget C fg1_dropOldest_15 dX1_dropOldest_16 0 rfl rfl ?_
  refine Yiconst C 1 dX1_dropOldest_19 (by decide) ?_
  refine Yaload_n C dX1_dropOldest_20 0 rfl rfl ?_
  refine Yget C fg1_dropOldest_15 dX1_dropOldest_21 0 rfl rfl ?_
  refine Yiconst C 0 dX1_dropOldest_24 (by decide) ?_
  refine Ybipush C 39 dX1_dropOldest_25 (by decide) ?_
  refine Ycopy_int (ws' := (w1_dropOldest cI cJ cZ cS cT a0 a_news a_numbers a_olds a_whats v_done v_size v_news (va_cpy v_numbers v_numbers (1 : Int32).toNatClampNeg (0 : Int32).toNatClampNeg (39 : Int32).toNatClampNeg) v_olds (va_cpy v_whats v_whats (1 : Int32).toNatClampNeg (0 : Int32).toNatClampNeg (39 : Int32).toNatClampNeg))) C dX1_dropOldest_27 hx (List.mem_of_getElem? (i := 2) rfl) (List.mem_of_getElem? (i := 3) rfl) (List.mem_of_getElem? (i := 4) rfl) (List.mem_of_getElem? (i := 5) rfl) 4 4 0 rfl rfl rfl rfl (Nat.le_of_ble_eq_true rfl) (Nat.le_of_ble_eq_true rfl) rfl (fun hx => ?_)
  refine Yaload_n C dX1_dropOldest_30 0 rfl rfl ?_
  refine Yget C fg1_dropOldest_18 dX1_dropOldest_31 0 rfl rfl ?_
  refine Yiconst C 1 dX1_dropOldest_34 (by decide) ?_
  refine Yaload_n C dX1_dropOldest_35 0 rfl rfl ?_
  refine Yget C fg1_dropOldest_18 dX1_dropOldest_36 0 rfl rfl ?_
  refine Yiconst C 0 dX1_dropOldest_39 (by decide) ?_
  refine Ybipush C 39 dX1_dropOldest_40 (by decide) ?_
  refine Ycopy_int (ws' := (w1_dropOldest cI cJ cZ cS cT a0 a_news a_numbers a_olds a_whats v_done v_size v_news (va_cpy v_numbers v_numbers (1 : Int32).toNatClampNeg (0 : Int32).toNatClampNeg (39 : Int32).toNatClampNeg) (va_cpy v_olds v_olds (1 : Int32).toNatClampNeg (0 : Int32).toNatClampNeg (39 : Int32).toNatClampNeg) (va_cpy v_whats v_whats (1 : Int32).toNatClampNeg (0 : Int32).toNatClampNeg (39 : Int32).toNatClampNeg))) C dX1_dropOldest_42 hx (List.mem_of_getElem? (i := 2) rfl) (List.mem_of_getElem? (i := 3) rfl) (List.mem_of_getElem? (i := 4) rfl) (List.mem_of_getElem? (i := 5) rfl) 3 3 0 rfl rfl rfl rfl (Nat.le_of_ble_eq_true rfl) (Nat.le_of_ble_eq_true rfl) rfl (fun hx => ?_)
  refine Yaload_n C dX1_dropOldest_45 0 rfl rfl ?_
  refine Yget C fg1_dropOldest_21 dX1_dropOldest_46 0 rfl rfl ?_
  refine Yiconst C 1 dX1_dropOldest_49 (by decide) ?_
  refine Yaload_n C dX1_dropOldest_50 0 rfl rfl ?_
  refine Yget C fg1_dropOldest_21 dX1_dropOldest_51 0 rfl rfl ?_
  refine Yiconst C 0 dX1_dropOldest_54 (by decide) ?_
  refine Ybipush C 39 dX1_dropOldest_55 (by decide) ?_
  refine Ycopy_int (ws' := (w1_dropOldest cI cJ cZ cS cT a0 a_news a_numbers a_olds a_whats v_done v_size (va_cpy v_news v_news (1 : Int32).toNatClampNeg (0 : Int32).toNatClampNeg (39 : Int32).toNatClampNeg) (va_cpy v_numbers v_numbers (1 : Int32).toNatClampNeg (0 : Int32).toNatClampNeg (39 : Int32).toNatClampNeg) (va_cpy v_olds v_olds (1 : Int32).toNatClampNeg (0 : Int32).toNatClampNeg (39 : Int32).toNatClampNeg) (va_cpy v_whats v_whats (1 : Int32).toNatClampNeg (0 : Int32).toNatClampNeg (39 : Int32).toNatClampNeg))) C dX1_dropOldest_57 hx (List.mem_of_getElem? (i := 2) rfl) (List.mem_of_getElem? (i := 3) rfl) (List.mem_of_getElem? (i := 4) rfl) (List.mem_of_getElem? (i := 5) rfl) 1 1 0 rfl rfl rfl rfl (Nat.le_of_ble_eq_true rfl) (Nat.le_of_ble_eq_true rfl) rfl (fun hx => ?_)
  refine Yaload_n C dX1_dropOldest_60 0 rfl rfl ?_
  refine Ybipush C 39 dX1_dropOldest_61 (by decide) ?_
  refine Yput (v := .int 39) (ws' := (w1_dropOldest cI cJ cZ cS cT a0 a_news a_numbers a_olds a_whats 39 v_size (va_cpy v_news v_news (1 : Int32).toNatClampNeg (0 : Int32).toNatClampNeg (39 : Int32).toNatClampNeg) (va_cpy v_numbers v_numbers (1 : Int32).toNatClampNeg (0 : Int32).toNatClampNeg (39 : Int32).toNatClampNeg) (va_cpy v_olds v_olds (1 : Int32).toNatClampNeg (0 : Int32).toNatClampNeg (39 : Int32).toNatClampNeg) (va_cpy v_whats v_whats (1 : Int32).toNatClampNeg (0 : Int32).toNatClampNeg (39 : Int32).toNatClampNeg))) C fp1_dropOldest_24 dX1_dropOldest_63 0 rfl rfl rfl (Nat.le_of_ble_eq_true rfl) rfl rfl ?_
  exact Yvret C E dX1_dropOldest_66 (ypo hx rfl rfl)
theorem fg1_note_24 : YF wsX1_note RX1 24 1 4 := ⟨RX1, TX1, 6, rfl, (fun w h => List.mem_cons_of_mem _ (List.mem_append_right _ h)), by decide, List.mem_of_getElem? (i := 1) rfl⟩
theorem fg1_note_11 : YF wsX1_note RX1 11 1 0 := ⟨RX1, TX1, 6, rfl, (fun w h => List.mem_cons_of_mem _ (List.mem_append_right _ h)), by decide, List.mem_of_getElem? (i := 2) rfl⟩
theorem fg1_note_15 : YF wsX1_note RX1 15 1 1 := ⟨RX1, TX1, 6, rfl, (fun w h => List.mem_cons_of_mem _ (List.mem_append_right _ h)), by decide, List.mem_of_getElem? (i := 3) rfl⟩
theorem fg1_note_18 : YF wsX1_note RX1 18 1 2 := ⟨RX1, TX1, 6, rfl, (fun w h => List.mem_cons_of_mem _ (List.mem_append_right _ h)), by decide, List.mem_of_getElem? (i := 4) rfl⟩
theorem fg1_note_21 : YF wsX1_note RX1 21 1 3 := ⟨RX1, TX1, 6, rfl, (fun w h => List.mem_cons_of_mem _ (List.mem_append_right _ h)), by decide, List.mem_of_getElem? (i := 5) rfl⟩
theorem fp1_note_24 : YFp wsX1_note RX1 24 1 4 (tyX1 4) := ⟨RX1, TX1, 6, tyX1, rfl, (fun w h => List.mem_cons_of_mem _ (List.mem_append_right _ h)), by decide, List.mem_of_getElem? (i := 1) rfl, tyX1_ok, nmX1, rfl, tyX1_ok _ (by decide)⟩
theorem fp1_note_31 : YFp wsX1_note RX1 31 1 5 (tyX1 5) := ⟨RX1, TX1, 6, tyX1, rfl, (fun w h => List.mem_cons_of_mem _ (List.mem_append_right _ h)), by decide, List.mem_of_getElem? (i := 6) rfl, tyX1_ok, nmX1, rfl, tyX1_ok _ (by decide)⟩
theorem yf1_note : (∃ Ty', wsX1_note = Cond.code yX1_note cX1_note 5 none :: Ty') ∧ (yX1_note.cls ≠ "java/lang/invoke/MethodHandle" ∧ yX1_note.cls ≠ "java/lang/invoke/VarHandle" ∧ (parseMethodDescriptor yX1_note.desc).map (fun d => d.parameters.length) = some 4) := ⟨⟨_, rfl⟩, by decide +kernel, by decide +kernel, by decide +kernel⟩
abbrev w1_note (cI cJ cZ cS cT : ClassId) (a0 a_news a_numbers a_olds a_whats : Nat) (v_done : Int32) (v_size : Int32) (v_news : Nat → Int32) (v_numbers : Nat → Int32) (v_olds : Nat → Int32) (v_whats : Nat → Int32) : va_W := [(a0, .inr (1, [.ref a_numbers, .ref a_whats, .ref a_olds, .ref a_news, .int v_done, .int v_size])), (a_news, .inl (cI, 40, .inl v_news)), (a_numbers, .inl (cI, 40, .inl v_numbers)), (a_olds, .inl (cI, 40, .inl v_olds)), (a_whats, .inl (cI, 40, .inl v_whats))]
def x1_note_13  (p1 : Int32) (p2 : Int32) (p3 : Int32) (p4 : Int32) (v_done : Int32) (v_size : Int32) (v_news : Nat → Int32) (v_numbers : Nat → Int32) (v_olds : Nat → Int32) (v_whats : Nat → Int32) : Option (Int32 × Int32 × (Nat → Int32) × (Nat → Int32) × (Nat → Int32) × (Nat → Int32)) :=
  if v_done < 0 then (some (v_done, v_size, v_news, v_numbers, v_olds, v_whats)) else (if v_done < 40 then (bif inB v_done 40 then (bif inB v_done 40 then (bif inB v_done 40 then (bif inB v_done 40 then (some ((v_done + 1), (v_done + 1), (upd v_news v_done.toNatClampNeg p4), (upd v_numbers v_done.toNatClampNeg p1), (upd v_olds v_done.toNatClampNeg p3), (upd v_whats v_done.toNatClampNeg p2))) else none) else none) else none) else none) else (some (v_done, v_size, v_news, v_numbers, v_olds, v_whats)))
def x1_note (v_done : Int32) (v_size : Int32) (v_news : Nat → Int32) (v_numbers : Nat → Int32) (v_olds : Nat → Int32) (v_whats : Nat → Int32) (p1 : Int32) (p2 : Int32) (p3 : Int32) (p4 : Int32) : Option (Int32 × Int32 × (Nat → Int32) × (Nat → Int32) × (Nat → Int32) × (Nat → Int32)) :=
  if v_done < 40 then (x1_note_13  p1 p2 p3 p4 v_done v_size v_news v_numbers v_olds v_whats) else ((x1_dropOldest v_done v_news v_numbers v_olds v_whats).bind fun o1 => x1_note_13  p1 p2 p3 p4 o1.1 v_size o1.2.1 o1.2.2.1 o1.2.2.2.1 o1.2.2.2.2)
set_option maxHeartbeats 4000000 in
set_option maxRecDepth 100000 in
theorem c1_note (l : Launch) (D : yD) (cI cJ cZ cS cT : ClassId) (a0 a_news a_numbers a_olds a_whats : Nat) (v_done : Int32) (v_size : Int32) (v_news : Nat → Int32) (v_numbers : Nat → Int32) (v_olds : Nat → Int32) (v_whats : Nat → Int32) (p1 : Int32) (p2 : Int32) (p3 : Int32) (p4 : Int32) (out : Int32 × Int32 × (Nat → Int32) × (Nat → Int32) × (Nat → Int32) × (Nat → Int32)) (hx : x1_note v_done v_size v_news v_numbers v_olds v_whats p1 p2 p3 p4 = some out) : MC l D (yT cI cJ cZ cS cT) yX1_note wsX1_note ({ frames := 2, cells := 0, slots := 0, locals := 84 } : Room) (0, 0) [.ref a0, .int p1, .int p2, .int p3, .int p4] (w1_note cI cJ cZ cS cT a0 a_news a_numbers a_olds a_whats v_done v_size v_news v_numbers v_olds v_whats) (POd (fun o : Int32 × Int32 × (Nat → Int32) × (Nat → Int32) × (Nat → Int32) × (Nat → Int32) => none) (fun (o : Int32 × Int32 × (Nat → Int32) × (Nat → Int32) × (Nat → Int32) × (Nat → Int32)) => (w1_note cI cJ cZ cS cT a0 a_news a_numbers a_olds a_whats o.1 o.2.1 o.2.2.1 o.2.2.2.1 o.2.2.2.2.1 o.2.2.2.2.2)) out) := by
  refine MC.intro (cc := cX1_note) (nL := 5) (ret := none) (own := RX1) (lv := [(0, .ref a0), (1, .int p1), (2, .int p2), (3, .int p3), (4, .int p4)]) (by decide) rfl rfl (Nat.le_of_ble_eq_true rfl) rfl (fun X C E => ?_)
  unfold x1_note at hx
  have b13 : ∀  (v_done : Int32) (v_size : Int32) (v_news : Nat → Int32) (v_numbers : Nat → Int32) (v_olds : Nat → Int32) (v_whats : Nat → Int32), x1_note_13  p1 p2 p3 p4 v_done v_size v_news v_numbers v_olds v_whats = some out → Y X (0, 0) (w1_note cI cJ cZ cS cT a0 a_news a_numbers a_olds a_whats v_done v_size v_news v_numbers v_olds v_whats) [(0, .ref a0), (1, .int p1), (2, .int p2), (3, .int p3), (4, .int p4)] 13 [] := by
    intro  v_done v_size v_news v_numbers v_olds v_whats  hx
    unfold x1_note_13 at hx
    refine Yaload_n C dX1_note_13 0 rfl rfl ?_
    refine Yget C fg1_note_24 dX1_note_14 0 rfl rfl ?_
    refine Yif_lt C 29 dX1_note_17 (by decide) hx (fun _ hx => ?_) (fun _ hx => ?_)
    · skip
      exact Yvret C E dX1_note_29 (ypo hx rfl rfl)
    · skip
      refine Yaload_n C dX1_note_20 0 rfl rfl ?_
      refine Yget C fg1_note_24 dX1_note_21 0 rfl rfl ?_
      refine Ybipush C 40 dX1_note_24 (by decide) ?_
      refine Yicmp_lt C 30 dX1_note_26 (by decide) hx (fun _ hx => ?_) (fun _ hx => ?_)
      · skip
        refine Yaload_n C dX1_note_30 0 rfl rfl ?_
        refine Yget C fg1_note_11 dX1_note_31 0 rfl rfl ?_
        refine Yaload_n C dX1_note_34 0 rfl rfl ?_
        refine Yget C fg1_note_24 dX1_note_35 0 rfl rfl ?_
        refine Yiload_n C dX1_note_38 1 rfl rfl ?_
        refine Yiast (ws' := (w1_note cI cJ cZ cS cT a0 a_news a_numbers a_olds a_whats v_done v_size v_news (upd v_numbers v_done.toNatClampNeg p1) v_olds v_whats)) C dX1_note_39 hx 2 0 rfl rfl rfl (fun hx => ?_)
        refine Yaload_n C dX1_note_40 0 rfl rfl ?_
        refine Yget C fg1_note_15 dX1_note_41 0 rfl rfl ?_
        refine Yaload_n C dX1_note_44 0 rfl rfl ?_
        refine Yget C fg1_note_24 dX1_note_45 0 rfl rfl ?_
        refine Yiload_n C dX1_note_48 2 rfl rfl ?_
        refine Yiast (ws' := (w1_note cI cJ cZ cS cT a0 a_news a_numbers a_olds a_whats v_done v_size v_news (upd v_numbers v_done.toNatClampNeg p1) v_olds (upd v_whats v_done.toNatClampNeg p2))) C dX1_note_49 hx 4 0 rfl rfl rfl (fun hx => ?_)
        refine Yaload_n C dX1_note_50 0 rfl rfl ?_
        refine Yget C fg1_note_18 dX1_note_51 0 rfl rfl ?_
        refine Yaload_n C dX1_note_54 0 rfl rfl ?_
        refine Yget C fg1_note_24 dX1_note_55 0 rfl rfl ?_
        refine Yiload_n C dX1_note_58 3 rfl rfl ?_
        refine Yiast (ws' := (w1_note cI cJ cZ cS cT a0 a_news a_numbers a_olds a_whats v_done v_size v_news (upd v_numbers v_done.toNatClampNeg p1) (upd v_olds v_done.toNatClampNeg p3) (upd v_whats v_done.toNatClampNeg p2))) C dX1_note_59 hx 3 0 rfl rfl rfl (fun hx => ?_)
        refine Yaload_n C dX1_note_60 0 rfl rfl ?_
        refine Yget C fg1_note_21 dX1_note_61 0 rfl rfl ?_
        refine Yaload_n C dX1_note_64 0 rfl rfl ?_
        refine Yget C fg1_note_24 dX1_note_65 0 rfl rfl ?_
        refine Yiload C dX1_note_68 4 rfl ?_
        refine Yiast (ws' := (w1_note cI cJ cZ cS cT a0 a_news a_numbers a_olds a_whats v_done v_size (upd v_news v_done.toNatClampNeg p4) (upd v_numbers v_done.toNatClampNeg p1) (upd v_olds v_done.toNatClampNeg p3) (upd v_whats v_done.toNatClampNeg p2))) C dX1_note_70 hx 1 0 rfl rfl rfl (fun hx => ?_)
        refine Yaload_n C dX1_note_71 0 rfl rfl ?_
        refine Ydup C dX1_note_72 rfl ?_
        refine Yget C fg1_note_24 dX1_note_73 0 rfl rfl ?_
        refine Yiconst C 1 dX1_note_76 (by decide) ?_
        refine Yiadd C dX1_note_77 ?_
        refine Yput (v := .int (v_done + 1)) (ws' := (w1_note cI cJ cZ cS cT a0 a_news a_numbers a_olds a_whats (v_done + 1) v_size (upd v_news v_done.toNatClampNeg p4) (upd v_numbers v_done.toNatClampNeg p1) (upd v_olds v_done.toNatClampNeg p3) (upd v_whats v_done.toNatClampNeg p2))) C fp1_note_24 dX1_note_78 0 rfl rfl rfl (Nat.le_of_ble_eq_true rfl) rfl rfl ?_
        refine Yaload_n C dX1_note_81 0 rfl rfl ?_
        refine Yaload_n C dX1_note_82 0 rfl rfl ?_
        refine Yget C fg1_note_24 dX1_note_83 0 rfl rfl ?_
        refine Yput (v := .int (v_done + 1)) (ws' := (w1_note cI cJ cZ cS cT a0 a_news a_numbers a_olds a_whats (v_done + 1) (v_done + 1) (upd v_news v_done.toNatClampNeg p4) (upd v_numbers v_done.toNatClampNeg p1) (upd v_olds v_done.toNatClampNeg p3) (upd v_whats v_done.toNatClampNeg p2))) C fp1_note_31 dX1_note_86 0 rfl rfl rfl (Nat.le_of_ble_eq_true rfl) rfl rfl ?_
        exact Yvret C E dX1_note_89 (ypo hx rfl rfl)
      · skip
        exact Yvret C E dX1_note_29 (ypo hx rfl rfl)
  refine Yaload_n C dX1_note_0 0 rfl rfl ?_
  refine Yget C fg1_note_24 dX1_note_1 0 rfl rfl ?_
  refine Ybipush C 40 dX1_note_4 (by decide) ?_
  refine Yicmp_lt C 13 dX1_note_6 (by decide) hx (fun _ hx => ?_) (fun _ hx => ?_)
  · skip
    exact b13  v_done v_size v_news v_numbers v_olds v_whats hx
  · skip
    refine Yaload_n C dX1_note_9 0 rfl rfl ?_
    obtain ⟨o1, ho1, hx⟩ := ybnd hx
    refine YcallVd (ws' := (w1_note cI cJ cZ cS cT a0 a_news a_numbers a_olds a_whats o1.1 v_size o1.2.1 o1.2.2.1 o1.2.2.2.1 o1.2.2.2.2)) (st' := []) (st := []) (as := []) (b := a0) (ci := 1) C [0, 1, 2, 3, 4] [] 5 dX1_note_10 (c1_dropOldest l D cI cJ cZ cS cT a0 a_news a_numbers a_olds a_whats v_done v_size v_news v_numbers v_olds v_whats o1 ho1) gX1_note_X1_dropOldest rfl ⟨yf1_dropOldest.1, yf1_dropOldest.2, Nat.le_of_ble_eq_true rfl, Nat.le_of_ble_eq_true rfl, rfl, rfl⟩ rfl 0 rfl (by decide) ⟨Nat.zero_le _, Nat.zero_le _⟩ (Nat.le_of_ble_eq_true rfl) ⟨rfl, rfl, rfl, rfl, rfl, trivial⟩ rfl rfl (by decide) (by decide) ⟨rfl, rfl, rfl, rfl, rfl, trivial⟩ [] trivial trivial rfl ?_
    exact b13  o1.1 v_size o1.2.1 o1.2.2.1 o1.2.2.2.1 o1.2.2.2.2 hx
theorem fg1_stepBack_24 : YF wsX1_stepBack RX1 24 1 4 := ⟨RX1, TX1, 6, rfl, (fun w h => List.mem_cons_of_mem _ (List.mem_append_left _ (List.mem_append_right _ h))), by decide, List.mem_of_getElem? (i := 1) rfl⟩
theorem fp1_stepBack_24 : YFp wsX1_stepBack RX1 24 1 4 (tyX1 4) := ⟨RX1, TX1, 6, tyX1, rfl, (fun w h => List.mem_cons_of_mem _ (List.mem_append_left _ (List.mem_append_right _ h))), by decide, List.mem_of_getElem? (i := 1) rfl, tyX1_ok, nmX1, rfl, tyX1_ok _ (by decide)⟩
theorem fg1_stepBack_11 : YF wsX1_stepBack RX1 11 1 0 := ⟨RX1, TX1, 6, rfl, (fun w h => List.mem_cons_of_mem _ (List.mem_append_left _ (List.mem_append_right _ h))), by decide, List.mem_of_getElem? (i := 2) rfl⟩
theorem fg1_stepBack_15 : YF wsX1_stepBack RX1 15 1 1 := ⟨RX1, TX1, 6, rfl, (fun w h => List.mem_cons_of_mem _ (List.mem_append_left _ (List.mem_append_right _ h))), by decide, List.mem_of_getElem? (i := 3) rfl⟩
theorem fg1_stepBack_18 : YF wsX1_stepBack RX1 18 1 2 := ⟨RX1, TX1, 6, rfl, (fun w h => List.mem_cons_of_mem _ (List.mem_append_left _ (List.mem_append_right _ h))), by decide, List.mem_of_getElem? (i := 4) rfl⟩
theorem yf1_stepBack : (∃ Ty', wsX1_stepBack = Cond.code yX1_stepBack cX1_stepBack 2 (some .int) :: Ty') ∧ (yX1_stepBack.cls ≠ "java/lang/invoke/MethodHandle" ∧ yX1_stepBack.cls ≠ "java/lang/invoke/VarHandle" ∧ (parseMethodDescriptor yX1_stepBack.desc).map (fun d => d.parameters.length) = some 1) := ⟨⟨_, rfl⟩, by decide +kernel, by decide +kernel, by decide +kernel⟩
abbrev w1_stepBack (cI cJ cZ cS cT : ClassId) (a0 a_p1 a_numbers a_olds a_whats a_p1_danger a_p1_flow a_p1_room a_news a_p1_pumps a_p1_from a_p1_to a_p1_minutes a_p1_foot : Nat) (v_done : Int32) (v_size : Int32) (v_p1_places : Int32) (v_p1_roads : Int32) (v_numbers : Nat → Int32) (v_olds : Nat → Int32) (v_whats : Nat → Int32) (v_p1_danger : Nat → Int32) (v_p1_flow : Nat → Int32) (v_p1_room : Nat → Int32) : va_W := [(a0, .inr (1, [.ref a_numbers, .ref a_whats, .ref a_olds, .ref a_news, .int v_done, .int v_size])), (a_numbers, .inl (cI, 40, .inl v_numbers)), (a_olds, .inl (cI, 40, .inl v_olds)), (a_whats, .inl (cI, 40, .inl v_whats)), (a_p1, .inr (3, [.int v_p1_places, .int v_p1_roads, .ref a_p1_room, .ref a_p1_pumps, .ref a_p1_from, .ref a_p1_to, .ref a_p1_flow, .ref a_p1_minutes, .ref a_p1_danger, .ref a_p1_foot])), (a_p1_danger, .inl (cI, 16, .inl v_p1_danger)), (a_p1_flow, .inl (cI, 16, .inl v_p1_flow)), (a_p1_room, .inl (cI, 8, .inl v_p1_room))]
def x1_stepBack (v_done : Int32) (v_numbers : Nat → Int32) (v_olds : Nat → Int32) (v_whats : Nat → Int32) (v_p1_places : Int32) (v_p1_roads : Int32) (v_p1_danger : Nat → Int32) (v_p1_flow : Nat → Int32) (v_p1_room : Nat → Int32) : Option (Int32 × Int32 × (Nat → Int32) × (Nat → Int32) × (Nat → Int32)) :=
  if v_done < 1 then (some ((-5), v_done, v_p1_danger, v_p1_flow, v_p1_room)) else (if v_done ≤ 40 then (bif inB (v_done - 1) 40 then (bif inB (v_done - 1) 40 then (bif inB (v_done - 1) 40 then ((x3_change v_p1_places v_p1_roads v_p1_danger v_p1_flow v_p1_room (v_numbers (v_done - 1).toNatClampNeg) (v_whats (v_done - 1).toNatClampNeg) (v_olds (v_done - 1).toNatClampNeg)).bind fun o1 => some ((v_done - 1), (v_done - 1), o1.1, o1.2.1, o1.2.2)) else none) else none) else none) else (some ((-5), v_done, v_p1_danger, v_p1_flow, v_p1_room)))
set_option maxHeartbeats 4000000 in
set_option maxRecDepth 100000 in
theorem c1_stepBack (l : Launch) (D : yD) (cI cJ cZ cS cT : ClassId) (a0 a_p1 a_numbers a_olds a_whats a_p1_danger a_p1_flow a_p1_room a_news a_p1_pumps a_p1_from a_p1_to a_p1_minutes a_p1_foot : Nat) (v_done : Int32) (v_size : Int32) (v_p1_places : Int32) (v_p1_roads : Int32) (v_numbers : Nat → Int32) (v_olds : Nat → Int32) (v_whats : Nat → Int32) (v_p1_danger : Nat → Int32) (v_p1_flow : Nat → Int32) (v_p1_room : Nat → Int32) (out : Int32 × Int32 × (Nat → Int32) × (Nat → Int32) × (Nat → Int32)) (hx : x1_stepBack v_done v_numbers v_olds v_whats v_p1_places v_p1_roads v_p1_danger v_p1_flow v_p1_room = some out) : MC l D (yT cI cJ cZ cS cT) yX1_stepBack wsX1_stepBack ({ frames := 3, cells := 0, slots := 0, locals := 67 } : Room) (0, 0) [.ref a0, .ref a_p1] (w1_stepBack cI cJ cZ cS cT a0 a_p1 a_numbers a_olds a_whats a_p1_danger a_p1_flow a_p1_room a_news a_p1_pumps a_p1_from a_p1_to a_p1_minutes a_p1_foot v_done v_size v_p1_places v_p1_roads v_numbers v_olds v_whats v_p1_danger v_p1_flow v_p1_room) (POd (fun o : Int32 × Int32 × (Nat → Int32) × (Nat → Int32) × (Nat → Int32) => some (.int o.1)) (fun (o : Int32 × Int32 × (Nat → Int32) × (Nat → Int32) × (Nat → Int32)) => (w1_stepBack cI cJ cZ cS cT a0 a_p1 a_numbers a_olds a_whats a_p1_danger a_p1_flow a_p1_room a_news a_p1_pumps a_p1_from a_p1_to a_p1_minutes a_p1_foot o.2.1 v_size v_p1_places v_p1_roads v_numbers v_olds v_whats o.2.2.1 o.2.2.2.1 o.2.2.2.2)) out) := by
  refine MC.intro (cc := cX1_stepBack) (nL := 2) (ret := (some .int)) (own := RX1) (lv := [(0, .ref a0), (1, .ref a_p1)]) (by decide) rfl rfl (Nat.le_of_ble_eq_true rfl) rfl (fun X C E => ?_)
  unfold x1_stepBack at hx
  refine Yaload_n C dX1_stepBack_0 0 rfl rfl ?_
  refine Yget C fg1_stepBack_24 dX1_stepBack_1 0 rfl rfl ?_
  refine Yiconst C 1 dX1_stepBack_4 (by decide) ?_
  refine Yicmp_lt C 17 dX1_stepBack_5 (by decide) hx (fun _ hx => ?_) (fun _ hx => ?_)
  · skip
    refine Ybipush C (-5) dX1_stepBack_17 (by decide) ?_
    exact Yiret C E dX1_stepBack_19 (ypo hx rfl rfl)
  · skip
    refine Yaload_n C dX1_stepBack_8 0 rfl rfl ?_
    refine Yget C fg1_stepBack_24 dX1_stepBack_9 0 rfl rfl ?_
    refine Ybipush C 40 dX1_stepBack_12 (by decide) ?_
    refine Yicmp_le C 20 dX1_stepBack_14 (by decide) hx (fun _ hx => ?_) (fun _ hx => ?_)
    · skip
      refine Yaload_n C dX1_stepBack_20 0 rfl rfl ?_
      refine Ydup C dX1_stepBack_21 rfl ?_
      refine Yget C fg1_stepBack_24 dX1_stepBack_22 0 rfl rfl ?_
      refine Yiconst C 1 dX1_stepBack_25 (by decide) ?_
      refine Yisub C dX1_stepBack_26 ?_
      refine Yput (v := .int (v_done - 1)) (ws' := (w1_stepBack cI cJ cZ cS cT a0 a_p1 a_numbers a_olds a_whats a_p1_danger a_p1_flow a_p1_room a_news a_p1_pumps a_p1_from a_p1_to a_p1_minutes a_p1_foot (v_done - 1) v_size v_p1_places v_p1_roads v_numbers v_olds v_whats v_p1_danger v_p1_flow v_p1_room)) C fp1_stepBack_24 dX1_stepBack_27 0 rfl rfl rfl (Nat.le_of_ble_eq_true rfl) rfl rfl ?_
      refine Yaload_n C dX1_stepBack_30 1 rfl rfl ?_
      refine Yaload_n C dX1_stepBack_31 0 rfl rfl ?_
      refine Yget C fg1_stepBack_11 dX1_stepBack_32 0 rfl rfl ?_
      refine Yaload_n C dX1_stepBack_35 0 rfl rfl ?_
      refine Yget C fg1_stepBack_24 dX1_stepBack_36 0 rfl rfl ?_
      refine Yiald C dX1_stepBack_39 hx 1 0 rfl rfl (fun hx => ?_)
      refine Yaload_n C dX1_stepBack_40 0 rfl rfl ?_
      refine Yget C fg1_stepBack_15 dX1_stepBack_41 0 rfl rfl ?_
      refine Yaload_n C dX1_stepBack_44 0 rfl rfl ?_
      refine Yget C fg1_stepBack_24 dX1_stepBack_45 0 rfl rfl ?_
      refine Yiald C dX1_stepBack_48 hx 3 0 rfl rfl (fun hx => ?_)
      refine Yaload_n C dX1_stepBack_49 0 rfl rfl ?_
      refine Yget C fg1_stepBack_18 dX1_stepBack_50 0 rfl rfl ?_
      refine Yaload_n C dX1_stepBack_53 0 rfl rfl ?_
      refine Yget C fg1_stepBack_24 dX1_stepBack_54 0 rfl rfl ?_
      refine Yiald C dX1_stepBack_57 hx 2 0 rfl rfl (fun hx => ?_)
      obtain ⟨o1, ho1, hx⟩ := ybnd hx
      refine YcallVd (ws' := (w1_stepBack cI cJ cZ cS cT a0 a_p1 a_numbers a_olds a_whats a_p1_danger a_p1_flow a_p1_room a_news a_p1_pumps a_p1_from a_p1_to a_p1_minutes a_p1_foot (v_done - 1) v_size v_p1_places v_p1_roads v_numbers v_olds v_whats o1.1 o1.2.1 o1.2.2)) (st' := []) (st := []) (as := [.int (v_numbers (v_done - 1).toNatClampNeg), .int (v_whats (v_done - 1).toNatClampNeg), .int (v_olds (v_done - 1).toNatClampNeg)]) (b := a_p1) (ci := 3) C [4, 5, 6, 7] [0, 1, 2, 3] 8 dX1_stepBack_58 (c3_change l D cI cJ cZ cS cT a_p1 a_p1_danger a_p1_flow a_p1_room a_p1_pumps a_p1_from a_p1_to a_p1_minutes a_p1_foot v_p1_places v_p1_roads v_p1_danger v_p1_flow v_p1_room (v_numbers (v_done - 1).toNatClampNeg) (v_whats (v_done - 1).toNatClampNeg) (v_olds (v_done - 1).toNatClampNeg) o1 ho1) gX1_stepBack_X3_change rfl ⟨yf3_change.1, yf3_change.2, Nat.le_of_ble_eq_true rfl, Nat.le_of_ble_eq_true rfl, rfl, rfl⟩ rfl 4 rfl (by decide) ⟨Nat.zero_le _, Nat.zero_le _⟩ (Nat.le_of_ble_eq_true rfl) ⟨rfl, rfl, rfl, rfl, trivial⟩ rfl rfl (by decide) (by decide) ⟨rfl, rfl, rfl, rfl, trivial⟩ [(a0, .inr (1, [.ref a_numbers, .ref a_whats, .ref a_olds, .ref a_news, .int (v_done - 1), .int v_size])), (a_numbers, .inl (cI, 40, .inl v_numbers)), (a_olds, .inl (cI, 40, .inl v_olds)), (a_whats, .inl (cI, 40, .inl v_whats))] ⟨rfl, rfl, rfl, rfl, trivial⟩ ⟨rfl, rfl, rfl, rfl, trivial⟩ rfl ?_
      refine Yaload_n C dX1_stepBack_61 0 rfl rfl ?_
      refine Yget C fg1_stepBack_24 dX1_stepBack_62 0 rfl rfl ?_
      exact Yiret C E dX1_stepBack_65 (ypo hx rfl rfl)
    · skip
      refine Ybipush C (-5) dX1_stepBack_17 (by decide) ?_
      exact Yiret C E dX1_stepBack_19 (ypo hx rfl rfl)
theorem fg1_stepOn_24 : YF wsX1_stepOn RX1 24 1 4 := ⟨RX1, TX1, 6, rfl, (fun w h => List.mem_cons_of_mem _ (List.mem_append_left _ (List.mem_append_right _ h))), by decide, List.mem_of_getElem? (i := 1) rfl⟩
theorem fg1_stepOn_31 : YF wsX1_stepOn RX1 31 1 5 := ⟨RX1, TX1, 6, rfl, (fun w h => List.mem_cons_of_mem _ (List.mem_append_left _ (List.mem_append_right _ h))), by decide, List.mem_of_getElem? (i := 2) rfl⟩
theorem fg1_stepOn_11 : YF wsX1_stepOn RX1 11 1 0 := ⟨RX1, TX1, 6, rfl, (fun w h => List.mem_cons_of_mem _ (List.mem_append_left _ (List.mem_append_right _ h))), by decide, List.mem_of_getElem? (i := 3) rfl⟩
theorem fg1_stepOn_15 : YF wsX1_stepOn RX1 15 1 1 := ⟨RX1, TX1, 6, rfl, (fun w h => List.mem_cons_of_mem _ (List.mem_append_left _ (List.mem_append_right _ h))), by decide, List.mem_of_getElem? (i := 4) rfl⟩
theorem fg1_stepOn_21 : YF wsX1_stepOn RX1 21 1 3 := ⟨RX1, TX1, 6, rfl, (fun w h => List.mem_cons_of_mem _ (List.mem_append_left _ (List.mem_append_right _ h))), by decide, List.mem_of_getElem? (i := 5) rfl⟩
theorem fp1_stepOn_24 : YFp wsX1_stepOn RX1 24 1 4 (tyX1 4) := ⟨RX1, TX1, 6, tyX1, rfl, (fun w h => List.mem_cons_of_mem _ (List.mem_append_left _ (List.mem_append_right _ h))), by decide, List.mem_of_getElem? (i := 1) rfl, tyX1_ok, nmX1, rfl, tyX1_ok _ (by decide)⟩
theorem yf1_stepOn : (∃ Ty', wsX1_stepOn = Cond.code yX1_stepOn cX1_stepOn 2 (some .int) :: Ty') ∧ (yX1_stepOn.cls ≠ "java/lang/invoke/MethodHandle" ∧ yX1_stepOn.cls ≠ "java/lang/invoke/VarHandle" ∧ (parseMethodDescriptor yX1_stepOn.desc).map (fun d => d.parameters.length) = some 1) := ⟨⟨_, rfl⟩, by decide +kernel, by decide +kernel, by decide +kernel⟩
abbrev w1_stepOn (cI cJ cZ cS cT : ClassId) (a0 a_p1 a_news a_numbers a_whats a_p1_danger a_p1_flow a_p1_room a_olds a_p1_pumps a_p1_from a_p1_to a_p1_minutes a_p1_foot : Nat) (v_done : Int32) (v_size : Int32) (v_p1_places : Int32) (v_p1_roads : Int32) (v_news : Nat → Int32) (v_numbers : Nat → Int32) (v_whats : Nat → Int32) (v_p1_danger : Nat → Int32) (v_p1_flow : Nat → Int32) (v_p1_room : Nat → Int32) : va_W := [(a0, .inr (1, [.ref a_numbers, .ref a_whats, .ref a_olds, .ref a_news, .int v_done, .int v_size])), (a_news, .inl (cI, 40, .inl v_news)), (a_numbers, .inl (cI, 40, .inl v_numbers)), (a_whats, .inl (cI, 40, .inl v_whats)), (a_p1, .inr (3, [.int v_p1_places, .int v_p1_roads, .ref a_p1_room, .ref a_p1_pumps, .ref a_p1_from, .ref a_p1_to, .ref a_p1_flow, .ref a_p1_minutes, .ref a_p1_danger, .ref a_p1_foot])), (a_p1_danger, .inl (cI, 16, .inl v_p1_danger)), (a_p1_flow, .inl (cI, 16, .inl v_p1_flow)), (a_p1_room, .inl (cI, 8, .inl v_p1_room))]
def x1_stepOn (v_done : Int32) (v_size : Int32) (v_news : Nat → Int32) (v_numbers : Nat → Int32) (v_whats : Nat → Int32) (v_p1_places : Int32) (v_p1_roads : Int32) (v_p1_danger : Nat → Int32) (v_p1_flow : Nat → Int32) (v_p1_room : Nat → Int32) : Option (Int32 × Int32 × (Nat → Int32) × (Nat → Int32) × (Nat → Int32)) :=
  if v_done < 0 then (some ((-5), v_done, v_p1_danger, v_p1_flow, v_p1_room)) else (if v_size ≤ v_done then (some ((-5), v_done, v_p1_danger, v_p1_flow, v_p1_room)) else (if v_done < 40 then (bif inB v_done 40 then (bif inB v_done 40 then (bif inB v_done 40 then ((x3_change v_p1_places v_p1_roads v_p1_danger v_p1_flow v_p1_room (v_numbers v_done.toNatClampNeg) (v_whats v_done.toNatClampNeg) (v_news v_done.toNatClampNeg)).bind fun o1 => some ((v_size - (v_done + 1)), (v_done + 1), o1.1, o1.2.1, o1.2.2)) else none) else none) else none) else (some ((-5), v_done, v_p1_danger, v_p1_flow, v_p1_room))))
set_option maxHeartbeats 4000000 in
set_option maxRecDepth 100000 in
theorem c1_stepOn (l : Launch) (D : yD) (cI cJ cZ cS cT : ClassId) (a0 a_p1 a_news a_numbers a_whats a_p1_danger a_p1_flow a_p1_room a_olds a_p1_pumps a_p1_from a_p1_to a_p1_minutes a_p1_foot : Nat) (v_done : Int32) (v_size : Int32) (v_p1_places : Int32) (v_p1_roads : Int32) (v_news : Nat → Int32) (v_numbers : Nat → Int32) (v_whats : Nat → Int32) (v_p1_danger : Nat → Int32) (v_p1_flow : Nat → Int32) (v_p1_room : Nat → Int32) (out : Int32 × Int32 × (Nat → Int32) × (Nat → Int32) × (Nat → Int32)) (hx : x1_stepOn v_done v_size v_news v_numbers v_whats v_p1_places v_p1_roads v_p1_danger v_p1_flow v_p1_room = some out) : MC l D (yT cI cJ cZ cS cT) yX1_stepOn wsX1_stepOn ({ frames := 3, cells := 0, slots := 0, locals := 67 } : Room) (0, 0) [.ref a0, .ref a_p1] (w1_stepOn cI cJ cZ cS cT a0 a_p1 a_news a_numbers a_whats a_p1_danger a_p1_flow a_p1_room a_olds a_p1_pumps a_p1_from a_p1_to a_p1_minutes a_p1_foot v_done v_size v_p1_places v_p1_roads v_news v_numbers v_whats v_p1_danger v_p1_flow v_p1_room) (POd (fun o : Int32 × Int32 × (Nat → Int32) × (Nat → Int32) × (Nat → Int32) => some (.int o.1)) (fun (o : Int32 × Int32 × (Nat → Int32) × (Nat → Int32) × (Nat → Int32)) => (w1_stepOn cI cJ cZ cS cT a0 a_p1 a_news a_numbers a_whats a_p1_danger a_p1_flow a_p1_room a_olds a_p1_pumps a_p1_from a_p1_to a_p1_minutes a_p1_foot o.2.1 v_size v_p1_places v_p1_roads v_news v_numbers v_whats o.2.2.1 o.2.2.2.1 o.2.2.2.2)) out) := by
  refine MC.intro (cc := cX1_stepOn) (nL := 2) (ret := (some .int)) (own := RX1) (lv := [(0, .ref a0), (1, .ref a_p1)]) (by decide) rfl rfl (Nat.le_of_ble_eq_true rfl) rfl (fun X C E => ?_)
  unfold x1_stepOn at hx
  refine Yaload_n C dX1_stepOn_0 0 rfl rfl ?_
  refine Yget C fg1_stepOn_24 dX1_stepOn_1 0 rfl rfl ?_
  refine Yif_lt C 27 dX1_stepOn_4 (by decide) hx (fun _ hx => ?_) (fun _ hx => ?_)
  · skip
    refine Ybipush C (-5) dX1_stepOn_27 (by decide) ?_
    exact Yiret C E dX1_stepOn_29 (ypo hx rfl rfl)
  · skip
    refine Yaload_n C dX1_stepOn_7 0 rfl rfl ?_
    refine Yget C fg1_stepOn_24 dX1_stepOn_8 0 rfl rfl ?_
    refine Yaload_n C dX1_stepOn_11 0 rfl rfl ?_
    refine Yget C fg1_stepOn_31 dX1_stepOn_12 0 rfl rfl ?_
    refine Yicmp_ge C 27 dX1_stepOn_15 (by decide) hx (fun _ hx => ?_) (fun _ hx => ?_)
    · skip
      refine Ybipush C (-5) dX1_stepOn_27 (by decide) ?_
      exact Yiret C E dX1_stepOn_29 (ypo hx rfl rfl)
    · skip
      refine Yaload_n C dX1_stepOn_18 0 rfl rfl ?_
      refine Yget C fg1_stepOn_24 dX1_stepOn_19 0 rfl rfl ?_
      refine Ybipush C 40 dX1_stepOn_22 (by decide) ?_
      refine Yicmp_lt C 30 dX1_stepOn_24 (by decide) hx (fun _ hx => ?_) (fun _ hx => ?_)
      · skip
        refine Yaload_n C dX1_stepOn_30 1 rfl rfl ?_
        refine Yaload_n C dX1_stepOn_31 0 rfl rfl ?_
        refine Yget C fg1_stepOn_11 dX1_stepOn_32 0 rfl rfl ?_
        refine Yaload_n C dX1_stepOn_35 0 rfl rfl ?_
        refine Yget C fg1_stepOn_24 dX1_stepOn_36 0 rfl rfl ?_
        refine Yiald C dX1_stepOn_39 hx 2 0 rfl rfl (fun hx => ?_)
        refine Yaload_n C dX1_stepOn_40 0 rfl rfl ?_
        refine Yget C fg1_stepOn_15 dX1_stepOn_41 0 rfl rfl ?_
        refine Yaload_n C dX1_stepOn_44 0 rfl rfl ?_
        refine Yget C fg1_stepOn_24 dX1_stepOn_45 0 rfl rfl ?_
        refine Yiald C dX1_stepOn_48 hx 3 0 rfl rfl (fun hx => ?_)
        refine Yaload_n C dX1_stepOn_49 0 rfl rfl ?_
        refine Yget C fg1_stepOn_21 dX1_stepOn_50 0 rfl rfl ?_
        refine Yaload_n C dX1_stepOn_53 0 rfl rfl ?_
        refine Yget C fg1_stepOn_24 dX1_stepOn_54 0 rfl rfl ?_
        refine Yiald C dX1_stepOn_57 hx 1 0 rfl rfl (fun hx => ?_)
        obtain ⟨o1, ho1, hx⟩ := ybnd hx
        refine YcallVd (ws' := (w1_stepOn cI cJ cZ cS cT a0 a_p1 a_news a_numbers a_whats a_p1_danger a_p1_flow a_p1_room a_olds a_p1_pumps a_p1_from a_p1_to a_p1_minutes a_p1_foot v_done v_size v_p1_places v_p1_roads v_news v_numbers v_whats o1.1 o1.2.1 o1.2.2)) (st' := []) (st := []) (as := [.int (v_numbers v_done.toNatClampNeg), .int (v_whats v_done.toNatClampNeg), .int (v_news v_done.toNatClampNeg)]) (b := a_p1) (ci := 3) C [4, 5, 6, 7] [0, 1, 2, 3] 8 dX1_stepOn_58 (c3_change l D cI cJ cZ cS cT a_p1 a_p1_danger a_p1_flow a_p1_room a_p1_pumps a_p1_from a_p1_to a_p1_minutes a_p1_foot v_p1_places v_p1_roads v_p1_danger v_p1_flow v_p1_room (v_numbers v_done.toNatClampNeg) (v_whats v_done.toNatClampNeg) (v_news v_done.toNatClampNeg) o1 ho1) gX1_stepOn_X3_change rfl ⟨yf3_change.1, yf3_change.2, Nat.le_of_ble_eq_true rfl, Nat.le_of_ble_eq_true rfl, rfl, rfl⟩ rfl 4 rfl (by decide) ⟨Nat.zero_le _, Nat.zero_le _⟩ (Nat.le_of_ble_eq_true rfl) ⟨rfl, rfl, rfl, rfl, trivial⟩ rfl rfl (by decide) (by decide) ⟨rfl, rfl, rfl, rfl, trivial⟩ [(a0, .inr (1, [.ref a_numbers, .ref a_whats, .ref a_olds, .ref a_news, .int v_done, .int v_size])), (a_news, .inl (cI, 40, .inl v_news)), (a_numbers, .inl (cI, 40, .inl v_numbers)), (a_whats, .inl (cI, 40, .inl v_whats))] ⟨rfl, rfl, rfl, rfl, trivial⟩ ⟨rfl, rfl, rfl, rfl, trivial⟩ rfl ?_
        refine Yaload_n C dX1_stepOn_61 0 rfl rfl ?_
        refine Ydup C dX1_stepOn_62 rfl ?_
        refine Yget C fg1_stepOn_24 dX1_stepOn_63 0 rfl rfl ?_
        refine Yiconst C 1 dX1_stepOn_66 (by decide) ?_
        refine Yiadd C dX1_stepOn_67 ?_
        refine Yput (v := .int (v_done + 1)) (ws' := (w1_stepOn cI cJ cZ cS cT a0 a_p1 a_news a_numbers a_whats a_p1_danger a_p1_flow a_p1_room a_olds a_p1_pumps a_p1_from a_p1_to a_p1_minutes a_p1_foot (v_done + 1) v_size v_p1_places v_p1_roads v_news v_numbers v_whats o1.1 o1.2.1 o1.2.2)) C fp1_stepOn_24 dX1_stepOn_68 0 rfl rfl rfl (Nat.le_of_ble_eq_true rfl) rfl rfl ?_
        refine Yaload_n C dX1_stepOn_71 0 rfl rfl ?_
        refine Yget C fg1_stepOn_31 dX1_stepOn_72 0 rfl rfl ?_
        refine Yaload_n C dX1_stepOn_75 0 rfl rfl ?_
        refine Yget C fg1_stepOn_24 dX1_stepOn_76 0 rfl rfl ?_
        refine Yisub C dX1_stepOn_79 ?_
        exact Yiret C E dX1_stepOn_80 (ypo hx rfl rfl)
      · skip
        refine Ybipush C (-5) dX1_stepOn_27 (by decide) ?_
        exact Yiret C E dX1_stepOn_29 (ypo hx rfl rfl)
theorem fg2_forget_18 : YF wsX2_forget RX2 18 2 2 := ⟨RX2, TX2, 3, rfl, (fun w h => List.mem_cons_of_mem _ (List.mem_append_right _ h)), by decide, List.mem_of_getElem? (i := 1) rfl⟩
theorem fp2_forget_18 : YFp wsX2_forget RX2 18 2 2 (tyX2 2) := ⟨RX2, TX2, 3, tyX2, rfl, (fun w h => List.mem_cons_of_mem _ (List.mem_append_right _ h)), by decide, List.mem_of_getElem? (i := 1) rfl, tyX2_ok, nmX2, rfl, tyX2_ok _ (by decide)⟩
theorem yf2_forget : (∃ Ty', wsX2_forget = Cond.code yX2_forget cX2_forget 1 none :: Ty') ∧ (yX2_forget.cls ≠ "java/lang/invoke/MethodHandle" ∧ yX2_forget.cls ≠ "java/lang/invoke/VarHandle" ∧ (parseMethodDescriptor yX2_forget.desc).map (fun d => d.parameters.length) = some 0) := ⟨⟨_, rfl⟩, by decide +kernel, by decide +kernel, by decide +kernel⟩
abbrev w2_forget (cI cJ cZ cS cT : ClassId) (a0 a_values a_rounds : Nat) (v_round : Int32) : va_W := [(a0, .inr (2, [.ref a_values, .ref a_rounds, .int v_round]))]
def x2_forget (v_round : Int32) : Option (Int32) :=
  some ((v_round + 1))
set_option maxHeartbeats 4000000 in
set_option maxRecDepth 100000 in
theorem c2_forget (l : Launch) (D : yD) (cI cJ cZ cS cT : ClassId) (a0 a_values a_rounds : Nat) (v_round : Int32) (out : Int32) (hx : x2_forget v_round = some out) : MC l D (yT cI cJ cZ cS cT) yX2_forget wsX2_forget ({ frames := 0, cells := 0, slots := 0, locals := 0 } : Room) (0, 0) [.ref a0] (w2_forget cI cJ cZ cS cT a0 a_values a_rounds v_round) (POd (fun o : Int32 => none) (fun (o : Int32) => (w2_forget cI cJ cZ cS cT a0 a_values a_rounds o)) out) := by
  refine MC.intro (cc := cX2_forget) (nL := 1) (ret := none) (own := RX2) (lv := [(0, .ref a0)]) (by decide) rfl rfl (Nat.le_of_ble_eq_true rfl) rfl (fun X C E => ?_)
  unfold x2_forget at hx
  refine Yaload_n C dX2_forget_0 0 rfl rfl ?_
  refine Ydup C dX2_forget_1 rfl ?_
  refine Yget C fg2_forget_18 dX2_forget_2 0 rfl rfl ?_
  refine Yiconst C 1 dX2_forget_5 (by decide) ?_
  refine Yiadd C dX2_forget_6 ?_
  refine Yput (v := .int (v_round + 1)) (ws' := (w2_forget cI cJ cZ cS cT a0 a_values a_rounds (v_round + 1))) C fp2_forget_18 dX2_forget_7 0 rfl rfl rfl (Nat.le_of_ble_eq_true rfl) rfl rfl ?_
  exact Yvret C E dX2_forget_10 (ypo hx rfl rfl)
theorem yf2_hasCell : (∃ Ty', wsX2_hasCell = Cond.code yX2_hasCell cX2_hasCell 2 (some .boolean) :: Ty') ∧ (yX2_hasCell.cls ≠ "java/lang/invoke/MethodHandle" ∧ yX2_hasCell.cls ≠ "java/lang/invoke/VarHandle" ∧ (parseMethodDescriptor yX2_hasCell.desc).map (fun d => d.parameters.length) = some 2) := ⟨⟨_, rfl⟩, by decide +kernel, by decide +kernel, by decide +kernel⟩
def x2_hasCell (p0 : Int32) (p1 : Int32) : Option (Bool) :=
  if p0 < 0 then (some (false)) else (if 16 ≤ p0 then (some (false)) else (if p1 < 0 then (some (false)) else (if 24 ≤ p1 then (some (false)) else (some (true)))))
set_option maxHeartbeats 4000000 in
set_option maxRecDepth 100000 in
theorem c2_hasCell (l : Launch) (D : yD) (cI cJ cZ cS cT : ClassId) (p0 : Int32) (p1 : Int32) (out : Bool) (hx : x2_hasCell p0 p1 = some out) : MC l D (yT cI cJ cZ cS cT) yX2_hasCell wsX2_hasCell ({ frames := 0, cells := 0, slots := 0, locals := 0 } : Room) (0, 0) [.int p0, .int p1] ([] : va_W) (POd (fun o : Bool => some (.int (bI o))) (fun (o : Bool) => ([] : va_W)) out) := by
  refine MC.intro (cc := cX2_hasCell) (nL := 2) (ret := (some .boolean)) (own := RX2) (lv := [(0, .int p0), (1, .int p1)]) (by decide) rfl rfl (Nat.le_of_ble_eq_true rfl) rfl (fun X C E => ?_)
  unfold x2_hasCell at hx
  refine Yiload_n C dX2_hasCell_0 0 rfl rfl ?_
  refine Yif_lt C 24 dX2_hasCell_1 (by decide) hx (fun _ hx => ?_) (fun _ hx => ?_)
  · skip
    refine Yiconst C 0 dX2_hasCell_24 (by decide) ?_
    exact Yzret (b := false) C E dX2_hasCell_25 (ypo hx rfl rfl)
  · skip
    refine Yiload_n C dX2_hasCell_4 0 rfl rfl ?_
    refine Ybipush C 16 dX2_hasCell_5 (by decide) ?_
    refine Yicmp_ge C 24 dX2_hasCell_7 (by decide) hx (fun _ hx => ?_) (fun _ hx => ?_)
    · skip
      refine Yiconst C 0 dX2_hasCell_24 (by decide) ?_
      exact Yzret (b := false) C E dX2_hasCell_25 (ypo hx rfl rfl)
    · skip
      refine Yiload_n C dX2_hasCell_10 1 rfl rfl ?_
      refine Yif_lt C 24 dX2_hasCell_11 (by decide) hx (fun _ hx => ?_) (fun _ hx => ?_)
      · skip
        refine Yiconst C 0 dX2_hasCell_24 (by decide) ?_
        exact Yzret (b := false) C E dX2_hasCell_25 (ypo hx rfl rfl)
      · skip
        refine Yiload_n C dX2_hasCell_14 1 rfl rfl ?_
        refine Ybipush C 24 dX2_hasCell_15 (by decide) ?_
        refine Yicmp_ge C 24 dX2_hasCell_17 (by decide) hx (fun _ hx => ?_) (fun _ hx => ?_)
        · skip
          refine Yiconst C 0 dX2_hasCell_24 (by decide) ?_
          exact Yzret (b := false) C E dX2_hasCell_25 (ypo hx rfl rfl)
        · skip
          refine Yiconst C 1 dX2_hasCell_20 (by decide) ?_
          refine Ygoto C 25 dX2_hasCell_21 (by decide) ?_
          exact Yzret (b := true) C E dX2_hasCell_25 (ypo hx rfl rfl)
theorem fg2_knows_15 : YF wsX2_knows RX2 15 2 1 := ⟨RX2, TX2, 3, rfl, (fun w h => List.mem_cons_of_mem _ (List.mem_append_right _ h)), by decide, List.mem_of_getElem? (i := 1) rfl⟩
theorem fg2_knows_18 : YF wsX2_knows RX2 18 2 2 := ⟨RX2, TX2, 3, rfl, (fun w h => List.mem_cons_of_mem _ (List.mem_append_right _ h)), by decide, List.mem_of_getElem? (i := 2) rfl⟩
theorem yf2_knows : (∃ Ty', wsX2_knows = Cond.code yX2_knows cX2_knows 3 (some .boolean) :: Ty') ∧ (yX2_knows.cls ≠ "java/lang/invoke/MethodHandle" ∧ yX2_knows.cls ≠ "java/lang/invoke/VarHandle" ∧ (parseMethodDescriptor yX2_knows.desc).map (fun d => d.parameters.length) = some 2) := ⟨⟨_, rfl⟩, by decide +kernel, by decide +kernel, by decide +kernel⟩
abbrev w2_knows (cI cJ cZ cS cT : ClassId) (a0 a_rounds a_values : Nat) (v_round : Int32) (v_rounds : Nat → Int32) : va_W := [(a0, .inr (2, [.ref a_values, .ref a_rounds, .int v_round])), (a_rounds, .inl (cI, 384, .inl v_rounds))]
def x2_knows (v_round : Int32) (v_rounds : Nat → Int32) (p1 : Int32) (p2 : Int32) : Option (Bool) :=
  (x2_hasCell p1 p2).bind fun o1 => bif o1 then (bif inB ((p1 * 24) + p2) 384 then (if (v_rounds ((p1 * 24) + p2).toNatClampNeg) = v_round then (some (true)) else (some (false))) else none) else (some (false))
set_option maxHeartbeats 4000000 in
set_option maxRecDepth 100000 in
theorem c2_knows (l : Launch) (D : yD) (cI cJ cZ cS cT : ClassId) (a0 a_rounds a_values : Nat) (v_round : Int32) (v_rounds : Nat → Int32) (p1 : Int32) (p2 : Int32) (out : Bool) (hx : x2_knows v_round v_rounds p1 p2 = some out) : MC l D (yT cI cJ cZ cS cT) yX2_knows wsX2_knows ({ frames := 1, cells := 0, slots := 0, locals := 21 } : Room) (0, 0) [.ref a0, .int p1, .int p2] (w2_knows cI cJ cZ cS cT a0 a_rounds a_values v_round v_rounds) (POd (fun o : Bool => some (.int (bI o))) (fun (o : Bool) => (w2_knows cI cJ cZ cS cT a0 a_rounds a_values v_round v_rounds)) out) := by
  refine MC.intro (cc := cX2_knows) (nL := 3) (ret := (some .boolean)) (own := RX2) (lv := [(0, .ref a0), (1, .int p1), (2, .int p2)]) (by decide) rfl rfl (Nat.le_of_ble_eq_true rfl) rfl (fun X C E => ?_)
  unfold x2_knows at hx
  refine Yiload_n C dX2_knows_0 1 rfl rfl ?_
  refine Yiload_n C dX2_knows_1 2 rfl rfl ?_
  obtain ⟨o1, ho1, hx⟩ := ybnd hx
  refine YcallSd (ws' := (w2_knows cI cJ cZ cS cT a0 a_rounds a_values v_round v_rounds)) (st' := [.int (bI o1)]) (st := []) (as := [.int p1, .int p2]) C [] [0, 1] 2 dX2_knows_2 (c2_hasCell l D cI cJ cZ cS cT p1 p2 o1 ho1) gX2_knows_X2_hasCell rfl ⟨yf2_hasCell.1, yf2_hasCell.2, Nat.le_of_ble_eq_true rfl, Nat.le_of_ble_eq_true rfl, rfl, rfl⟩ (by decide) ⟨Nat.zero_le _, Nat.zero_le _⟩ (Nat.le_of_ble_eq_true rfl) trivial rfl rfl (by decide) (by decide) trivial [(a0, .inr (2, [.ref a_values, .ref a_rounds, .int v_round])), (a_rounds, .inl (cI, 384, .inl v_rounds))] ⟨rfl, rfl, trivial⟩ ⟨rfl, rfl, trivial⟩ rfl ?_
  refine Yif_eq_b C 30 dX2_knows_5 (by decide) hx (fun _ hx => ?_) (fun _ hx => ?_)
  · skip
    refine Yiconst C 0 dX2_knows_30 (by decide) ?_
    exact Yzret (b := false) C E dX2_knows_31 (ypo hx rfl rfl)
  · skip
    refine Yaload_n C dX2_knows_8 0 rfl rfl ?_
    refine Yget C fg2_knows_15 dX2_knows_9 0 rfl rfl ?_
    refine Yiload_n C dX2_knows_12 1 rfl rfl ?_
    refine Ybipush C 24 dX2_knows_13 (by decide) ?_
    refine Yimul C dX2_knows_15 ?_
    refine Yiload_n C dX2_knows_16 2 rfl rfl ?_
    refine Yiadd C dX2_knows_17 ?_
    refine Yiald C dX2_knows_18 hx 1 0 rfl rfl (fun hx => ?_)
    refine Yaload_n C dX2_knows_19 0 rfl rfl ?_
    refine Yget C fg2_knows_18 dX2_knows_20 0 rfl rfl ?_
    refine Yicmp_ne C 30 dX2_knows_23 (by decide) hx (fun _ hx => ?_) (fun _ hx => ?_)
    · skip
      refine Yiconst C 0 dX2_knows_30 (by decide) ?_
      exact Yzret (b := false) C E dX2_knows_31 (ypo hx rfl rfl)
    · skip
      refine Yiconst C 1 dX2_knows_26 (by decide) ?_
      refine Ygoto C 31 dX2_knows_27 (by decide) ?_
      exact Yzret (b := true) C E dX2_knows_31 (ypo hx rfl rfl)
theorem fg2_valueAt_9 : YF wsX2_valueAt RX2 9 2 0 := ⟨RX2, TX2, 3, rfl, (fun w h => List.mem_cons_of_mem _ (List.mem_append_right _ h)), by decide, List.mem_of_getElem? (i := 1) rfl⟩
theorem yf2_valueAt : (∃ Ty', wsX2_valueAt = Cond.code yX2_valueAt cX2_valueAt 3 (some .int) :: Ty') ∧ (yX2_valueAt.cls ≠ "java/lang/invoke/MethodHandle" ∧ yX2_valueAt.cls ≠ "java/lang/invoke/VarHandle" ∧ (parseMethodDescriptor yX2_valueAt.desc).map (fun d => d.parameters.length) = some 2) := ⟨⟨_, rfl⟩, by decide +kernel, by decide +kernel, by decide +kernel⟩
abbrev w2_valueAt (cI cJ cZ cS cT : ClassId) (a0 a_values a_rounds : Nat) (v_round : Int32) (v_values : Nat → Int32) : va_W := [(a0, .inr (2, [.ref a_values, .ref a_rounds, .int v_round])), (a_values, .inl (cI, 384, .inl v_values))]
def x2_valueAt (v_values : Nat → Int32) (p1 : Int32) (p2 : Int32) : Option (Int32) :=
  (x2_hasCell p1 p2).bind fun o1 => bif o1 then (bif inB ((p1 * 24) + p2) 384 then (some ((v_values ((p1 * 24) + p2).toNatClampNeg))) else none) else (some (0))
set_option maxHeartbeats 4000000 in
set_option maxRecDepth 100000 in
theorem c2_valueAt (l : Launch) (D : yD) (cI cJ cZ cS cT : ClassId) (a0 a_values a_rounds : Nat) (v_round : Int32) (v_values : Nat → Int32) (p1 : Int32) (p2 : Int32) (out : Int32) (hx : x2_valueAt v_values p1 p2 = some out) : MC l D (yT cI cJ cZ cS cT) yX2_valueAt wsX2_valueAt ({ frames := 1, cells := 0, slots := 0, locals := 21 } : Room) (0, 0) [.ref a0, .int p1, .int p2] (w2_valueAt cI cJ cZ cS cT a0 a_values a_rounds v_round v_values) (POd (fun o : Int32 => some (.int o)) (fun (o : Int32) => (w2_valueAt cI cJ cZ cS cT a0 a_values a_rounds v_round v_values)) out) := by
  refine MC.intro (cc := cX2_valueAt) (nL := 3) (ret := (some .int)) (own := RX2) (lv := [(0, .ref a0), (1, .int p1), (2, .int p2)]) (by decide) rfl rfl (Nat.le_of_ble_eq_true rfl) rfl (fun X C E => ?_)
  unfold x2_valueAt at hx
  refine Yiload_n C dX2_valueAt_0 1 rfl rfl ?_
  refine Yiload_n C dX2_valueAt_1 2 rfl rfl ?_
  obtain ⟨o1, ho1, hx⟩ := ybnd hx
  refine YcallSd (ws' := (w2_valueAt cI cJ cZ cS cT a0 a_values a_rounds v_round v_values)) (st' := [.int (bI o1)]) (st := []) (as := [.int p1, .int p2]) C [] [0, 1] 2 dX2_valueAt_2 (c2_hasCell l D cI cJ cZ cS cT p1 p2 o1 ho1) gX2_valueAt_X2_hasCell rfl ⟨yf2_hasCell.1, yf2_hasCell.2, Nat.le_of_ble_eq_true rfl, Nat.le_of_ble_eq_true rfl, rfl, rfl⟩ (by decide) ⟨Nat.zero_le _, Nat.zero_le _⟩ (Nat.le_of_ble_eq_true rfl) trivial rfl rfl (by decide) (by decide) trivial [(a0, .inr (2, [.ref a_values, .ref a_rounds, .int v_round])), (a_values, .inl (cI, 384, .inl v_values))] ⟨rfl, rfl, trivial⟩ ⟨rfl, rfl, trivial⟩ rfl ?_
  refine Yif_eq_b C 22 dX2_valueAt_5 (by decide) hx (fun _ hx => ?_) (fun _ hx => ?_)
  · skip
    refine Yiconst C 0 dX2_valueAt_22 (by decide) ?_
    exact Yiret C E dX2_valueAt_23 (ypo hx rfl rfl)
  · skip
    refine Yaload_n C dX2_valueAt_8 0 rfl rfl ?_
    refine Yget C fg2_valueAt_9 dX2_valueAt_9 0 rfl rfl ?_
    refine Yiload_n C dX2_valueAt_12 1 rfl rfl ?_
    refine Ybipush C 24 dX2_valueAt_13 (by decide) ?_
    refine Yimul C dX2_valueAt_15 ?_
    refine Yiload_n C dX2_valueAt_16 2 rfl rfl ?_
    refine Yiadd C dX2_valueAt_17 ?_
    refine Yiald C dX2_valueAt_18 hx 1 0 rfl rfl (fun hx => ?_)
    refine Ygoto C 23 dX2_valueAt_19 (by decide) ?_
    exact Yiret C E dX2_valueAt_23 (ypo hx rfl rfl)
theorem fg2_learn_9 : YF wsX2_learn RX2 9 2 0 := ⟨RX2, TX2, 3, rfl, (fun w h => List.mem_cons_of_mem _ (List.mem_append_right _ h)), by decide, List.mem_of_getElem? (i := 1) rfl⟩
theorem fg2_learn_15 : YF wsX2_learn RX2 15 2 1 := ⟨RX2, TX2, 3, rfl, (fun w h => List.mem_cons_of_mem _ (List.mem_append_right _ h)), by decide, List.mem_of_getElem? (i := 2) rfl⟩
theorem fg2_learn_18 : YF wsX2_learn RX2 18 2 2 := ⟨RX2, TX2, 3, rfl, (fun w h => List.mem_cons_of_mem _ (List.mem_append_right _ h)), by decide, List.mem_of_getElem? (i := 3) rfl⟩
theorem yf2_learn : (∃ Ty', wsX2_learn = Cond.code yX2_learn cX2_learn 4 none :: Ty') ∧ (yX2_learn.cls ≠ "java/lang/invoke/MethodHandle" ∧ yX2_learn.cls ≠ "java/lang/invoke/VarHandle" ∧ (parseMethodDescriptor yX2_learn.desc).map (fun d => d.parameters.length) = some 3) := ⟨⟨_, rfl⟩, by decide +kernel, by decide +kernel, by decide +kernel⟩
abbrev w2_learn (cI cJ cZ cS cT : ClassId) (a0 a_rounds a_values : Nat) (v_round : Int32) (v_rounds : Nat → Int32) (v_values : Nat → Int32) : va_W := [(a0, .inr (2, [.ref a_values, .ref a_rounds, .int v_round])), (a_rounds, .inl (cI, 384, .inl v_rounds)), (a_values, .inl (cI, 384, .inl v_values))]
def x2_learn (v_round : Int32) (v_rounds : Nat → Int32) (v_values : Nat → Int32) (p1 : Int32) (p2 : Int32) (p3 : Int32) : Option ((Nat → Int32) × (Nat → Int32)) :=
  (x2_hasCell p1 p2).bind fun o1 => bif o1 then (bif inB ((p1 * 24) + p2) 384 then (bif inB ((p1 * 24) + p2) 384 then (some ((upd v_rounds ((p1 * 24) + p2).toNatClampNeg v_round), (upd v_values ((p1 * 24) + p2).toNatClampNeg p3))) else none) else none) else (some (v_rounds, v_values))
set_option maxHeartbeats 4000000 in
set_option maxRecDepth 100000 in
theorem c2_learn (l : Launch) (D : yD) (cI cJ cZ cS cT : ClassId) (a0 a_rounds a_values : Nat) (v_round : Int32) (v_rounds : Nat → Int32) (v_values : Nat → Int32) (p1 : Int32) (p2 : Int32) (p3 : Int32) (out : (Nat → Int32) × (Nat → Int32)) (hx : x2_learn v_round v_rounds v_values p1 p2 p3 = some out) : MC l D (yT cI cJ cZ cS cT) yX2_learn wsX2_learn ({ frames := 1, cells := 0, slots := 0, locals := 21 } : Room) (0, 0) [.ref a0, .int p1, .int p2, .int p3] (w2_learn cI cJ cZ cS cT a0 a_rounds a_values v_round v_rounds v_values) (POd (fun o : (Nat → Int32) × (Nat → Int32) => none) (fun (o : (Nat → Int32) × (Nat → Int32)) => (w2_learn cI cJ cZ cS cT a0 a_rounds a_values v_round o.1 o.2)) out) := by
  refine MC.intro (cc := cX2_learn) (nL := 4) (ret := none) (own := RX2) (lv := [(0, .ref a0), (1, .int p1), (2, .int p2), (3, .int p3)]) (by decide) rfl rfl (Nat.le_of_ble_eq_true rfl) rfl (fun X C E => ?_)
  unfold x2_learn at hx
  refine Yiload_n C dX2_learn_0 1 rfl rfl ?_
  refine Yiload_n C dX2_learn_1 2 rfl rfl ?_
  obtain ⟨o1, ho1, hx⟩ := ybnd hx
  refine YcallSd (ws' := (w2_learn cI cJ cZ cS cT a0 a_rounds a_values v_round v_rounds v_values)) (st' := [.int (bI o1)]) (st := []) (as := [.int p1, .int p2]) C [] [0, 1, 2] 3 dX2_learn_2 (c2_hasCell l D cI cJ cZ cS cT p1 p2 o1 ho1) gX2_learn_X2_hasCell rfl ⟨yf2_hasCell.1, yf2_hasCell.2, Nat.le_of_ble_eq_true rfl, Nat.le_of_ble_eq_true rfl, rfl, rfl⟩ (by decide) ⟨Nat.zero_le _, Nat.zero_le _⟩ (Nat.le_of_ble_eq_true rfl) trivial rfl rfl (by decide) (by decide) trivial [(a0, .inr (2, [.ref a_values, .ref a_rounds, .int v_round])), (a_rounds, .inl (cI, 384, .inl v_rounds)), (a_values, .inl (cI, 384, .inl v_values))] ⟨rfl, rfl, rfl, trivial⟩ ⟨rfl, rfl, rfl, trivial⟩ rfl ?_
  refine Yif_eq_b C 35 dX2_learn_5 (by decide) hx (fun _ hx => ?_) (fun _ hx => ?_)
  · skip
    exact Yvret C E dX2_learn_35 (ypo hx rfl rfl)
  · skip
    refine Yaload_n C dX2_learn_8 0 rfl rfl ?_
    refine Yget C fg2_learn_9 dX2_learn_9 0 rfl rfl ?_
    refine Yiload_n C dX2_learn_12 1 rfl rfl ?_
    refine Ybipush C 24 dX2_learn_13 (by decide) ?_
    refine Yimul C dX2_learn_15 ?_
    refine Yiload_n C dX2_learn_16 2 rfl rfl ?_
    refine Yiadd C dX2_learn_17 ?_
    refine Yiload_n C dX2_learn_18 3 rfl rfl ?_
    refine Yiast (ws' := (w2_learn cI cJ cZ cS cT a0 a_rounds a_values v_round v_rounds (upd v_values ((p1 * 24) + p2).toNatClampNeg p3))) C dX2_learn_19 hx 2 0 rfl rfl rfl (fun hx => ?_)
    refine Yaload_n C dX2_learn_20 0 rfl rfl ?_
    refine Yget C fg2_learn_15 dX2_learn_21 0 rfl rfl ?_
    refine Yiload_n C dX2_learn_24 1 rfl rfl ?_
    refine Ybipush C 24 dX2_learn_25 (by decide) ?_
    refine Yimul C dX2_learn_27 ?_
    refine Yiload_n C dX2_learn_28 2 rfl rfl ?_
    refine Yiadd C dX2_learn_29 ?_
    refine Yaload_n C dX2_learn_30 0 rfl rfl ?_
    refine Yget C fg2_learn_18 dX2_learn_31 0 rfl rfl ?_
    refine Yiast (ws' := (w2_learn cI cJ cZ cS cT a0 a_rounds a_values v_round (upd v_rounds ((p1 * 24) + p2).toNatClampNeg v_round) (upd v_values ((p1 * 24) + p2).toNatClampNeg p3))) C dX2_learn_34 hx 1 0 rfl rfl rfl (fun hx => ?_)
    exact Yvret C E dX2_learn_35 (ypo hx rfl rfl)
theorem fg5_holdsNothing_9 : YF wsX5_holdsNothing RX5 9 5 0 := ⟨RX5, TX5, 4, rfl, (fun w h => List.mem_cons_of_mem _ (List.mem_append_right _ h)), by decide, List.mem_of_getElem? (i := 1) rfl⟩
theorem yf5_holdsNothing : (∃ Ty', wsX5_holdsNothing = Cond.code yX5_holdsNothing cX5_holdsNothing 1 (some .boolean) :: Ty') ∧ (yX5_holdsNothing.cls ≠ "java/lang/invoke/MethodHandle" ∧ yX5_holdsNothing.cls ≠ "java/lang/invoke/VarHandle" ∧ (parseMethodDescriptor yX5_holdsNothing.desc).map (fun d => d.parameters.length) = some 0) := ⟨⟨_, rfl⟩, by decide +kernel, by decide +kernel, by decide +kernel⟩
abbrev w5_holdsNothing (cI cJ cZ cS cT : ClassId) (a0 a_cells : Nat) (v_sort : Int32) (v_body : Int32) (v_size : Int32) : va_W := [(a0, .inr (5, [.int v_sort, .int v_body, .int v_size, .ref a_cells]))]
def x5_holdsNothing (v_sort : Int32) : Option (Bool) :=
  if v_sort = (-1) then (some (true)) else (some (false))
set_option maxHeartbeats 4000000 in
set_option maxRecDepth 100000 in
theorem c5_holdsNothing (l : Launch) (D : yD) (cI cJ cZ cS cT : ClassId) (a0 a_cells : Nat) (v_sort : Int32) (v_body : Int32) (v_size : Int32) (out : Bool) (hx : x5_holdsNothing v_sort = some out) : MC l D (yT cI cJ cZ cS cT) yX5_holdsNothing wsX5_holdsNothing ({ frames := 0, cells := 0, slots := 0, locals := 0 } : Room) (0, 0) [.ref a0] (w5_holdsNothing cI cJ cZ cS cT a0 a_cells v_sort v_body v_size) (POd (fun o : Bool => some (.int (bI o))) (fun (o : Bool) => (w5_holdsNothing cI cJ cZ cS cT a0 a_cells v_sort v_body v_size)) out) := by
  refine MC.intro (cc := cX5_holdsNothing) (nL := 1) (ret := (some .boolean)) (own := RX5) (lv := [(0, .ref a0)]) (by decide) rfl rfl (Nat.le_of_ble_eq_true rfl) rfl (fun X C E => ?_)
  unfold x5_holdsNothing at hx
  refine Yaload_n C dX5_holdsNothing_0 0 rfl rfl ?_
  refine Yget C fg5_holdsNothing_9 dX5_holdsNothing_1 0 rfl rfl ?_
  refine Yiconst C (-1) dX5_holdsNothing_4 (by decide) ?_
  refine Yicmp_ne C 12 dX5_holdsNothing_5 (by decide) hx (fun _ hx => ?_) (fun _ hx => ?_)
  · skip
    refine Yiconst C 0 dX5_holdsNothing_12 (by decide) ?_
    exact Yzret (b := false) C E dX5_holdsNothing_13 (ypo hx rfl rfl)
  · skip
    refine Yiconst C 1 dX5_holdsNothing_8 (by decide) ?_
    refine Ygoto C 13 dX5_holdsNothing_9 (by decide) ?_
    exact Yzret (b := true) C E dX5_holdsNothing_13 (ypo hx rfl rfl)
theorem fg5_holdsRow_9 : YF wsX5_holdsRow RX5 9 5 0 := ⟨RX5, TX5, 4, rfl, (fun w h => List.mem_cons_of_mem _ (List.mem_append_right _ h)), by decide, List.mem_of_getElem? (i := 1) rfl⟩
theorem yf5_holdsRow : (∃ Ty', wsX5_holdsRow = Cond.code yX5_holdsRow cX5_holdsRow 1 (some .boolean) :: Ty') ∧ (yX5_holdsRow.cls ≠ "java/lang/invoke/MethodHandle" ∧ yX5_holdsRow.cls ≠ "java/lang/invoke/VarHandle" ∧ (parseMethodDescriptor yX5_holdsRow.desc).map (fun d => d.parameters.length) = some 0) := ⟨⟨_, rfl⟩, by decide +kernel, by decide +kernel, by decide +kernel⟩
abbrev w5_holdsRow (cI cJ cZ cS cT : ClassId) (a0 a_cells : Nat) (v_sort : Int32) (v_body : Int32) (v_size : Int32) : va_W := [(a0, .inr (5, [.int v_sort, .int v_body, .int v_size, .ref a_cells]))]
def x5_holdsRow (v_sort : Int32) : Option (Bool) :=
  if v_sort < 0 then (some (false)) else (if 4 < v_sort then (some (false)) else (some (true)))
set_option maxHeartbeats 4000000 in
set_option maxRecDepth 100000 in
theorem c5_holdsRow (l : Launch) (D : yD) (cI cJ cZ cS cT : ClassId) (a0 a_cells : Nat) (v_sort : Int32) (v_body : Int32) (v_size : Int32) (out : Bool) (hx : x5_holdsRow v_sort = some out) : MC l D (yT cI cJ cZ cS cT) yX5_holdsRow wsX5_holdsRow ({ frames := 0, cells := 0, slots := 0, locals := 0 } : Room) (0, 0) [.ref a0] (w5_holdsRow cI cJ cZ cS cT a0 a_cells v_sort v_body v_size) (POd (fun o : Bool => some (.int (bI o))) (fun (o : Bool) => (w5_holdsRow cI cJ cZ cS cT a0 a_cells v_sort v_body v_size)) out) := by
  refine MC.intro (cc := cX5_holdsRow) (nL := 1) (ret := (some .boolean)) (own := RX5) (lv := [(0, .ref a0)]) (by decide) rfl rfl (Nat.le_of_ble_eq_true rfl) rfl (fun X C E => ?_)
  unfold x5_holdsRow at hx
  refine Yaload_n C dX5_holdsRow_0 0 rfl rfl ?_
  refine Yget C fg5_holdsRow_9 dX5_holdsRow_1 0 rfl rfl ?_
  refine Yif_lt C 19 dX5_holdsRow_4 (by decide) hx (fun _ hx => ?_) (fun _ hx => ?_)
  · skip
    refine Yiconst C 0 dX5_holdsRow_19 (by decide) ?_
    exact Yzret (b := false) C E dX5_holdsRow_20 (ypo hx rfl rfl)
  · skip
    refine Yaload_n C dX5_holdsRow_7 0 rfl rfl ?_
    refine Yget C fg5_holdsRow_9 dX5_holdsRow_8 0 rfl rfl ?_
    refine Yiconst C 4 dX5_holdsRow_11 (by decide) ?_
    refine Yicmp_gt C 19 dX5_holdsRow_12 (by decide) hx (fun _ hx => ?_) (fun _ hx => ?_)
    · skip
      refine Yiconst C 0 dX5_holdsRow_19 (by decide) ?_
      exact Yzret (b := false) C E dX5_holdsRow_20 (ypo hx rfl rfl)
    · skip
      refine Yiconst C 1 dX5_holdsRow_15 (by decide) ?_
      refine Ygoto C 20 dX5_holdsRow_16 (by decide) ?_
      exact Yzret (b := true) C E dX5_holdsRow_20 (ypo hx rfl rfl)
theorem fg5_holdsRowOf_9 : YF wsX5_holdsRowOf RX5 9 5 0 := ⟨RX5, TX5, 4, rfl, (fun w h => List.mem_cons_of_mem _ (List.mem_append_right _ h)), by decide, List.mem_of_getElem? (i := 1) rfl⟩
theorem yf5_holdsRowOf : (∃ Ty', wsX5_holdsRowOf = Cond.code yX5_holdsRowOf cX5_holdsRowOf 2 (some .boolean) :: Ty') ∧ (yX5_holdsRowOf.cls ≠ "java/lang/invoke/MethodHandle" ∧ yX5_holdsRowOf.cls ≠ "java/lang/invoke/VarHandle" ∧ (parseMethodDescriptor yX5_holdsRowOf.desc).map (fun d => d.parameters.length) = some 1) := ⟨⟨_, rfl⟩, by decide +kernel, by decide +kernel, by decide +kernel⟩
abbrev w5_holdsRowOf (cI cJ cZ cS cT : ClassId) (a0 a_cells : Nat) (v_sort : Int32) (v_body : Int32) (v_size : Int32) : va_W := [(a0, .inr (5, [.int v_sort, .int v_body, .int v_size, .ref a_cells]))]
def x5_holdsRowOf (v_sort : Int32) (p1 : Int32) : Option (Bool) :=
  (x5_holdsRow v_sort).bind fun o1 => bif o1 then (if v_sort = p1 then (some (true)) else (some (false))) else (some (false))
set_option maxHeartbeats 4000000 in
set_option maxRecDepth 100000 in
theorem c5_holdsRowOf (l : Launch) (D : yD) (cI cJ cZ cS cT : ClassId) (a0 a_cells : Nat) (v_sort : Int32) (v_body : Int32) (v_size : Int32) (p1 : Int32) (out : Bool) (hx : x5_holdsRowOf v_sort p1 = some out) : MC l D (yT cI cJ cZ cS cT) yX5_holdsRowOf wsX5_holdsRowOf ({ frames := 1, cells := 0, slots := 0, locals := 20 } : Room) (0, 0) [.ref a0, .int p1] (w5_holdsRowOf cI cJ cZ cS cT a0 a_cells v_sort v_body v_size) (POd (fun o : Bool => some (.int (bI o))) (fun (o : Bool) => (w5_holdsRowOf cI cJ cZ cS cT a0 a_cells v_sort v_body v_size)) out) := by
  refine MC.intro (cc := cX5_holdsRowOf) (nL := 2) (ret := (some .boolean)) (own := RX5) (lv := [(0, .ref a0), (1, .int p1)]) (by decide) rfl rfl (Nat.le_of_ble_eq_true rfl) rfl (fun X C E => ?_)
  unfold x5_holdsRowOf at hx
  refine Yaload_n C dX5_holdsRowOf_0 0 rfl rfl ?_
  obtain ⟨o1, ho1, hx⟩ := ybnd hx
  refine YcallVd (ws' := (w5_holdsRowOf cI cJ cZ cS cT a0 a_cells v_sort v_body v_size)) (st' := [.int (bI o1)]) (st := []) (as := []) (b := a0) (ci := 5) C [0] [] 1 dX5_holdsRowOf_1 (c5_holdsRow l D cI cJ cZ cS cT a0 a_cells v_sort v_body v_size o1 ho1) gX5_holdsRowOf_X5_holdsRow rfl ⟨yf5_holdsRow.1, yf5_holdsRow.2, Nat.le_of_ble_eq_true rfl, Nat.le_of_ble_eq_true rfl, rfl, rfl⟩ rfl 0 rfl (by decide) ⟨Nat.zero_le _, Nat.zero_le _⟩ (Nat.le_of_ble_eq_true rfl) ⟨rfl, trivial⟩ rfl rfl (by decide) (by decide) ⟨rfl, trivial⟩ [] trivial trivial rfl ?_
  refine Yif_eq_b C 19 dX5_holdsRowOf_4 (by decide) hx (fun _ hx => ?_) (fun _ hx => ?_)
  · skip
    refine Yiconst C 0 dX5_holdsRowOf_19 (by decide) ?_
    exact Yzret (b := false) C E dX5_holdsRowOf_20 (ypo hx rfl rfl)
  · skip
    refine Yaload_n C dX5_holdsRowOf_7 0 rfl rfl ?_
    refine Yget C fg5_holdsRowOf_9 dX5_holdsRowOf_8 0 rfl rfl ?_
    refine Yiload_n C dX5_holdsRowOf_11 1 rfl rfl ?_
    refine Yicmp_ne C 19 dX5_holdsRowOf_12 (by decide) hx (fun _ hx => ?_) (fun _ hx => ?_)
    · skip
      refine Yiconst C 0 dX5_holdsRowOf_19 (by decide) ?_
      exact Yzret (b := false) C E dX5_holdsRowOf_20 (ypo hx rfl rfl)
    · skip
      refine Yiconst C 1 dX5_holdsRowOf_15 (by decide) ?_
      refine Ygoto C 20 dX5_holdsRowOf_16 (by decide) ?_
      exact Yzret (b := true) C E dX5_holdsRowOf_20 (ypo hx rfl rfl)
theorem fg5_holdsCells_24 : YF wsX5_holdsCells RX5 24 5 2 := ⟨RX5, TX5, 4, rfl, (fun w h => List.mem_cons_of_mem _ (List.mem_append_right _ h)), by decide, List.mem_of_getElem? (i := 1) rfl⟩
theorem yf5_holdsCells : (∃ Ty', wsX5_holdsCells = Cond.code yX5_holdsCells cX5_holdsCells 3 (some .boolean) :: Ty') ∧ (yX5_holdsCells.cls ≠ "java/lang/invoke/MethodHandle" ∧ yX5_holdsCells.cls ≠ "java/lang/invoke/VarHandle" ∧ (parseMethodDescriptor yX5_holdsCells.desc).map (fun d => d.parameters.length) = some 2) := ⟨⟨_, rfl⟩, by decide +kernel, by decide +kernel, by decide +kernel⟩
abbrev w5_holdsCells (cI cJ cZ cS cT : ClassId) (a0 a_cells : Nat) (v_sort : Int32) (v_body : Int32) (v_size : Int32) : va_W := [(a0, .inr (5, [.int v_sort, .int v_body, .int v_size, .ref a_cells]))]
def x5_holdsCells (v_sort : Int32) (v_size : Int32) (p1 : Int32) (p2 : Int32) : Option (Bool) :=
  (x5_holdsRow v_sort).bind fun o1 => bif o1 then (if p1 < 0 then (some (false)) else (if p2 < 0 then (some (false)) else (if v_size < p2 then (some (false)) else (if (v_size - p2) < p1 then (some (false)) else (some (true)))))) else (some (false))
set_option maxHeartbeats 4000000 in
set_option maxRecDepth 100000 in
theorem c5_holdsCells (l : Launch) (D : yD) (cI cJ cZ cS cT : ClassId) (a0 a_cells : Nat) (v_sort : Int32) (v_body : Int32) (v_size : Int32) (p1 : Int32) (p2 : Int32) (out : Bool) (hx : x5_holdsCells v_sort v_size p1 p2 = some out) : MC l D (yT cI cJ cZ cS cT) yX5_holdsCells wsX5_holdsCells ({ frames := 1, cells := 0, slots := 0, locals := 20 } : Room) (0, 0) [.ref a0, .int p1, .int p2] (w5_holdsCells cI cJ cZ cS cT a0 a_cells v_sort v_body v_size) (POd (fun o : Bool => some (.int (bI o))) (fun (o : Bool) => (w5_holdsCells cI cJ cZ cS cT a0 a_cells v_sort v_body v_size)) out) := by
  refine MC.intro (cc := cX5_holdsCells) (nL := 3) (ret := (some .boolean)) (own := RX5) (lv := [(0, .ref a0), (1, .int p1), (2, .int p2)]) (by decide) rfl rfl (Nat.le_of_ble_eq_true rfl) rfl (fun X C E => ?_)
  unfold x5_holdsCells at hx
  refine Yaload_n C dX5_holdsCells_0 0 rfl rfl ?_
  obtain ⟨o1, ho1, hx⟩ := ybnd hx
  refine YcallVd (ws' := (w5_holdsCells cI cJ cZ cS cT a0 a_cells v_sort v_body v_size)) (st' := [.int (bI o1)]) (st := []) (as := []) (b := a0) (ci := 5) C [0] [] 1 dX5_holdsCells_1 (c5_holdsRow l D cI cJ cZ cS cT a0 a_cells v_sort v_body v_size o1 ho1) gX5_holdsCells_X5_holdsRow rfl ⟨yf5_holdsRow.1, yf5_holdsRow.2, Nat.le_of_ble_eq_true rfl, Nat.le_of_ble_eq_true rfl, rfl, rfl⟩ rfl 0 rfl (by decide) ⟨Nat.zero_le _, Nat.zero_le _⟩ (Nat.le_of_ble_eq_true rfl) ⟨rfl, trivial⟩ rfl rfl (by decide) (by decide) ⟨rfl, trivial⟩ [] trivial trivial rfl ?_
  refine Yif_eq_b C 37 dX5_holdsCells_4 (by decide) hx (fun _ hx => ?_) (fun _ hx => ?_)
  · skip
    refine Yiconst C 0 dX5_holdsCells_37 (by decide) ?_
    exact Yzret (b := false) C E dX5_holdsCells_38 (ypo hx rfl rfl)
  · skip
    refine Yiload_n C dX5_holdsCells_7 1 rfl rfl ?_
    refine Yif_lt C 37 dX5_holdsCells_8 (by decide) hx (fun _ hx => ?_) (fun _ hx => ?_)
    · skip
      refine Yiconst C 0 dX5_holdsCells_37 (by decide) ?_
      exact Yzret (b := false) C E dX5_holdsCells_38 (ypo hx rfl rfl)
    · skip
      refine Yiload_n C dX5_holdsCells_11 2 rfl rfl ?_
      refine Yif_lt C 37 dX5_holdsCells_12 (by decide) hx (fun _ hx => ?_) (fun _ hx => ?_)
      · skip
        refine Yiconst C 0 dX5_holdsCells_37 (by decide) ?_
        exact Yzret (b := false) C E dX5_holdsCells_38 (ypo hx rfl rfl)
      · skip
        refine Yiload_n C dX5_holdsCells_15 2 rfl rfl ?_
        refine Yaload_n C dX5_holdsCells_16 0 rfl rfl ?_
        refine Yget C fg5_holdsCells_24 dX5_holdsCells_17 0 rfl rfl ?_
        refine Yicmp_gt C 37 dX5_holdsCells_20 (by decide) hx (fun _ hx => ?_) (fun _ hx => ?_)
        · skip
          refine Yiconst C 0 dX5_holdsCells_37 (by decide) ?_
          exact Yzret (b := false) C E dX5_holdsCells_38 (ypo hx rfl rfl)
        · skip
          refine Yiload_n C dX5_holdsCells_23 1 rfl rfl ?_
          refine Yaload_n C dX5_holdsCells_24 0 rfl rfl ?_
          refine Yget C fg5_holdsCells_24 dX5_holdsCells_25 0 rfl rfl ?_
          refine Yiload_n C dX5_holdsCells_28 2 rfl rfl ?_
          refine Yisub C dX5_holdsCells_29 ?_
          refine Yicmp_gt C 37 dX5_holdsCells_30 (by decide) hx (fun _ hx => ?_) (fun _ hx => ?_)
          · skip
            refine Yiconst C 0 dX5_holdsCells_37 (by decide) ?_
            exact Yzret (b := false) C E dX5_holdsCells_38 (ypo hx rfl rfl)
          · skip
            refine Yiconst C 1 dX5_holdsCells_33 (by decide) ?_
            refine Ygoto C 38 dX5_holdsCells_34 (by decide) ?_
            exact Yzret (b := true) C E dX5_holdsCells_38 (ypo hx rfl rfl)
theorem fp5_takeBody_9 : YFp wsX5_takeBody RX5 9 5 0 (tyX5 0) := ⟨RX5, TX5, 4, tyX5, rfl, (fun w h => List.mem_cons_of_mem _ (List.mem_append_right _ h)), by decide, List.mem_of_getElem? (i := 1) rfl, tyX5_ok, nmX5, rfl, tyX5_ok _ (by decide)⟩
theorem fp5_takeBody_13 : YFp wsX5_takeBody RX5 13 5 1 (tyX5 1) := ⟨RX5, TX5, 4, tyX5, rfl, (fun w h => List.mem_cons_of_mem _ (List.mem_append_right _ h)), by decide, List.mem_of_getElem? (i := 2) rfl, tyX5_ok, nmX5, rfl, tyX5_ok _ (by decide)⟩
theorem yf5_takeBody : (∃ Ty', wsX5_takeBody = Cond.code yX5_takeBody cX5_takeBody 2 none :: Ty') ∧ (yX5_takeBody.cls ≠ "java/lang/invoke/MethodHandle" ∧ yX5_takeBody.cls ≠ "java/lang/invoke/VarHandle" ∧ (parseMethodDescriptor yX5_takeBody.desc).map (fun d => d.parameters.length) = some 1) := ⟨⟨_, rfl⟩, by decide +kernel, by decide +kernel, by decide +kernel⟩
abbrev w5_takeBody (cI cJ cZ cS cT : ClassId) (a0 a_cells : Nat) (v_sort : Int32) (v_body : Int32) (v_size : Int32) : va_W := [(a0, .inr (5, [.int v_sort, .int v_body, .int v_size, .ref a_cells]))]
def x5_takeBody (v_sort : Int32) (v_body : Int32) (p1 : Int32) : Option (Int32 × Int32) :=
  if 0 ≤ p1 then (some (5, p1)) else (some ((-1), p1))
set_option maxHeartbeats 4000000 in
set_option maxRecDepth 100000 in
theorem c5_takeBody (l : Launch) (D : yD) (cI cJ cZ cS cT : ClassId) (a0 a_cells : Nat) (v_sort : Int32) (v_body : Int32) (v_size : Int32) (p1 : Int32) (out : Int32 × Int32) (hx : x5_takeBody v_sort v_body p1 = some out) : MC l D (yT cI cJ cZ cS cT) yX5_takeBody wsX5_takeBody ({ frames := 0, cells := 0, slots := 0, locals := 0 } : Room) (0, 0) [.ref a0, .int p1] (w5_takeBody cI cJ cZ cS cT a0 a_cells v_sort v_body v_size) (POd (fun o : Int32 × Int32 => none) (fun (o : Int32 × Int32) => (w5_takeBody cI cJ cZ cS cT a0 a_cells o.1 o.2 v_size)) out) := by
  refine MC.intro (cc := cX5_takeBody) (nL := 2) (ret := none) (own := RX5) (lv := [(0, .ref a0), (1, .int p1)]) (by decide) rfl rfl (Nat.le_of_ble_eq_true rfl) rfl (fun X C E => ?_)
  unfold x5_takeBody at hx
  refine Yaload_n C dX5_takeBody_0 0 rfl rfl ?_
  refine Yiload_n C dX5_takeBody_1 1 rfl rfl ?_
  refine Yif_ge C 9 dX5_takeBody_2 (by decide) hx (fun _ hx => ?_) (fun _ hx => ?_)
  · skip
    refine Yiconst C 5 dX5_takeBody_9 (by decide) ?_
    refine Yput (v := .int 5) (ws' := (w5_takeBody cI cJ cZ cS cT a0 a_cells 5 v_body v_size)) C fp5_takeBody_9 dX5_takeBody_10 0 rfl rfl rfl (Nat.le_of_ble_eq_true rfl) rfl rfl ?_
    refine Yaload_n C dX5_takeBody_13 0 rfl rfl ?_
    refine Yiload_n C dX5_takeBody_14 1 rfl rfl ?_
    refine Yput (v := .int p1) (ws' := (w5_takeBody cI cJ cZ cS cT a0 a_cells 5 p1 v_size)) C fp5_takeBody_13 dX5_takeBody_15 0 rfl rfl rfl (Nat.le_of_ble_eq_true rfl) rfl rfl ?_
    exact Yvret C E dX5_takeBody_18 (ypo hx rfl rfl)
  · skip
    refine Yiconst C (-1) dX5_takeBody_5 (by decide) ?_
    refine Ygoto C 10 dX5_takeBody_6 (by decide) ?_
    refine Yput (v := .int (-1)) (ws' := (w5_takeBody cI cJ cZ cS cT a0 a_cells (-1) v_body v_size)) C fp5_takeBody_9 dX5_takeBody_10 0 rfl rfl rfl (Nat.le_of_ble_eq_true rfl) rfl rfl ?_
    refine Yaload_n C dX5_takeBody_13 0 rfl rfl ?_
    refine Yiload_n C dX5_takeBody_14 1 rfl rfl ?_
    refine Yput (v := .int p1) (ws' := (w5_takeBody cI cJ cZ cS cT a0 a_cells (-1) p1 v_size)) C fp5_takeBody_13 dX5_takeBody_15 0 rfl rfl rfl (Nat.le_of_ble_eq_true rfl) rfl rfl ?_
    exact Yvret C E dX5_takeBody_18 (ypo hx rfl rfl)
theorem fp5_takeRow_9 : YFp wsX5_takeRow RX5 9 5 0 (tyX5 0) := ⟨RX5, TX5, 4, tyX5, rfl, (fun w h => List.mem_cons_of_mem _ (List.mem_append_right _ h)), by decide, List.mem_of_getElem? (i := 1) rfl, tyX5_ok, nmX5, rfl, tyX5_ok _ (by decide)⟩
theorem fp5_takeRow_13 : YFp wsX5_takeRow RX5 13 5 1 (tyX5 1) := ⟨RX5, TX5, 4, tyX5, rfl, (fun w h => List.mem_cons_of_mem _ (List.mem_append_right _ h)), by decide, List.mem_of_getElem? (i := 2) rfl, tyX5_ok, nmX5, rfl, tyX5_ok _ (by decide)⟩
theorem fp5_takeRow_24 : YFp wsX5_takeRow RX5 24 5 2 (tyX5 2) := ⟨RX5, TX5, 4, tyX5, rfl, (fun w h => List.mem_cons_of_mem _ (List.mem_append_right _ h)), by decide, List.mem_of_getElem? (i := 10) rfl, tyX5_ok, nmX5, rfl, tyX5_ok _ (by decide)⟩
theorem fg5_takeRow_16 : YF wsX5_takeRow RX5 16 5 3 := ⟨RX5, TX5, 4, rfl, (fun w h => List.mem_cons_of_mem _ (List.mem_append_right _ h)), by decide, List.mem_of_getElem? (i := 11) rfl⟩
theorem yf5_takeRow : (∃ Ty', wsX5_takeRow = Cond.code yX5_takeRow cX5_takeRow 3 none :: Ty') ∧ (yX5_takeRow.cls ≠ "java/lang/invoke/MethodHandle" ∧ yX5_takeRow.cls ≠ "java/lang/invoke/VarHandle" ∧ (parseMethodDescriptor yX5_takeRow.desc).map (fun d => d.parameters.length) = some 2) := ⟨⟨_, rfl⟩, by decide +kernel, by decide +kernel, by decide +kernel⟩
abbrev w5_takeRow (cI cJ cZ cS cT : ClassId) (a0 a_cells : Nat) (v_sort : Int32) (v_body : Int32) (v_size : Int32) (v_cells : Nat → Int64) : va_W := [(a0, .inr (5, [.int v_sort, .int v_body, .int v_size, .ref a_cells])), (a_cells, .inl (cJ, 60, .inr (.inl v_cells)))]
def x5_takeRow (v_sort : Int32) (v_body : Int32) (v_size : Int32) (v_cells : Nat → Int64) (p1 : Int32) (p2 : Int32) : Option (Int32 × Int32 × Int32 × (Nat → Int64)) :=
  (xj7_fill_d0a16 v_cells 0).bind fun o1 => some (p1, (-1), (if 0 < (if p2 < 60 then p2 else 60) then (if p2 < 60 then p2 else 60) else 0), o1)
set_option maxHeartbeats 4000000 in
set_option maxRecDepth 100000 in
theorem c5_takeRow (l : Launch) (D : yD) (cI cJ cZ cS cT : ClassId) (a0 a_cells : Nat) (v_sort : Int32) (v_body : Int32) (v_size : Int32) (v_cells : Nat → Int64) (p1 : Int32) (p2 : Int32) (out : Int32 × Int32 × Int32 × (Nat → Int64)) (hx : x5_takeRow v_sort v_body v_size v_cells p1 p2 = some out) : MC l D (yT cI cJ cZ cS cT) yX5_takeRow wsX5_takeRow ({ frames := 1, cells := 0, slots := 0, locals := 24 } : Room) (0, 0) [.ref a0, .int p1, .int p2] (w5_takeRow cI cJ cZ cS cT a0 a_cells v_sort v_body v_size v_cells) (POd (fun o : Int32 × Int32 × Int32 × (Nat → Int64) => none) (fun (o : Int32 × Int32 × Int32 × (Nat → Int64)) => (w5_takeRow cI cJ cZ cS cT a0 a_cells o.1 o.2.1 o.2.2.1 o.2.2.2)) out) := by
  refine MC.intro (cc := cX5_takeRow) (nL := 3) (ret := none) (own := RX5) (lv := [(0, .ref a0), (1, .int p1), (2, .int p2)]) (by decide) rfl rfl (Nat.le_of_ble_eq_true rfl) rfl (fun X C E => ?_)
  unfold x5_takeRow at hx
  refine Yaload_n C dX5_takeRow_0 0 rfl rfl ?_
  refine Yiload_n C dX5_takeRow_1 1 rfl rfl ?_
  refine Yput (v := .int p1) (ws' := (w5_takeRow cI cJ cZ cS cT a0 a_cells p1 v_body v_size v_cells)) C fp5_takeRow_9 dX5_takeRow_2 0 rfl rfl rfl (Nat.le_of_ble_eq_true rfl) rfl rfl ?_
  refine Yaload_n C dX5_takeRow_5 0 rfl rfl ?_
  refine Yiconst C (-1) dX5_takeRow_6 (by decide) ?_
  refine Yput (v := .int (-1)) (ws' := (w5_takeRow cI cJ cZ cS cT a0 a_cells p1 (-1) v_size v_cells)) C fp5_takeRow_13 dX5_takeRow_7 0 rfl rfl rfl (Nat.le_of_ble_eq_true rfl) rfl rfl ?_
  refine Yaload_n C dX5_takeRow_10 0 rfl rfl ?_
  refine Yiconst C 0 dX5_takeRow_11 (by decide) ?_
  refine Ybipush C 60 dX5_takeRow_12 (by decide) ?_
  refine Yiload_n C dX5_takeRow_14 2 rfl rfl ?_
  refine Ymmin C dX5_takeRow_15 (List.mem_of_getElem? (i := 3) rfl) (List.mem_of_getElem? (i := 4) rfl) (List.mem_of_getElem? (i := 5) rfl) (List.mem_of_getElem? (i := 6) rfl) (Nat.le_of_ble_eq_true rfl) (Nat.le_of_ble_eq_true rfl) ⟨Nat.zero_le _, Nat.zero_le _⟩ ?_
  refine Ymmax C dX5_takeRow_18 (List.mem_of_getElem? (i := 7) rfl) (List.mem_of_getElem? (i := 8) rfl) (List.mem_of_getElem? (i := 5) rfl) (List.mem_of_getElem? (i := 9) rfl) (Nat.le_of_ble_eq_true rfl) (Nat.le_of_ble_eq_true rfl) ⟨Nat.zero_le _, Nat.zero_le _⟩ ?_
  refine Yput (v := .int (if 0 < (if p2 < 60 then p2 else 60) then (if p2 < 60 then p2 else 60) else 0)) (ws' := (w5_takeRow cI cJ cZ cS cT a0 a_cells p1 (-1) (if 0 < (if p2 < 60 then p2 else 60) then (if p2 < 60 then p2 else 60) else 0) v_cells)) C fp5_takeRow_24 dX5_takeRow_21 0 rfl rfl rfl (Nat.le_of_ble_eq_true rfl) rfl rfl ?_
  refine Yaload_n C dX5_takeRow_24 0 rfl rfl ?_
  refine Yget C fg5_takeRow_16 dX5_takeRow_25 0 rfl rfl ?_
  refine Ylconst C 0 dX5_takeRow_28 (by decide) ?_
  obtain ⟨o1, ho1, hx⟩ := ybnd hx
  refine YcallSo (ws' := (w5_takeRow cI cJ cZ cS cT a0 a_cells p1 (-1) (if 0 < (if p2 < 60 then p2 else 60) then (if p2 < 60 then p2 else 60) else 0) o1)) (st' := []) (st := []) (as := [.ref a_cells, .long 0]) C [1] [0] 2 dX5_takeRow_29 (cj7_fill_d0a16 l D cI cJ cZ cS cT a_cells v_cells 0 o1 ho1) gX5_takeRow_J7_fill_d0a16 ⟨yfj7_fill_d0a16.1, yfj7_fill_d0a16.2, Nat.le_of_ble_eq_true rfl, Nat.le_of_ble_eq_true rfl, rfl, rfl⟩ (by decide) ⟨Nat.zero_le _, Nat.zero_le _⟩ (Nat.le_of_ble_eq_true rfl) ⟨rfl, trivial⟩ rfl rfl (by decide) (by decide) ⟨rfl, trivial⟩ [(a0, .inr (5, [.int p1, .int (-1), .int (if 0 < (if p2 < 60 then p2 else 60) then (if p2 < 60 then p2 else 60) else 0), .ref a_cells]))] ⟨rfl, trivial⟩ ⟨rfl, trivial⟩ rfl ?_
  exact Yvret C E dX5_takeRow_32 (ypo hx rfl rfl)
theorem fg5_cell_16 : YF wsX5_cell RX5 16 5 3 := ⟨RX5, TX5, 4, rfl, (fun w h => List.mem_cons_of_mem _ (List.mem_append_right _ h)), by decide, List.mem_of_getElem? (i := 1) rfl⟩
theorem yf5_cell : (∃ Ty', wsX5_cell = Cond.code yX5_cell cX5_cell 2 (some .long) :: Ty') ∧ (yX5_cell.cls ≠ "java/lang/invoke/MethodHandle" ∧ yX5_cell.cls ≠ "java/lang/invoke/VarHandle" ∧ (parseMethodDescriptor yX5_cell.desc).map (fun d => d.parameters.length) = some 1) := ⟨⟨_, rfl⟩, by decide +kernel, by decide +kernel, by decide +kernel⟩
abbrev w5_cell (cI cJ cZ cS cT : ClassId) (a0 a_cells : Nat) (v_sort : Int32) (v_body : Int32) (v_size : Int32) (v_cells : Nat → Int64) : va_W := [(a0, .inr (5, [.int v_sort, .int v_body, .int v_size, .ref a_cells])), (a_cells, .inl (cJ, 60, .inr (.inl v_cells)))]
def x5_cell (v_sort : Int32) (v_size : Int32) (v_cells : Nat → Int64) (p1 : Int32) : Option (Int64) :=
  (x5_holdsCells v_sort v_size p1 1).bind fun o1 => bif o1 then (bif inB p1 60 then (some ((v_cells p1.toNatClampNeg))) else none) else (some (0))
set_option maxHeartbeats 4000000 in
set_option maxRecDepth 100000 in
theorem c5_cell (l : Launch) (D : yD) (cI cJ cZ cS cT : ClassId) (a0 a_cells : Nat) (v_sort : Int32) (v_body : Int32) (v_size : Int32) (v_cells : Nat → Int64) (p1 : Int32) (out : Int64) (hx : x5_cell v_sort v_size v_cells p1 = some out) : MC l D (yT cI cJ cZ cS cT) yX5_cell wsX5_cell ({ frames := 2, cells := 0, slots := 0, locals := 42 } : Room) (0, 0) [.ref a0, .int p1] (w5_cell cI cJ cZ cS cT a0 a_cells v_sort v_body v_size v_cells) (POd (fun o : Int64 => some (.long o)) (fun (o : Int64) => (w5_cell cI cJ cZ cS cT a0 a_cells v_sort v_body v_size v_cells)) out) := by
  refine MC.intro (cc := cX5_cell) (nL := 2) (ret := (some .long)) (own := RX5) (lv := [(0, .ref a0), (1, .int p1)]) (by decide) rfl rfl (Nat.le_of_ble_eq_true rfl) rfl (fun X C E => ?_)
  unfold x5_cell at hx
  refine Yaload_n C dX5_cell_0 0 rfl rfl ?_
  refine Yiload_n C dX5_cell_1 1 rfl rfl ?_
  refine Yiconst C 1 dX5_cell_2 (by decide) ?_
  obtain ⟨o1, ho1, hx⟩ := ybnd hx
  refine YcallVd (ws' := (w5_cell cI cJ cZ cS cT a0 a_cells v_sort v_body v_size v_cells)) (st' := [.int (bI o1)]) (st := []) (as := [.int p1, .int 1]) (b := a0) (ci := 5) C [0] [1] 2 dX5_cell_3 (c5_holdsCells l D cI cJ cZ cS cT a0 a_cells v_sort v_body v_size p1 1 o1 ho1) gX5_cell_X5_holdsCells rfl ⟨yf5_holdsCells.1, yf5_holdsCells.2, Nat.le_of_ble_eq_true rfl, Nat.le_of_ble_eq_true rfl, rfl, rfl⟩ rfl 0 rfl (by decide) ⟨Nat.zero_le _, Nat.zero_le _⟩ (Nat.le_of_ble_eq_true rfl) ⟨rfl, trivial⟩ rfl rfl (by decide) (by decide) ⟨rfl, trivial⟩ [(a_cells, .inl (cJ, 60, .inr (.inl v_cells)))] ⟨rfl, trivial⟩ ⟨rfl, trivial⟩ rfl ?_
  refine Yif_eq_b C 18 dX5_cell_6 (by decide) hx (fun _ hx => ?_) (fun _ hx => ?_)
  · skip
    refine Ylconst C 0 dX5_cell_18 (by decide) ?_
    exact Ylret C E dX5_cell_19 (ypo hx rfl rfl)
  · skip
    refine Yaload_n C dX5_cell_9 0 rfl rfl ?_
    refine Yget C fg5_cell_16 dX5_cell_10 0 rfl rfl ?_
    refine Yiload_n C dX5_cell_13 1 rfl rfl ?_
    refine Ylald C dX5_cell_14 hx 1 1 rfl rfl (fun hx => ?_)
    refine Ygoto C 19 dX5_cell_15 (by decide) ?_
    exact Ylret C E dX5_cell_19 (ypo hx rfl rfl)
theorem fg5_lowestBits_9 : YF wsX5_lowestBits RX5 9 5 0 := ⟨RX5, TX5, 4, rfl, (fun w h => List.mem_cons_of_mem _ (List.mem_append_right _ h)), by decide, List.mem_of_getElem? (i := 1) rfl⟩
theorem yf5_lowestBits : (∃ Ty', wsX5_lowestBits = Cond.code yX5_lowestBits cX5_lowestBits 3 (some .long) :: Ty') ∧ (yX5_lowestBits.cls ≠ "java/lang/invoke/MethodHandle" ∧ yX5_lowestBits.cls ≠ "java/lang/invoke/VarHandle" ∧ (parseMethodDescriptor yX5_lowestBits.desc).map (fun d => d.parameters.length) = some 1) := ⟨⟨_, rfl⟩, by decide +kernel, by decide +kernel, by decide +kernel⟩
abbrev w5_lowestBits (cI cJ cZ cS cT : ClassId) (a0 a_cells : Nat) (v_sort : Int32) (v_body : Int32) (v_size : Int32) : va_W := [(a0, .inr (5, [.int v_sort, .int v_body, .int v_size, .ref a_cells]))]
def x5_lowestBits (v_sort : Int32) (p1 : Int64) : Option (Int64) :=
  if v_sort = 0 then (some ((((p1.toInt32).toInt8.toInt32).toInt64))) else (if v_sort = 1 then (some ((((p1.toInt32).toInt16.toInt32).toInt64))) else (if v_sort = 2 then (some (((p1.toInt32).toInt64))) else (if v_sort = 3 then (some (p1)) else (if v_sort = 4 then (if (lg_cmp p1 0) = 0 then (some (0)) else (some (1))) else (some (p1))))))
set_option maxHeartbeats 4000000 in
set_option maxRecDepth 100000 in
theorem c5_lowestBits (l : Launch) (D : yD) (cI cJ cZ cS cT : ClassId) (a0 a_cells : Nat) (v_sort : Int32) (v_body : Int32) (v_size : Int32) (p1 : Int64) (out : Int64) (hx : x5_lowestBits v_sort p1 = some out) : MC l D (yT cI cJ cZ cS cT) yX5_lowestBits wsX5_lowestBits ({ frames := 0, cells := 0, slots := 0, locals := 0 } : Room) (0, 0) [.ref a0, .long p1] (w5_lowestBits cI cJ cZ cS cT a0 a_cells v_sort v_body v_size) (POd (fun o : Int64 => some (.long o)) (fun (o : Int64) => (w5_lowestBits cI cJ cZ cS cT a0 a_cells v_sort v_body v_size)) out) := by
  refine MC.intro (cc := cX5_lowestBits) (nL := 3) (ret := (some .long)) (own := RX5) (lv := [(0, .ref a0), (1, .long p1)]) (by decide) rfl rfl (Nat.le_of_ble_eq_true rfl) rfl (fun X C E => ?_)
  unfold x5_lowestBits at hx
  refine Yaload_n C dX5_lowestBits_0 0 rfl rfl ?_
  refine Yget C fg5_lowestBits_9 dX5_lowestBits_1 0 rfl rfl ?_
  refine yite hx (fun hq hx => ?_) (fun hq0 hx => ?_)
  · skip
    refine YtabIn (v := 0) (off := 36) C 40 dX5_lowestBits_4 hq (by decide) (by decide) (by decide) (by decide) ?_
    refine Ylload_n C dX5_lowestBits_40 1 rfl rfl ?_
    refine Yl2i C dX5_lowestBits_41 ?_
    refine Yi2b C dX5_lowestBits_42 ?_
    refine Yi2l C dX5_lowestBits_43 ?_
    exact Ylret C E dX5_lowestBits_44 (ypo hx rfl rfl)
  refine yite hx (fun hq hx => ?_) (fun hq1 hx => ?_)
  · skip
    refine YtabIn (v := 1) (off := 41) C 45 dX5_lowestBits_4 hq (by decide) (by decide) (by decide) (by decide) ?_
    refine Ylload_n C dX5_lowestBits_45 1 rfl rfl ?_
    refine Yl2i C dX5_lowestBits_46 ?_
    refine Yi2s C dX5_lowestBits_47 ?_
    refine Yi2l C dX5_lowestBits_48 ?_
    exact Ylret C E dX5_lowestBits_49 (ypo hx rfl rfl)
  refine yite hx (fun hq hx => ?_) (fun hq2 hx => ?_)
  · skip
    refine YtabIn (v := 2) (off := 46) C 50 dX5_lowestBits_4 hq (by decide) (by decide) (by decide) (by decide) ?_
    refine Ylload_n C dX5_lowestBits_50 1 rfl rfl ?_
    refine Yl2i C dX5_lowestBits_51 ?_
    refine Yi2l C dX5_lowestBits_52 ?_
    exact Ylret C E dX5_lowestBits_53 (ypo hx rfl rfl)
  refine yite hx (fun hq hx => ?_) (fun hq3 hx => ?_)
  · skip
    refine YtabIn (v := 3) (off := 62) C 66 dX5_lowestBits_4 hq (by decide) (by decide) (by decide) (by decide) ?_
    refine Ylload_n C dX5_lowestBits_66 1 rfl rfl ?_
    exact Ylret C E dX5_lowestBits_67 (ypo hx rfl rfl)
  refine yite hx (fun hq hx => ?_) (fun hq4 hx => ?_)
  · skip
    refine YtabIn (v := 4) (off := 50) C 54 dX5_lowestBits_4 hq (by decide) (by decide) (by decide) (by decide) ?_
    refine Ylload_n C dX5_lowestBits_54 1 rfl rfl ?_
    refine Ylconst C 0 dX5_lowestBits_55 (by decide) ?_
    refine Ylcmp C dX5_lowestBits_56 ?_
    refine Yif_eq C 64 dX5_lowestBits_57 (by decide) hx (fun _ hx => ?_) (fun _ hx => ?_)
    · skip
      refine Ylconst C 0 dX5_lowestBits_64 (by decide) ?_
      exact Ylret C E dX5_lowestBits_65 (ypo hx rfl rfl)
    · skip
      refine Ylconst C 1 dX5_lowestBits_60 (by decide) ?_
      refine Ygoto C 65 dX5_lowestBits_61 (by decide) ?_
      exact Ylret C E dX5_lowestBits_65 (ypo hx rfl rfl)
  refine YtabOut C 66 dX5_lowestBits_4 (by have e0 : v_sort.toInt ≠ 0 := ne_toInt hq0; have e1 : v_sort.toInt ≠ 1 := ne_toInt hq1; have e2 : v_sort.toInt ≠ 2 := ne_toInt hq2; have e3 : v_sort.toInt ≠ 3 := ne_toInt hq3; have e4 : v_sort.toInt ≠ 4 := ne_toInt hq4; omega) (by decide) ?_
  refine Ylload_n C dX5_lowestBits_66 1 rfl rfl ?_
  exact Ylret C E dX5_lowestBits_67 (ypo hx rfl rfl)
theorem fg5_store_16 : YF wsX5_store RX5 16 5 3 := ⟨RX5, TX5, 4, rfl, (fun w h => List.mem_cons_of_mem _ (List.mem_append_right _ h)), by decide, List.mem_of_getElem? (i := 1) rfl⟩
theorem yf5_store : (∃ Ty', wsX5_store = Cond.code yX5_store cX5_store 4 none :: Ty') ∧ (yX5_store.cls ≠ "java/lang/invoke/MethodHandle" ∧ yX5_store.cls ≠ "java/lang/invoke/VarHandle" ∧ (parseMethodDescriptor yX5_store.desc).map (fun d => d.parameters.length) = some 2) := ⟨⟨_, rfl⟩, by decide +kernel, by decide +kernel, by decide +kernel⟩
abbrev w5_store (cI cJ cZ cS cT : ClassId) (a0 a_cells : Nat) (v_sort : Int32) (v_body : Int32) (v_size : Int32) (v_cells : Nat → Int64) : va_W := [(a0, .inr (5, [.int v_sort, .int v_body, .int v_size, .ref a_cells])), (a_cells, .inl (cJ, 60, .inr (.inl v_cells)))]
def x5_store (v_sort : Int32) (v_size : Int32) (v_cells : Nat → Int64) (p1 : Int32) (p2 : Int64) : Option ((Nat → Int64)) :=
  (x5_holdsCells v_sort v_size p1 1).bind fun o1 => bif o1 then ((x5_lowestBits v_sort p2).bind fun o2 => bif inB p1 60 then (some ((vp_updL v_cells p1.toNatClampNeg o2))) else none) else (some (v_cells))
set_option maxHeartbeats 4000000 in
set_option maxRecDepth 100000 in
theorem c5_store (l : Launch) (D : yD) (cI cJ cZ cS cT : ClassId) (a0 a_cells : Nat) (v_sort : Int32) (v_body : Int32) (v_size : Int32) (v_cells : Nat → Int64) (p1 : Int32) (p2 : Int64) (out : (Nat → Int64)) (hx : x5_store v_sort v_size v_cells p1 p2 = some out) : MC l D (yT cI cJ cZ cS cT) yX5_store wsX5_store ({ frames := 2, cells := 0, slots := 0, locals := 42 } : Room) (0, 0) [.ref a0, .int p1, .long p2] (w5_store cI cJ cZ cS cT a0 a_cells v_sort v_body v_size v_cells) (POd (fun o : (Nat → Int64) => none) (fun (o : (Nat → Int64)) => (w5_store cI cJ cZ cS cT a0 a_cells v_sort v_body v_size o)) out) := by
  refine MC.intro (cc := cX5_store) (nL := 4) (ret := none) (own := RX5) (lv := [(0, .ref a0), (1, .int p1), (2, .long p2)]) (by decide) rfl rfl (Nat.le_of_ble_eq_true rfl) rfl (fun X C E => ?_)
  unfold x5_store at hx
  refine Yaload_n C dX5_store_0 0 rfl rfl ?_
  refine Yiload_n C dX5_store_1 1 rfl rfl ?_
  refine Yiconst C 1 dX5_store_2 (by decide) ?_
  obtain ⟨o1, ho1, hx⟩ := ybnd hx
  refine YcallVd (ws' := (w5_store cI cJ cZ cS cT a0 a_cells v_sort v_body v_size v_cells)) (st' := [.int (bI o1)]) (st := []) (as := [.int p1, .int 1]) (b := a0) (ci := 5) C [0] [1] 2 dX5_store_3 (c5_holdsCells l D cI cJ cZ cS cT a0 a_cells v_sort v_body v_size p1 1 o1 ho1) gX5_store_X5_holdsCells rfl ⟨yf5_holdsCells.1, yf5_holdsCells.2, Nat.le_of_ble_eq_true rfl, Nat.le_of_ble_eq_true rfl, rfl, rfl⟩ rfl 0 rfl (by decide) ⟨Nat.zero_le _, Nat.zero_le _⟩ (Nat.le_of_ble_eq_true rfl) ⟨rfl, trivial⟩ rfl rfl (by decide) (by decide) ⟨rfl, trivial⟩ [(a_cells, .inl (cJ, 60, .inr (.inl v_cells)))] ⟨rfl, trivial⟩ ⟨rfl, trivial⟩ rfl ?_
  refine Yif_eq_b C 20 dX5_store_6 (by decide) hx (fun _ hx => ?_) (fun _ hx => ?_)
  · skip
    exact Yvret C E dX5_store_20 (ypo hx rfl rfl)
  · skip
    refine Yaload_n C dX5_store_9 0 rfl rfl ?_
    refine Yget C fg5_store_16 dX5_store_10 0 rfl rfl ?_
    refine Yiload_n C dX5_store_13 1 rfl rfl ?_
    refine Yaload_n C dX5_store_14 0 rfl rfl ?_
    refine Ylload_n C dX5_store_15 2 rfl rfl ?_
    obtain ⟨o2, ho2, hx⟩ := ybnd hx
    refine YcallVd (ws' := (w5_store cI cJ cZ cS cT a0 a_cells v_sort v_body v_size v_cells)) (st' := [.long o2, .int p1, .ref a_cells]) (st := [.int p1, .ref a_cells]) (as := [.long p2]) (b := a0) (ci := 5) C [0] [1] 2 dX5_store_16 (c5_lowestBits l D cI cJ cZ cS cT a0 a_cells v_sort v_body v_size p2 o2 ho2) gX5_store_X5_lowestBits rfl ⟨yf5_lowestBits.1, yf5_lowestBits.2, Nat.le_of_ble_eq_true rfl, Nat.le_of_ble_eq_true rfl, rfl, rfl⟩ rfl 0 rfl (by decide) ⟨Nat.zero_le _, Nat.zero_le _⟩ (Nat.le_of_ble_eq_true rfl) ⟨rfl, trivial⟩ rfl rfl (by decide) (by decide) ⟨rfl, trivial⟩ [(a_cells, .inl (cJ, 60, .inr (.inl v_cells)))] ⟨rfl, trivial⟩ ⟨rfl, trivial⟩ rfl ?_
    refine Ylast (ws' := (w5_store cI cJ cZ cS cT a0 a_cells v_sort v_body v_size (vp_updL v_cells p1.toNatClampNeg o2))) C dX5_store_19 hx 1 1 rfl rfl rfl (fun hx => ?_)
    exact Yvret C E dX5_store_20 (ypo hx rfl rfl)
theorem fp6_clear_18 : YFp wsX6_clear RX6 18 6 2 (tyX6 2) := ⟨RX6, TX6, 4, tyX6, rfl, (fun w h => List.mem_cons_of_mem _ (List.mem_append_right _ h)), by decide, List.mem_of_getElem? (i := 1) rfl, tyX6_ok, nmX6, rfl, tyX6_ok _ (by decide)⟩
theorem fp6_clear_22 : YFp wsX6_clear RX6 22 6 3 (tyX6 3) := ⟨RX6, TX6, 4, tyX6, rfl, (fun w h => List.mem_cons_of_mem _ (List.mem_append_right _ h)), by decide, List.mem_of_getElem? (i := 2) rfl, tyX6_ok, nmX6, rfl, tyX6_ok _ (by decide)⟩
theorem yf6_clear : (∃ Ty', wsX6_clear = Cond.code yX6_clear cX6_clear 1 none :: Ty') ∧ (yX6_clear.cls ≠ "java/lang/invoke/MethodHandle" ∧ yX6_clear.cls ≠ "java/lang/invoke/VarHandle" ∧ (parseMethodDescriptor yX6_clear.desc).map (fun d => d.parameters.length) = some 0) := ⟨⟨_, rfl⟩, by decide +kernel, by decide +kernel, by decide +kernel⟩
abbrev w6_clear (cI cJ cZ cS cT : ClassId) (a0 a_steps a_stack : Nat) (v_size : Int32) (v_usesWaited : Bool) : va_W := [(a0, .inr (6, [.ref a_steps, .ref a_stack, .int v_size, .int (bI v_usesWaited)]))]
def x6_clear (v_size : Int32) (v_usesWaited : Bool) : Option (Int32 × Bool) :=
  some (0, false)
set_option maxHeartbeats 4000000 in
set_option maxRecDepth 100000 in
theorem c6_clear (l : Launch) (D : yD) (cI cJ cZ cS cT : ClassId) (a0 a_steps a_stack : Nat) (v_size : Int32) (v_usesWaited : Bool) (out : Int32 × Bool) (hx : x6_clear v_size v_usesWaited = some out) : MC l D (yT cI cJ cZ cS cT) yX6_clear wsX6_clear ({ frames := 0, cells := 0, slots := 0, locals := 0 } : Room) (0, 0) [.ref a0] (w6_clear cI cJ cZ cS cT a0 a_steps a_stack v_size v_usesWaited) (POd (fun o : Int32 × Bool => none) (fun (o : Int32 × Bool) => (w6_clear cI cJ cZ cS cT a0 a_steps a_stack o.1 o.2)) out) := by
  refine MC.intro (cc := cX6_clear) (nL := 1) (ret := none) (own := RX6) (lv := [(0, .ref a0)]) (by decide) rfl rfl (Nat.le_of_ble_eq_true rfl) rfl (fun X C E => ?_)
  unfold x6_clear at hx
  refine Yaload_n C dX6_clear_0 0 rfl rfl ?_
  refine Yiconst C 0 dX6_clear_1 (by decide) ?_
  refine Yput (v := .int 0) (ws' := (w6_clear cI cJ cZ cS cT a0 a_steps a_stack 0 v_usesWaited)) C fp6_clear_18 dX6_clear_2 0 rfl rfl rfl (Nat.le_of_ble_eq_true rfl) rfl rfl ?_
  refine Yaload_n C dX6_clear_5 0 rfl rfl ?_
  refine Yiconst C 0 dX6_clear_6 (by decide) ?_
  refine Yput (v := .int (bI false)) (ws' := (w6_clear cI cJ cZ cS cT a0 a_steps a_stack 0 false)) C fp6_clear_22 dX6_clear_7 0 rfl (bI_n false) rfl (Nat.le_of_ble_eq_true rfl) rfl rfl ?_
  exact Yvret C E dX6_clear_10 (ypo hx rfl rfl)
theorem fg6_add_18 : YF wsX6_add RX6 18 6 2 := ⟨RX6, TX6, 4, rfl, (fun w h => List.mem_cons_of_mem _ (List.mem_append_right _ h)), by decide, List.mem_of_getElem? (i := 1) rfl⟩
theorem fg6_add_9 : YF wsX6_add RX6 9 6 0 := ⟨RX6, TX6, 4, rfl, (fun w h => List.mem_cons_of_mem _ (List.mem_append_right _ h)), by decide, List.mem_of_getElem? (i := 2) rfl⟩
theorem fp6_add_18 : YFp wsX6_add RX6 18 6 2 (tyX6 2) := ⟨RX6, TX6, 4, tyX6, rfl, (fun w h => List.mem_cons_of_mem _ (List.mem_append_right _ h)), by decide, List.mem_of_getElem? (i := 1) rfl, tyX6_ok, nmX6, rfl, tyX6_ok _ (by decide)⟩
theorem fg6_add_22 : YF wsX6_add RX6 22 6 3 := ⟨RX6, TX6, 4, rfl, (fun w h => List.mem_cons_of_mem _ (List.mem_append_right _ h)), by decide, List.mem_of_getElem? (i := 3) rfl⟩
theorem fp6_add_22 : YFp wsX6_add RX6 22 6 3 (tyX6 3) := ⟨RX6, TX6, 4, tyX6, rfl, (fun w h => List.mem_cons_of_mem _ (List.mem_append_right _ h)), by decide, List.mem_of_getElem? (i := 3) rfl, tyX6_ok, nmX6, rfl, tyX6_ok _ (by decide)⟩
theorem yf6_add : (∃ Ty', wsX6_add = Cond.code yX6_add cX6_add 2 none :: Ty') ∧ (yX6_add.cls ≠ "java/lang/invoke/MethodHandle" ∧ yX6_add.cls ≠ "java/lang/invoke/VarHandle" ∧ (parseMethodDescriptor yX6_add.desc).map (fun d => d.parameters.length) = some 1) := ⟨⟨_, rfl⟩, by decide +kernel, by decide +kernel, by decide +kernel⟩
abbrev w6_add (cI cJ cZ cS cT : ClassId) (a0 a_steps a_stack : Nat) (v_size : Int32) (v_usesWaited : Bool) (v_steps : Nat → Int32) : va_W := [(a0, .inr (6, [.ref a_steps, .ref a_stack, .int v_size, .int (bI v_usesWaited)])), (a_steps, .inl (cI, 124, .inl v_steps))]
def x6_add (v_size : Int32) (v_usesWaited : Bool) (v_steps : Nat → Int32) (p1 : Int32) : Option (Int32 × Bool × (Nat → Int32)) :=
  if v_size < 0 then (some (v_size, v_usesWaited, v_steps)) else (if v_size < 124 then (bif inB v_size 124 then (bif v_usesWaited then (some ((v_size + 1), true, (upd v_steps v_size.toNatClampNeg p1))) else (if p1 = 9 then (some ((v_size + 1), true, (upd v_steps v_size.toNatClampNeg p1))) else (some ((v_size + 1), false, (upd v_steps v_size.toNatClampNeg p1))))) else none) else (some (v_size, v_usesWaited, v_steps)))
set_option maxHeartbeats 4000000 in
set_option maxRecDepth 100000 in
theorem c6_add (l : Launch) (D : yD) (cI cJ cZ cS cT : ClassId) (a0 a_steps a_stack : Nat) (v_size : Int32) (v_usesWaited : Bool) (v_steps : Nat → Int32) (p1 : Int32) (out : Int32 × Bool × (Nat → Int32)) (hx : x6_add v_size v_usesWaited v_steps p1 = some out) : MC l D (yT cI cJ cZ cS cT) yX6_add wsX6_add ({ frames := 0, cells := 0, slots := 0, locals := 0 } : Room) (0, 0) [.ref a0, .int p1] (w6_add cI cJ cZ cS cT a0 a_steps a_stack v_size v_usesWaited v_steps) (POd (fun o : Int32 × Bool × (Nat → Int32) => none) (fun (o : Int32 × Bool × (Nat → Int32)) => (w6_add cI cJ cZ cS cT a0 a_steps a_stack o.1 o.2.1 o.2.2)) out) := by
  refine MC.intro (cc := cX6_add) (nL := 2) (ret := none) (own := RX6) (lv := [(0, .ref a0), (1, .int p1)]) (by decide) rfl rfl (Nat.le_of_ble_eq_true rfl) rfl (fun X C E => ?_)
  unfold x6_add at hx
  refine Yaload_n C dX6_add_0 0 rfl rfl ?_
  refine Yget C fg6_add_18 dX6_add_1 0 rfl rfl ?_
  refine Yif_lt C 19 dX6_add_4 (by decide) hx (fun _ hx => ?_) (fun _ hx => ?_)
  · skip
    exact Yvret C E dX6_add_19 (ypo hx rfl rfl)
  · skip
    refine Yaload_n C dX6_add_7 0 rfl rfl ?_
    refine Yget C fg6_add_18 dX6_add_8 0 rfl rfl ?_
    refine Yaload_n C dX6_add_11 0 rfl rfl ?_
    refine Yget C fg6_add_9 dX6_add_12 0 rfl rfl ?_
    refine Yalen (v := 124) C dX6_add_15 1 0 rfl rfl rfl ?_
    refine Yicmp_lt C 20 dX6_add_16 (by decide) hx (fun _ hx => ?_) (fun _ hx => ?_)
    · skip
      refine Yaload_n C dX6_add_20 0 rfl rfl ?_
      refine Yget C fg6_add_9 dX6_add_21 0 rfl rfl ?_
      refine Yaload_n C dX6_add_24 0 rfl rfl ?_
      refine Yget C fg6_add_18 dX6_add_25 0 rfl rfl ?_
      refine Yiload_n C dX6_add_28 1 rfl rfl ?_
      refine Yiast (ws' := (w6_add cI cJ cZ cS cT a0 a_steps a_stack v_size v_usesWaited (upd v_steps v_size.toNatClampNeg p1))) C dX6_add_29 hx 1 0 rfl rfl rfl (fun hx => ?_)
      refine Yaload_n C dX6_add_30 0 rfl rfl ?_
      refine Ydup C dX6_add_31 rfl ?_
      refine Yget C fg6_add_18 dX6_add_32 0 rfl rfl ?_
      refine Yiconst C 1 dX6_add_35 (by decide) ?_
      refine Yiadd C dX6_add_36 ?_
      refine Yput (v := .int (v_size + 1)) (ws' := (w6_add cI cJ cZ cS cT a0 a_steps a_stack (v_size + 1) v_usesWaited (upd v_steps v_size.toNatClampNeg p1))) C fp6_add_18 dX6_add_37 0 rfl rfl rfl (Nat.le_of_ble_eq_true rfl) rfl rfl ?_
      refine Yaload_n C dX6_add_40 0 rfl rfl ?_
      refine Yaload_n C dX6_add_41 0 rfl rfl ?_
      refine Yget C fg6_add_22 dX6_add_42 0 rfl rfl ?_
      refine Yif_ne_b C 54 dX6_add_45 (by decide) hx (fun _ hx => ?_) (fun _ hx => ?_)
      · skip
        refine Yiconst C 1 dX6_add_54 (by decide) ?_
        refine Ygoto C 59 dX6_add_55 (by decide) ?_
        refine Yput (v := .int (bI true)) (ws' := (w6_add cI cJ cZ cS cT a0 a_steps a_stack (v_size + 1) true (upd v_steps v_size.toNatClampNeg p1))) C fp6_add_22 dX6_add_59 0 rfl (bI_n true) rfl (Nat.le_of_ble_eq_true rfl) rfl rfl ?_
        exact Yvret C E dX6_add_62 (ypo hx rfl rfl)
      · skip
        refine Yiload_n C dX6_add_48 1 rfl rfl ?_
        refine Ybipush C 9 dX6_add_49 (by decide) ?_
        refine Yicmp_ne C 58 dX6_add_51 (by decide) hx (fun _ hx => ?_) (fun _ hx => ?_)
        · skip
          refine Yiconst C 0 dX6_add_58 (by decide) ?_
          refine Yput (v := .int (bI false)) (ws' := (w6_add cI cJ cZ cS cT a0 a_steps a_stack (v_size + 1) false (upd v_steps v_size.toNatClampNeg p1))) C fp6_add_22 dX6_add_59 0 rfl (bI_n false) rfl (Nat.le_of_ble_eq_true rfl) rfl rfl ?_
          exact Yvret C E dX6_add_62 (ypo hx rfl rfl)
        · skip
          refine Yiconst C 1 dX6_add_54 (by decide) ?_
          refine Ygoto C 59 dX6_add_55 (by decide) ?_
          refine Yput (v := .int (bI true)) (ws' := (w6_add cI cJ cZ cS cT a0 a_steps a_stack (v_size + 1) true (upd v_steps v_size.toNatClampNeg p1))) C fp6_add_22 dX6_add_59 0 rfl (bI_n true) rfl (Nat.le_of_ble_eq_true rfl) rfl rfl ?_
          exact Yvret C E dX6_add_62 (ypo hx rfl rfl)
    · skip
      exact Yvret C E dX6_add_19 (ypo hx rfl rfl)
theorem fg6_leadOn_18 : YF wsX6_leadOn RX6 18 6 2 := ⟨RX6, TX6, 4, rfl, (fun w h => List.mem_cons_of_mem _ (List.mem_append_right _ h)), by decide, List.mem_of_getElem? (i := 1) rfl⟩
theorem fg6_leadOn_9 : YF wsX6_leadOn RX6 9 6 0 := ⟨RX6, TX6, 4, rfl, (fun w h => List.mem_cons_of_mem _ (List.mem_append_right _ h)), by decide, List.mem_of_getElem? (i := 2) rfl⟩
theorem yf6_leadOn : (∃ Ty', wsX6_leadOn = Cond.code yX6_leadOn cX6_leadOn 2 none :: Ty') ∧ (yX6_leadOn.cls ≠ "java/lang/invoke/MethodHandle" ∧ yX6_leadOn.cls ≠ "java/lang/invoke/VarHandle" ∧ (parseMethodDescriptor yX6_leadOn.desc).map (fun d => d.parameters.length) = some 1) := ⟨⟨_, rfl⟩, by decide +kernel, by decide +kernel, by decide +kernel⟩
abbrev w6_leadOn (cI cJ cZ cS cT : ClassId) (a0 a_steps a_stack : Nat) (v_size : Int32) (v_usesWaited : Bool) (v_steps : Nat → Int32) : va_W := [(a0, .inr (6, [.ref a_steps, .ref a_stack, .int v_size, .int (bI v_usesWaited)])), (a_steps, .inl (cI, 124, .inl v_steps))]
def x6_leadOn (v_size : Int32) (v_steps : Nat → Int32) (p1 : Int32) : Option ((Nat → Int32)) :=
  if p1 < 0 then (some (v_steps)) else (if v_size ≤ p1 then (some (v_steps)) else (bif inB p1 124 then (some ((upd v_steps p1.toNatClampNeg (-v_size)))) else none))
set_option maxHeartbeats 4000000 in
set_option maxRecDepth 100000 in
theorem c6_leadOn (l : Launch) (D : yD) (cI cJ cZ cS cT : ClassId) (a0 a_steps a_stack : Nat) (v_size : Int32) (v_usesWaited : Bool) (v_steps : Nat → Int32) (p1 : Int32) (out : (Nat → Int32)) (hx : x6_leadOn v_size v_steps p1 = some out) : MC l D (yT cI cJ cZ cS cT) yX6_leadOn wsX6_leadOn ({ frames := 0, cells := 0, slots := 0, locals := 0 } : Room) (0, 0) [.ref a0, .int p1] (w6_leadOn cI cJ cZ cS cT a0 a_steps a_stack v_size v_usesWaited v_steps) (POd (fun o : (Nat → Int32) => none) (fun (o : (Nat → Int32)) => (w6_leadOn cI cJ cZ cS cT a0 a_steps a_stack v_size v_usesWaited o)) out) := by
  refine MC.intro (cc := cX6_leadOn) (nL := 2) (ret := none) (own := RX6) (lv := [(0, .ref a0), (1, .int p1)]) (by decide) rfl rfl (Nat.le_of_ble_eq_true rfl) rfl (fun X C E => ?_)
  unfold x6_leadOn at hx
  refine Yiload_n C dX6_leadOn_0 1 rfl rfl ?_
  refine Yif_lt C 23 dX6_leadOn_1 (by decide) hx (fun _ hx => ?_) (fun _ hx => ?_)
  · skip
    exact Yvret C E dX6_leadOn_23 (ypo hx rfl rfl)
  · skip
    refine Yiload_n C dX6_leadOn_4 1 rfl rfl ?_
    refine Yaload_n C dX6_leadOn_5 0 rfl rfl ?_
    refine Yget C fg6_leadOn_18 dX6_leadOn_6 0 rfl rfl ?_
    refine Yicmp_ge C 23 dX6_leadOn_9 (by decide) hx (fun _ hx => ?_) (fun _ hx => ?_)
    · skip
      exact Yvret C E dX6_leadOn_23 (ypo hx rfl rfl)
    · skip
      refine Yaload_n C dX6_leadOn_12 0 rfl rfl ?_
      refine Yget C fg6_leadOn_9 dX6_leadOn_13 0 rfl rfl ?_
      refine Yiload_n C dX6_leadOn_16 1 rfl rfl ?_
      refine Yaload_n C dX6_leadOn_17 0 rfl rfl ?_
      refine Yget C fg6_leadOn_18 dX6_leadOn_18 0 rfl rfl ?_
      refine Yineg C dX6_leadOn_21 ?_
      refine Yiast (ws' := (w6_leadOn cI cJ cZ cS cT a0 a_steps a_stack v_size v_usesWaited (upd v_steps p1.toNatClampNeg (-v_size)))) C dX6_leadOn_22 hx 1 0 rfl rfl rfl (fun hx => ?_)
      exact Yvret C E dX6_leadOn_23 (ypo hx rfl rfl)
theorem yf6_joined : (∃ Ty', wsX6_joined = Cond.code yX6_joined cX6_joined 3 (some .int) :: Ty') ∧ (yX6_joined.cls ≠ "java/lang/invoke/MethodHandle" ∧ yX6_joined.cls ≠ "java/lang/invoke/VarHandle" ∧ (parseMethodDescriptor yX6_joined.desc).map (fun d => d.parameters.length) = some 3) := ⟨⟨_, rfl⟩, by decide +kernel, by decide +kernel, by decide +kernel⟩
def x6_joined (p0 : Int32) (p1 : Int32) (p2 : Int32) : Option (Int32) :=
  if p0 = 37 then (if p2 = 0 then (some (0)) else (if p2 = 0 then none else (some ((p1 - p1 / p2 * p2))))) else (if p0 = 38 then (if p1 = 0 then (some (0)) else (if p2 = 0 then (some (0)) else (some (1)))) else (if p0 = 42 then (some ((p1 * p2))) else (if p0 = 43 then (some ((p1 + p2))) else (if p0 = 45 then (some ((p1 - p2))) else (if p0 = 47 then (if p2 = 0 then (some (0)) else (if p2 = 0 then none else (some ((p1 / p2))))) else (if p0 = 60 then (if p2 ≤ p1 then (some (0)) else (some (1))) else (if p0 = 61 then (if p1 = p2 then (some (1)) else (some (0))) else (if p0 = 62 then (if p1 ≤ p2 then (some (0)) else (some (1))) else (if p0 = 124 then (if p1 = 0 then (if p2 = 0 then (some (0)) else (some (1))) else (some (1))) else (some (0)))))))))))
set_option maxHeartbeats 4000000 in
set_option maxRecDepth 100000 in
theorem c6_joined (l : Launch) (D : yD) (cI cJ cZ cS cT : ClassId) (p0 : Int32) (p1 : Int32) (p2 : Int32) (out : Int32) (hx : x6_joined p0 p1 p2 = some out) : MC l D (yT cI cJ cZ cS cT) yX6_joined wsX6_joined ({ frames := 0, cells := 0, slots := 0, locals := 0 } : Room) (0, 0) [.int p0, .int p1, .int p2] ([] : va_W) (POd (fun o : Int32 => some (.int o)) (fun (o : Int32) => ([] : va_W)) out) := by
  refine MC.intro (cc := cX6_joined) (nL := 3) (ret := (some .int)) (own := RX6) (lv := [(0, .int p0), (1, .int p1), (2, .int p2)]) (by decide) rfl rfl (Nat.le_of_ble_eq_true rfl) rfl (fun X C E => ?_)
  unfold x6_joined at hx
  refine Yiload_n C dX6_joined_0 0 rfl rfl ?_
  refine yite hx (fun hq hx => ?_) (fun hq0 hx => ?_)
  · skip
    refine Ylook (off := 176) C 177 dX6_joined_1 (by decide) (by rw [hq]; decide) (by decide) ?_
    refine Yiload_n C dX6_joined_177 2 rfl rfl ?_
    refine Yif_ne C 185 dX6_joined_178 (by decide) hx (fun _ hx => ?_) (fun _ hx => ?_)
    · skip
      refine Yiload_n C dX6_joined_185 1 rfl rfl ?_
      refine Yiload_n C dX6_joined_186 2 rfl rfl ?_
      refine yite hx (fun _ hx => by cases hx) (fun hne hx => ?_)
      refine Yirem C dX6_joined_187 hne ?_
      exact Yiret C E dX6_joined_188 (ypo hx rfl rfl)
    · skip
      refine Yiconst C 0 dX6_joined_181 (by decide) ?_
      refine Ygoto C 188 dX6_joined_182 (by decide) ?_
      exact Yiret C E dX6_joined_188 (ypo hx rfl rfl)
  refine yite hx (fun hq hx => ?_) (fun hq1 hx => ?_)
  · skip
    refine Ylook (off := 105) C 106 dX6_joined_1 (by decide) (by rw [hq]; decide) (by decide) ?_
    refine Yiload_n C dX6_joined_106 1 rfl rfl ?_
    refine Yif_eq C 118 dX6_joined_107 (by decide) hx (fun _ hx => ?_) (fun _ hx => ?_)
    · skip
      refine Yiconst C 0 dX6_joined_118 (by decide) ?_
      exact Yiret C E dX6_joined_119 (ypo hx rfl rfl)
    · skip
      refine Yiload_n C dX6_joined_110 2 rfl rfl ?_
      refine Yif_eq C 118 dX6_joined_111 (by decide) hx (fun _ hx => ?_) (fun _ hx => ?_)
      · skip
        refine Yiconst C 0 dX6_joined_118 (by decide) ?_
        exact Yiret C E dX6_joined_119 (ypo hx rfl rfl)
      · skip
        refine Yiconst C 1 dX6_joined_114 (by decide) ?_
        refine Ygoto C 119 dX6_joined_115 (by decide) ?_
        exact Yiret C E dX6_joined_119 (ypo hx rfl rfl)
  refine yite hx (fun hq hx => ?_) (fun hq2 hx => ?_)
  · skip
    refine Ylook (off := 160) C 161 dX6_joined_1 (by decide) (by rw [hq]; decide) (by decide) ?_
    refine Yiload_n C dX6_joined_161 1 rfl rfl ?_
    refine Yiload_n C dX6_joined_162 2 rfl rfl ?_
    refine Yimul C dX6_joined_163 ?_
    exact Yiret C E dX6_joined_164 (ypo hx rfl rfl)
  refine yite hx (fun hq hx => ?_) (fun hq3 hx => ?_)
  · skip
    refine Ylook (off := 152) C 153 dX6_joined_1 (by decide) (by rw [hq]; decide) (by decide) ?_
    refine Yiload_n C dX6_joined_153 1 rfl rfl ?_
    refine Yiload_n C dX6_joined_154 2 rfl rfl ?_
    refine Yiadd C dX6_joined_155 ?_
    exact Yiret C E dX6_joined_156 (ypo hx rfl rfl)
  refine yite hx (fun hq hx => ?_) (fun hq4 hx => ?_)
  · skip
    refine Ylook (off := 156) C 157 dX6_joined_1 (by decide) (by rw [hq]; decide) (by decide) ?_
    refine Yiload_n C dX6_joined_157 1 rfl rfl ?_
    refine Yiload_n C dX6_joined_158 2 rfl rfl ?_
    refine Yisub C dX6_joined_159 ?_
    exact Yiret C E dX6_joined_160 (ypo hx rfl rfl)
  refine yite hx (fun hq hx => ?_) (fun hq5 hx => ?_)
  · skip
    refine Ylook (off := 164) C 165 dX6_joined_1 (by decide) (by rw [hq]; decide) (by decide) ?_
    refine Yiload_n C dX6_joined_165 2 rfl rfl ?_
    refine Yif_ne C 173 dX6_joined_166 (by decide) hx (fun _ hx => ?_) (fun _ hx => ?_)
    · skip
      refine Yiload_n C dX6_joined_173 1 rfl rfl ?_
      refine Yiload_n C dX6_joined_174 2 rfl rfl ?_
      refine yite hx (fun _ hx => by cases hx) (fun hne hx => ?_)
      refine Yidiv C dX6_joined_175 hne ?_
      exact Yiret C E dX6_joined_176 (ypo hx rfl rfl)
    · skip
      refine Yiconst C 0 dX6_joined_169 (by decide) ?_
      refine Ygoto C 176 dX6_joined_170 (by decide) ?_
      exact Yiret C E dX6_joined_176 (ypo hx rfl rfl)
  refine yite hx (fun hq hx => ?_) (fun hq6 hx => ?_)
  · skip
    refine Ylook (off := 119) C 120 dX6_joined_1 (by decide) (by rw [hq]; decide) (by decide) ?_
    refine Yiload_n C dX6_joined_120 1 rfl rfl ?_
    refine Yiload_n C dX6_joined_121 2 rfl rfl ?_
    refine Yicmp_ge C 129 dX6_joined_122 (by decide) hx (fun _ hx => ?_) (fun _ hx => ?_)
    · skip
      refine Yiconst C 0 dX6_joined_129 (by decide) ?_
      exact Yiret C E dX6_joined_130 (ypo hx rfl rfl)
    · skip
      refine Yiconst C 1 dX6_joined_125 (by decide) ?_
      refine Ygoto C 130 dX6_joined_126 (by decide) ?_
      exact Yiret C E dX6_joined_130 (ypo hx rfl rfl)
  refine yite hx (fun hq hx => ?_) (fun hq7 hx => ?_)
  · skip
    refine Ylook (off := 130) C 131 dX6_joined_1 (by decide) (by rw [hq]; decide) (by decide) ?_
    refine Yiload_n C dX6_joined_131 1 rfl rfl ?_
    refine Yiload_n C dX6_joined_132 2 rfl rfl ?_
    refine Yicmp_ne C 140 dX6_joined_133 (by decide) hx (fun _ hx => ?_) (fun _ hx => ?_)
    · skip
      refine Yiconst C 0 dX6_joined_140 (by decide) ?_
      exact Yiret C E dX6_joined_141 (ypo hx rfl rfl)
    · skip
      refine Yiconst C 1 dX6_joined_136 (by decide) ?_
      refine Ygoto C 141 dX6_joined_137 (by decide) ?_
      exact Yiret C E dX6_joined_141 (ypo hx rfl rfl)
  refine yite hx (fun hq hx => ?_) (fun hq8 hx => ?_)
  · skip
    refine Ylook (off := 141) C 142 dX6_joined_1 (by decide) (by rw [hq]; decide) (by decide) ?_
    refine Yiload_n C dX6_joined_142 1 rfl rfl ?_
    refine Yiload_n C dX6_joined_143 2 rfl rfl ?_
    refine Yicmp_le C 151 dX6_joined_144 (by decide) hx (fun _ hx => ?_) (fun _ hx => ?_)
    · skip
      refine Yiconst C 0 dX6_joined_151 (by decide) ?_
      exact Yiret C E dX6_joined_152 (ypo hx rfl rfl)
    · skip
      refine Yiconst C 1 dX6_joined_147 (by decide) ?_
      refine Ygoto C 152 dX6_joined_148 (by decide) ?_
      exact Yiret C E dX6_joined_152 (ypo hx rfl rfl)
  refine yite hx (fun hq hx => ?_) (fun hq9 hx => ?_)
  · skip
    refine Ylook (off := 91) C 92 dX6_joined_1 (by decide) (by rw [hq]; decide) (by decide) ?_
    refine Yiload_n C dX6_joined_92 1 rfl rfl ?_
    refine Yif_ne C 100 dX6_joined_93 (by decide) hx (fun _ hx => ?_) (fun _ hx => ?_)
    · skip
      refine Yiconst C 1 dX6_joined_100 (by decide) ?_
      refine Ygoto C 105 dX6_joined_101 (by decide) ?_
      exact Yiret C E dX6_joined_105 (ypo hx rfl rfl)
    · skip
      refine Yiload_n C dX6_joined_96 2 rfl rfl ?_
      refine Yif_eq C 104 dX6_joined_97 (by decide) hx (fun _ hx => ?_) (fun _ hx => ?_)
      · skip
        refine Yiconst C 0 dX6_joined_104 (by decide) ?_
        exact Yiret C E dX6_joined_105 (ypo hx rfl rfl)
      · skip
        refine Yiconst C 1 dX6_joined_100 (by decide) ?_
        refine Ygoto C 105 dX6_joined_101 (by decide) ?_
        exact Yiret C E dX6_joined_105 (ypo hx rfl rfl)
  refine Ylook (off := 188) C 189 dX6_joined_1 (by decide) (by have e0 : p0.toInt ≠ 37 := ne_toInt hq0; have e1 : p0.toInt ≠ 38 := ne_toInt hq1; have e2 : p0.toInt ≠ 42 := ne_toInt hq2; have e3 : p0.toInt ≠ 43 := ne_toInt hq3; have e4 : p0.toInt ≠ 45 := ne_toInt hq4; have e5 : p0.toInt ≠ 47 := ne_toInt hq5; have e6 : p0.toInt ≠ 60 := ne_toInt hq6; have e7 : p0.toInt ≠ 61 := ne_toInt hq7; have e8 : p0.toInt ≠ 62 := ne_toInt hq8; have e9 : p0.toInt ≠ 124 := ne_toInt hq9; simp [Op.lookupswitch.offset, e0, e1, e2, e3, e4, e5, e6, e7, e8, e9, e0.symm, e1.symm, e2.symm, e3.symm, e4.symm, e5.symm, e6.symm, e7.symm, e8.symm, e9.symm]) (by decide) ?_
  refine Yiconst C 0 dX6_joined_189 (by decide) ?_
  exact Yiret C E dX6_joined_190 (ypo hx rfl rfl)
theorem fg6_worth_15 : YF wsX6_worth RX6 15 6 1 := ⟨RX6, TX6, 4, rfl, (fun w h => List.mem_cons_of_mem _ (List.mem_append_right _ h)), by decide, List.mem_of_getElem? (i := 3) rfl⟩
theorem fg6_worth_18 : YF wsX6_worth RX6 18 6 2 := ⟨RX6, TX6, 4, rfl, (fun w h => List.mem_cons_of_mem _ (List.mem_append_right _ h)), by decide, List.mem_of_getElem? (i := 1) rfl⟩
theorem fg6_worth_9 : YF wsX6_worth RX6 9 6 0 := ⟨RX6, TX6, 4, rfl, (fun w h => List.mem_cons_of_mem _ (List.mem_append_right _ h)), by decide, List.mem_of_getElem? (i := 2) rfl⟩
theorem yf6_worth : (∃ Ty', wsX6_worth = Cond.code yX6_worth cX6_worth 5 (some .int) :: Ty') ∧ (yX6_worth.cls ≠ "java/lang/invoke/MethodHandle" ∧ yX6_worth.cls ≠ "java/lang/invoke/VarHandle" ∧ (parseMethodDescriptor yX6_worth.desc).map (fun d => d.parameters.length) = some 1) := ⟨⟨_, rfl⟩, by decide +kernel, by decide +kernel, by decide +kernel⟩
abbrev w6_worth (cI cJ cZ cS cT : ClassId) (a0 a_p1 a_stack a_steps : Nat) (v_size : Int32) (v_usesWaited : Bool) (v_stack : Nat → Int32) (v_steps : Nat → Int32) (v_p1 : Nat → Int32) : va_W := [(a0, .inr (6, [.ref a_steps, .ref a_stack, .int v_size, .int (bI v_usesWaited)])), (a_stack, .inl (cI, 64, .inl v_stack)), (a_steps, .inl (cI, 124, .inl v_steps)), (a_p1, .inl (cI, 10, .inl v_p1))]
def x6_worth_268 (k4 : (Nat → Int32) → Int32 → Int32 → Option (Int32 × (Nat → Int32))) (v_size : Int32) (v_steps : Nat → Int32) (v_p1 : Nat → Int32) (v_stack : Nat → Int32) (l2 : Int32) (l3 : Int32) : Option (Int32 × (Nat → Int32)) :=
  k4 v_stack l2 (l3 + 1)
def x6_worth_101 (k4 : (Nat → Int32) → Int32 → Int32 → Option (Int32 × (Nat → Int32))) (v_size : Int32) (v_steps : Nat → Int32) (v_p1 : Nat → Int32) (v_stack : Nat → Int32) (l2 : Int32) (l3 : Int32) (t1 : Int32) (t2 : Int32) : Option (Int32 × (Nat → Int32)) :=
  bif inB t1 64 then (x6_worth_268 k4 v_size v_steps v_p1 (upd v_stack t1.toNatClampNeg t2) (l2 + 1) l3) else none
def x6_worth_75 (k4 : (Nat → Int32) → Int32 → Int32 → Option (Int32 × (Nat → Int32))) (v_size : Int32) (v_steps : Nat → Int32) (v_p1 : Nat → Int32) (v_stack : Nat → Int32) (l2 : Int32) (l3 : Int32) (l4 : Int32) : Option (Int32 × (Nat → Int32)) :=
  if l4 < 1000 then (bif inB l4 10 then (x6_worth_101 k4 v_size v_steps v_p1 v_stack l2 l3 l2 (v_p1 l4.toNatClampNeg)) else none) else (x6_worth_101 k4 v_size v_steps v_p1 v_stack l2 l3 l2 (l4 - 1000))
def x6_worth_49 (k4 : (Nat → Int32) → Int32 → Int32 → Option (Int32 × (Nat → Int32))) (v_size : Int32) (v_steps : Nat → Int32) (v_p1 : Nat → Int32) (v_stack : Nat → Int32) (l2 : Int32) (l3 : Int32) (l4 : Int32) : Option (Int32 × (Nat → Int32)) :=
  if 64 ≤ l2 then (some (0, v_stack)) else (if 1000 ≤ l4 then (x6_worth_75 k4 v_size v_steps v_p1 v_stack l2 l3 l4) else (if l4 < 10 then (x6_worth_75 k4 v_size v_steps v_p1 v_stack l2 l3 l4) else (some (0, v_stack))))
def x6_worth_227 (k4 : (Nat → Int32) → Int32 → Int32 → Option (Int32 × (Nat → Int32))) (v_size : Int32) (v_steps : Nat → Int32) (v_p1 : Nat → Int32) (v_stack : Nat → Int32) (l2 : Int32) (l3 : Int32) (t1 : Int32) (t2 : Int32) : Option (Int32 × (Nat → Int32)) :=
  bif inB t1 64 then (x6_worth_268 k4 v_size v_steps v_p1 (upd v_stack t1.toNatClampNeg t2) l2 l3) else none
def x6_worth_108 (k4 : (Nat → Int32) → Int32 → Int32 → Option (Int32 × (Nat → Int32))) (v_size : Int32) (v_steps : Nat → Int32) (v_p1 : Nat → Int32) (v_stack : Nat → Int32) (l2 : Int32) (l3 : Int32) (l4 : Int32) : Option (Int32 × (Nat → Int32)) :=
  if l2 < 1 then (some (0, v_stack)) else (if l2 ≤ 64 then (if l4 = 59 then (bif inB (l2 - 1) 64 then (some ((v_stack (l2 - 1).toNatClampNeg), v_stack)) else none) else (if 0 ≤ l4 then (if l4 = 126 then (bif inB (l2 - 1) 64 then (bif inB (l2 - 1) 64 then (x6_worth_268 k4 v_size v_steps v_p1 (upd v_stack (l2 - 1).toNatClampNeg (-(v_stack (l2 - 1).toNatClampNeg))) l2 l3) else none) else none) else (if l4 = 33 then (bif inB (l2 - 1) 64 then (if (v_stack (l2 - 1).toNatClampNeg) = 0 then (x6_worth_227 k4 v_size v_steps v_p1 v_stack l2 l3 (l2 - 1) 1) else (x6_worth_227 k4 v_size v_steps v_p1 v_stack l2 l3 (l2 - 1) 0)) else none) else (if 2 ≤ l2 then (bif inB ((l2 + (-1)) - 1) 64 then (bif inB (l2 + (-1)) 64 then ((x6_joined l4 (v_stack ((l2 + (-1)) - 1).toNatClampNeg) (v_stack (l2 + (-1)).toNatClampNeg)).bind fun o1 => bif inB ((l2 + (-1)) - 1) 64 then (x6_worth_268 k4 v_size v_steps v_p1 (upd v_stack ((l2 + (-1)) - 1).toNatClampNeg o1) (l2 + (-1)) l3) else none) else none) else none) else (some (0, v_stack))))) else (bif inB (l2 + (-1)) 64 then (if (v_stack (l2 + (-1)).toNatClampNeg) = 0 then (x6_worth_268 k4 v_size v_steps v_p1 v_stack (l2 + (-1)) (if l3 < ((-l4) - 1) then ((-l4) - 1) else l3)) else (x6_worth_268 k4 v_size v_steps v_p1 v_stack (l2 + (-1)) l3)) else none))) else (some (0, v_stack)))
def x6_worth_4  (v_size : Int32) (v_steps : Nat → Int32) (v_p1 : Nat → Int32) : Nat → (Nat → Int32) → Int32 → Int32 → Option (Int32 × (Nat → Int32))
  | 0, _, _, _ => none
  | n + 1, v_stack, l2, l3 =>
    if v_size ≤ l3 then (some (0, v_stack)) else (if 124 ≤ l3 then (some (0, v_stack)) else (bif inB l3 124 then (if 1000 ≤ (v_steps l3.toNatClampNeg) then (x6_worth_49 (fun z0 z1 z2 => x6_worth_4 v_size v_steps v_p1 n z0 z1 z2) v_size v_steps v_p1 v_stack l2 l3 (v_steps l3.toNatClampNeg)) else (if (v_steps l3.toNatClampNeg) < 0 then (x6_worth_108 (fun z0 z1 z2 => x6_worth_4 v_size v_steps v_p1 n z0 z1 z2) v_size v_steps v_p1 v_stack l2 l3 (v_steps l3.toNatClampNeg)) else (if 10 ≤ (v_steps l3.toNatClampNeg) then (x6_worth_108 (fun z0 z1 z2 => x6_worth_4 v_size v_steps v_p1 n z0 z1 z2) v_size v_steps v_p1 v_stack l2 l3 (v_steps l3.toNatClampNeg)) else (x6_worth_49 (fun z0 z1 z2 => x6_worth_4 v_size v_steps v_p1 n z0 z1 z2) v_size v_steps v_p1 v_stack l2 l3 (v_steps l3.toNatClampNeg))))) else none))
def x6_worth (v_size : Int32) (v_stack : Nat → Int32) (v_steps : Nat → Int32) (v_p1 : Nat → Int32) : Option (Int32 × (Nat → Int32)) :=
  x6_worth_4  v_size v_steps v_p1 yN v_stack 0 0
set_option maxHeartbeats 4000000 in
set_option maxRecDepth 100000 in
theorem c6_worth (l : Launch) (D : yD) (cI cJ cZ cS cT : ClassId) (a0 a_p1 a_stack a_steps : Nat) (v_size : Int32) (v_usesWaited : Bool) (v_stack : Nat → Int32) (v_steps : Nat → Int32) (v_p1 : Nat → Int32) (out : Int32 × (Nat → Int32)) (hx : x6_worth v_size v_stack v_steps v_p1 = some out) : MC l D (yT cI cJ cZ cS cT) yX6_worth wsX6_worth ({ frames := 1, cells := 0, slots := 0, locals := 23 } : Room) (0, 0) [.ref a0, .ref a_p1] (w6_worth cI cJ cZ cS cT a0 a_p1 a_stack a_steps v_size v_usesWaited v_stack v_steps v_p1) (POd (fun o : Int32 × (Nat → Int32) => some (.int o.1)) (fun (o : Int32 × (Nat → Int32)) => (w6_worth cI cJ cZ cS cT a0 a_p1 a_stack a_steps v_size v_usesWaited o.2 v_steps v_p1)) out) := by
  refine MC.intro (cc := cX6_worth) (nL := 5) (ret := (some .int)) (own := RX6) (lv := [(0, .ref a0), (1, .ref a_p1)]) (by decide) rfl rfl (Nat.le_of_ble_eq_true rfl) rfl (fun X C E => ?_)
  unfold x6_worth at hx
  have b4 : ∀ (n4 : Nat) (v_stack : Nat → Int32) (l2 : Int32) (l3 : Int32), x6_worth_4  v_size v_steps v_p1 n4 v_stack l2 l3 = some out → Y X (0, 0) (w6_worth cI cJ cZ cS cT a0 a_p1 a_stack a_steps v_size v_usesWaited v_stack v_steps v_p1) [(0, .ref a0), (1, .ref a_p1), (2, .int l2), (3, .int l3)] 4 [] := by
    intro n4
    induction n4 with
    | zero =>
      intro v_stack l2 l3  hx
      rw [x6_worth_4] at hx
      cases hx
    | succ n4 ih4 =>
      intro v_stack l2 l3  hx
      rw [x6_worth_4] at hx
      have b268 : ∀  (v_stack : Nat → Int32) (l2 : Int32) (l3 : Int32), x6_worth_268 (fun z0 z1 z2 => x6_worth_4 v_size v_steps v_p1 n4 z0 z1 z2) v_size v_steps v_p1 v_stack l2 l3 = some out → Y X (0, 0) (w6_worth cI cJ cZ cS cT a0 a_p1 a_stack a_steps v_size v_usesWaited v_stack v_steps v_p1) [(0, .ref a0), (1, .ref a_p1), (2, .int l2), (3, .int l3)] 268 [] := by
        intro  v_stack l2 l3  hx
        unfold x6_worth_268 at hx
        refine Yiinc (v := l3 + 1) (lv' := [(0, .ref a0), (1, .ref a_p1), (2, .int l2), (3, .int (l3 + 1))]) C dX6_worth_268 3 rfl rfl (by decide) rfl ?_
        refine Ygoto C 4 dX6_worth_271 (by decide) ?_
        exact ih4 v_stack l2 (l3 + 1) hx
      have b49 : ∀  (v_stack : Nat → Int32) (l2 : Int32) (l3 : Int32) (l4 : Int32), x6_worth_49 (fun z0 z1 z2 => x6_worth_4 v_size v_steps v_p1 n4 z0 z1 z2) v_size v_steps v_p1 v_stack l2 l3 l4 = some out → Y X (0, 0) (w6_worth cI cJ cZ cS cT a0 a_p1 a_stack a_steps v_size v_usesWaited v_stack v_steps v_p1) [(0, .ref a0), (1, .ref a_p1), (2, .int l2), (3, .int l3), (4, .int l4)] 49 [] := by
        intro  v_stack l2 l3 l4  hx
        unfold x6_worth_49 at hx
        have b75 : ∀  (v_stack : Nat → Int32) (l2 : Int32) (l3 : Int32) (l4 : Int32), x6_worth_75 (fun z0 z1 z2 => x6_worth_4 v_size v_steps v_p1 n4 z0 z1 z2) v_size v_steps v_p1 v_stack l2 l3 l4 = some out → Y X (0, 0) (w6_worth cI cJ cZ cS cT a0 a_p1 a_stack a_steps v_size v_usesWaited v_stack v_steps v_p1) [(0, .ref a0), (1, .ref a_p1), (2, .int l2), (3, .int l3), (4, .int l4)] 75 [] := by
          intro  v_stack l2 l3 l4  hx
          unfold x6_worth_75 at hx
          have b101 : ∀  (v_stack : Nat → Int32) (l2 : Int32) (l3 : Int32) (t1 : Int32) (t2 : Int32), x6_worth_101 (fun z0 z1 z2 => x6_worth_4 v_size v_steps v_p1 n4 z0 z1 z2) v_size v_steps v_p1 v_stack l2 l3 t1 t2 = some out → Y X (0, 0) (w6_worth cI cJ cZ cS cT a0 a_p1 a_stack a_steps v_size v_usesWaited v_stack v_steps v_p1) [(0, .ref a0), (1, .ref a_p1), (2, .int l2), (3, .int l3)] 101 [.int t2, .int t1, .ref a_stack] := by
            intro  v_stack l2 l3 t1 t2  hx
            unfold x6_worth_101 at hx
            refine Yiast (ws' := (w6_worth cI cJ cZ cS cT a0 a_p1 a_stack a_steps v_size v_usesWaited (upd v_stack t1.toNatClampNeg t2) v_steps v_p1)) C dX6_worth_101 hx 1 0 rfl rfl rfl (fun hx => ?_)
            refine Yiinc (v := l2 + 1) (lv' := [(0, .ref a0), (1, .ref a_p1), (2, .int (l2 + 1)), (3, .int l3)]) C dX6_worth_102 2 rfl rfl (by decide) rfl ?_
            refine Ygoto C 268 dX6_worth_105 (by decide) ?_
            exact b268  (upd v_stack t1.toNatClampNeg t2) (l2 + 1) l3 hx
          refine Yaload_n C dX6_worth_75 0 rfl rfl ?_
          refine Yget C fg6_worth_15 dX6_worth_76 0 rfl rfl ?_
          refine Yiload_n C dX6_worth_79 2 rfl rfl ?_
          refine Yiload C dX6_worth_80 4 rfl ?_
          refine Ysipush C 1000 dX6_worth_82 (by decide) ?_
          refine Yicmp_lt C 97 dX6_worth_85 (by decide) hx (fun _ hx => ?_) (fun _ hx => ?_)
          · skip
            refine Yaload_n C dX6_worth_97 1 rfl rfl ?_
            refine Yiload C dX6_worth_98 4 rfl ?_
            refine Yiald C dX6_worth_100 hx 3 0 rfl rfl (fun hx => ?_)
            exact Yjmp C [0, 1, 2, 3] rfl (b101  v_stack l2 l3 l2 (v_p1 l4.toNatClampNeg) hx)
          · skip
            refine Yiload C dX6_worth_88 4 rfl ?_
            refine Ysipush C 1000 dX6_worth_90 (by decide) ?_
            refine Yisub C dX6_worth_93 ?_
            refine Ygoto C 101 dX6_worth_94 (by decide) ?_
            exact Yjmp C [0, 1, 2, 3] rfl (b101  v_stack l2 l3 l2 (l4 - 1000) hx)
        refine Yiload_n C dX6_worth_49 2 rfl rfl ?_
        refine Yaload_n C dX6_worth_50 0 rfl rfl ?_
        refine Yget C fg6_worth_15 dX6_worth_51 0 rfl rfl ?_
        refine Yalen (v := 64) C dX6_worth_54 1 0 rfl rfl rfl ?_
        refine Yicmp_ge C 73 dX6_worth_55 (by decide) hx (fun _ hx => ?_) (fun _ hx => ?_)
        · skip
          refine Yiconst C 0 dX6_worth_73 (by decide) ?_
          exact Yiret C E dX6_worth_74 (ypo hx rfl rfl)
        · skip
          refine Yiload C dX6_worth_58 4 rfl ?_
          refine Ysipush C 1000 dX6_worth_60 (by decide) ?_
          refine Yicmp_ge C 75 dX6_worth_63 (by decide) hx (fun _ hx => ?_) (fun _ hx => ?_)
          · skip
            exact b75  v_stack l2 l3 l4 hx
          · skip
            refine Yiload C dX6_worth_66 4 rfl ?_
            refine Yaload_n C dX6_worth_68 1 rfl rfl ?_
            refine Yalen (v := 10) C dX6_worth_69 3 0 rfl rfl rfl ?_
            refine Yicmp_lt C 75 dX6_worth_70 (by decide) hx (fun _ hx => ?_) (fun _ hx => ?_)
            · skip
              exact b75  v_stack l2 l3 l4 hx
            · skip
              refine Yiconst C 0 dX6_worth_73 (by decide) ?_
              exact Yiret C E dX6_worth_74 (ypo hx rfl rfl)
      have b108 : ∀  (v_stack : Nat → Int32) (l2 : Int32) (l3 : Int32) (l4 : Int32), x6_worth_108 (fun z0 z1 z2 => x6_worth_4 v_size v_steps v_p1 n4 z0 z1 z2) v_size v_steps v_p1 v_stack l2 l3 l4 = some out → Y X (0, 0) (w6_worth cI cJ cZ cS cT a0 a_p1 a_stack a_steps v_size v_usesWaited v_stack v_steps v_p1) [(0, .ref a0), (1, .ref a_p1), (2, .int l2), (3, .int l3), (4, .int l4)] 108 [] := by
        intro  v_stack l2 l3 l4  hx
        unfold x6_worth_108 at hx
        have b227 : ∀  (v_stack : Nat → Int32) (l2 : Int32) (l3 : Int32) (t1 : Int32) (t2 : Int32), x6_worth_227 (fun z0 z1 z2 => x6_worth_4 v_size v_steps v_p1 n4 z0 z1 z2) v_size v_steps v_p1 v_stack l2 l3 t1 t2 = some out → Y X (0, 0) (w6_worth cI cJ cZ cS cT a0 a_p1 a_stack a_steps v_size v_usesWaited v_stack v_steps v_p1) [(0, .ref a0), (1, .ref a_p1), (2, .int l2), (3, .int l3)] 227 [.int t2, .int t1, .ref a_stack] := by
          intro  v_stack l2 l3 t1 t2  hx
          unfold x6_worth_227 at hx
          refine Yiast (ws' := (w6_worth cI cJ cZ cS cT a0 a_p1 a_stack a_steps v_size v_usesWaited (upd v_stack t1.toNatClampNeg t2) v_steps v_p1)) C dX6_worth_227 hx 1 0 rfl rfl rfl (fun hx => ?_)
          refine Ygoto C 268 dX6_worth_228 (by decide) ?_
          exact b268  (upd v_stack t1.toNatClampNeg t2) l2 l3 hx
        refine Yiload_n C dX6_worth_108 2 rfl rfl ?_
        refine Yiconst C 1 dX6_worth_109 (by decide) ?_
        refine Yicmp_lt C 122 dX6_worth_110 (by decide) hx (fun _ hx => ?_) (fun _ hx => ?_)
        · skip
          refine Yiconst C 0 dX6_worth_122 (by decide) ?_
          exact Yiret C E dX6_worth_123 (ypo hx rfl rfl)
        · skip
          refine Yiload_n C dX6_worth_113 2 rfl rfl ?_
          refine Yaload_n C dX6_worth_114 0 rfl rfl ?_
          refine Yget C fg6_worth_15 dX6_worth_115 0 rfl rfl ?_
          refine Yalen (v := 64) C dX6_worth_118 1 0 rfl rfl rfl ?_
          refine Yicmp_le C 124 dX6_worth_119 (by decide) hx (fun _ hx => ?_) (fun _ hx => ?_)
          · skip
            refine Yiload C dX6_worth_124 4 rfl ?_
            refine Ybipush C 59 dX6_worth_126 (by decide) ?_
            refine Yicmp_ne C 140 dX6_worth_128 (by decide) hx (fun _ hx => ?_) (fun _ hx => ?_)
            · skip
              refine Yiload C dX6_worth_140 4 rfl ?_
              refine Yif_ge C 170 dX6_worth_142 (by decide) hx (fun _ hx => ?_) (fun _ hx => ?_)
              · skip
                refine Yiload C dX6_worth_170 4 rfl ?_
                refine Ybipush C 126 dX6_worth_172 (by decide) ?_
                refine Yicmp_ne C 197 dX6_worth_174 (by decide) hx (fun _ hx => ?_) (fun _ hx => ?_)
                · skip
                  refine Yiload C dX6_worth_197 4 rfl ?_
                  refine Ybipush C 33 dX6_worth_199 (by decide) ?_
                  refine Yicmp_ne C 231 dX6_worth_201 (by decide) hx (fun _ hx => ?_) (fun _ hx => ?_)
                  · skip
                    refine Yiload_n C dX6_worth_231 2 rfl rfl ?_
                    refine Yiconst C 2 dX6_worth_232 (by decide) ?_
                    refine Yicmp_ge C 238 dX6_worth_233 (by decide) hx (fun _ hx => ?_) (fun _ hx => ?_)
                    · skip
                      refine Yiinc (v := l2 + (-1)) (lv' := [(0, .ref a0), (1, .ref a_p1), (2, .int (l2 + (-1))), (3, .int l3), (4, .int l4)]) C dX6_worth_238 2 rfl rfl (by decide) rfl ?_
                      refine Yaload_n C dX6_worth_241 0 rfl rfl ?_
                      refine Yget C fg6_worth_15 dX6_worth_242 0 rfl rfl ?_
                      refine Yiload_n C dX6_worth_245 2 rfl rfl ?_
                      refine Yiconst C 1 dX6_worth_246 (by decide) ?_
                      refine Yisub C dX6_worth_247 ?_
                      refine Yiload C dX6_worth_248 4 rfl ?_
                      refine Yaload_n C dX6_worth_250 0 rfl rfl ?_
                      refine Yget C fg6_worth_15 dX6_worth_251 0 rfl rfl ?_
                      refine Yiload_n C dX6_worth_254 2 rfl rfl ?_
                      refine Yiconst C 1 dX6_worth_255 (by decide) ?_
                      refine Yisub C dX6_worth_256 ?_
                      refine Yiald C dX6_worth_257 hx 1 0 rfl rfl (fun hx => ?_)
                      refine Yaload_n C dX6_worth_258 0 rfl rfl ?_
                      refine Yget C fg6_worth_15 dX6_worth_259 0 rfl rfl ?_
                      refine Yiload_n C dX6_worth_262 2 rfl rfl ?_
                      refine Yiald C dX6_worth_263 hx 1 0 rfl rfl (fun hx => ?_)
                      obtain ⟨o1, ho1, hx⟩ := ybnd hx
                      refine YcallSd (ws' := (w6_worth cI cJ cZ cS cT a0 a_p1 a_stack a_steps v_size v_usesWaited v_stack v_steps v_p1)) (st' := [.int o1, .int ((l2 + (-1)) - 1), .ref a_stack]) (st := [.int ((l2 + (-1)) - 1), .ref a_stack]) (as := [.int l4, .int (v_stack ((l2 + (-1)) - 1).toNatClampNeg), .int (v_stack (l2 + (-1)).toNatClampNeg)]) C [] [0, 1, 2, 3] 4 dX6_worth_264 (c6_joined l D cI cJ cZ cS cT l4 (v_stack ((l2 + (-1)) - 1).toNatClampNeg) (v_stack (l2 + (-1)).toNatClampNeg) o1 ho1) gX6_worth_X6_joined rfl ⟨yf6_joined.1, yf6_joined.2, Nat.le_of_ble_eq_true rfl, Nat.le_of_ble_eq_true rfl, rfl, rfl⟩ (by decide) ⟨Nat.zero_le _, Nat.zero_le _⟩ (Nat.le_of_ble_eq_true rfl) trivial rfl rfl (by decide) (by decide) trivial [(a0, .inr (6, [.ref a_steps, .ref a_stack, .int v_size, .int (bI v_usesWaited)])), (a_stack, .inl (cI, 64, .inl v_stack)), (a_steps, .inl (cI, 124, .inl v_steps)), (a_p1, .inl (cI, 10, .inl v_p1))] ⟨rfl, rfl, rfl, rfl, trivial⟩ ⟨rfl, rfl, rfl, rfl, trivial⟩ rfl ?_
                      refine Yiast (ws' := (w6_worth cI cJ cZ cS cT a0 a_p1 a_stack a_steps v_size v_usesWaited (upd v_stack ((l2 + (-1)) - 1).toNatClampNeg o1) v_steps v_p1)) C dX6_worth_267 hx 1 0 rfl rfl rfl (fun hx => ?_)
                      exact Yjmp C [0, 1, 2, 3] rfl (b268  (upd v_stack ((l2 + (-1)) - 1).toNatClampNeg o1) (l2 + (-1)) l3 hx)
                    · skip
                      refine Yiconst C 0 dX6_worth_236 (by decide) ?_
                      exact Yiret C E dX6_worth_237 (ypo hx rfl rfl)
                  · skip
                    refine Yaload_n C dX6_worth_204 0 rfl rfl ?_
                    refine Yget C fg6_worth_15 dX6_worth_205 0 rfl rfl ?_
                    refine Yiload_n C dX6_worth_208 2 rfl rfl ?_
                    refine Yiconst C 1 dX6_worth_209 (by decide) ?_
                    refine Yisub C dX6_worth_210 ?_
                    refine Yaload_n C dX6_worth_211 0 rfl rfl ?_
                    refine Yget C fg6_worth_15 dX6_worth_212 0 rfl rfl ?_
                    refine Yiload_n C dX6_worth_215 2 rfl rfl ?_
                    refine Yiconst C 1 dX6_worth_216 (by decide) ?_
                    refine Yisub C dX6_worth_217 ?_
                    refine Yiald C dX6_worth_218 hx 1 0 rfl rfl (fun hx => ?_)
                    refine Yif_ne C 226 dX6_worth_219 (by decide) hx (fun _ hx => ?_) (fun _ hx => ?_)
                    · skip
                      refine Yiconst C 0 dX6_worth_226 (by decide) ?_
                      exact Yjmp C [0, 1, 2, 3] rfl (b227  v_stack l2 l3 (l2 - 1) 0 hx)
                    · skip
                      refine Yiconst C 1 dX6_worth_222 (by decide) ?_
                      refine Ygoto C 227 dX6_worth_223 (by decide) ?_
                      exact Yjmp C [0, 1, 2, 3] rfl (b227  v_stack l2 l3 (l2 - 1) 1 hx)
                · skip
                  refine Yaload_n C dX6_worth_177 0 rfl rfl ?_
                  refine Yget C fg6_worth_15 dX6_worth_178 0 rfl rfl ?_
                  refine Yiload_n C dX6_worth_181 2 rfl rfl ?_
                  refine Yiconst C 1 dX6_worth_182 (by decide) ?_
                  refine Yisub C dX6_worth_183 ?_
                  refine Yaload_n C dX6_worth_184 0 rfl rfl ?_
                  refine Yget C fg6_worth_15 dX6_worth_185 0 rfl rfl ?_
                  refine Yiload_n C dX6_worth_188 2 rfl rfl ?_
                  refine Yiconst C 1 dX6_worth_189 (by decide) ?_
                  refine Yisub C dX6_worth_190 ?_
                  refine Yiald C dX6_worth_191 hx 1 0 rfl rfl (fun hx => ?_)
                  refine Yineg C dX6_worth_192 ?_
                  refine Yiast (ws' := (w6_worth cI cJ cZ cS cT a0 a_p1 a_stack a_steps v_size v_usesWaited (upd v_stack (l2 - 1).toNatClampNeg (-(v_stack (l2 - 1).toNatClampNeg))) v_steps v_p1)) C dX6_worth_193 hx 1 0 rfl rfl rfl (fun hx => ?_)
                  refine Ygoto C 268 dX6_worth_194 (by decide) ?_
                  exact Yjmp C [0, 1, 2, 3] rfl (b268  (upd v_stack (l2 - 1).toNatClampNeg (-(v_stack (l2 - 1).toNatClampNeg))) l2 l3 hx)
              · skip
                refine Yiinc (v := l2 + (-1)) (lv' := [(0, .ref a0), (1, .ref a_p1), (2, .int (l2 + (-1))), (3, .int l3), (4, .int l4)]) C dX6_worth_145 2 rfl rfl (by decide) rfl ?_
                refine Yaload_n C dX6_worth_148 0 rfl rfl ?_
                refine Yget C fg6_worth_15 dX6_worth_149 0 rfl rfl ?_
                refine Yiload_n C dX6_worth_152 2 rfl rfl ?_
                refine Yiald C dX6_worth_153 hx 1 0 rfl rfl (fun hx => ?_)
                refine Yif_ne C 268 dX6_worth_154 (by decide) hx (fun _ hx => ?_) (fun _ hx => ?_)
                · skip
                  exact Yjmp C [0, 1, 2, 3] rfl (b268  v_stack (l2 + (-1)) l3 hx)
                · skip
                  refine Yiload_n C dX6_worth_157 3 rfl rfl ?_
                  refine Yiload C dX6_worth_158 4 rfl ?_
                  refine Yineg C dX6_worth_160 ?_
                  refine Yiconst C 1 dX6_worth_161 (by decide) ?_
                  refine Yisub C dX6_worth_162 ?_
                  refine Ymmax C dX6_worth_163 (List.mem_of_getElem? (i := 4) rfl) (List.mem_of_getElem? (i := 5) rfl) (List.mem_of_getElem? (i := 6) rfl) (List.mem_of_getElem? (i := 7) rfl) (Nat.le_of_ble_eq_true rfl) (Nat.le_of_ble_eq_true rfl) ⟨Nat.zero_le _, Nat.zero_le _⟩ ?_
                  refine Yistore_n (lv' := [(0, .ref a0), (1, .ref a_p1), (2, .int (l2 + (-1))), (3, .int (if l3 < ((-l4) - 1) then ((-l4) - 1) else l3)), (4, .int l4)]) C dX6_worth_166 rfl (by decide) rfl ?_
                  refine Ygoto C 268 dX6_worth_167 (by decide) ?_
                  exact Yjmp C [0, 1, 2, 3] rfl (b268  v_stack (l2 + (-1)) (if l3 < ((-l4) - 1) then ((-l4) - 1) else l3) hx)
            · skip
              refine Yaload_n C dX6_worth_131 0 rfl rfl ?_
              refine Yget C fg6_worth_15 dX6_worth_132 0 rfl rfl ?_
              refine Yiload_n C dX6_worth_135 2 rfl rfl ?_
              refine Yiconst C 1 dX6_worth_136 (by decide) ?_
              refine Yisub C dX6_worth_137 ?_
              refine Yiald C dX6_worth_138 hx 1 0 rfl rfl (fun hx => ?_)
              exact Yiret C E dX6_worth_139 (ypo hx rfl rfl)
          · skip
            refine Yiconst C 0 dX6_worth_122 (by decide) ?_
            exact Yiret C E dX6_worth_123 (ypo hx rfl rfl)
      refine Yiload_n C dX6_worth_4 3 rfl rfl ?_
      refine Yaload_n C dX6_worth_5 0 rfl rfl ?_
      refine Yget C fg6_worth_18 dX6_worth_6 0 rfl rfl ?_
      refine Yicmp_ge C 274 dX6_worth_9 (by decide) hx (fun _ hx => ?_) (fun _ hx => ?_)
      · skip
        refine Yiconst C 0 dX6_worth_274 (by decide) ?_
        exact Yiret C E dX6_worth_275 (ypo hx rfl rfl)
      · skip
        refine Yiload_n C dX6_worth_12 3 rfl rfl ?_
        refine Yaload_n C dX6_worth_13 0 rfl rfl ?_
        refine Yget C fg6_worth_9 dX6_worth_14 0 rfl rfl ?_
        refine Yalen (v := 124) C dX6_worth_17 2 0 rfl rfl rfl ?_
        refine Yicmp_ge C 274 dX6_worth_18 (by decide) hx (fun _ hx => ?_) (fun _ hx => ?_)
        · skip
          refine Yiconst C 0 dX6_worth_274 (by decide) ?_
          exact Yiret C E dX6_worth_275 (ypo hx rfl rfl)
        · skip
          refine Yaload_n C dX6_worth_21 0 rfl rfl ?_
          refine Yget C fg6_worth_9 dX6_worth_22 0 rfl rfl ?_
          refine Yiload_n C dX6_worth_25 3 rfl rfl ?_
          refine Yiald C dX6_worth_26 hx 2 0 rfl rfl (fun hx => ?_)
          refine Yistore (lv' := [(0, .ref a0), (1, .ref a_p1), (2, .int l2), (3, .int l3), (4, .int (v_steps l3.toNatClampNeg))]) C dX6_worth_27 (by decide) rfl ?_
          refine Yiload C dX6_worth_29 4 rfl ?_
          refine Ysipush C 1000 dX6_worth_31 (by decide) ?_
          refine Yicmp_ge C 49 dX6_worth_34 (by decide) hx (fun _ hx => ?_) (fun _ hx => ?_)
          · skip
            exact b49  v_stack l2 l3 (v_steps l3.toNatClampNeg) hx
          · skip
            refine Yiload C dX6_worth_37 4 rfl ?_
            refine Yif_lt C 108 dX6_worth_39 (by decide) hx (fun _ hx => ?_) (fun _ hx => ?_)
            · skip
              exact b108  v_stack l2 l3 (v_steps l3.toNatClampNeg) hx
            · skip
              refine Yiload C dX6_worth_42 4 rfl ?_
              refine Ybipush C 10 dX6_worth_44 (by decide) ?_
              refine Yicmp_ge C 108 dX6_worth_46 (by decide) hx (fun _ hx => ?_) (fun _ hx => ?_)
              · skip
                exact b108  v_stack l2 l3 (v_steps l3.toNatClampNeg) hx
              · skip
                exact b49  v_stack l2 l3 (v_steps l3.toNatClampNeg) hx
  refine Yiconst C 0 dX6_worth_0 (by decide) ?_
  refine Yistore_n (lv' := [(0, .ref a0), (1, .ref a_p1), (2, .int 0)]) C dX6_worth_1 rfl (by decide) rfl ?_
  refine Yiconst C 0 dX6_worth_2 (by decide) ?_
  refine Yistore_n (lv' := [(0, .ref a0), (1, .ref a_p1), (2, .int 0), (3, .int 0)]) C dX6_worth_3 rfl (by decide) rfl ?_
  exact b4  yN v_stack 0 0 hx
