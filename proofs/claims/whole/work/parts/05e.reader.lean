theorem yfj0_coder_7d493 : (∃ Ty', wsJ0_coder_7d493 = Cond.code yJ0_coder_7d493 cJ0_coder_7d493 1 (some .byte) :: Ty') ∧ (yJ0_coder_7d493.cls ≠ "java/lang/invoke/MethodHandle" ∧ yJ0_coder_7d493.cls ≠ "java/lang/invoke/VarHandle" ∧ (parseMethodDescriptor yJ0_coder_7d493.desc).map (fun d => d.parameters.length) = some 0) := ⟨⟨_, rfl⟩, by decide +kernel, by decide +kernel, by decide +kernel⟩
def xj0_coder_7d493  : Option (Int32) :=
  if (1 : Int32) = 0 then (none) else (some (0))
set_option maxHeartbeats 4000000 in
set_option maxRecDepth 100000 in
theorem cj0_coder_7d493 (l : Launch) (D : yD) (cI cJ cZ cS cT : ClassId)  (out : Int32) (hx : xj0_coder_7d493  = some out) : MC l D (yT cI cJ cZ cS cT) yJ0_coder_7d493 wsJ0_coder_7d493 ({ frames := 0, cells := 0, slots := 0, locals := 0 } : Room) (0, 0) [.ref (yS D)] ([] : va_W) (POd (fun o : Int32 => some (.int o)) (fun (o : Int32) => ([] : va_W)) out) := by
  refine MC.intro (cc := cJ0_coder_7d493) (nL := 1) (ret := (some .byte)) (own := RJ0) (lv := [(0, .ref (yS D))]) (by decide) rfl rfl (Nat.le_of_ble_eq_true rfl) rfl (fun X C E => ?_)
  unfold xj0_coder_7d493 at hx
  refine Ygets_CS C dJ0_coder_7d493_0 (List.mem_of_getElem? (i := 1) rfl) ?_
  refine Yif_eq C 13 dJ0_coder_7d493_3 (by decide) hx (fun _ hx => ?_) (fun _ hx => ?_)
  · cases hx
  · skip
    refine Yaload_n C dJ0_coder_7d493_6 0 rfl rfl ?_
    refine YgetS_coder C dJ0_coder_7d493_7 (List.mem_of_getElem? (i := 2) rfl) ?_
    refine Ygoto C 14 dJ0_coder_7d493_10 (by decide) ?_
    exact Ybret C E (by decide) dJ0_coder_7d493_14 (ypo hx rfl rfl)
theorem yfj0_isLatin1_aae02 : (∃ Ty', wsJ0_isLatin1_aae02 = Cond.code yJ0_isLatin1_aae02 cJ0_isLatin1_aae02 1 (some .boolean) :: Ty') ∧ (yJ0_isLatin1_aae02.cls ≠ "java/lang/invoke/MethodHandle" ∧ yJ0_isLatin1_aae02.cls ≠ "java/lang/invoke/VarHandle" ∧ (parseMethodDescriptor yJ0_isLatin1_aae02.desc).map (fun d => d.parameters.length) = some 0) := ⟨⟨_, rfl⟩, by decide +kernel, by decide +kernel, by decide +kernel⟩
def xj0_isLatin1_aae02  : Option (Bool) :=
  if (1 : Int32) = 0 then (none) else (if (0 : Int32) = 0 then (some (true)) else (none))
set_option maxHeartbeats 4000000 in
set_option maxRecDepth 100000 in
theorem cj0_isLatin1_aae02 (l : Launch) (D : yD) (cI cJ cZ cS cT : ClassId)  (out : Bool) (hx : xj0_isLatin1_aae02  = some out) : MC l D (yT cI cJ cZ cS cT) yJ0_isLatin1_aae02 wsJ0_isLatin1_aae02 ({ frames := 0, cells := 0, slots := 0, locals := 0 } : Room) (0, 0) [.ref (yS D)] ([] : va_W) (POd (fun o : Bool => some (.int (bI o))) (fun (o : Bool) => ([] : va_W)) out) := by
  refine MC.intro (cc := cJ0_isLatin1_aae02) (nL := 1) (ret := (some .boolean)) (own := RJ0) (lv := [(0, .ref (yS D))]) (by decide) rfl rfl (Nat.le_of_ble_eq_true rfl) rfl (fun X C E => ?_)
  unfold xj0_isLatin1_aae02 at hx
  refine Ygets_CS C dJ0_isLatin1_aae02_0 (List.mem_of_getElem? (i := 1) rfl) ?_
  refine Yif_eq C 17 dJ0_isLatin1_aae02_3 (by decide) hx (fun _ hx => ?_) (fun _ hx => ?_)
  · cases hx
  · skip
    refine Yaload_n C dJ0_isLatin1_aae02_6 0 rfl rfl ?_
    refine YgetS_coder C dJ0_isLatin1_aae02_7 (List.mem_of_getElem? (i := 2) rfl) ?_
    refine Yif_ne C 17 dJ0_isLatin1_aae02_10 (by decide) hx (fun _ hx => ?_) (fun _ hx => ?_)
    · cases hx
    · skip
      refine Yiconst C 1 dJ0_isLatin1_aae02_13 (by decide) ?_
      refine Ygoto C 18 dJ0_isLatin1_aae02_14 (by decide) ?_
      exact Yzret (b := true) C E dJ0_isLatin1_aae02_18 (ypo hx rfl rfl)
theorem yfj0_length_8abf5 : (∃ Ty', wsJ0_length_8abf5 = Cond.code yJ0_length_8abf5 cJ0_length_8abf5 1 (some .int) :: Ty') ∧ (yJ0_length_8abf5.cls ≠ "java/lang/invoke/MethodHandle" ∧ yJ0_length_8abf5.cls ≠ "java/lang/invoke/VarHandle" ∧ (parseMethodDescriptor yJ0_length_8abf5.desc).map (fun d => d.parameters.length) = some 0) := ⟨⟨_, rfl⟩, by decide +kernel, by decide +kernel, by decide +kernel⟩
def xj0_length_8abf5  : Option (Int32) :=
  (xj0_coder_7d493 ).bind fun o1 => some ((10 >>> (o1 &&& 31)))
set_option maxHeartbeats 4000000 in
set_option maxRecDepth 100000 in
theorem cj0_length_8abf5 (l : Launch) (D : yD) (cI cJ cZ cS cT : ClassId)  (out : Int32) (hx : xj0_length_8abf5  = some out) : MC l D (yT cI cJ cZ cS cT) yJ0_length_8abf5 wsJ0_length_8abf5 ({ frames := 1, cells := 0, slots := 0, locals := 20 } : Room) (0, 0) [.ref (yS D)] ([] : va_W) (POd (fun o : Int32 => some (.int o)) (fun (o : Int32) => ([] : va_W)) out) := by
  refine MC.intro (cc := cJ0_length_8abf5) (nL := 1) (ret := (some .int)) (own := RJ0) (lv := [(0, .ref (yS D))]) (by decide) rfl rfl (Nat.le_of_ble_eq_true rfl) rfl (fun X C E => ?_)
  unfold xj0_length_8abf5 at hx
  refine Yaload_n C dJ0_length_8abf5_0 0 rfl rfl ?_
  refine YgetS_value C dJ0_length_8abf5_1 (List.mem_of_getElem? (i := 1) rfl) ?_
  refine YtlS C dJ0_length_8abf5_4 ?_
  refine Yaload_n C dJ0_length_8abf5_5 0 rfl rfl ?_
  obtain ⟨o1, ho1, hx⟩ := ybnd hx
  refine YcallVs (ws' := ([] : va_W)) (st' := [.int o1, .int 10]) (st := [.int 10]) (as := []) C [] [] 0 dJ0_length_8abf5_6 (cj0_coder_7d493 l D cI cJ cZ cS cT  o1 ho1) gJ0_length_8abf5_J0_coder_7d493 rfl ⟨yfj0_coder_7d493.1, yfj0_coder_7d493.2, Nat.le_of_ble_eq_true rfl, Nat.le_of_ble_eq_true rfl, rfl, rfl⟩ (by decide) ⟨Nat.zero_le _, Nat.zero_le _⟩ (Nat.le_of_ble_eq_true rfl) trivial rfl rfl (by decide) (by decide) trivial [] trivial trivial rfl ?_
  refine Yishr C dJ0_length_8abf5_9 ?_
  exact Yiret C E dJ0_length_8abf5_10 (ypo hx rfl rfl)
theorem yfj1_canEncode_9a6ad : (∃ Ty', wsJ1_canEncode_9a6ad = Cond.code yJ1_canEncode_9a6ad cJ1_canEncode_9a6ad 1 (some .boolean) :: Ty') ∧ (yJ1_canEncode_9a6ad.cls ≠ "java/lang/invoke/MethodHandle" ∧ yJ1_canEncode_9a6ad.cls ≠ "java/lang/invoke/VarHandle" ∧ (parseMethodDescriptor yJ1_canEncode_9a6ad.desc).map (fun d => d.parameters.length) = some 1) := ⟨⟨_, rfl⟩, by decide +kernel, by decide +kernel, by decide +kernel⟩
def xj1_canEncode_9a6ad (p0 : Int32) : Option (Bool) :=
  if p0 < 0 then (some (false)) else (if 255 < p0 then (some (false)) else (some (true)))
set_option maxHeartbeats 4000000 in
set_option maxRecDepth 100000 in
theorem cj1_canEncode_9a6ad (l : Launch) (D : yD) (cI cJ cZ cS cT : ClassId) (p0 : Int32) (out : Bool) (hx : xj1_canEncode_9a6ad p0 = some out) : MC l D (yT cI cJ cZ cS cT) yJ1_canEncode_9a6ad wsJ1_canEncode_9a6ad ({ frames := 0, cells := 0, slots := 0, locals := 0 } : Room) (0, 0) [.int p0] ([] : va_W) (POd (fun o : Bool => some (.int (bI o))) (fun (o : Bool) => ([] : va_W)) out) := by
  refine MC.intro (cc := cJ1_canEncode_9a6ad) (nL := 1) (ret := (some .boolean)) (own := RJ1) (lv := [(0, .int p0)]) (by decide) rfl rfl (Nat.le_of_ble_eq_true rfl) rfl (fun X C E => ?_)
  unfold xj1_canEncode_9a6ad at hx
  refine Yiload_n C dJ1_canEncode_9a6ad_0 0 rfl rfl ?_
  refine Yif_lt C 15 dJ1_canEncode_9a6ad_1 (by decide) hx (fun _ hx => ?_) (fun _ hx => ?_)
  · skip
    refine Yiconst C 0 dJ1_canEncode_9a6ad_15 (by decide) ?_
    exact Yzret (b := false) C E dJ1_canEncode_9a6ad_16 (ypo hx rfl rfl)
  · skip
    refine Yiload_n C dJ1_canEncode_9a6ad_4 0 rfl rfl ?_
    refine Ysipush C 255 dJ1_canEncode_9a6ad_5 (by decide) ?_
    refine Yicmp_gt C 15 dJ1_canEncode_9a6ad_8 (by decide) hx (fun _ hx => ?_) (fun _ hx => ?_)
    · skip
      refine Yiconst C 0 dJ1_canEncode_9a6ad_15 (by decide) ?_
      exact Yzret (b := false) C E dJ1_canEncode_9a6ad_16 (ypo hx rfl rfl)
    · skip
      refine Yiconst C 1 dJ1_canEncode_9a6ad_11 (by decide) ?_
      refine Ygoto C 16 dJ1_canEncode_9a6ad_12 (by decide) ?_
      exact Yzret (b := true) C E dJ1_canEncode_9a6ad_16 (ypo hx rfl rfl)
theorem yfj1_indexOfChar_4cfef : (∃ Ty', wsJ1_indexOfChar_4cfef = Cond.code yJ1_indexOfChar_4cfef cJ1_indexOfChar_4cfef 6 (some .int) :: Ty') ∧ (yJ1_indexOfChar_4cfef.cls ≠ "java/lang/invoke/MethodHandle" ∧ yJ1_indexOfChar_4cfef.cls ≠ "java/lang/invoke/VarHandle" ∧ (parseMethodDescriptor yJ1_indexOfChar_4cfef.desc).map (fun d => d.parameters.length) = some 4) := ⟨⟨_, rfl⟩, by decide +kernel, by decide +kernel, by decide +kernel⟩
def xj1_indexOfChar_4cfef_7  (p3 : Int32) (l4 : Int32) : Nat → Int32 → Option (Int32)
  | 0, _ => none
  | n + 1, l5 =>
    if p3 ≤ l5 then (some ((-1))) else (bif inB l5 10 then (if (ysNM l5.toNatClampNeg) = l4 then (some (l5)) else (xj1_indexOfChar_4cfef_7 p3 l4 n (l5 + 1))) else none)
def xj1_indexOfChar_4cfef (p1 : Int32) (p2 : Int32) (p3 : Int32) : Option (Int32) :=
  xj1_indexOfChar_4cfef_7  p3 (p1.toInt8.toInt32) yN p2
set_option maxHeartbeats 4000000 in
set_option maxRecDepth 100000 in
theorem cj1_indexOfChar_4cfef (l : Launch) (D : yD) (cI cJ cZ cS cT : ClassId) (p1 : Int32) (p2 : Int32) (p3 : Int32) (out : Int32) (hx : xj1_indexOfChar_4cfef p1 p2 p3 = some out) : MC l D (yT cI cJ cZ cS cT) yJ1_indexOfChar_4cfef wsJ1_indexOfChar_4cfef ({ frames := 0, cells := 0, slots := 0, locals := 0 } : Room) (0, 0) [.ref (yV D), .int p1, .int p2, .int p3] ([] : va_W) (POd (fun o : Int32 => some (.int o)) (fun (o : Int32) => ([] : va_W)) out) := by
  refine MC.intro (cc := cJ1_indexOfChar_4cfef) (nL := 6) (ret := (some .int)) (own := RJ1) (lv := [(0, .ref (yV D)), (1, .int p1), (2, .int p2), (3, .int p3)]) (by decide) rfl rfl (Nat.le_of_ble_eq_true rfl) rfl (fun X C E => ?_)
  unfold xj1_indexOfChar_4cfef at hx
  have b7 : ∀ (l4 : Int32), ∀ (n7 : Nat) (l5 : Int32), xj1_indexOfChar_4cfef_7  p3 l4 n7 l5 = some out → Y X (0, 0) ([] : va_W) [(0, .ref (yV D)), (3, .int p3), (4, .int l4), (5, .int l5)] 7 [] := by
    intro l4
    intro n7
    induction n7 with
    | zero =>
      intro l5  hx
      rw [xj1_indexOfChar_4cfef_7] at hx
      cases hx
    | succ n7 ih7 =>
      intro l5  hx
      rw [xj1_indexOfChar_4cfef_7] at hx
      refine Yiload C dJ1_indexOfChar_4cfef_7 3 rfl ?_
      refine Yiload_n C dJ1_indexOfChar_4cfef_9 1 rfl rfl ?_
      refine Yicmp_ge C 31 dJ1_indexOfChar_4cfef_10 (by decide) hx (fun _ hx => ?_) (fun _ hx => ?_)
      · skip
        refine Yiconst C (-1) dJ1_indexOfChar_4cfef_31 (by decide) ?_
        exact Yiret C E dJ1_indexOfChar_4cfef_32 (ypo hx rfl rfl)
      · skip
        refine Yaload_n C dJ1_indexOfChar_4cfef_13 0 rfl rfl ?_
        refine Yiload C dJ1_indexOfChar_4cfef_14 3 rfl ?_
        refine YtbS C dJ1_indexOfChar_4cfef_16 hx (fun hx => ?_)
        refine Yiload C dJ1_indexOfChar_4cfef_17 2 rfl ?_
        refine Yicmp_ne C 25 dJ1_indexOfChar_4cfef_19 (by decide) hx (fun _ hx => ?_) (fun _ hx => ?_)
        · skip
          refine Yiinc (v := l5 + 1) (lv' := [(0, .ref (yV D)), (3, .int p3), (4, .int l4), (5, .int (l5 + 1))]) C dJ1_indexOfChar_4cfef_25 3 rfl rfl (by decide) rfl ?_
          refine Ygoto C 7 dJ1_indexOfChar_4cfef_28 (by decide) ?_
          exact ih7 (l5 + 1) hx
        · skip
          refine Yiload C dJ1_indexOfChar_4cfef_22 3 rfl ?_
          exact Yiret C E dJ1_indexOfChar_4cfef_24 (ypo hx rfl rfl)
  refine Yiload_n C dJ1_indexOfChar_4cfef_0 1 rfl rfl ?_
  refine Yi2b C dJ1_indexOfChar_4cfef_1 ?_
  refine Yistore (lv' := [(0, .ref (yV D)), (1, .int p1), (2, .int p2), (3, .int p3), (4, .int (p1.toInt8.toInt32))]) C dJ1_indexOfChar_4cfef_2 (by decide) rfl ?_
  refine Yiload_n C dJ1_indexOfChar_4cfef_4 2 rfl rfl ?_
  refine Yistore (lv' := [(0, .ref (yV D)), (1, .int p1), (2, .int p2), (3, .int p3), (4, .int (p1.toInt8.toInt32)), (5, .int p2)]) C dJ1_indexOfChar_4cfef_5 (by decide) rfl ?_
  exact Yjmp C [0, 3, 4, 5] rfl (b7 (p1.toInt8.toInt32) yN p2 hx)
theorem yfj1_indexOf_4cfef : (∃ Ty', wsJ1_indexOf_4cfef = Cond.code yJ1_indexOf_4cfef cJ1_indexOf_4cfef 4 (some .int) :: Ty') ∧ (yJ1_indexOf_4cfef.cls ≠ "java/lang/invoke/MethodHandle" ∧ yJ1_indexOf_4cfef.cls ≠ "java/lang/invoke/VarHandle" ∧ (parseMethodDescriptor yJ1_indexOf_4cfef.desc).map (fun d => d.parameters.length) = some 4) := ⟨⟨_, rfl⟩, by decide +kernel, by decide +kernel, by decide +kernel⟩
def xj1_indexOf_4cfef (p1 : Int32) (p2 : Int32) (p3 : Int32) : Option (Int32) :=
  (xj1_canEncode_9a6ad p1).bind fun o1 => bif o1 then (if (if p2 < 0 then 0 else p2) < (if 10 < p3 then 10 else p3) then ((xj1_indexOfChar_4cfef p1 (if p2 < 0 then 0 else p2) (if 10 < p3 then 10 else p3)).bind fun o2 => some (o2)) else (some ((-1)))) else (some ((-1)))
set_option maxHeartbeats 4000000 in
set_option maxRecDepth 100000 in
theorem cj1_indexOf_4cfef (l : Launch) (D : yD) (cI cJ cZ cS cT : ClassId) (p1 : Int32) (p2 : Int32) (p3 : Int32) (out : Int32) (hx : xj1_indexOf_4cfef p1 p2 p3 = some out) : MC l D (yT cI cJ cZ cS cT) yJ1_indexOf_4cfef wsJ1_indexOf_4cfef ({ frames := 1, cells := 0, slots := 0, locals := 25 } : Room) (0, 0) [.ref (yV D), .int p1, .int p2, .int p3] ([] : va_W) (POd (fun o : Int32 => some (.int o)) (fun (o : Int32) => ([] : va_W)) out) := by
  refine MC.intro (cc := cJ1_indexOf_4cfef) (nL := 4) (ret := (some .int)) (own := RJ1) (lv := [(0, .ref (yV D)), (1, .int p1), (2, .int p2), (3, .int p3)]) (by decide) rfl rfl (Nat.le_of_ble_eq_true rfl) rfl (fun X C E => ?_)
  unfold xj1_indexOf_4cfef at hx
  refine Yiload_n C dJ1_indexOf_4cfef_0 1 rfl rfl ?_
  obtain ⟨o1, ho1, hx⟩ := ybnd hx
  refine YcallSd (ws' := ([] : va_W)) (st' := [.int (bI o1)]) (st := []) (as := [.int p1]) C [] [] 0 dJ1_indexOf_4cfef_1 (cj1_canEncode_9a6ad l D cI cJ cZ cS cT p1 o1 ho1) gJ1_indexOf_4cfef_J1_canEncode_9a6ad rfl ⟨yfj1_canEncode_9a6ad.1, yfj1_canEncode_9a6ad.2, Nat.le_of_ble_eq_true rfl, Nat.le_of_ble_eq_true rfl, rfl, rfl⟩ (by decide) ⟨Nat.zero_le _, Nat.zero_le _⟩ (Nat.le_of_ble_eq_true rfl) trivial rfl rfl (by decide) (by decide) trivial [] trivial trivial rfl ?_
  refine Yif_ne_b C 9 dJ1_indexOf_4cfef_4 (by decide) hx (fun _ hx => ?_) (fun _ hx => ?_)
  · skip
    refine Yiload_n C dJ1_indexOf_4cfef_9 2 rfl rfl ?_
    refine Yiconst C 0 dJ1_indexOf_4cfef_10 (by decide) ?_
    refine Ymmax C dJ1_indexOf_4cfef_11 (List.mem_of_getElem? (i := 1) rfl) (List.mem_of_getElem? (i := 2) rfl) (List.mem_of_getElem? (i := 3) rfl) (List.mem_of_getElem? (i := 4) rfl) (Nat.le_of_ble_eq_true rfl) (Nat.le_of_ble_eq_true rfl) ⟨Nat.zero_le _, Nat.zero_le _⟩ ?_
    refine Yistore_n (lv' := [(0, .ref (yV D)), (1, .int p1), (2, .int (if p2 < 0 then 0 else p2)), (3, .int p3)]) C dJ1_indexOf_4cfef_14 rfl (by decide) rfl ?_
    refine Yiload_n C dJ1_indexOf_4cfef_15 3 rfl rfl ?_
    refine Yaload_n C dJ1_indexOf_4cfef_16 0 rfl rfl ?_
    refine YtlS C dJ1_indexOf_4cfef_17 ?_
    refine Ymmin C dJ1_indexOf_4cfef_18 (List.mem_of_getElem? (i := 5) rfl) (List.mem_of_getElem? (i := 6) rfl) (List.mem_of_getElem? (i := 3) rfl) (List.mem_of_getElem? (i := 7) rfl) (Nat.le_of_ble_eq_true rfl) (Nat.le_of_ble_eq_true rfl) ⟨Nat.zero_le _, Nat.zero_le _⟩ ?_
    refine Yistore_n (lv' := [(0, .ref (yV D)), (1, .int p1), (2, .int (if p2 < 0 then 0 else p2)), (3, .int (if 10 < p3 then 10 else p3))]) C dJ1_indexOf_4cfef_21 rfl (by decide) rfl ?_
    refine Yiload_n C dJ1_indexOf_4cfef_22 2 rfl rfl ?_
    refine Yiload_n C dJ1_indexOf_4cfef_23 3 rfl rfl ?_
    refine Yicmp_lt C 29 dJ1_indexOf_4cfef_24 (by decide) hx (fun _ hx => ?_) (fun _ hx => ?_)
    · skip
      refine Yaload_n C dJ1_indexOf_4cfef_29 0 rfl rfl ?_
      refine Yiload_n C dJ1_indexOf_4cfef_30 1 rfl rfl ?_
      refine Yiload_n C dJ1_indexOf_4cfef_31 2 rfl rfl ?_
      refine Yiload_n C dJ1_indexOf_4cfef_32 3 rfl rfl ?_
      obtain ⟨o2, ho2, hx⟩ := ybnd hx
      refine YcallSd (ws' := ([] : va_W)) (st' := [.int o2]) (st := []) (as := [.ref (yV D), .int p1, .int (if p2 < 0 then 0 else p2), .int (if 10 < p3 then 10 else p3)]) C [] [] 0 dJ1_indexOf_4cfef_33 (cj1_indexOfChar_4cfef l D cI cJ cZ cS cT p1 (if p2 < 0 then 0 else p2) (if 10 < p3 then 10 else p3) o2 ho2) gJ1_indexOf_4cfef_J1_indexOfChar_4cfef rfl ⟨yfj1_indexOfChar_4cfef.1, yfj1_indexOfChar_4cfef.2, Nat.le_of_ble_eq_true rfl, Nat.le_of_ble_eq_true rfl, rfl, rfl⟩ (by decide) ⟨Nat.zero_le _, Nat.zero_le _⟩ (Nat.le_of_ble_eq_true rfl) trivial rfl rfl (by decide) (by decide) trivial [] trivial trivial rfl ?_
      exact Yiret C E dJ1_indexOf_4cfef_36 (ypo hx rfl rfl)
    · skip
      refine Yiconst C (-1) dJ1_indexOf_4cfef_27 (by decide) ?_
      exact Yiret C E dJ1_indexOf_4cfef_28 (ypo hx rfl rfl)
  · skip
    refine Yiconst C (-1) dJ1_indexOf_4cfef_7 (by decide) ?_
    exact Yiret C E dJ1_indexOf_4cfef_8 (ypo hx rfl rfl)
theorem yfj0_indexOf_7cf53 : (∃ Ty', wsJ0_indexOf_7cf53 = Cond.code yJ0_indexOf_7cf53 cJ0_indexOf_7cf53 3 (some .int) :: Ty') ∧ (yJ0_indexOf_7cf53.cls ≠ "java/lang/invoke/MethodHandle" ∧ yJ0_indexOf_7cf53.cls ≠ "java/lang/invoke/VarHandle" ∧ (parseMethodDescriptor yJ0_indexOf_7cf53.desc).map (fun d => d.parameters.length) = some 2) := ⟨⟨_, rfl⟩, by decide +kernel, by decide +kernel, by decide +kernel⟩
def xj0_indexOf_7cf53 (p1 : Int32) (p2 : Int32) : Option (Int32) :=
  (xj0_isLatin1_aae02 ).bind fun o1 => bif o1 then ((xj0_length_8abf5 ).bind fun o2 => (xj1_indexOf_4cfef p1 p2 o2).bind fun o3 => some (o3)) else (none)
set_option maxHeartbeats 4000000 in
set_option maxRecDepth 100000 in
theorem cj0_indexOf_7cf53 (l : Launch) (D : yD) (cI cJ cZ cS cT : ClassId) (p1 : Int32) (p2 : Int32) (out : Int32) (hx : xj0_indexOf_7cf53 p1 p2 = some out) : MC l D (yT cI cJ cZ cS cT) yJ0_indexOf_7cf53 wsJ0_indexOf_7cf53 ({ frames := 2, cells := 0, slots := 0, locals := 48 } : Room) (0, 0) [.ref (yS D), .int p1, .int p2] ([] : va_W) (POd (fun o : Int32 => some (.int o)) (fun (o : Int32) => ([] : va_W)) out) := by
  refine MC.intro (cc := cJ0_indexOf_7cf53) (nL := 3) (ret := (some .int)) (own := RJ0) (lv := [(0, .ref (yS D)), (1, .int p1), (2, .int p2)]) (by decide) rfl rfl (Nat.le_of_ble_eq_true rfl) rfl (fun X C E => ?_)
  unfold xj0_indexOf_7cf53 at hx
  refine Yaload_n C dJ0_indexOf_7cf53_0 0 rfl rfl ?_
  obtain ⟨o1, ho1, hx⟩ := ybnd hx
  refine YcallVs (ws' := ([] : va_W)) (st' := [.int (bI o1)]) (st := []) (as := []) C [] [] 0 dJ0_indexOf_7cf53_1 (cj0_isLatin1_aae02 l D cI cJ cZ cS cT  o1 ho1) gJ0_indexOf_7cf53_J0_isLatin1_aae02 rfl ⟨yfj0_isLatin1_aae02.1, yfj0_isLatin1_aae02.2, Nat.le_of_ble_eq_true rfl, Nat.le_of_ble_eq_true rfl, rfl, rfl⟩ (by decide) ⟨Nat.zero_le _, Nat.zero_le _⟩ (Nat.le_of_ble_eq_true rfl) trivial rfl rfl (by decide) (by decide) trivial [] trivial trivial rfl ?_
  refine Yif_eq_b C 23 dJ0_indexOf_7cf53_4 (by decide) hx (fun _ hx => ?_) (fun _ hx => ?_)
  · skip
    cases hx
  · skip
    refine Yaload_n C dJ0_indexOf_7cf53_7 0 rfl rfl ?_
    refine YgetS_value C dJ0_indexOf_7cf53_8 (List.mem_of_getElem? (i := 1) rfl) ?_
    refine Yiload_n C dJ0_indexOf_7cf53_11 1 rfl rfl ?_
    refine Yiload_n C dJ0_indexOf_7cf53_12 2 rfl rfl ?_
    refine Yaload_n C dJ0_indexOf_7cf53_13 0 rfl rfl ?_
    obtain ⟨o2, ho2, hx⟩ := ybnd hx
    refine YcallVs (ws' := ([] : va_W)) (st' := [.int o2, .int p2, .int p1, .ref (yV D)]) (st := [.int p2, .int p1, .ref (yV D)]) (as := []) C [] [] 0 dJ0_indexOf_7cf53_14 (cj0_length_8abf5 l D cI cJ cZ cS cT  o2 ho2) gJ0_indexOf_7cf53_J0_length_8abf5 rfl ⟨yfj0_length_8abf5.1, yfj0_length_8abf5.2, Nat.le_of_ble_eq_true rfl, Nat.le_of_ble_eq_true rfl, rfl, rfl⟩ (by decide) ⟨Nat.zero_le _, Nat.zero_le _⟩ (Nat.le_of_ble_eq_true rfl) trivial rfl rfl (by decide) (by decide) trivial [] trivial trivial rfl ?_
    obtain ⟨o3, ho3, hx⟩ := ybnd hx
    refine YcallSo (ws' := ([] : va_W)) (st' := [.int o3]) (st := []) (as := [.ref (yV D), .int p1, .int p2, .int o2]) C [] [] 0 dJ0_indexOf_7cf53_17 (cj1_indexOf_4cfef l D cI cJ cZ cS cT p1 p2 o2 o3 ho3) gJ0_indexOf_7cf53_J1_indexOf_4cfef ⟨yfj1_indexOf_4cfef.1, yfj1_indexOf_4cfef.2, Nat.le_of_ble_eq_true rfl, Nat.le_of_ble_eq_true rfl, rfl, rfl⟩ (by decide) ⟨Nat.zero_le _, Nat.zero_le _⟩ (Nat.le_of_ble_eq_true rfl) trivial rfl rfl (by decide) (by decide) trivial [] trivial trivial rfl ?_
    refine Ygoto C 36 dJ0_indexOf_7cf53_20 (by decide) ?_
    exact Yiret C E dJ0_indexOf_7cf53_36 (ypo hx rfl rfl)
theorem yfj0_indexOf_0f7a4 : (∃ Ty', wsJ0_indexOf_0f7a4 = Cond.code yJ0_indexOf_0f7a4 cJ0_indexOf_0f7a4 2 (some .int) :: Ty') ∧ (yJ0_indexOf_0f7a4.cls ≠ "java/lang/invoke/MethodHandle" ∧ yJ0_indexOf_0f7a4.cls ≠ "java/lang/invoke/VarHandle" ∧ (parseMethodDescriptor yJ0_indexOf_0f7a4.desc).map (fun d => d.parameters.length) = some 1) := ⟨⟨_, rfl⟩, by decide +kernel, by decide +kernel, by decide +kernel⟩
def xj0_indexOf_0f7a4 (p1 : Int32) : Option (Int32) :=
  (xj0_indexOf_7cf53 p1 0).bind fun o1 => some (o1)
set_option maxHeartbeats 4000000 in
set_option maxRecDepth 100000 in
theorem cj0_indexOf_0f7a4 (l : Launch) (D : yD) (cI cJ cZ cS cT : ClassId) (p1 : Int32) (out : Int32) (hx : xj0_indexOf_0f7a4 p1 = some out) : MC l D (yT cI cJ cZ cS cT) yJ0_indexOf_0f7a4 wsJ0_indexOf_0f7a4 ({ frames := 3, cells := 0, slots := 0, locals := 70 } : Room) (0, 0) [.ref (yS D), .int p1] ([] : va_W) (POd (fun o : Int32 => some (.int o)) (fun (o : Int32) => ([] : va_W)) out) := by
  refine MC.intro (cc := cJ0_indexOf_0f7a4) (nL := 2) (ret := (some .int)) (own := RJ0) (lv := [(0, .ref (yS D)), (1, .int p1)]) (by decide) rfl rfl (Nat.le_of_ble_eq_true rfl) rfl (fun X C E => ?_)
  unfold xj0_indexOf_0f7a4 at hx
  refine Yaload_n C dJ0_indexOf_0f7a4_0 0 rfl rfl ?_
  refine Yiload_n C dJ0_indexOf_0f7a4_1 1 rfl rfl ?_
  refine Yiconst C 0 dJ0_indexOf_0f7a4_2 (by decide) ?_
  obtain ⟨o1, ho1, hx⟩ := ybnd hx
  refine YcallVs (ws' := ([] : va_W)) (st' := [.int o1]) (st := []) (as := [.int p1, .int 0]) C [] [] 0 dJ0_indexOf_0f7a4_3 (cj0_indexOf_7cf53 l D cI cJ cZ cS cT p1 0 o1 ho1) gJ0_indexOf_0f7a4_J0_indexOf_7cf53 rfl ⟨yfj0_indexOf_7cf53.1, yfj0_indexOf_7cf53.2, Nat.le_of_ble_eq_true rfl, Nat.le_of_ble_eq_true rfl, rfl, rfl⟩ (by decide) ⟨Nat.zero_le _, Nat.zero_le _⟩ (Nat.le_of_ble_eq_true rfl) trivial rfl rfl (by decide) (by decide) trivial [] trivial trivial rfl ?_
  exact Yiret C E dJ0_indexOf_0f7a4_6 (ypo hx rfl rfl)
theorem fg4_fail_28 : YF wsX4_fail RX4 28 4 3 := ⟨RX4, TX4, 5, rfl, (fun w h => List.mem_cons_of_mem _ (List.mem_append_right _ h)), by decide, List.mem_of_getElem? (i := 1) rfl⟩
theorem fg4_fail_25 : YF wsX4_fail RX4 25 4 2 := ⟨RX4, TX4, 5, rfl, (fun w h => List.mem_cons_of_mem _ (List.mem_append_right _ h)), by decide, List.mem_of_getElem? (i := 2) rfl⟩
theorem fp4_fail_28 : YFp wsX4_fail RX4 28 4 3 (tyX4 3) := ⟨RX4, TX4, 5, tyX4, rfl, (fun w h => List.mem_cons_of_mem _ (List.mem_append_right _ h)), by decide, List.mem_of_getElem? (i := 1) rfl, tyX4_ok, nmX4, rfl, tyX4_ok _ (by decide)⟩
theorem yf4_fail : (∃ Ty', wsX4_fail = Cond.code yX4_fail cX4_fail 1 none :: Ty') ∧ (yX4_fail.cls ≠ "java/lang/invoke/MethodHandle" ∧ yX4_fail.cls ≠ "java/lang/invoke/VarHandle" ∧ (parseMethodDescriptor yX4_fail.desc).map (fun d => d.parameters.length) = some 0) := ⟨⟨_, rfl⟩, by decide +kernel, by decide +kernel, by decide +kernel⟩
abbrev w4_fail (cI cJ cZ cS cT : ClassId) (a0 a_bytes a_text : Nat) (v_length : Int32) (v_at : Int32) (v_fault : Int32) : va_W := [(a0, .inr (4, [.ref a_bytes, .int v_length, .int v_at, .int v_fault, .ref a_text]))]
def x4_fail (v_at : Int32) (v_fault : Int32) : Option (Int32) :=
  if v_fault = (-1) then (some (v_at)) else (some (v_fault))
set_option maxHeartbeats 4000000 in
set_option maxRecDepth 100000 in
theorem c4_fail (l : Launch) (D : yD) (cI cJ cZ cS cT : ClassId) (a0 a_bytes a_text : Nat) (v_length : Int32) (v_at : Int32) (v_fault : Int32) (out : Int32) (hx : x4_fail v_at v_fault = some out) : MC l D (yT cI cJ cZ cS cT) yX4_fail wsX4_fail ({ frames := 0, cells := 0, slots := 0, locals := 0 } : Room) (0, 0) [.ref a0] (w4_fail cI cJ cZ cS cT a0 a_bytes a_text v_length v_at v_fault) (POd (fun o : Int32 => none) (fun (o : Int32) => (w4_fail cI cJ cZ cS cT a0 a_bytes a_text v_length v_at o)) out) := by
  refine MC.intro (cc := cX4_fail) (nL := 1) (ret := none) (own := RX4) (lv := [(0, .ref a0)]) (by decide) rfl rfl (Nat.le_of_ble_eq_true rfl) rfl (fun X C E => ?_)
  unfold x4_fail at hx
  refine Yaload_n C dX4_fail_0 0 rfl rfl ?_
  refine Yget C fg4_fail_28 dX4_fail_1 0 rfl rfl ?_
  refine Yiconst C (-1) dX4_fail_4 (by decide) ?_
  refine Yicmp_ne C 16 dX4_fail_5 (by decide) hx (fun _ hx => ?_) (fun _ hx => ?_)
  · skip
    exact Yvret C E dX4_fail_16 (ypo hx rfl rfl)
  · skip
    refine Yaload_n C dX4_fail_8 0 rfl rfl ?_
    refine Yaload_n C dX4_fail_9 0 rfl rfl ?_
    refine Yget C fg4_fail_25 dX4_fail_10 0 rfl rfl ?_
    refine Yput (v := .int v_at) (ws' := (w4_fail cI cJ cZ cS cT a0 a_bytes a_text v_length v_at v_at)) C fp4_fail_28 dX4_fail_13 0 rfl rfl rfl (Nat.le_of_ble_eq_true rfl) rfl rfl ?_
    exact Yvret C E dX4_fail_16 (ypo hx rfl rfl)
theorem fg4_next_28 : YF wsX4_next RX4 28 4 3 := ⟨RX4, TX4, 5, rfl, (fun w h => List.mem_cons_of_mem _ (List.mem_append_right _ h)), by decide, List.mem_of_getElem? (i := 1) rfl⟩
theorem fg4_next_25 : YF wsX4_next RX4 25 4 2 := ⟨RX4, TX4, 5, rfl, (fun w h => List.mem_cons_of_mem _ (List.mem_append_right _ h)), by decide, List.mem_of_getElem? (i := 2) rfl⟩
theorem fg4_next_21 : YF wsX4_next RX4 21 4 1 := ⟨RX4, TX4, 5, rfl, (fun w h => List.mem_cons_of_mem _ (List.mem_append_right _ h)), by decide, List.mem_of_getElem? (i := 3) rfl⟩
theorem fg4_next_9 : YF wsX4_next RX4 9 4 0 := ⟨RX4, TX4, 5, rfl, (fun w h => List.mem_cons_of_mem _ (List.mem_append_right _ h)), by decide, List.mem_of_getElem? (i := 4) rfl⟩
theorem yf4_next : (∃ Ty', wsX4_next = Cond.code yX4_next cX4_next 1 (some .int) :: Ty') ∧ (yX4_next.cls ≠ "java/lang/invoke/MethodHandle" ∧ yX4_next.cls ≠ "java/lang/invoke/VarHandle" ∧ (parseMethodDescriptor yX4_next.desc).map (fun d => d.parameters.length) = some 0) := ⟨⟨_, rfl⟩, by decide +kernel, by decide +kernel, by decide +kernel⟩
abbrev w4_next (cI cJ cZ cS cT : ClassId) (a0 a_bytes a_text : Nat) (v_length : Int32) (v_at : Int32) (v_fault : Int32) (v_bytes : Nat → Int32) : va_W := [(a0, .inr (4, [.ref a_bytes, .int v_length, .int v_at, .int v_fault, .ref a_text])), (a_bytes, .inl (cI, 120, .inl v_bytes))]
def x4_next (v_length : Int32) (v_at : Int32) (v_fault : Int32) (v_bytes : Nat → Int32) : Option (Int32) :=
  if v_fault = (-1) then (if v_at < 0 then (some ((-1))) else (if v_length ≤ v_at then (some ((-1))) else (bif inB v_at 120 then (some ((v_bytes v_at.toNatClampNeg))) else none))) else (some ((-1)))
set_option maxHeartbeats 4000000 in
set_option maxRecDepth 100000 in
theorem c4_next (l : Launch) (D : yD) (cI cJ cZ cS cT : ClassId) (a0 a_bytes a_text : Nat) (v_length : Int32) (v_at : Int32) (v_fault : Int32) (v_bytes : Nat → Int32) (out : Int32) (hx : x4_next v_length v_at v_fault v_bytes = some out) : MC l D (yT cI cJ cZ cS cT) yX4_next wsX4_next ({ frames := 0, cells := 0, slots := 0, locals := 0 } : Room) (0, 0) [.ref a0] (w4_next cI cJ cZ cS cT a0 a_bytes a_text v_length v_at v_fault v_bytes) (POd (fun o : Int32 => some (.int o)) (fun (o : Int32) => (w4_next cI cJ cZ cS cT a0 a_bytes a_text v_length v_at v_fault v_bytes)) out) := by
  refine MC.intro (cc := cX4_next) (nL := 1) (ret := (some .int)) (own := RX4) (lv := [(0, .ref a0)]) (by decide) rfl rfl (Nat.le_of_ble_eq_true rfl) rfl (fun X C E => ?_)
  unfold x4_next at hx
  refine Yaload_n C dX4_next_0 0 rfl rfl ?_
  refine Yget C fg4_next_28 dX4_next_1 0 rfl rfl ?_
  refine Yiconst C (-1) dX4_next_4 (by decide) ?_
  refine Yicmp_ne C 38 dX4_next_5 (by decide) hx (fun _ hx => ?_) (fun _ hx => ?_)
  · skip
    refine Yiconst C (-1) dX4_next_38 (by decide) ?_
    exact Yiret C E dX4_next_39 (ypo hx rfl rfl)
  · skip
    refine Yaload_n C dX4_next_8 0 rfl rfl ?_
    refine Yget C fg4_next_25 dX4_next_9 0 rfl rfl ?_
    refine Yif_lt C 38 dX4_next_12 (by decide) hx (fun _ hx => ?_) (fun _ hx => ?_)
    · skip
      refine Yiconst C (-1) dX4_next_38 (by decide) ?_
      exact Yiret C E dX4_next_39 (ypo hx rfl rfl)
    · skip
      refine Yaload_n C dX4_next_15 0 rfl rfl ?_
      refine Yget C fg4_next_25 dX4_next_16 0 rfl rfl ?_
      refine Yaload_n C dX4_next_19 0 rfl rfl ?_
      refine Yget C fg4_next_21 dX4_next_20 0 rfl rfl ?_
      refine Yicmp_ge C 38 dX4_next_23 (by decide) hx (fun _ hx => ?_) (fun _ hx => ?_)
      · skip
        refine Yiconst C (-1) dX4_next_38 (by decide) ?_
        exact Yiret C E dX4_next_39 (ypo hx rfl rfl)
      · skip
        refine Yaload_n C dX4_next_26 0 rfl rfl ?_
        refine Yget C fg4_next_9 dX4_next_27 0 rfl rfl ?_
        refine Yaload_n C dX4_next_30 0 rfl rfl ?_
        refine Yget C fg4_next_25 dX4_next_31 0 rfl rfl ?_
        refine Yiald C dX4_next_34 hx 1 0 rfl rfl (fun hx => ?_)
        refine Ygoto C 39 dX4_next_35 (by decide) ?_
        exact Yiret C E dX4_next_39 (ypo hx rfl rfl)
theorem yf4_isDigit : (∃ Ty', wsX4_isDigit = Cond.code yX4_isDigit cX4_isDigit 1 (some .boolean) :: Ty') ∧ (yX4_isDigit.cls ≠ "java/lang/invoke/MethodHandle" ∧ yX4_isDigit.cls ≠ "java/lang/invoke/VarHandle" ∧ (parseMethodDescriptor yX4_isDigit.desc).map (fun d => d.parameters.length) = some 1) := ⟨⟨_, rfl⟩, by decide +kernel, by decide +kernel, by decide +kernel⟩
def x4_isDigit (p0 : Int32) : Option (Bool) :=
  if p0 < 48 then (some (false)) else (if 57 < p0 then (some (false)) else (some (true)))
set_option maxHeartbeats 4000000 in
set_option maxRecDepth 100000 in
theorem c4_isDigit (l : Launch) (D : yD) (cI cJ cZ cS cT : ClassId) (p0 : Int32) (out : Bool) (hx : x4_isDigit p0 = some out) : MC l D (yT cI cJ cZ cS cT) yX4_isDigit wsX4_isDigit ({ frames := 0, cells := 0, slots := 0, locals := 0 } : Room) (0, 0) [.int p0] ([] : va_W) (POd (fun o : Bool => some (.int (bI o))) (fun (o : Bool) => ([] : va_W)) out) := by
  refine MC.intro (cc := cX4_isDigit) (nL := 1) (ret := (some .boolean)) (own := RX4) (lv := [(0, .int p0)]) (by decide) rfl rfl (Nat.le_of_ble_eq_true rfl) rfl (fun X C E => ?_)
  unfold x4_isDigit at hx
  refine Yiload_n C dX4_isDigit_0 0 rfl rfl ?_
  refine Ybipush C 48 dX4_isDigit_1 (by decide) ?_
  refine Yicmp_lt C 16 dX4_isDigit_3 (by decide) hx (fun _ hx => ?_) (fun _ hx => ?_)
  · skip
    refine Yiconst C 0 dX4_isDigit_16 (by decide) ?_
    exact Yzret (b := false) C E dX4_isDigit_17 (ypo hx rfl rfl)
  · skip
    refine Yiload_n C dX4_isDigit_6 0 rfl rfl ?_
    refine Ybipush C 57 dX4_isDigit_7 (by decide) ?_
    refine Yicmp_gt C 16 dX4_isDigit_9 (by decide) hx (fun _ hx => ?_) (fun _ hx => ?_)
    · skip
      refine Yiconst C 0 dX4_isDigit_16 (by decide) ?_
      exact Yzret (b := false) C E dX4_isDigit_17 (ypo hx rfl rfl)
    · skip
      refine Yiconst C 1 dX4_isDigit_12 (by decide) ?_
      refine Ygoto C 17 dX4_isDigit_13 (by decide) ?_
      exact Yzret (b := true) C E dX4_isDigit_17 (ypo hx rfl rfl)
theorem yf4_levelOf : (∃ Ty', wsX4_levelOf = Cond.code yX4_levelOf cX4_levelOf 1 (some .int) :: Ty') ∧ (yX4_levelOf.cls ≠ "java/lang/invoke/MethodHandle" ∧ yX4_levelOf.cls ≠ "java/lang/invoke/VarHandle" ∧ (parseMethodDescriptor yX4_levelOf.desc).map (fun d => d.parameters.length) = some 1) := ⟨⟨_, rfl⟩, by decide +kernel, by decide +kernel, by decide +kernel⟩
def x4_levelOf (p0 : Int32) : Option (Int32) :=
  if p0 = 37 then (some (4)) else (if p0 = 38 then (some (1)) else (if p0 = 42 then (some (4)) else (if p0 = 43 then (some (3)) else (if p0 = 45 then (some (3)) else (if p0 = 47 then (some (4)) else (if p0 = 60 then (some (2)) else (if p0 = 61 then (some (2)) else (if p0 = 62 then (some (2)) else (if p0 = 124 then (some (0)) else (some ((-1))))))))))))
set_option maxHeartbeats 4000000 in
set_option maxRecDepth 100000 in
theorem c4_levelOf (l : Launch) (D : yD) (cI cJ cZ cS cT : ClassId) (p0 : Int32) (out : Int32) (hx : x4_levelOf p0 = some out) : MC l D (yT cI cJ cZ cS cT) yX4_levelOf wsX4_levelOf ({ frames := 0, cells := 0, slots := 0, locals := 0 } : Room) (0, 0) [.int p0] ([] : va_W) (POd (fun o : Int32 => some (.int o)) (fun (o : Int32) => ([] : va_W)) out) := by
  refine MC.intro (cc := cX4_levelOf) (nL := 1) (ret := (some .int)) (own := RX4) (lv := [(0, .int p0)]) (by decide) rfl rfl (Nat.le_of_ble_eq_true rfl) rfl (fun X C E => ?_)
  unfold x4_levelOf at hx
  refine Yiload_n C dX4_levelOf_0 0 rfl rfl ?_
  refine yite hx (fun hq hx => ?_) (fun hq0 hx => ?_)
  · skip
    refine Ylook (off := 99) C 100 dX4_levelOf_1 (by decide) (by rw [hq]; decide) (by decide) ?_
    refine Yiconst C 4 dX4_levelOf_100 (by decide) ?_
    exact Yiret C E dX4_levelOf_101 (ypo hx rfl rfl)
  refine yite hx (fun hq hx => ?_) (fun hq1 hx => ?_)
  · skip
    refine Ylook (off := 93) C 94 dX4_levelOf_1 (by decide) (by rw [hq]; decide) (by decide) ?_
    refine Yiconst C 1 dX4_levelOf_94 (by decide) ?_
    exact Yiret C E dX4_levelOf_95 (ypo hx rfl rfl)
  refine yite hx (fun hq hx => ?_) (fun hq2 hx => ?_)
  · skip
    refine Ylook (off := 99) C 100 dX4_levelOf_1 (by decide) (by rw [hq]; decide) (by decide) ?_
    refine Yiconst C 4 dX4_levelOf_100 (by decide) ?_
    exact Yiret C E dX4_levelOf_101 (ypo hx rfl rfl)
  refine yite hx (fun hq hx => ?_) (fun hq3 hx => ?_)
  · skip
    refine Ylook (off := 97) C 98 dX4_levelOf_1 (by decide) (by rw [hq]; decide) (by decide) ?_
    refine Yiconst C 3 dX4_levelOf_98 (by decide) ?_
    exact Yiret C E dX4_levelOf_99 (ypo hx rfl rfl)
  refine yite hx (fun hq hx => ?_) (fun hq4 hx => ?_)
  · skip
    refine Ylook (off := 97) C 98 dX4_levelOf_1 (by decide) (by rw [hq]; decide) (by decide) ?_
    refine Yiconst C 3 dX4_levelOf_98 (by decide) ?_
    exact Yiret C E dX4_levelOf_99 (ypo hx rfl rfl)
  refine yite hx (fun hq hx => ?_) (fun hq5 hx => ?_)
  · skip
    refine Ylook (off := 99) C 100 dX4_levelOf_1 (by decide) (by rw [hq]; decide) (by decide) ?_
    refine Yiconst C 4 dX4_levelOf_100 (by decide) ?_
    exact Yiret C E dX4_levelOf_101 (ypo hx rfl rfl)
  refine yite hx (fun hq hx => ?_) (fun hq6 hx => ?_)
  · skip
    refine Ylook (off := 95) C 96 dX4_levelOf_1 (by decide) (by rw [hq]; decide) (by decide) ?_
    refine Yiconst C 2 dX4_levelOf_96 (by decide) ?_
    exact Yiret C E dX4_levelOf_97 (ypo hx rfl rfl)
  refine yite hx (fun hq hx => ?_) (fun hq7 hx => ?_)
  · skip
    refine Ylook (off := 95) C 96 dX4_levelOf_1 (by decide) (by rw [hq]; decide) (by decide) ?_
    refine Yiconst C 2 dX4_levelOf_96 (by decide) ?_
    exact Yiret C E dX4_levelOf_97 (ypo hx rfl rfl)
  refine yite hx (fun hq hx => ?_) (fun hq8 hx => ?_)
  · skip
    refine Ylook (off := 95) C 96 dX4_levelOf_1 (by decide) (by rw [hq]; decide) (by decide) ?_
    refine Yiconst C 2 dX4_levelOf_96 (by decide) ?_
    exact Yiret C E dX4_levelOf_97 (ypo hx rfl rfl)
  refine yite hx (fun hq hx => ?_) (fun hq9 hx => ?_)
  · skip
    refine Ylook (off := 91) C 92 dX4_levelOf_1 (by decide) (by rw [hq]; decide) (by decide) ?_
    refine Yiconst C 0 dX4_levelOf_92 (by decide) ?_
    exact Yiret C E dX4_levelOf_93 (ypo hx rfl rfl)
  refine Ylook (off := 101) C 102 dX4_levelOf_1 (by decide) (by have e0 : p0.toInt ≠ 37 := ne_toInt hq0; have e1 : p0.toInt ≠ 38 := ne_toInt hq1; have e2 : p0.toInt ≠ 42 := ne_toInt hq2; have e3 : p0.toInt ≠ 43 := ne_toInt hq3; have e4 : p0.toInt ≠ 45 := ne_toInt hq4; have e5 : p0.toInt ≠ 47 := ne_toInt hq5; have e6 : p0.toInt ≠ 60 := ne_toInt hq6; have e7 : p0.toInt ≠ 61 := ne_toInt hq7; have e8 : p0.toInt ≠ 62 := ne_toInt hq8; have e9 : p0.toInt ≠ 124 := ne_toInt hq9; simp [Op.lookupswitch.offset, e0, e1, e2, e3, e4, e5, e6, e7, e8, e9, e0.symm, e1.symm, e2.symm, e3.symm, e4.symm, e5.symm, e6.symm, e7.symm, e8.symm, e9.symm]) (by decide) ?_
  refine Yiconst C (-1) dX4_levelOf_102 (by decide) ?_
  exact Yiret C E dX4_levelOf_103 (ypo hx rfl rfl)
theorem fg4_readNumber_31 : YF wsX4_readNumber RX4 31 4 4 := ⟨RX4, TX4, 5, rfl, (fun w h => List.mem_cons_of_mem _ (List.mem_append_left _ (List.mem_append_right _ h))), by decide, List.mem_of_getElem? (i := 2) rfl⟩
theorem fg4_readNumber_25 : YF wsX4_readNumber RX4 25 4 2 := ⟨RX4, TX4, 5, rfl, (fun w h => List.mem_cons_of_mem _ (List.mem_append_left _ (List.mem_append_right _ h))), by decide, List.mem_of_getElem? (i := 1) rfl⟩
theorem fp4_readNumber_25 : YFp wsX4_readNumber RX4 25 4 2 (tyX4 2) := ⟨RX4, TX4, 5, tyX4, rfl, (fun w h => List.mem_cons_of_mem _ (List.mem_append_left _ (List.mem_append_right _ h))), by decide, List.mem_of_getElem? (i := 1) rfl, tyX4_ok, nmX4, rfl, tyX4_ok _ (by decide)⟩
theorem yf4_readNumber : (∃ Ty', wsX4_readNumber = Cond.code yX4_readNumber cX4_readNumber 3 none :: Ty') ∧ (yX4_readNumber.cls ≠ "java/lang/invoke/MethodHandle" ∧ yX4_readNumber.cls ≠ "java/lang/invoke/VarHandle" ∧ (parseMethodDescriptor yX4_readNumber.desc).map (fun d => d.parameters.length) = some 0) := ⟨⟨_, rfl⟩, by decide +kernel, by decide +kernel, by decide +kernel⟩
abbrev w4_readNumber (cI cJ cZ cS cT : ClassId) (a0 a_bytes a_text a_text_steps a_text_stack : Nat) (v_length : Int32) (v_at : Int32) (v_fault : Int32) (v_text_size : Int32) (v_text_usesWaited : Bool) (v_bytes : Nat → Int32) (v_text_steps : Nat → Int32) : va_W := [(a0, .inr (4, [.ref a_bytes, .int v_length, .int v_at, .int v_fault, .ref a_text])), (a_bytes, .inl (cI, 120, .inl v_bytes)), (a_text, .inr (6, [.ref a_text_steps, .ref a_text_stack, .int v_text_size, .int (bI v_text_usesWaited)])), (a_text_steps, .inl (cI, 124, .inl v_text_steps))]
def x4_readNumber_48  (v_length : Int32) (v_fault : Int32) (v_bytes : Nat → Int32) (v_at : Int32) (v_text_size : Int32) (v_text_usesWaited : Bool) (v_text_steps : Nat → Int32) (l1 : Int32) : Option (Int32 × Int32 × Bool × (Nat → Int32)) :=
  (x6_add v_text_size v_text_usesWaited v_text_steps (1000 + l1)).bind fun o1 => some (v_at, o1.1, o1.2.1, o1.2.2)
def x4_readNumber_4  (v_length : Int32) (v_fault : Int32) (v_bytes : Nat → Int32) (v_text_size : Int32) (v_text_usesWaited : Bool) (v_text_steps : Nat → Int32) : Nat → Int32 → Int32 → Int32 → Option (Int32 × Int32 × Bool × (Nat → Int32))
  | 0, _, _, _ => none
  | n + 1, v_at, l1, l2 =>
    if 4 ≤ l2 then (x4_readNumber_48  v_length v_fault v_bytes v_at v_text_size v_text_usesWaited v_text_steps l1) else ((x4_next v_length v_at v_fault v_bytes).bind fun o2 => (x4_isDigit o2).bind fun o3 => bif o3 then ((x4_next v_length v_at v_fault v_bytes).bind fun o4 => x4_readNumber_4 v_length v_fault v_bytes v_text_size v_text_usesWaited v_text_steps n (v_at + 1) (((10 * l1) + o4) - 48) (l2 + 1)) else (x4_readNumber_48  v_length v_fault v_bytes v_at v_text_size v_text_usesWaited v_text_steps l1))
def x4_readNumber (v_length : Int32) (v_at : Int32) (v_fault : Int32) (v_bytes : Nat → Int32) (v_text_size : Int32) (v_text_usesWaited : Bool) (v_text_steps : Nat → Int32) : Option (Int32 × Int32 × Bool × (Nat → Int32)) :=
  x4_readNumber_4  v_length v_fault v_bytes v_text_size v_text_usesWaited v_text_steps yN v_at 0 0
set_option maxHeartbeats 4000000 in
set_option maxRecDepth 100000 in
theorem c4_readNumber (l : Launch) (D : yD) (cI cJ cZ cS cT : ClassId) (a0 a_bytes a_text a_text_steps a_text_stack : Nat) (v_length : Int32) (v_at : Int32) (v_fault : Int32) (v_text_size : Int32) (v_text_usesWaited : Bool) (v_bytes : Nat → Int32) (v_text_steps : Nat → Int32) (out : Int32 × Int32 × Bool × (Nat → Int32)) (hx : x4_readNumber v_length v_at v_fault v_bytes v_text_size v_text_usesWaited v_text_steps = some out) : MC l D (yT cI cJ cZ cS cT) yX4_readNumber wsX4_readNumber ({ frames := 1, cells := 0, slots := 0, locals := 21 } : Room) (0, 0) [.ref a0] (w4_readNumber cI cJ cZ cS cT a0 a_bytes a_text a_text_steps a_text_stack v_length v_at v_fault v_text_size v_text_usesWaited v_bytes v_text_steps) (POd (fun o : Int32 × Int32 × Bool × (Nat → Int32) => none) (fun (o : Int32 × Int32 × Bool × (Nat → Int32)) => (w4_readNumber cI cJ cZ cS cT a0 a_bytes a_text a_text_steps a_text_stack v_length o.1 v_fault o.2.1 o.2.2.1 v_bytes o.2.2.2)) out) := by
  refine MC.intro (cc := cX4_readNumber) (nL := 3) (ret := none) (own := RX4) (lv := [(0, .ref a0)]) (by decide) rfl rfl (Nat.le_of_ble_eq_true rfl) rfl (fun X C E => ?_)
  unfold x4_readNumber at hx
  have b4 : ∀ (v_text_size : Int32) (v_text_usesWaited : Bool) (v_text_steps : Nat → Int32), ∀ (n4 : Nat) (v_at : Int32) (l1 : Int32) (l2 : Int32), x4_readNumber_4  v_length v_fault v_bytes v_text_size v_text_usesWaited v_text_steps n4 v_at l1 l2 = some out → Y X (0, 0) (w4_readNumber cI cJ cZ cS cT a0 a_bytes a_text a_text_steps a_text_stack v_length v_at v_fault v_text_size v_text_usesWaited v_bytes v_text_steps) [(0, .ref a0), (1, .int l1), (2, .int l2)] 4 [] := by
    intro v_text_size v_text_usesWaited v_text_steps
    intro n4
    induction n4 with
    | zero =>
      intro v_at l1 l2  hx
      rw [x4_readNumber_4] at hx
      cases hx
    | succ n4 ih4 =>
      intro v_at l1 l2  hx
      rw [x4_readNumber_4] at hx
      have b48 : ∀  (v_at : Int32) (v_text_size : Int32) (v_text_usesWaited : Bool) (v_text_steps : Nat → Int32) (l1 : Int32), x4_readNumber_48  v_length v_fault v_bytes v_at v_text_size v_text_usesWaited v_text_steps l1 = some out → Y X (0, 0) (w4_readNumber cI cJ cZ cS cT a0 a_bytes a_text a_text_steps a_text_stack v_length v_at v_fault v_text_size v_text_usesWaited v_bytes v_text_steps) [(0, .ref a0), (1, .int l1)] 48 [] := by
        intro  v_at v_text_size v_text_usesWaited v_text_steps l1  hx
        unfold x4_readNumber_48 at hx
        refine Yaload_n C dX4_readNumber_48 0 rfl rfl ?_
        refine Yget C fg4_readNumber_31 dX4_readNumber_49 0 rfl rfl ?_
        refine Ysipush C 1000 dX4_readNumber_52 (by decide) ?_
        refine Yiload_n C dX4_readNumber_55 1 rfl rfl ?_
        refine Yiadd C dX4_readNumber_56 ?_
        obtain ⟨o1, ho1, hx⟩ := ybnd hx
        refine YcallVd (ws' := (w4_readNumber cI cJ cZ cS cT a0 a_bytes a_text a_text_steps a_text_stack v_length v_at v_fault o1.1 o1.2.1 v_bytes o1.2.2)) (st' := []) (st := []) (as := [.int (1000 + l1)]) (b := a_text) (ci := 6) C [2, 3] [0, 1] 4 dX4_readNumber_57 (c6_add l D cI cJ cZ cS cT a_text a_text_steps a_text_stack v_text_size v_text_usesWaited v_text_steps (1000 + l1) o1 ho1) gX4_readNumber_X6_add rfl ⟨yf6_add.1, yf6_add.2, Nat.le_of_ble_eq_true rfl, Nat.le_of_ble_eq_true rfl, rfl, rfl⟩ rfl 2 rfl (by decide) ⟨Nat.zero_le _, Nat.zero_le _⟩ (Nat.le_of_ble_eq_true rfl) ⟨rfl, rfl, trivial⟩ rfl rfl (by decide) (by decide) ⟨rfl, rfl, trivial⟩ [(a0, .inr (4, [.ref a_bytes, .int v_length, .int v_at, .int v_fault, .ref a_text])), (a_bytes, .inl (cI, 120, .inl v_bytes))] ⟨rfl, rfl, trivial⟩ ⟨rfl, rfl, trivial⟩ rfl ?_
        exact Yvret C E dX4_readNumber_60 (ypo hx rfl rfl)
      refine Yiload_n C dX4_readNumber_4 2 rfl rfl ?_
      refine Yiconst C 4 dX4_readNumber_5 (by decide) ?_
      refine Yicmp_ge C 48 dX4_readNumber_6 (by decide) hx (fun _ hx => ?_) (fun _ hx => ?_)
      · skip
        exact Yjmp C [0, 1] rfl (b48  v_at v_text_size v_text_usesWaited v_text_steps l1 hx)
      · skip
        refine Yaload_n C dX4_readNumber_9 0 rfl rfl ?_
        obtain ⟨o2, ho2, hx⟩ := ybnd hx
        refine YcallVd (ws' := (w4_readNumber cI cJ cZ cS cT a0 a_bytes a_text a_text_steps a_text_stack v_length v_at v_fault v_text_size v_text_usesWaited v_bytes v_text_steps)) (st' := [.int o2]) (st := []) (as := []) (b := a0) (ci := 4) C [0, 1] [2, 3] 4 dX4_readNumber_10 (c4_next l D cI cJ cZ cS cT a0 a_bytes a_text v_length v_at v_fault v_bytes o2 ho2) gX4_readNumber_X4_next rfl ⟨yf4_next.1, yf4_next.2, Nat.le_of_ble_eq_true rfl, Nat.le_of_ble_eq_true rfl, rfl, rfl⟩ rfl 0 rfl (by decide) ⟨Nat.zero_le _, Nat.zero_le _⟩ (Nat.le_of_ble_eq_true rfl) ⟨rfl, rfl, trivial⟩ rfl rfl (by decide) (by decide) ⟨rfl, rfl, trivial⟩ [(a_text, .inr (6, [.ref a_text_steps, .ref a_text_stack, .int v_text_size, .int (bI v_text_usesWaited)])), (a_text_steps, .inl (cI, 124, .inl v_text_steps))] ⟨rfl, rfl, trivial⟩ ⟨rfl, rfl, trivial⟩ rfl ?_
        obtain ⟨o3, ho3, hx⟩ := ybnd hx
        refine YcallSd (ws' := (w4_readNumber cI cJ cZ cS cT a0 a_bytes a_text a_text_steps a_text_stack v_length v_at v_fault v_text_size v_text_usesWaited v_bytes v_text_steps)) (st' := [.int (bI o3)]) (st := []) (as := [.int o2]) C [] [0, 1, 2, 3] 4 dX4_readNumber_13 (c4_isDigit l D cI cJ cZ cS cT o2 o3 ho3) gX4_readNumber_X4_isDigit rfl ⟨yf4_isDigit.1, yf4_isDigit.2, Nat.le_of_ble_eq_true rfl, Nat.le_of_ble_eq_true rfl, rfl, rfl⟩ (by decide) ⟨Nat.zero_le _, Nat.zero_le _⟩ (Nat.le_of_ble_eq_true rfl) trivial rfl rfl (by decide) (by decide) trivial [(a0, .inr (4, [.ref a_bytes, .int v_length, .int v_at, .int v_fault, .ref a_text])), (a_bytes, .inl (cI, 120, .inl v_bytes)), (a_text, .inr (6, [.ref a_text_steps, .ref a_text_stack, .int v_text_size, .int (bI v_text_usesWaited)])), (a_text_steps, .inl (cI, 124, .inl v_text_steps))] ⟨rfl, rfl, rfl, rfl, trivial⟩ ⟨rfl, rfl, rfl, rfl, trivial⟩ rfl ?_
        refine Yif_eq_b C 48 dX4_readNumber_16 (by decide) hx (fun _ hx => ?_) (fun _ hx => ?_)
        · skip
          exact Yjmp C [0, 1] rfl (b48  v_at v_text_size v_text_usesWaited v_text_steps l1 hx)
        · skip
          refine Ybipush C 10 dX4_readNumber_19 (by decide) ?_
          refine Yiload_n C dX4_readNumber_21 1 rfl rfl ?_
          refine Yimul C dX4_readNumber_22 ?_
          refine Yaload_n C dX4_readNumber_23 0 rfl rfl ?_
          obtain ⟨o4, ho4, hx⟩ := ybnd hx
          refine YcallVd (ws' := (w4_readNumber cI cJ cZ cS cT a0 a_bytes a_text a_text_steps a_text_stack v_length v_at v_fault v_text_size v_text_usesWaited v_bytes v_text_steps)) (st' := [.int o4, .int (10 * l1)]) (st := [.int (10 * l1)]) (as := []) (b := a0) (ci := 4) C [0, 1] [2, 3] 4 dX4_readNumber_24 (c4_next l D cI cJ cZ cS cT a0 a_bytes a_text v_length v_at v_fault v_bytes o4 ho4) gX4_readNumber_X4_next rfl ⟨yf4_next.1, yf4_next.2, Nat.le_of_ble_eq_true rfl, Nat.le_of_ble_eq_true rfl, rfl, rfl⟩ rfl 0 rfl (by decide) ⟨Nat.zero_le _, Nat.zero_le _⟩ (Nat.le_of_ble_eq_true rfl) ⟨rfl, rfl, trivial⟩ rfl rfl (by decide) (by decide) ⟨rfl, rfl, trivial⟩ [(a_text, .inr (6, [.ref a_text_steps, .ref a_text_stack, .int v_text_size, .int (bI v_text_usesWaited)])), (a_text_steps, .inl (cI, 124, .inl v_text_steps))] ⟨rfl, rfl, trivial⟩ ⟨rfl, rfl, trivial⟩ rfl ?_
          refine Yiadd C dX4_readNumber_27 ?_
          refine Ybipush C 48 dX4_readNumber_28 (by decide) ?_
          refine Yisub C dX4_readNumber_30 ?_
          refine Yistore_n (lv' := [(0, .ref a0), (1, .int (((10 * l1) + o4) - 48)), (2, .int l2)]) C dX4_readNumber_31 rfl (by decide) rfl ?_
          refine Yaload_n C dX4_readNumber_32 0 rfl rfl ?_
          refine Ydup C dX4_readNumber_33 rfl ?_
          refine Yget C fg4_readNumber_25 dX4_readNumber_34 0 rfl rfl ?_
          refine Yiconst C 1 dX4_readNumber_37 (by decide) ?_
          refine Yiadd C dX4_readNumber_38 ?_
          refine Yput (v := .int (v_at + 1)) (ws' := (w4_readNumber cI cJ cZ cS cT a0 a_bytes a_text a_text_steps a_text_stack v_length (v_at + 1) v_fault v_text_size v_text_usesWaited v_bytes v_text_steps)) C fp4_readNumber_25 dX4_readNumber_39 0 rfl rfl rfl (Nat.le_of_ble_eq_true rfl) rfl rfl ?_
          refine Yiinc (v := l2 + 1) (lv' := [(0, .ref a0), (1, .int (((10 * l1) + o4) - 48)), (2, .int (l2 + 1))]) C dX4_readNumber_42 2 rfl rfl (by decide) rfl ?_
          refine Ygoto C 4 dX4_readNumber_45 (by decide) ?_
          exact ih4 (v_at + 1) (((10 * l1) + o4) - 48) (l2 + 1) hx
  refine Yiconst C 0 dX4_readNumber_0 (by decide) ?_
  refine Yistore_n (lv' := [(0, .ref a0), (1, .int 0)]) C dX4_readNumber_1 rfl (by decide) rfl ?_
  refine Yiconst C 0 dX4_readNumber_2 (by decide) ?_
  refine Yistore_n (lv' := [(0, .ref a0), (1, .int 0), (2, .int 0)]) C dX4_readNumber_3 rfl (by decide) rfl ?_
  exact b4 v_text_size v_text_usesWaited v_text_steps yN v_at 0 0 hx
theorem fg4_readJoined_25 : YF wsX4_readJoined RX4 25 4 2 := ⟨RX4, TX4, 5, rfl, (fun w h => List.mem_cons_of_mem _ (List.mem_append_left _ (List.mem_append_right _ h))), by decide, List.mem_of_getElem? (i := 1) rfl⟩
theorem fp4_readJoined_25 : YFp wsX4_readJoined RX4 25 4 2 (tyX4 2) := ⟨RX4, TX4, 5, tyX4, rfl, (fun w h => List.mem_cons_of_mem _ (List.mem_append_left _ (List.mem_append_right _ h))), by decide, List.mem_of_getElem? (i := 1) rfl, tyX4_ok, nmX4, rfl, tyX4_ok _ (by decide)⟩
theorem fg4_readJoined_31 : YF wsX4_readJoined RX4 31 4 4 := ⟨RX4, TX4, 5, rfl, (fun w h => List.mem_cons_of_mem _ (List.mem_append_left _ (List.mem_append_right _ h))), by decide, List.mem_of_getElem? (i := 2) rfl⟩
theorem yf4_readJoined : (∃ Ty', wsX4_readJoined = Cond.code yX4_readJoined cX4_readJoined 6 none :: Ty') ∧ (yX4_readJoined.cls ≠ "java/lang/invoke/MethodHandle" ∧ yX4_readJoined.cls ≠ "java/lang/invoke/VarHandle" ∧ (parseMethodDescriptor yX4_readJoined.desc).map (fun d => d.parameters.length) = some 2) := ⟨⟨_, rfl⟩, by decide +kernel, by decide +kernel, by decide +kernel⟩
abbrev w4_readJoined (cI cJ cZ cS cT : ClassId) (a0 a_bytes a_text a_text_steps a_text_stack : Nat) (v_length : Int32) (v_at : Int32) (v_fault : Int32) (v_text_size : Int32) (v_text_usesWaited : Bool) (v_bytes : Nat → Int32) (v_text_steps : Nat → Int32) : va_W := [(a0, .inr (4, [.ref a_bytes, .int v_length, .int v_at, .int v_fault, .ref a_text])), (a_bytes, .inl (cI, 120, .inl v_bytes)), (a_text, .inr (6, [.ref a_text_steps, .ref a_text_stack, .int v_text_size, .int (bI v_text_usesWaited)])), (a_text_steps, .inl (cI, 124, .inl v_text_steps))]
def x4_readJoined_34 (kR : Bool → Int32 → Int32 → Int32 → (Nat → Int32) → Int32 → Bool → (Nat → Int32) → Int32 → Int32 → Option (Int32 × Int32 × Int32 × Bool × (Nat → Int32)))  (v_length : Int32) (v_bytes : Nat → Int32) (p1 : Int32) (p2 : Int32) (l3 : Int32) : Nat → Int32 → Int32 → Int32 → Bool → (Nat → Int32) → Int32 → Option (Int32 × Int32 × Int32 × Bool × (Nat → Int32))
  | 0, _, _, _, _, _, _ => none
  | n + 1, v_at, v_fault, v_text_size, v_text_usesWaited, v_text_steps, l4 =>
    if l3 ≤ l4 then (some (v_at, v_fault, v_text_size, v_text_usesWaited, v_text_steps)) else ((x4_next v_length v_at v_fault v_bytes).bind fun o1 => (x4_levelOf o1).bind fun o2 => if o2 = p1 then ((x4_next v_length v_at v_fault v_bytes).bind fun o3 => (kR true v_length (v_at + 1) v_fault v_bytes v_text_size v_text_usesWaited v_text_steps (p1 + 1) p2).bind fun o4 => (x6_add o4.2.2.1 o4.2.2.2.1 o4.2.2.2.2 o3).bind fun o5 => x4_readJoined_34 kR v_length v_bytes p1 p2 l3 n o4.1 o4.2.1 o5.1 o5.2.1 o5.2.2 (l4 + 1)) else (some (v_at, v_fault, v_text_size, v_text_usesWaited, v_text_steps)))
def x4_readJoined_30 (kR : Bool → Int32 → Int32 → Int32 → (Nat → Int32) → Int32 → Bool → (Nat → Int32) → Int32 → Int32 → Option (Int32 × Int32 × Int32 × Bool × (Nat → Int32)))  (v_length : Int32) (v_bytes : Nat → Int32) (p1 : Int32) (p2 : Int32) (v_at : Int32) (v_fault : Int32) (v_text_size : Int32) (v_text_usesWaited : Bool) (v_text_steps : Nat → Int32) (t0 : Int32) : Option (Int32 × Int32 × Int32 × Bool × (Nat → Int32)) :=
  x4_readJoined_34 kR v_length v_bytes p1 p2 t0 yN v_at v_fault v_text_size v_text_usesWaited v_text_steps 0
theorem fg4_readOperand_25 : YF wsX4_readOperand RX4 25 4 2 := ⟨RX4, TX4, 5, rfl, (fun w h => List.mem_cons_of_mem _ (List.mem_append_left _ (List.mem_append_right _ h))), by decide, List.mem_of_getElem? (i := 1) rfl⟩
theorem fp4_readOperand_25 : YFp wsX4_readOperand RX4 25 4 2 (tyX4 2) := ⟨RX4, TX4, 5, tyX4, rfl, (fun w h => List.mem_cons_of_mem _ (List.mem_append_left _ (List.mem_append_right _ h))), by decide, List.mem_of_getElem? (i := 1) rfl, tyX4_ok, nmX4, rfl, tyX4_ok _ (by decide)⟩
theorem fg4_readOperand_31 : YF wsX4_readOperand RX4 31 4 4 := ⟨RX4, TX4, 5, rfl, (fun w h => List.mem_cons_of_mem _ (List.mem_append_left _ (List.mem_append_right _ h))), by decide, List.mem_of_getElem? (i := 2) rfl⟩
theorem yf4_readOperand : (∃ Ty', wsX4_readOperand = Cond.code yX4_readOperand cX4_readOperand 4 none :: Ty') ∧ (yX4_readOperand.cls ≠ "java/lang/invoke/MethodHandle" ∧ yX4_readOperand.cls ≠ "java/lang/invoke/VarHandle" ∧ (parseMethodDescriptor yX4_readOperand.desc).map (fun d => d.parameters.length) = some 1) := ⟨⟨_, rfl⟩, by decide +kernel, by decide +kernel, by decide +kernel⟩
abbrev w4_readOperand (cI cJ cZ cS cT : ClassId) (a0 a_bytes a_text a_text_steps a_text_stack : Nat) (v_length : Int32) (v_at : Int32) (v_fault : Int32) (v_text_size : Int32) (v_text_usesWaited : Bool) (v_bytes : Nat → Int32) (v_text_steps : Nat → Int32) : va_W := [(a0, .inr (4, [.ref a_bytes, .int v_length, .int v_at, .int v_fault, .ref a_text])), (a_bytes, .inl (cI, 120, .inl v_bytes)), (a_text, .inr (6, [.ref a_text_steps, .ref a_text_stack, .int v_text_size, .int (bI v_text_usesWaited)])), (a_text_steps, .inl (cI, 124, .inl v_text_steps))]
def x4_readOperand_138 (kR : Bool → Int32 → Int32 → Int32 → (Nat → Int32) → Int32 → Bool → (Nat → Int32) → Int32 → Int32 → Option (Int32 × Int32 × Int32 × Bool × (Nat → Int32)))  (v_length : Int32) (v_bytes : Nat → Int32) (p1 : Int32) (v_at : Int32) (v_fault : Int32) (v_text_size : Int32) (v_text_usesWaited : Bool) (v_text_steps : Nat → Int32) (l2 : Int32) : Option (Int32 × Int32 × Int32 × Bool × (Nat → Int32)) :=
  (kR false v_length (v_at + 1) v_fault v_bytes v_text_size v_text_usesWaited v_text_steps (p1 + 1) 0).bind fun o1 => if l2 = 45 then ((x6_add o1.2.2.1 o1.2.2.2.1 o1.2.2.2.2 126).bind fun o3 => some (o1.1, o1.2.1, o3.1, o3.2.1, o3.2.2)) else ((x6_add o1.2.2.1 o1.2.2.2.1 o1.2.2.2.2 l2).bind fun o2 => some (o1.1, o1.2.1, o2.1, o2.2.1, o2.2.2))
def x4_readOperand_20 (kR : Bool → Int32 → Int32 → Int32 → (Nat → Int32) → Int32 → Bool → (Nat → Int32) → Int32 → Int32 → Option (Int32 × Int32 × Int32 × Bool × (Nat → Int32)))  (v_length : Int32) (v_bytes : Nat → Int32) (p1 : Int32) (v_at : Int32) (v_fault : Int32) (v_text_size : Int32) (v_text_usesWaited : Bool) (v_text_steps : Nat → Int32) (l2 : Int32) (t0 : Int32) : Option (Int32 × Int32 × Int32 × Bool × (Nat → Int32)) :=
  (x4_isDigit l2).bind fun o4 => bif o4 then ((x4_readNumber v_length v_at v_fault v_bytes v_text_size v_text_usesWaited v_text_steps).bind fun o11 => some (o11.1, v_fault, o11.2.1, o11.2.2.1, o11.2.2.2)) else (if t0 < 0 then (if p1 < 6 then (if l2 = 40 then ((kR true v_length (v_at + 1) v_fault v_bytes v_text_size v_text_usesWaited v_text_steps 0 (p1 + 1)).bind fun o6 => (x4_next v_length o6.1 o6.2.1 v_bytes).bind fun o7 => if o7 = 41 then (some ((o6.1 + 1), o6.2.1, o6.2.2.1, o6.2.2.2.1, o6.2.2.2.2)) else ((x4_fail o6.1 o6.2.1).bind fun o8 => some (o6.1, o8, o6.2.2.1, o6.2.2.2.1, o6.2.2.2.2))) else (if l2 = 33 then (x4_readOperand_138 kR v_length v_bytes p1 v_at v_fault v_text_size v_text_usesWaited v_text_steps l2) else (if l2 = 45 then (x4_readOperand_138 kR v_length v_bytes p1 v_at v_fault v_text_size v_text_usesWaited v_text_steps l2) else ((x4_fail v_at v_fault).bind fun o5 => some (v_at, o5, v_text_size, v_text_usesWaited, v_text_steps))))) else ((x4_fail v_at v_fault).bind fun o9 => some (v_at, o9, v_text_size, v_text_usesWaited, v_text_steps))) else ((x6_add v_text_size v_text_usesWaited v_text_steps t0).bind fun o10 => some ((v_at + 1), v_fault, o10.1, o10.2.1, o10.2.2)))
def x4_readJoinedR : Nat → Bool → Int32 → Int32 → Int32 → (Nat → Int32) → Int32 → Bool → (Nat → Int32) → Int32 → Int32 → Option (Int32 × Int32 × Int32 × Bool × (Nat → Int32))
  | 0, _, _, _, _, _, _, _, _, _, _ => none
  | d + 1, true, v_length, v_at, v_fault, v_bytes, v_text_size, v_text_usesWaited, v_text_steps, p1, p2 =>
    if p1 < 5 then (((x4_readJoinedR d) true v_length v_at v_fault v_bytes v_text_size v_text_usesWaited v_text_steps (p1 + 1) p2).bind fun o6 => if p1 = 2 then (x4_readJoined_30 (x4_readJoinedR d) v_length v_bytes p1 p2 o6.1 o6.2.1 o6.2.2.1 o6.2.2.2.1 o6.2.2.2.2 1) else (x4_readJoined_30 (x4_readJoinedR d) v_length v_bytes p1 p2 o6.1 o6.2.1 o6.2.2.1 o6.2.2.2.1 o6.2.2.2.2 120)) else (((x4_readJoinedR d) false v_length v_at v_fault v_bytes v_text_size v_text_usesWaited v_text_steps p2 0).bind fun o7 => some (o7.1, o7.2.1, o7.2.2.1, o7.2.2.2.1, o7.2.2.2.2))
  | d + 1, false, v_length, v_at, v_fault, v_bytes, v_text_size, v_text_usesWaited, v_text_steps, p1, _ =>
    (x4_next v_length v_at v_fault v_bytes).bind fun o12 => if 0 ≤ o12 then ((xj0_indexOf_0f7a4 ((o12.toUInt32 % 65536).toInt32)).bind fun o13 => x4_readOperand_20 (x4_readJoinedR d) v_length v_bytes p1 v_at v_fault v_text_size v_text_usesWaited v_text_steps o12 o13) else (x4_readOperand_20 (x4_readJoinedR d) v_length v_bytes p1 v_at v_fault v_text_size v_text_usesWaited v_text_steps o12 (-1))

set_option maxHeartbeats 4000000 in
set_option maxRecDepth 100000 in
theorem c4_readJoinedR (l : Launch) (D : yD) (cI cJ cZ cS cT : ClassId) : ∀ d : Nat, (∀ (a0 a_bytes a_text a_text_steps a_text_stack : Nat) (v_length : Int32) (v_at : Int32) (v_fault : Int32) (v_text_size : Int32) (v_text_usesWaited : Bool) (v_bytes : Nat → Int32) (v_text_steps : Nat → Int32) (p1 : Int32) (p2 : Int32) (out : Int32 × Int32 × Int32 × Bool × (Nat → Int32)), x4_readJoinedR d true v_length v_at v_fault v_bytes v_text_size v_text_usesWaited v_text_steps p1 p2 = some out → MC l D (yT cI cJ cZ cS cT) yX4_readJoined wsX4_readJoined ({ frames := 8 + d, cells := 0, slots := 0, locals := 400 + 25 * d } : Room) (0, 0) [.ref a0, .int p1, .int p2] (w4_readJoined cI cJ cZ cS cT a0 a_bytes a_text a_text_steps a_text_stack v_length v_at v_fault v_text_size v_text_usesWaited v_bytes v_text_steps) (POd (fun o : Int32 × Int32 × Int32 × Bool × (Nat → Int32) => none) (fun o : Int32 × Int32 × Int32 × Bool × (Nat → Int32) => (w4_readJoined cI cJ cZ cS cT a0 a_bytes a_text a_text_steps a_text_stack v_length o.1 o.2.1 o.2.2.1 o.2.2.2.1 v_bytes o.2.2.2.2)) out)) ∧ (∀ (a0 a_bytes a_text a_text_steps a_text_stack : Nat) (v_length : Int32) (v_at : Int32) (v_fault : Int32) (v_text_size : Int32) (v_text_usesWaited : Bool) (v_bytes : Nat → Int32) (v_text_steps : Nat → Int32) (p1 : Int32) (out : Int32 × Int32 × Int32 × Bool × (Nat → Int32)), x4_readJoinedR d false v_length v_at v_fault v_bytes v_text_size v_text_usesWaited v_text_steps p1 0 = some out → MC l D (yT cI cJ cZ cS cT) yX4_readOperand wsX4_readOperand ({ frames := 8 + d, cells := 0, slots := 0, locals := 400 + 25 * d } : Room) (0, 0) [.ref a0, .int p1] (w4_readOperand cI cJ cZ cS cT a0 a_bytes a_text a_text_steps a_text_stack v_length v_at v_fault v_text_size v_text_usesWaited v_bytes v_text_steps) (POd (fun o : Int32 × Int32 × Int32 × Bool × (Nat → Int32) => none) (fun o : Int32 × Int32 × Int32 × Bool × (Nat → Int32) => (w4_readOperand cI cJ cZ cS cT a0 a_bytes a_text a_text_steps a_text_stack v_length o.1 o.2.1 o.2.2.1 o.2.2.2.1 v_bytes o.2.2.2.2)) out)) := by
  intro d
  induction d with
  | zero =>
    constructor <;> (intros; rename_i hx; rw [x4_readJoinedR] at hx; cases hx)
  | succ d ihR =>
    constructor
    · intro a0 a_bytes a_text a_text_steps a_text_stack v_length v_at v_fault v_text_size v_text_usesWaited v_bytes v_text_steps p1 p2 out hx
      refine MC.intro (cc := cX4_readJoined) (nL := 6) (ret := none) (own := RX4) (lv := [(0, .ref a0), (1, .int p1), (2, .int p2)]) (by decide) rfl rfl (Nat.le_of_ble_eq_true rfl) rfl (fun X C E => ?_)
      rw [x4_readJoinedR] at hx
      have b30 : ∀  (v_at : Int32) (v_fault : Int32) (v_text_size : Int32) (v_text_usesWaited : Bool) (v_text_steps : Nat → Int32) (t0 : Int32), x4_readJoined_30 (x4_readJoinedR d)  v_length v_bytes p1 p2 v_at v_fault v_text_size v_text_usesWaited v_text_steps t0 = some out → Y X (0, 0) (w4_readJoined cI cJ cZ cS cT a0 a_bytes a_text a_text_steps a_text_stack v_length v_at v_fault v_text_size v_text_usesWaited v_bytes v_text_steps) [(0, .ref a0), (1, .int p1), (2, .int p2)] 30 [.int t0] := by
        intro  v_at v_fault v_text_size v_text_usesWaited v_text_steps t0  hx
        unfold x4_readJoined_30 at hx
        have b34 : ∀ (l3 : Int32), ∀ (n34 : Nat) (v_at : Int32) (v_fault : Int32) (v_text_size : Int32) (v_text_usesWaited : Bool) (v_text_steps : Nat → Int32) (l4 : Int32), x4_readJoined_34 (x4_readJoinedR d)  v_length v_bytes p1 p2 l3 n34 v_at v_fault v_text_size v_text_usesWaited v_text_steps l4 = some out → Y X (0, 0) (w4_readJoined cI cJ cZ cS cT a0 a_bytes a_text a_text_steps a_text_stack v_length v_at v_fault v_text_size v_text_usesWaited v_bytes v_text_steps) [(0, .ref a0), (1, .int p1), (2, .int p2), (3, .int l3), (4, .int l4)] 34 [] := by
          intro l3
          intro n34
          induction n34 with
          | zero =>
            intro v_at v_fault v_text_size v_text_usesWaited v_text_steps l4  hx
            rw [x4_readJoined_34] at hx
            cases hx
          | succ n34 ih34 =>
            intro v_at v_fault v_text_size v_text_usesWaited v_text_steps l4  hx
            rw [x4_readJoined_34] at hx
            refine Yiload C dX4_readJoined_34 4 rfl ?_
            refine Yiload_n C dX4_readJoined_36 3 rfl rfl ?_
            refine Yicmp_ge C 90 dX4_readJoined_37 (by decide) hx (fun _ hx => ?_) (fun _ hx => ?_)
            · skip
              exact Yvret C E dX4_readJoined_90 (ypo hx rfl rfl)
            · skip
              refine Yaload_n C dX4_readJoined_40 0 rfl rfl ?_
              obtain ⟨o1, ho1, hx⟩ := ybnd hx
              refine YcallVd (ws' := (w4_readJoined cI cJ cZ cS cT a0 a_bytes a_text a_text_steps a_text_stack v_length v_at v_fault v_text_size v_text_usesWaited v_bytes v_text_steps)) (st' := [.int o1]) (st := []) (as := []) (b := a0) (ci := 4) C [0, 1] [2, 3] 4 dX4_readJoined_41 (c4_next l D cI cJ cZ cS cT a0 a_bytes a_text v_length v_at v_fault v_bytes o1 ho1) gX4_readJoined_X4_next rfl ⟨yf4_next.1, yf4_next.2, (by dsimp only; omega), (by dsimp only; omega), rfl, rfl⟩ rfl 0 rfl (by decide) ⟨Nat.zero_le _, Nat.zero_le _⟩ (Nat.le_of_ble_eq_true rfl) ⟨rfl, rfl, trivial⟩ rfl rfl (by decide) (by decide) ⟨rfl, rfl, trivial⟩ [(a_text, .inr (6, [.ref a_text_steps, .ref a_text_stack, .int v_text_size, .int (bI v_text_usesWaited)])), (a_text_steps, .inl (cI, 124, .inl v_text_steps))] ⟨rfl, rfl, trivial⟩ ⟨rfl, rfl, trivial⟩ rfl ?_
              obtain ⟨o2, ho2, hx⟩ := ybnd hx
              refine YcallSd (ws' := (w4_readJoined cI cJ cZ cS cT a0 a_bytes a_text a_text_steps a_text_stack v_length v_at v_fault v_text_size v_text_usesWaited v_bytes v_text_steps)) (st' := [.int o2]) (st := []) (as := [.int o1]) C [] [0, 1, 2, 3] 4 dX4_readJoined_44 (c4_levelOf l D cI cJ cZ cS cT o1 o2 ho2) gX4_readJoined_X4_levelOf rfl ⟨yf4_levelOf.1, yf4_levelOf.2, (by dsimp only; omega), (by dsimp only; omega), rfl, rfl⟩ (by decide) ⟨Nat.zero_le _, Nat.zero_le _⟩ (Nat.le_of_ble_eq_true rfl) trivial rfl rfl (by decide) (by decide) trivial [(a0, .inr (4, [.ref a_bytes, .int v_length, .int v_at, .int v_fault, .ref a_text])), (a_bytes, .inl (cI, 120, .inl v_bytes)), (a_text, .inr (6, [.ref a_text_steps, .ref a_text_stack, .int v_text_size, .int (bI v_text_usesWaited)])), (a_text_steps, .inl (cI, 124, .inl v_text_steps))] ⟨rfl, rfl, rfl, rfl, trivial⟩ ⟨rfl, rfl, rfl, rfl, trivial⟩ rfl ?_
              refine Yiload_n C dX4_readJoined_47 1 rfl rfl ?_
              refine Yicmp_ne C 90 dX4_readJoined_48 (by decide) hx (fun _ hx => ?_) (fun _ hx => ?_)
              · skip
                exact Yvret C E dX4_readJoined_90 (ypo hx rfl rfl)
              · skip
                refine Yaload_n C dX4_readJoined_51 0 rfl rfl ?_
                obtain ⟨o3, ho3, hx⟩ := ybnd hx
                refine YcallVd (ws' := (w4_readJoined cI cJ cZ cS cT a0 a_bytes a_text a_text_steps a_text_stack v_length v_at v_fault v_text_size v_text_usesWaited v_bytes v_text_steps)) (st' := [.int o3]) (st := []) (as := []) (b := a0) (ci := 4) C [0, 1] [2, 3] 4 dX4_readJoined_52 (c4_next l D cI cJ cZ cS cT a0 a_bytes a_text v_length v_at v_fault v_bytes o3 ho3) gX4_readJoined_X4_next rfl ⟨yf4_next.1, yf4_next.2, (by dsimp only; omega), (by dsimp only; omega), rfl, rfl⟩ rfl 0 rfl (by decide) ⟨Nat.zero_le _, Nat.zero_le _⟩ (Nat.le_of_ble_eq_true rfl) ⟨rfl, rfl, trivial⟩ rfl rfl (by decide) (by decide) ⟨rfl, rfl, trivial⟩ [(a_text, .inr (6, [.ref a_text_steps, .ref a_text_stack, .int v_text_size, .int (bI v_text_usesWaited)])), (a_text_steps, .inl (cI, 124, .inl v_text_steps))] ⟨rfl, rfl, trivial⟩ ⟨rfl, rfl, trivial⟩ rfl ?_
                refine Yistore (lv' := [(0, .ref a0), (1, .int p1), (2, .int p2), (3, .int l3), (4, .int l4), (5, .int o3)]) C dX4_readJoined_55 (by decide) rfl ?_
                refine Yaload_n C dX4_readJoined_57 0 rfl rfl ?_
                refine Ydup C dX4_readJoined_58 rfl ?_
                refine Yget C fg4_readJoined_25 dX4_readJoined_59 0 rfl rfl ?_
                refine Yiconst C 1 dX4_readJoined_62 (by decide) ?_
                refine Yiadd C dX4_readJoined_63 ?_
                refine Yput (v := .int (v_at + 1)) (ws' := (w4_readJoined cI cJ cZ cS cT a0 a_bytes a_text a_text_steps a_text_stack v_length (v_at + 1) v_fault v_text_size v_text_usesWaited v_bytes v_text_steps)) C fp4_readJoined_25 dX4_readJoined_64 0 rfl rfl rfl (Nat.le_of_ble_eq_true rfl) rfl rfl ?_
                refine Yaload_n C dX4_readJoined_67 0 rfl rfl ?_
                refine Yiload_n C dX4_readJoined_68 1 rfl rfl ?_
                refine Yiconst C 1 dX4_readJoined_69 (by decide) ?_
                refine Yiadd C dX4_readJoined_70 ?_
                refine Yiload_n C dX4_readJoined_71 2 rfl rfl ?_
                obtain ⟨o4, ho4, hx⟩ := ybnd hx
                refine YcallVd (ws' := (w4_readJoined cI cJ cZ cS cT a0 a_bytes a_text a_text_steps a_text_stack v_length o4.1 o4.2.1 o4.2.2.1 o4.2.2.2.1 v_bytes o4.2.2.2.2)) (st' := []) (st := []) (as := [.int (p1 + 1), .int p2]) (b := a0) (ci := 4) C [0, 1, 2, 3] [] 4 dX4_readJoined_72 (ihR.1 a0 a_bytes a_text a_text_steps a_text_stack v_length (v_at + 1) v_fault v_text_size v_text_usesWaited v_bytes v_text_steps (p1 + 1) p2 o4 ho4) gX4_readJoined_X4_readJoined rfl ⟨yf4_readJoined.1, yf4_readJoined.2, (by dsimp only; omega), (by dsimp only; omega), rfl, rfl⟩ rfl 0 rfl (by decide) ⟨Nat.zero_le _, Nat.zero_le _⟩ (Nat.le_of_ble_eq_true rfl) ⟨rfl, rfl, rfl, rfl, trivial⟩ rfl rfl (by decide) (by decide) ⟨rfl, rfl, rfl, rfl, trivial⟩ [] trivial trivial rfl ?_
                refine Yaload_n C dX4_readJoined_75 0 rfl rfl ?_
                refine Yget C fg4_readJoined_31 dX4_readJoined_76 0 rfl rfl ?_
                refine Yiload C dX4_readJoined_79 5 rfl ?_
                obtain ⟨o5, ho5, hx⟩ := ybnd hx
                refine YcallVd (ws' := (w4_readJoined cI cJ cZ cS cT a0 a_bytes a_text a_text_steps a_text_stack v_length o4.1 o4.2.1 o5.1 o5.2.1 v_bytes o5.2.2)) (st' := []) (st := []) (as := [.int o3]) (b := a_text) (ci := 6) C [2, 3] [0, 1] 4 dX4_readJoined_81 (c6_add l D cI cJ cZ cS cT a_text a_text_steps a_text_stack o4.2.2.1 o4.2.2.2.1 o4.2.2.2.2 o3 o5 ho5) gX4_readJoined_X6_add rfl ⟨yf6_add.1, yf6_add.2, (by dsimp only; omega), (by dsimp only; omega), rfl, rfl⟩ rfl 2 rfl (by decide) ⟨Nat.zero_le _, Nat.zero_le _⟩ (Nat.le_of_ble_eq_true rfl) ⟨rfl, rfl, trivial⟩ rfl rfl (by decide) (by decide) ⟨rfl, rfl, trivial⟩ [(a0, .inr (4, [.ref a_bytes, .int v_length, .int o4.1, .int o4.2.1, .ref a_text])), (a_bytes, .inl (cI, 120, .inl v_bytes))] ⟨rfl, rfl, trivial⟩ ⟨rfl, rfl, trivial⟩ rfl ?_
                refine Yiinc (v := l4 + 1) (lv' := [(0, .ref a0), (1, .int p1), (2, .int p2), (3, .int l3), (4, .int (l4 + 1)), (5, .int o3)]) C dX4_readJoined_84 4 rfl rfl (by decide) rfl ?_
                refine Ygoto C 34 dX4_readJoined_87 (by decide) ?_
                exact Yjmp C [0, 1, 2, 3, 4] rfl (ih34 o4.1 o4.2.1 o5.1 o5.2.1 o5.2.2 (l4 + 1) hx)
        refine Yistore_n (lv' := [(0, .ref a0), (1, .int p1), (2, .int p2), (3, .int t0)]) C dX4_readJoined_30 rfl (by decide) rfl ?_
        refine Yiconst C 0 dX4_readJoined_31 (by decide) ?_
        refine Yistore (lv' := [(0, .ref a0), (1, .int p1), (2, .int p2), (3, .int t0), (4, .int 0)]) C dX4_readJoined_32 (by decide) rfl ?_
        exact b34 t0 yN v_at v_fault v_text_size v_text_usesWaited v_text_steps 0 hx
      refine Yiload_n C dX4_readJoined_0 1 rfl rfl ?_
      refine Yiconst C 5 dX4_readJoined_1 (by decide) ?_
      refine Yicmp_lt C 11 dX4_readJoined_2 (by decide) hx (fun _ hx => ?_) (fun _ hx => ?_)
      · skip
        refine Yaload_n C dX4_readJoined_11 0 rfl rfl ?_
        refine Yiload_n C dX4_readJoined_12 1 rfl rfl ?_
        refine Yiconst C 1 dX4_readJoined_13 (by decide) ?_
        refine Yiadd C dX4_readJoined_14 ?_
        refine Yiload_n C dX4_readJoined_15 2 rfl rfl ?_
        obtain ⟨o6, ho6, hx⟩ := ybnd hx
        refine YcallVd (ws' := (w4_readJoined cI cJ cZ cS cT a0 a_bytes a_text a_text_steps a_text_stack v_length o6.1 o6.2.1 o6.2.2.1 o6.2.2.2.1 v_bytes o6.2.2.2.2)) (st' := []) (st := []) (as := [.int (p1 + 1), .int p2]) (b := a0) (ci := 4) C [0, 1, 2, 3] [] 4 dX4_readJoined_16 (ihR.1 a0 a_bytes a_text a_text_steps a_text_stack v_length v_at v_fault v_text_size v_text_usesWaited v_bytes v_text_steps (p1 + 1) p2 o6 ho6) gX4_readJoined_X4_readJoined rfl ⟨yf4_readJoined.1, yf4_readJoined.2, (by dsimp only; omega), (by dsimp only; omega), rfl, rfl⟩ rfl 0 rfl (by decide) ⟨Nat.zero_le _, Nat.zero_le _⟩ (Nat.le_of_ble_eq_true rfl) ⟨rfl, rfl, rfl, rfl, trivial⟩ rfl rfl (by decide) (by decide) ⟨rfl, rfl, rfl, rfl, trivial⟩ [] trivial trivial rfl ?_
        refine Yiload_n C dX4_readJoined_19 1 rfl rfl ?_
        refine Yiconst C 2 dX4_readJoined_20 (by decide) ?_
        refine Yicmp_ne C 28 dX4_readJoined_21 (by decide) hx (fun _ hx => ?_) (fun _ hx => ?_)
        · skip
          refine Ybipush C 120 dX4_readJoined_28 (by decide) ?_
          exact b30  o6.1 o6.2.1 o6.2.2.1 o6.2.2.2.1 o6.2.2.2.2 120 hx
        · skip
          refine Yiconst C 1 dX4_readJoined_24 (by decide) ?_
          refine Ygoto C 30 dX4_readJoined_25 (by decide) ?_
          exact b30  o6.1 o6.2.1 o6.2.2.1 o6.2.2.2.1 o6.2.2.2.2 1 hx
      · skip
        refine Yaload_n C dX4_readJoined_5 0 rfl rfl ?_
        refine Yiload_n C dX4_readJoined_6 2 rfl rfl ?_
        obtain ⟨o7, ho7, hx⟩ := ybnd hx
        refine YcallVd (ws' := (w4_readJoined cI cJ cZ cS cT a0 a_bytes a_text a_text_steps a_text_stack v_length o7.1 o7.2.1 o7.2.2.1 o7.2.2.2.1 v_bytes o7.2.2.2.2)) (st' := []) (st := []) (as := [.int p2]) (b := a0) (ci := 4) C [0, 1, 2, 3] [] 4 dX4_readJoined_7 (ihR.2 a0 a_bytes a_text a_text_steps a_text_stack v_length v_at v_fault v_text_size v_text_usesWaited v_bytes v_text_steps p2 o7 ho7) gX4_readJoined_X4_readOperand rfl ⟨yf4_readOperand.1, yf4_readOperand.2, (by dsimp only; omega), (by dsimp only; omega), rfl, rfl⟩ rfl 0 rfl (by decide) ⟨Nat.zero_le _, Nat.zero_le _⟩ (Nat.le_of_ble_eq_true rfl) ⟨rfl, rfl, rfl, rfl, trivial⟩ rfl rfl (by decide) (by decide) ⟨rfl, rfl, rfl, rfl, trivial⟩ [] trivial trivial rfl ?_
        exact Yvret C E dX4_readJoined_10 (ypo hx rfl rfl)
    · intro a0 a_bytes a_text a_text_steps a_text_stack v_length v_at v_fault v_text_size v_text_usesWaited v_bytes v_text_steps p1 out hx
      refine MC.intro (cc := cX4_readOperand) (nL := 4) (ret := none) (own := RX4) (lv := [(0, .ref a0), (1, .int p1)]) (by decide) rfl rfl (Nat.le_of_ble_eq_true rfl) rfl (fun X C E => ?_)
      rw [x4_readJoinedR] at hx
      have b20 : ∀  (v_at : Int32) (v_fault : Int32) (v_text_size : Int32) (v_text_usesWaited : Bool) (v_text_steps : Nat → Int32) (l2 : Int32) (t0 : Int32), x4_readOperand_20 (x4_readJoinedR d)  v_length v_bytes p1 v_at v_fault v_text_size v_text_usesWaited v_text_steps l2 t0 = some out → Y X (0, 0) (w4_readOperand cI cJ cZ cS cT a0 a_bytes a_text a_text_steps a_text_stack v_length v_at v_fault v_text_size v_text_usesWaited v_bytes v_text_steps) [(0, .ref a0), (1, .int p1), (2, .int l2)] 20 [.int t0] := by
        intro  v_at v_fault v_text_size v_text_usesWaited v_text_steps l2 t0  hx
        unfold x4_readOperand_20 at hx
        have b138 : ∀  (v_at : Int32) (v_fault : Int32) (v_text_size : Int32) (v_text_usesWaited : Bool) (v_text_steps : Nat → Int32) (l2 : Int32), x4_readOperand_138 (x4_readJoinedR d)  v_length v_bytes p1 v_at v_fault v_text_size v_text_usesWaited v_text_steps l2 = some out → Y X (0, 0) (w4_readOperand cI cJ cZ cS cT a0 a_bytes a_text a_text_steps a_text_stack v_length v_at v_fault v_text_size v_text_usesWaited v_bytes v_text_steps) [(0, .ref a0), (1, .int p1), (2, .int l2)] 138 [] := by
          intro  v_at v_fault v_text_size v_text_usesWaited v_text_steps l2  hx
          unfold x4_readOperand_138 at hx
          refine Yaload_n C dX4_readOperand_138 0 rfl rfl ?_
          refine Ydup C dX4_readOperand_139 rfl ?_
          refine Yget C fg4_readOperand_25 dX4_readOperand_140 0 rfl rfl ?_
          refine Yiconst C 1 dX4_readOperand_143 (by decide) ?_
          refine Yiadd C dX4_readOperand_144 ?_
          refine Yput (v := .int (v_at + 1)) (ws' := (w4_readOperand cI cJ cZ cS cT a0 a_bytes a_text a_text_steps a_text_stack v_length (v_at + 1) v_fault v_text_size v_text_usesWaited v_bytes v_text_steps)) C fp4_readOperand_25 dX4_readOperand_145 0 rfl rfl rfl (Nat.le_of_ble_eq_true rfl) rfl rfl ?_
          refine Yaload_n C dX4_readOperand_148 0 rfl rfl ?_
          refine Yiload_n C dX4_readOperand_149 1 rfl rfl ?_
          refine Yiconst C 1 dX4_readOperand_150 (by decide) ?_
          refine Yiadd C dX4_readOperand_151 ?_
          obtain ⟨o1, ho1, hx⟩ := ybnd hx
          refine YcallVd (ws' := (w4_readOperand cI cJ cZ cS cT a0 a_bytes a_text a_text_steps a_text_stack v_length o1.1 o1.2.1 o1.2.2.1 o1.2.2.2.1 v_bytes o1.2.2.2.2)) (st' := []) (st := []) (as := [.int (p1 + 1)]) (b := a0) (ci := 4) C [0, 1, 2, 3] [] 4 dX4_readOperand_152 (ihR.2 a0 a_bytes a_text a_text_steps a_text_stack v_length (v_at + 1) v_fault v_text_size v_text_usesWaited v_bytes v_text_steps (p1 + 1) o1 ho1) gX4_readOperand_X4_readOperand rfl ⟨yf4_readOperand.1, yf4_readOperand.2, (by dsimp only; omega), (by dsimp only; omega), rfl, rfl⟩ rfl 0 rfl (by decide) ⟨Nat.zero_le _, Nat.zero_le _⟩ (Nat.le_of_ble_eq_true rfl) ⟨rfl, rfl, rfl, rfl, trivial⟩ rfl rfl (by decide) (by decide) ⟨rfl, rfl, rfl, rfl, trivial⟩ [] trivial trivial rfl ?_
          refine Yaload_n C dX4_readOperand_155 0 rfl rfl ?_
          refine Yget C fg4_readOperand_31 dX4_readOperand_156 0 rfl rfl ?_
          refine Yiload_n C dX4_readOperand_159 2 rfl rfl ?_
          refine Ybipush C 45 dX4_readOperand_160 (by decide) ?_
          refine Yicmp_ne C 170 dX4_readOperand_162 (by decide) hx (fun _ hx => ?_) (fun _ hx => ?_)
          · skip
            refine Yiload_n C dX4_readOperand_170 2 rfl rfl ?_
            obtain ⟨o2, ho2, hx⟩ := ybnd hx
            refine YcallVd (ws' := (w4_readOperand cI cJ cZ cS cT a0 a_bytes a_text a_text_steps a_text_stack v_length o1.1 o1.2.1 o2.1 o2.2.1 v_bytes o2.2.2)) (st' := []) (st := []) (as := [.int l2]) (b := a_text) (ci := 6) C [2, 3] [0, 1] 4 dX4_readOperand_171 (c6_add l D cI cJ cZ cS cT a_text a_text_steps a_text_stack o1.2.2.1 o1.2.2.2.1 o1.2.2.2.2 l2 o2 ho2) gX4_readOperand_X6_add rfl ⟨yf6_add.1, yf6_add.2, (by dsimp only; omega), (by dsimp only; omega), rfl, rfl⟩ rfl 2 rfl (by decide) ⟨Nat.zero_le _, Nat.zero_le _⟩ (Nat.le_of_ble_eq_true rfl) ⟨rfl, rfl, trivial⟩ rfl rfl (by decide) (by decide) ⟨rfl, rfl, trivial⟩ [(a0, .inr (4, [.ref a_bytes, .int v_length, .int o1.1, .int o1.2.1, .ref a_text])), (a_bytes, .inl (cI, 120, .inl v_bytes))] ⟨rfl, rfl, trivial⟩ ⟨rfl, rfl, trivial⟩ rfl ?_
            refine Ygoto C 181 dX4_readOperand_174 (by decide) ?_
            exact Yvret C E dX4_readOperand_181 (ypo hx rfl rfl)
          · skip
            refine Ybipush C 126 dX4_readOperand_165 (by decide) ?_
            refine Ygoto C 171 dX4_readOperand_167 (by decide) ?_
            obtain ⟨o3, ho3, hx⟩ := ybnd hx
            refine YcallVd (ws' := (w4_readOperand cI cJ cZ cS cT a0 a_bytes a_text a_text_steps a_text_stack v_length o1.1 o1.2.1 o3.1 o3.2.1 v_bytes o3.2.2)) (st' := []) (st := []) (as := [.int 126]) (b := a_text) (ci := 6) C [2, 3] [0, 1] 4 dX4_readOperand_171 (c6_add l D cI cJ cZ cS cT a_text a_text_steps a_text_stack o1.2.2.1 o1.2.2.2.1 o1.2.2.2.2 126 o3 ho3) gX4_readOperand_X6_add rfl ⟨yf6_add.1, yf6_add.2, (by dsimp only; omega), (by dsimp only; omega), rfl, rfl⟩ rfl 2 rfl (by decide) ⟨Nat.zero_le _, Nat.zero_le _⟩ (Nat.le_of_ble_eq_true rfl) ⟨rfl, rfl, trivial⟩ rfl rfl (by decide) (by decide) ⟨rfl, rfl, trivial⟩ [(a0, .inr (4, [.ref a_bytes, .int v_length, .int o1.1, .int o1.2.1, .ref a_text])), (a_bytes, .inl (cI, 120, .inl v_bytes))] ⟨rfl, rfl, trivial⟩ ⟨rfl, rfl, trivial⟩ rfl ?_
            refine Ygoto C 181 dX4_readOperand_174 (by decide) ?_
            exact Yvret C E dX4_readOperand_181 (ypo hx rfl rfl)
        refine Yistore_n (lv' := [(0, .ref a0), (1, .int p1), (2, .int l2), (3, .int t0)]) C dX4_readOperand_20 rfl (by decide) rfl ?_
        refine Yiload_n C dX4_readOperand_21 2 rfl rfl ?_
        obtain ⟨o4, ho4, hx⟩ := ybnd hx
        refine YcallSd (ws' := (w4_readOperand cI cJ cZ cS cT a0 a_bytes a_text a_text_steps a_text_stack v_length v_at v_fault v_text_size v_text_usesWaited v_bytes v_text_steps)) (st' := [.int (bI o4)]) (st := []) (as := [.int l2]) C [] [0, 1, 2, 3] 4 dX4_readOperand_22 (c4_isDigit l D cI cJ cZ cS cT l2 o4 ho4) gX4_readOperand_X4_isDigit rfl ⟨yf4_isDigit.1, yf4_isDigit.2, (by dsimp only; omega), (by dsimp only; omega), rfl, rfl⟩ (by decide) ⟨Nat.zero_le _, Nat.zero_le _⟩ (Nat.le_of_ble_eq_true rfl) trivial rfl rfl (by decide) (by decide) trivial [(a0, .inr (4, [.ref a_bytes, .int v_length, .int v_at, .int v_fault, .ref a_text])), (a_bytes, .inl (cI, 120, .inl v_bytes)), (a_text, .inr (6, [.ref a_text_steps, .ref a_text_stack, .int v_text_size, .int (bI v_text_usesWaited)])), (a_text_steps, .inl (cI, 124, .inl v_text_steps))] ⟨rfl, rfl, rfl, rfl, trivial⟩ ⟨rfl, rfl, rfl, rfl, trivial⟩ rfl ?_
        refine Yif_eq_b C 35 dX4_readOperand_25 (by decide) hx (fun _ hx => ?_) (fun _ hx => ?_)
        · skip
          refine Yiload_n C dX4_readOperand_35 3 rfl rfl ?_
          refine Yif_lt C 60 dX4_readOperand_36 (by decide) hx (fun _ hx => ?_) (fun _ hx => ?_)
          · skip
            refine Yiload_n C dX4_readOperand_60 1 rfl rfl ?_
            refine Ybipush C 6 dX4_readOperand_61 (by decide) ?_
            refine Yicmp_lt C 73 dX4_readOperand_63 (by decide) hx (fun _ hx => ?_) (fun _ hx => ?_)
            · skip
              refine Yiload_n C dX4_readOperand_73 2 rfl rfl ?_
              refine Ybipush C 40 dX4_readOperand_74 (by decide) ?_
              refine Yicmp_ne C 126 dX4_readOperand_76 (by decide) hx (fun _ hx => ?_) (fun _ hx => ?_)
              · skip
                refine Yiload_n C dX4_readOperand_126 2 rfl rfl ?_
                refine Ybipush C 33 dX4_readOperand_127 (by decide) ?_
                refine Yicmp_eq C 138 dX4_readOperand_129 (by decide) hx (fun _ hx => ?_) (fun _ hx => ?_)
                · skip
                  exact Yjmp C [0, 1, 2] rfl (b138  v_at v_fault v_text_size v_text_usesWaited v_text_steps l2 hx)
                · skip
                  refine Yiload_n C dX4_readOperand_132 2 rfl rfl ?_
                  refine Ybipush C 45 dX4_readOperand_133 (by decide) ?_
                  refine Yicmp_ne C 177 dX4_readOperand_135 (by decide) hx (fun _ hx => ?_) (fun _ hx => ?_)
                  · skip
                    refine Yaload_n C dX4_readOperand_177 0 rfl rfl ?_
                    obtain ⟨o5, ho5, hx⟩ := ybnd hx
                    refine YcallVd (ws' := (w4_readOperand cI cJ cZ cS cT a0 a_bytes a_text a_text_steps a_text_stack v_length v_at o5 v_text_size v_text_usesWaited v_bytes v_text_steps)) (st' := []) (st := []) (as := []) (b := a0) (ci := 4) C [0] [1, 2, 3] 4 dX4_readOperand_178 (c4_fail l D cI cJ cZ cS cT a0 a_bytes a_text v_length v_at v_fault o5 ho5) gX4_readOperand_X4_fail rfl ⟨yf4_fail.1, yf4_fail.2, (by dsimp only; omega), (by dsimp only; omega), rfl, rfl⟩ rfl 0 rfl (by decide) ⟨Nat.zero_le _, Nat.zero_le _⟩ (Nat.le_of_ble_eq_true rfl) ⟨rfl, trivial⟩ rfl rfl (by decide) (by decide) ⟨rfl, trivial⟩ [(a_bytes, .inl (cI, 120, .inl v_bytes)), (a_text, .inr (6, [.ref a_text_steps, .ref a_text_stack, .int v_text_size, .int (bI v_text_usesWaited)])), (a_text_steps, .inl (cI, 124, .inl v_text_steps))] ⟨rfl, rfl, rfl, trivial⟩ ⟨rfl, rfl, rfl, trivial⟩ rfl ?_
                    exact Yvret C E dX4_readOperand_181 (ypo hx rfl rfl)
                  · skip
                    exact Yjmp C [0, 1, 2] rfl (b138  v_at v_fault v_text_size v_text_usesWaited v_text_steps l2 hx)
              · skip
                refine Yaload_n C dX4_readOperand_79 0 rfl rfl ?_
                refine Ydup C dX4_readOperand_80 rfl ?_
                refine Yget C fg4_readOperand_25 dX4_readOperand_81 0 rfl rfl ?_
                refine Yiconst C 1 dX4_readOperand_84 (by decide) ?_
                refine Yiadd C dX4_readOperand_85 ?_
                refine Yput (v := .int (v_at + 1)) (ws' := (w4_readOperand cI cJ cZ cS cT a0 a_bytes a_text a_text_steps a_text_stack v_length (v_at + 1) v_fault v_text_size v_text_usesWaited v_bytes v_text_steps)) C fp4_readOperand_25 dX4_readOperand_86 0 rfl rfl rfl (Nat.le_of_ble_eq_true rfl) rfl rfl ?_
                refine Yaload_n C dX4_readOperand_89 0 rfl rfl ?_
                refine Yiconst C 0 dX4_readOperand_90 (by decide) ?_
                refine Yiload_n C dX4_readOperand_91 1 rfl rfl ?_
                refine Yiconst C 1 dX4_readOperand_92 (by decide) ?_
                refine Yiadd C dX4_readOperand_93 ?_
                obtain ⟨o6, ho6, hx⟩ := ybnd hx
                refine YcallVd (ws' := (w4_readOperand cI cJ cZ cS cT a0 a_bytes a_text a_text_steps a_text_stack v_length o6.1 o6.2.1 o6.2.2.1 o6.2.2.2.1 v_bytes o6.2.2.2.2)) (st' := []) (st := []) (as := [.int 0, .int (p1 + 1)]) (b := a0) (ci := 4) C [0, 1, 2, 3] [] 4 dX4_readOperand_94 (ihR.1 a0 a_bytes a_text a_text_steps a_text_stack v_length (v_at + 1) v_fault v_text_size v_text_usesWaited v_bytes v_text_steps 0 (p1 + 1) o6 ho6) gX4_readOperand_X4_readJoined rfl ⟨yf4_readJoined.1, yf4_readJoined.2, (by dsimp only; omega), (by dsimp only; omega), rfl, rfl⟩ rfl 0 rfl (by decide) ⟨Nat.zero_le _, Nat.zero_le _⟩ (Nat.le_of_ble_eq_true rfl) ⟨rfl, rfl, rfl, rfl, trivial⟩ rfl rfl (by decide) (by decide) ⟨rfl, rfl, rfl, rfl, trivial⟩ [] trivial trivial rfl ?_
                refine Yaload_n C dX4_readOperand_97 0 rfl rfl ?_
                obtain ⟨o7, ho7, hx⟩ := ybnd hx
                refine YcallVd (ws' := (w4_readOperand cI cJ cZ cS cT a0 a_bytes a_text a_text_steps a_text_stack v_length o6.1 o6.2.1 o6.2.2.1 o6.2.2.2.1 v_bytes o6.2.2.2.2)) (st' := [.int o7]) (st := []) (as := []) (b := a0) (ci := 4) C [0, 1] [2, 3] 4 dX4_readOperand_98 (c4_next l D cI cJ cZ cS cT a0 a_bytes a_text v_length o6.1 o6.2.1 v_bytes o7 ho7) gX4_readOperand_X4_next rfl ⟨yf4_next.1, yf4_next.2, (by dsimp only; omega), (by dsimp only; omega), rfl, rfl⟩ rfl 0 rfl (by decide) ⟨Nat.zero_le _, Nat.zero_le _⟩ (Nat.le_of_ble_eq_true rfl) ⟨rfl, rfl, trivial⟩ rfl rfl (by decide) (by decide) ⟨rfl, rfl, trivial⟩ [(a_text, .inr (6, [.ref a_text_steps, .ref a_text_stack, .int o6.2.2.1, .int (bI o6.2.2.2.1)])), (a_text_steps, .inl (cI, 124, .inl o6.2.2.2.2))] ⟨rfl, rfl, trivial⟩ ⟨rfl, rfl, trivial⟩ rfl ?_
                refine Ybipush C 41 dX4_readOperand_101 (by decide) ?_
                refine Yicmp_ne C 119 dX4_readOperand_103 (by decide) hx (fun _ hx => ?_) (fun _ hx => ?_)
                · skip
                  refine Yaload_n C dX4_readOperand_119 0 rfl rfl ?_
                  obtain ⟨o8, ho8, hx⟩ := ybnd hx
                  refine YcallVd (ws' := (w4_readOperand cI cJ cZ cS cT a0 a_bytes a_text a_text_steps a_text_stack v_length o6.1 o8 o6.2.2.1 o6.2.2.2.1 v_bytes o6.2.2.2.2)) (st' := []) (st := []) (as := []) (b := a0) (ci := 4) C [0] [1, 2, 3] 4 dX4_readOperand_120 (c4_fail l D cI cJ cZ cS cT a0 a_bytes a_text v_length o6.1 o6.2.1 o8 ho8) gX4_readOperand_X4_fail rfl ⟨yf4_fail.1, yf4_fail.2, (by dsimp only; omega), (by dsimp only; omega), rfl, rfl⟩ rfl 0 rfl (by decide) ⟨Nat.zero_le _, Nat.zero_le _⟩ (Nat.le_of_ble_eq_true rfl) ⟨rfl, trivial⟩ rfl rfl (by decide) (by decide) ⟨rfl, trivial⟩ [(a_bytes, .inl (cI, 120, .inl v_bytes)), (a_text, .inr (6, [.ref a_text_steps, .ref a_text_stack, .int o6.2.2.1, .int (bI o6.2.2.2.1)])), (a_text_steps, .inl (cI, 124, .inl o6.2.2.2.2))] ⟨rfl, rfl, rfl, trivial⟩ ⟨rfl, rfl, rfl, trivial⟩ rfl ?_
                  refine Ygoto C 181 dX4_readOperand_123 (by decide) ?_
                  exact Yvret C E dX4_readOperand_181 (ypo hx rfl rfl)
                · skip
                  refine Yaload_n C dX4_readOperand_106 0 rfl rfl ?_
                  refine Ydup C dX4_readOperand_107 rfl ?_
                  refine Yget C fg4_readOperand_25 dX4_readOperand_108 0 rfl rfl ?_
                  refine Yiconst C 1 dX4_readOperand_111 (by decide) ?_
                  refine Yiadd C dX4_readOperand_112 ?_
                  refine Yput (v := .int (o6.1 + 1)) (ws' := (w4_readOperand cI cJ cZ cS cT a0 a_bytes a_text a_text_steps a_text_stack v_length (o6.1 + 1) o6.2.1 o6.2.2.1 o6.2.2.2.1 v_bytes o6.2.2.2.2)) C fp4_readOperand_25 dX4_readOperand_113 0 rfl rfl rfl (Nat.le_of_ble_eq_true rfl) rfl rfl ?_
                  refine Ygoto C 181 dX4_readOperand_116 (by decide) ?_
                  exact Yvret C E dX4_readOperand_181 (ypo hx rfl rfl)
            · skip
              refine Yaload_n C dX4_readOperand_66 0 rfl rfl ?_
              obtain ⟨o9, ho9, hx⟩ := ybnd hx
              refine YcallVd (ws' := (w4_readOperand cI cJ cZ cS cT a0 a_bytes a_text a_text_steps a_text_stack v_length v_at o9 v_text_size v_text_usesWaited v_bytes v_text_steps)) (st' := []) (st := []) (as := []) (b := a0) (ci := 4) C [0] [1, 2, 3] 4 dX4_readOperand_67 (c4_fail l D cI cJ cZ cS cT a0 a_bytes a_text v_length v_at v_fault o9 ho9) gX4_readOperand_X4_fail rfl ⟨yf4_fail.1, yf4_fail.2, (by dsimp only; omega), (by dsimp only; omega), rfl, rfl⟩ rfl 0 rfl (by decide) ⟨Nat.zero_le _, Nat.zero_le _⟩ (Nat.le_of_ble_eq_true rfl) ⟨rfl, trivial⟩ rfl rfl (by decide) (by decide) ⟨rfl, trivial⟩ [(a_bytes, .inl (cI, 120, .inl v_bytes)), (a_text, .inr (6, [.ref a_text_steps, .ref a_text_stack, .int v_text_size, .int (bI v_text_usesWaited)])), (a_text_steps, .inl (cI, 124, .inl v_text_steps))] ⟨rfl, rfl, rfl, trivial⟩ ⟨rfl, rfl, rfl, trivial⟩ rfl ?_
              refine Ygoto C 181 dX4_readOperand_70 (by decide) ?_
              exact Yvret C E dX4_readOperand_181 (ypo hx rfl rfl)
          · skip
            refine Yaload_n C dX4_readOperand_39 0 rfl rfl ?_
            refine Ydup C dX4_readOperand_40 rfl ?_
            refine Yget C fg4_readOperand_25 dX4_readOperand_41 0 rfl rfl ?_
            refine Yiconst C 1 dX4_readOperand_44 (by decide) ?_
            refine Yiadd C dX4_readOperand_45 ?_
            refine Yput (v := .int (v_at + 1)) (ws' := (w4_readOperand cI cJ cZ cS cT a0 a_bytes a_text a_text_steps a_text_stack v_length (v_at + 1) v_fault v_text_size v_text_usesWaited v_bytes v_text_steps)) C fp4_readOperand_25 dX4_readOperand_46 0 rfl rfl rfl (Nat.le_of_ble_eq_true rfl) rfl rfl ?_
            refine Yaload_n C dX4_readOperand_49 0 rfl rfl ?_
            refine Yget C fg4_readOperand_31 dX4_readOperand_50 0 rfl rfl ?_
            refine Yiload_n C dX4_readOperand_53 3 rfl rfl ?_
            obtain ⟨o10, ho10, hx⟩ := ybnd hx
            refine YcallVd (ws' := (w4_readOperand cI cJ cZ cS cT a0 a_bytes a_text a_text_steps a_text_stack v_length (v_at + 1) v_fault o10.1 o10.2.1 v_bytes o10.2.2)) (st' := []) (st := []) (as := [.int t0]) (b := a_text) (ci := 6) C [2, 3] [0, 1] 4 dX4_readOperand_54 (c6_add l D cI cJ cZ cS cT a_text a_text_steps a_text_stack v_text_size v_text_usesWaited v_text_steps t0 o10 ho10) gX4_readOperand_X6_add rfl ⟨yf6_add.1, yf6_add.2, (by dsimp only; omega), (by dsimp only; omega), rfl, rfl⟩ rfl 2 rfl (by decide) ⟨Nat.zero_le _, Nat.zero_le _⟩ (Nat.le_of_ble_eq_true rfl) ⟨rfl, rfl, trivial⟩ rfl rfl (by decide) (by decide) ⟨rfl, rfl, trivial⟩ [(a0, .inr (4, [.ref a_bytes, .int v_length, .int (v_at + 1), .int v_fault, .ref a_text])), (a_bytes, .inl (cI, 120, .inl v_bytes))] ⟨rfl, rfl, trivial⟩ ⟨rfl, rfl, trivial⟩ rfl ?_
            refine Ygoto C 181 dX4_readOperand_57 (by decide) ?_
            exact Yvret C E dX4_readOperand_181 (ypo hx rfl rfl)
        · skip
          refine Yaload_n C dX4_readOperand_28 0 rfl rfl ?_
          obtain ⟨o11, ho11, hx⟩ := ybnd hx
          refine YcallVd (ws' := (w4_readOperand cI cJ cZ cS cT a0 a_bytes a_text a_text_steps a_text_stack v_length o11.1 v_fault o11.2.1 o11.2.2.1 v_bytes o11.2.2.2)) (st' := []) (st := []) (as := []) (b := a0) (ci := 4) C [0, 1, 2, 3] [] 4 dX4_readOperand_29 (c4_readNumber l D cI cJ cZ cS cT a0 a_bytes a_text a_text_steps a_text_stack v_length v_at v_fault v_text_size v_text_usesWaited v_bytes v_text_steps o11 ho11) gX4_readOperand_X4_readNumber rfl ⟨yf4_readNumber.1, yf4_readNumber.2, (by dsimp only; omega), (by dsimp only; omega), rfl, rfl⟩ rfl 0 rfl (by decide) ⟨Nat.zero_le _, Nat.zero_le _⟩ (Nat.le_of_ble_eq_true rfl) ⟨rfl, rfl, rfl, rfl, trivial⟩ rfl rfl (by decide) (by decide) ⟨rfl, rfl, rfl, rfl, trivial⟩ [] trivial trivial rfl ?_
          refine Ygoto C 181 dX4_readOperand_32 (by decide) ?_
          exact Yvret C E dX4_readOperand_181 (ypo hx rfl rfl)
      refine Yaload_n C dX4_readOperand_0 0 rfl rfl ?_
      obtain ⟨o12, ho12, hx⟩ := ybnd hx
      refine YcallVd (ws' := (w4_readOperand cI cJ cZ cS cT a0 a_bytes a_text a_text_steps a_text_stack v_length v_at v_fault v_text_size v_text_usesWaited v_bytes v_text_steps)) (st' := [.int o12]) (st := []) (as := []) (b := a0) (ci := 4) C [0, 1] [2, 3] 4 dX4_readOperand_1 (c4_next l D cI cJ cZ cS cT a0 a_bytes a_text v_length v_at v_fault v_bytes o12 ho12) gX4_readOperand_X4_next rfl ⟨yf4_next.1, yf4_next.2, (by dsimp only; omega), (by dsimp only; omega), rfl, rfl⟩ rfl 0 rfl (by decide) ⟨Nat.zero_le _, Nat.zero_le _⟩ (Nat.le_of_ble_eq_true rfl) ⟨rfl, rfl, trivial⟩ rfl rfl (by decide) (by decide) ⟨rfl, rfl, trivial⟩ [(a_text, .inr (6, [.ref a_text_steps, .ref a_text_stack, .int v_text_size, .int (bI v_text_usesWaited)])), (a_text_steps, .inl (cI, 124, .inl v_text_steps))] ⟨rfl, rfl, trivial⟩ ⟨rfl, rfl, trivial⟩ rfl ?_
      refine Yistore_n (lv' := [(0, .ref a0), (1, .int p1), (2, .int o12)]) C dX4_readOperand_4 rfl (by decide) rfl ?_
      refine Yiload_n C dX4_readOperand_5 2 rfl rfl ?_
      refine Yif_ge C 13 dX4_readOperand_6 (by decide) hx (fun _ hx => ?_) (fun _ hx => ?_)
      · skip
        refine YldcS C dX4_readOperand_13 rfl ?_
        refine Yiload_n C dX4_readOperand_15 2 rfl rfl ?_
        refine Yi2c C dX4_readOperand_16 ?_
        obtain ⟨o13, ho13, hx⟩ := ybnd hx
        refine YcallVs (ws' := (w4_readOperand cI cJ cZ cS cT a0 a_bytes a_text a_text_steps a_text_stack v_length v_at v_fault v_text_size v_text_usesWaited v_bytes v_text_steps)) (st' := [.int o13]) (st := []) (as := [.int ((o12.toUInt32 % 65536).toInt32)]) C [] [0, 1, 2, 3] 4 dX4_readOperand_17 (cj0_indexOf_0f7a4 l D cI cJ cZ cS cT ((o12.toUInt32 % 65536).toInt32) o13 ho13) gX4_readOperand_J0_indexOf_0f7a4 rfl ⟨yfj0_indexOf_0f7a4.1, yfj0_indexOf_0f7a4.2, (by dsimp only; omega), (by dsimp only; omega), rfl, rfl⟩ (by decide) ⟨Nat.zero_le _, Nat.zero_le _⟩ (Nat.le_of_ble_eq_true rfl) trivial rfl rfl (by decide) (by decide) trivial [(a0, .inr (4, [.ref a_bytes, .int v_length, .int v_at, .int v_fault, .ref a_text])), (a_bytes, .inl (cI, 120, .inl v_bytes)), (a_text, .inr (6, [.ref a_text_steps, .ref a_text_stack, .int v_text_size, .int (bI v_text_usesWaited)])), (a_text_steps, .inl (cI, 124, .inl v_text_steps))] ⟨rfl, rfl, rfl, rfl, trivial⟩ ⟨rfl, rfl, rfl, rfl, trivial⟩ rfl ?_
        exact b20  v_at v_fault v_text_size v_text_usesWaited v_text_steps o12 o13 hx
      · skip
        refine Yiconst C (-1) dX4_readOperand_9 (by decide) ?_
        refine Ygoto C 20 dX4_readOperand_10 (by decide) ?_
        exact b20  v_at v_fault v_text_size v_text_usesWaited v_text_steps o12 (-1) hx
theorem c4_readJoined (l : Launch) (D : yD) (cI cJ cZ cS cT : ClassId) (d : Nat) : ∀ (a0 a_bytes a_text a_text_steps a_text_stack : Nat) (v_length : Int32) (v_at : Int32) (v_fault : Int32) (v_text_size : Int32) (v_text_usesWaited : Bool) (v_bytes : Nat → Int32) (v_text_steps : Nat → Int32) (p1 : Int32) (p2 : Int32) (out : Int32 × Int32 × Int32 × Bool × (Nat → Int32)), x4_readJoinedR d true v_length v_at v_fault v_bytes v_text_size v_text_usesWaited v_text_steps p1 p2 = some out → MC l D (yT cI cJ cZ cS cT) yX4_readJoined wsX4_readJoined ({ frames := 8 + d, cells := 0, slots := 0, locals := 400 + 25 * d } : Room) (0, 0) [.ref a0, .int p1, .int p2] (w4_readJoined cI cJ cZ cS cT a0 a_bytes a_text a_text_steps a_text_stack v_length v_at v_fault v_text_size v_text_usesWaited v_bytes v_text_steps) (POd (fun o : Int32 × Int32 × Int32 × Bool × (Nat → Int32) => none) (fun o : Int32 × Int32 × Int32 × Bool × (Nat → Int32) => (w4_readJoined cI cJ cZ cS cT a0 a_bytes a_text a_text_steps a_text_stack v_length o.1 o.2.1 o.2.2.1 o.2.2.2.1 v_bytes o.2.2.2.2)) out) := (c4_readJoinedR l D cI cJ cZ cS cT d).1
theorem c4_readOperand (l : Launch) (D : yD) (cI cJ cZ cS cT : ClassId) (d : Nat) : ∀ (a0 a_bytes a_text a_text_steps a_text_stack : Nat) (v_length : Int32) (v_at : Int32) (v_fault : Int32) (v_text_size : Int32) (v_text_usesWaited : Bool) (v_bytes : Nat → Int32) (v_text_steps : Nat → Int32) (p1 : Int32) (out : Int32 × Int32 × Int32 × Bool × (Nat → Int32)), x4_readJoinedR d false v_length v_at v_fault v_bytes v_text_size v_text_usesWaited v_text_steps p1 0 = some out → MC l D (yT cI cJ cZ cS cT) yX4_readOperand wsX4_readOperand ({ frames := 8 + d, cells := 0, slots := 0, locals := 400 + 25 * d } : Room) (0, 0) [.ref a0, .int p1] (w4_readOperand cI cJ cZ cS cT a0 a_bytes a_text a_text_steps a_text_stack v_length v_at v_fault v_text_size v_text_usesWaited v_bytes v_text_steps) (POd (fun o : Int32 × Int32 × Int32 × Bool × (Nat → Int32) => none) (fun o : Int32 × Int32 × Int32 × Bool × (Nat → Int32) => (w4_readOperand cI cJ cZ cS cT a0 a_bytes a_text a_text_steps a_text_stack v_length o.1 o.2.1 o.2.2.1 o.2.2.2.1 v_bytes o.2.2.2.2)) out) := (c4_readJoinedR l D cI cJ cZ cS cT d).2
theorem fg4_readLine_31 : YF wsX4_readLine RX4 31 4 4 := ⟨RX4, TX4, 5, rfl, (fun w h => List.mem_cons_of_mem _ (List.mem_append_left _ (List.mem_append_right _ h))), by decide, List.mem_of_getElem? (i := 1) rfl⟩
theorem fg4_readLine_25 : YF wsX4_readLine RX4 25 4 2 := ⟨RX4, TX4, 5, rfl, (fun w h => List.mem_cons_of_mem _ (List.mem_append_left _ (List.mem_append_right _ h))), by decide, List.mem_of_getElem? (i := 3) rfl⟩
theorem fp4_readLine_25 : YFp wsX4_readLine RX4 25 4 2 (tyX4 2) := ⟨RX4, TX4, 5, tyX4, rfl, (fun w h => List.mem_cons_of_mem _ (List.mem_append_left _ (List.mem_append_right _ h))), by decide, List.mem_of_getElem? (i := 3) rfl, tyX4_ok, nmX4, rfl, tyX4_ok _ (by decide)⟩
theorem fg4_readLine_54 : YF wsX4_readLine RX4 54 6 2 := ⟨RX6, TX6, 4, rfl, (fun w h => List.mem_cons_of_mem _ (List.mem_append_right _ h)), by decide, List.mem_of_getElem? (i := 2) rfl⟩
theorem yf4_readLine : (∃ Ty', wsX4_readLine = Cond.code yX4_readLine cX4_readLine 3 none :: Ty') ∧ (yX4_readLine.cls ≠ "java/lang/invoke/MethodHandle" ∧ yX4_readLine.cls ≠ "java/lang/invoke/VarHandle" ∧ (parseMethodDescriptor yX4_readLine.desc).map (fun d => d.parameters.length) = some 0) := ⟨⟨_, rfl⟩, by decide +kernel, by decide +kernel, by decide +kernel⟩
abbrev w4_readLine (cI cJ cZ cS cT : ClassId) (a0 a_bytes a_text a_text_steps a_text_stack : Nat) (v_length : Int32) (v_at : Int32) (v_fault : Int32) (v_text_size : Int32) (v_text_usesWaited : Bool) (v_bytes : Nat → Int32) (v_text_steps : Nat → Int32) : va_W := [(a0, .inr (4, [.ref a_bytes, .int v_length, .int v_at, .int v_fault, .ref a_text])), (a_bytes, .inl (cI, 120, .inl v_bytes)), (a_text, .inr (6, [.ref a_text_steps, .ref a_text_stack, .int v_text_size, .int (bI v_text_usesWaited)])), (a_text_steps, .inl (cI, 124, .inl v_text_steps))]
def x4_readLine_57  (v_length : Int32) (v_bytes : Nat → Int32) (v_at : Int32) (v_fault : Int32) (v_text_size : Int32) (v_text_usesWaited : Bool) (v_text_steps : Nat → Int32) (l1 : Int32) (l2 : Int32) : Option (Int32 × Int32 × Int32 × Bool × (Nat → Int32)) :=
  (x6_add v_text_size v_text_usesWaited v_text_steps 59).bind fun o1 => if l2 = 0 then (some (v_at, v_fault, o1.1, o1.2.1, o1.2.2)) else ((x6_leadOn o1.1 o1.2.2 l1).bind fun o2 => some (v_at, v_fault, o1.1, o1.2.1, o2))
def x4_readLine_28  (v_length : Int32) (v_bytes : Nat → Int32) (v_at : Int32) (v_fault : Int32) (v_text_size : Int32) (v_text_usesWaited : Bool) (v_text_steps : Nat → Int32) (l1 : Int32) (t0 : Int32) : Option (Int32 × Int32 × Int32 × Bool × (Nat → Int32)) :=
  if t0 = 0 then (x4_readLine_57  v_length v_bytes v_at v_fault v_text_size v_text_usesWaited v_text_steps l1 t0) else ((x6_add v_text_size v_text_usesWaited v_text_steps (-1)).bind fun o3 => (x4_readJoinedR 64 true v_length (v_at + 1) v_fault v_bytes o3.1 o3.2.1 o3.2.2 0 0).bind fun o4 => x4_readLine_57  v_length v_bytes o4.1 o4.2.1 o4.2.2.1 o4.2.2.2.1 o4.2.2.2.2 l1 t0)
def x4_readLine (v_length : Int32) (v_at : Int32) (v_fault : Int32) (v_bytes : Nat → Int32) (v_text_size : Int32) (v_text_usesWaited : Bool) (v_text_steps : Nat → Int32) : Option (Int32 × Int32 × Int32 × Bool × (Nat → Int32)) :=
  (x4_readJoinedR 64 true v_length v_at v_fault v_bytes v_text_size v_text_usesWaited v_text_steps 0 0).bind fun o5 => (x4_next v_length o5.1 o5.2.1 v_bytes).bind fun o6 => if o6 = 63 then (x4_readLine_28  v_length v_bytes o5.1 o5.2.1 o5.2.2.1 o5.2.2.2.1 o5.2.2.2.2 o5.2.2.1 1) else (x4_readLine_28  v_length v_bytes o5.1 o5.2.1 o5.2.2.1 o5.2.2.2.1 o5.2.2.2.2 o5.2.2.1 0)
set_option maxHeartbeats 4000000 in
set_option maxRecDepth 100000 in
theorem c4_readLine (l : Launch) (D : yD) (cI cJ cZ cS cT : ClassId) (a0 a_bytes a_text a_text_steps a_text_stack : Nat) (v_length : Int32) (v_at : Int32) (v_fault : Int32) (v_text_size : Int32) (v_text_usesWaited : Bool) (v_bytes : Nat → Int32) (v_text_steps : Nat → Int32) (out : Int32 × Int32 × Int32 × Bool × (Nat → Int32)) (hx : x4_readLine v_length v_at v_fault v_bytes v_text_size v_text_usesWaited v_text_steps = some out) : MC l D (yT cI cJ cZ cS cT) yX4_readLine wsX4_readLine ({ frames := 73, cells := 0, slots := 0, locals := 2025 } : Room) (0, 0) [.ref a0] (w4_readLine cI cJ cZ cS cT a0 a_bytes a_text a_text_steps a_text_stack v_length v_at v_fault v_text_size v_text_usesWaited v_bytes v_text_steps) (POd (fun o : Int32 × Int32 × Int32 × Bool × (Nat → Int32) => none) (fun (o : Int32 × Int32 × Int32 × Bool × (Nat → Int32)) => (w4_readLine cI cJ cZ cS cT a0 a_bytes a_text a_text_steps a_text_stack v_length o.1 o.2.1 o.2.2.1 o.2.2.2.1 v_bytes o.2.2.2.2)) out) := by
  refine MC.intro (cc := cX4_readLine) (nL := 3) (ret := none) (own := RX4) (lv := [(0, .ref a0)]) (by decide) rfl rfl (Nat.le_of_ble_eq_true rfl) rfl (fun X C E => ?_)
  unfold x4_readLine at hx
  have b28 : ∀  (v_at : Int32) (v_fault : Int32) (v_text_size : Int32) (v_text_usesWaited : Bool) (v_text_steps : Nat → Int32) (l1 : Int32) (t0 : Int32), x4_readLine_28  v_length v_bytes v_at v_fault v_text_size v_text_usesWaited v_text_steps l1 t0 = some out → Y X (0, 0) (w4_readLine cI cJ cZ cS cT a0 a_bytes a_text a_text_steps a_text_stack v_length v_at v_fault v_text_size v_text_usesWaited v_bytes v_text_steps) [(0, .ref a0), (1, .int l1)] 28 [.int t0] := by
    intro  v_at v_fault v_text_size v_text_usesWaited v_text_steps l1 t0  hx
    unfold x4_readLine_28 at hx
    have b57 : ∀  (v_at : Int32) (v_fault : Int32) (v_text_size : Int32) (v_text_usesWaited : Bool) (v_text_steps : Nat → Int32) (l1 : Int32) (l2 : Int32), x4_readLine_57  v_length v_bytes v_at v_fault v_text_size v_text_usesWaited v_text_steps l1 l2 = some out → Y X (0, 0) (w4_readLine cI cJ cZ cS cT a0 a_bytes a_text a_text_steps a_text_stack v_length v_at v_fault v_text_size v_text_usesWaited v_bytes v_text_steps) [(0, .ref a0), (1, .int l1), (2, .int l2)] 57 [] := by
      intro  v_at v_fault v_text_size v_text_usesWaited v_text_steps l1 l2  hx
      unfold x4_readLine_57 at hx
      refine Yaload_n C dX4_readLine_57 0 rfl rfl ?_
      refine Yget C fg4_readLine_31 dX4_readLine_58 0 rfl rfl ?_
      refine Ybipush C 59 dX4_readLine_61 (by decide) ?_
      obtain ⟨o1, ho1, hx⟩ := ybnd hx
      refine YcallVd (ws' := (w4_readLine cI cJ cZ cS cT a0 a_bytes a_text a_text_steps a_text_stack v_length v_at v_fault o1.1 o1.2.1 v_bytes o1.2.2)) (st' := []) (st := []) (as := [.int 59]) (b := a_text) (ci := 6) C [2, 3] [0, 1] 4 dX4_readLine_63 (c6_add l D cI cJ cZ cS cT a_text a_text_steps a_text_stack v_text_size v_text_usesWaited v_text_steps 59 o1 ho1) gX4_readLine_X6_add rfl ⟨yf6_add.1, yf6_add.2, Nat.le_of_ble_eq_true rfl, Nat.le_of_ble_eq_true rfl, rfl, rfl⟩ rfl 2 rfl (by decide) ⟨Nat.zero_le _, Nat.zero_le _⟩ (Nat.le_of_ble_eq_true rfl) ⟨rfl, rfl, trivial⟩ rfl rfl (by decide) (by decide) ⟨rfl, rfl, trivial⟩ [(a0, .inr (4, [.ref a_bytes, .int v_length, .int v_at, .int v_fault, .ref a_text])), (a_bytes, .inl (cI, 120, .inl v_bytes))] ⟨rfl, rfl, trivial⟩ ⟨rfl, rfl, trivial⟩ rfl ?_
      refine Yiload_n C dX4_readLine_66 2 rfl rfl ?_
      refine Yif_eq C 78 dX4_readLine_67 (by decide) hx (fun _ hx => ?_) (fun _ hx => ?_)
      · skip
        exact Yvret C E dX4_readLine_78 (ypo hx rfl rfl)
      · skip
        refine Yaload_n C dX4_readLine_70 0 rfl rfl ?_
        refine Yget C fg4_readLine_31 dX4_readLine_71 0 rfl rfl ?_
        refine Yiload_n C dX4_readLine_74 1 rfl rfl ?_
        obtain ⟨o2, ho2, hx⟩ := ybnd hx
        refine YcallVd (ws' := (w4_readLine cI cJ cZ cS cT a0 a_bytes a_text a_text_steps a_text_stack v_length v_at v_fault o1.1 o1.2.1 v_bytes o2)) (st' := []) (st := []) (as := [.int l1]) (b := a_text) (ci := 6) C [2, 3] [0, 1] 4 dX4_readLine_75 (c6_leadOn l D cI cJ cZ cS cT a_text a_text_steps a_text_stack o1.1 o1.2.1 o1.2.2 l1 o2 ho2) gX4_readLine_X6_leadOn rfl ⟨yf6_leadOn.1, yf6_leadOn.2, Nat.le_of_ble_eq_true rfl, Nat.le_of_ble_eq_true rfl, rfl, rfl⟩ rfl 2 rfl (by decide) ⟨Nat.zero_le _, Nat.zero_le _⟩ (Nat.le_of_ble_eq_true rfl) ⟨rfl, rfl, trivial⟩ rfl rfl (by decide) (by decide) ⟨rfl, rfl, trivial⟩ [(a0, .inr (4, [.ref a_bytes, .int v_length, .int v_at, .int v_fault, .ref a_text])), (a_bytes, .inl (cI, 120, .inl v_bytes))] ⟨rfl, rfl, trivial⟩ ⟨rfl, rfl, trivial⟩ rfl ?_
        exact Yvret C E dX4_readLine_78 (ypo hx rfl rfl)
    refine Yistore_n (lv' := [(0, .ref a0), (1, .int l1), (2, .int t0)]) C dX4_readLine_28 rfl (by decide) rfl ?_
    refine Yiload_n C dX4_readLine_29 2 rfl rfl ?_
    refine Yif_eq C 57 dX4_readLine_30 (by decide) hx (fun _ hx => ?_) (fun _ hx => ?_)
    · skip
      exact b57  v_at v_fault v_text_size v_text_usesWaited v_text_steps l1 t0 hx
    · skip
      refine Yaload_n C dX4_readLine_33 0 rfl rfl ?_
      refine Ydup C dX4_readLine_34 rfl ?_
      refine Yget C fg4_readLine_25 dX4_readLine_35 0 rfl rfl ?_
      refine Yiconst C 1 dX4_readLine_38 (by decide) ?_
      refine Yiadd C dX4_readLine_39 ?_
      refine Yput (v := .int (v_at + 1)) (ws' := (w4_readLine cI cJ cZ cS cT a0 a_bytes a_text a_text_steps a_text_stack v_length (v_at + 1) v_fault v_text_size v_text_usesWaited v_bytes v_text_steps)) C fp4_readLine_25 dX4_readLine_40 0 rfl rfl rfl (Nat.le_of_ble_eq_true rfl) rfl rfl ?_
      refine Yaload_n C dX4_readLine_43 0 rfl rfl ?_
      refine Yget C fg4_readLine_31 dX4_readLine_44 0 rfl rfl ?_
      refine Yiconst C (-1) dX4_readLine_47 (by decide) ?_
      obtain ⟨o3, ho3, hx⟩ := ybnd hx
      refine YcallVd (ws' := (w4_readLine cI cJ cZ cS cT a0 a_bytes a_text a_text_steps a_text_stack v_length (v_at + 1) v_fault o3.1 o3.2.1 v_bytes o3.2.2)) (st' := []) (st := []) (as := [.int (-1)]) (b := a_text) (ci := 6) C [2, 3] [0, 1] 4 dX4_readLine_48 (c6_add l D cI cJ cZ cS cT a_text a_text_steps a_text_stack v_text_size v_text_usesWaited v_text_steps (-1) o3 ho3) gX4_readLine_X6_add rfl ⟨yf6_add.1, yf6_add.2, Nat.le_of_ble_eq_true rfl, Nat.le_of_ble_eq_true rfl, rfl, rfl⟩ rfl 2 rfl (by decide) ⟨Nat.zero_le _, Nat.zero_le _⟩ (Nat.le_of_ble_eq_true rfl) ⟨rfl, rfl, trivial⟩ rfl rfl (by decide) (by decide) ⟨rfl, rfl, trivial⟩ [(a0, .inr (4, [.ref a_bytes, .int v_length, .int (v_at + 1), .int v_fault, .ref a_text])), (a_bytes, .inl (cI, 120, .inl v_bytes))] ⟨rfl, rfl, trivial⟩ ⟨rfl, rfl, trivial⟩ rfl ?_
      refine Yaload_n C dX4_readLine_51 0 rfl rfl ?_
      refine Yiconst C 0 dX4_readLine_52 (by decide) ?_
      refine Yiconst C 0 dX4_readLine_53 (by decide) ?_
      obtain ⟨o4, ho4, hx⟩ := ybnd hx
      refine YcallVd (ws' := (w4_readLine cI cJ cZ cS cT a0 a_bytes a_text a_text_steps a_text_stack v_length o4.1 o4.2.1 o4.2.2.1 o4.2.2.2.1 v_bytes o4.2.2.2.2)) (st' := []) (st := []) (as := [.int 0, .int 0]) (b := a0) (ci := 4) C [0, 1, 2, 3] [] 4 dX4_readLine_54 (c4_readJoined l D cI cJ cZ cS cT 64 a0 a_bytes a_text a_text_steps a_text_stack v_length (v_at + 1) v_fault o3.1 o3.2.1 v_bytes o3.2.2 0 0 o4 ho4) gX4_readLine_X4_readJoined rfl ⟨yf4_readJoined.1, yf4_readJoined.2, Nat.le_of_ble_eq_true rfl, Nat.le_of_ble_eq_true rfl, rfl, rfl⟩ rfl 0 rfl (by decide) ⟨Nat.zero_le _, Nat.zero_le _⟩ (Nat.le_of_ble_eq_true rfl) ⟨rfl, rfl, rfl, rfl, trivial⟩ rfl rfl (by decide) (by decide) ⟨rfl, rfl, rfl, rfl, trivial⟩ [] trivial trivial rfl ?_
      exact b57  o4.1 o4.2.1 o4.2.2.1 o4.2.2.2.1 o4.2.2.2.2 l1 t0 hx
  refine Yaload_n C dX4_readLine_0 0 rfl rfl ?_
  refine Yiconst C 0 dX4_readLine_1 (by decide) ?_
  refine Yiconst C 0 dX4_readLine_2 (by decide) ?_
  obtain ⟨o5, ho5, hx⟩ := ybnd hx
  refine YcallVd (ws' := (w4_readLine cI cJ cZ cS cT a0 a_bytes a_text a_text_steps a_text_stack v_length o5.1 o5.2.1 o5.2.2.1 o5.2.2.2.1 v_bytes o5.2.2.2.2)) (st' := []) (st := []) (as := [.int 0, .int 0]) (b := a0) (ci := 4) C [0, 1, 2, 3] [] 4 dX4_readLine_3 (c4_readJoined l D cI cJ cZ cS cT 64 a0 a_bytes a_text a_text_steps a_text_stack v_length v_at v_fault v_text_size v_text_usesWaited v_bytes v_text_steps 0 0 o5 ho5) gX4_readLine_X4_readJoined rfl ⟨yf4_readJoined.1, yf4_readJoined.2, Nat.le_of_ble_eq_true rfl, Nat.le_of_ble_eq_true rfl, rfl, rfl⟩ rfl 0 rfl (by decide) ⟨Nat.zero_le _, Nat.zero_le _⟩ (Nat.le_of_ble_eq_true rfl) ⟨rfl, rfl, rfl, rfl, trivial⟩ rfl rfl (by decide) (by decide) ⟨rfl, rfl, rfl, rfl, trivial⟩ [] trivial trivial rfl ?_
  refine Yaload_n C dX4_readLine_6 0 rfl rfl ?_
  refine Yget C fg4_readLine_31 dX4_readLine_7 0 rfl rfl ?_
  refine Yget C fg4_readLine_54 dX4_readLine_10 2 rfl rfl ?_
  refine Yistore_n (lv' := [(0, .ref a0), (1, .int o5.2.2.1)]) C dX4_readLine_13 rfl (by decide) rfl ?_
  refine Yaload_n C dX4_readLine_14 0 rfl rfl ?_
  obtain ⟨o6, ho6, hx⟩ := ybnd hx
  refine YcallVd (ws' := (w4_readLine cI cJ cZ cS cT a0 a_bytes a_text a_text_steps a_text_stack v_length o5.1 o5.2.1 o5.2.2.1 o5.2.2.2.1 v_bytes o5.2.2.2.2)) (st' := [.int o6]) (st := []) (as := []) (b := a0) (ci := 4) C [0, 1] [2, 3] 4 dX4_readLine_15 (c4_next l D cI cJ cZ cS cT a0 a_bytes a_text v_length o5.1 o5.2.1 v_bytes o6 ho6) gX4_readLine_X4_next rfl ⟨yf4_next.1, yf4_next.2, Nat.le_of_ble_eq_true rfl, Nat.le_of_ble_eq_true rfl, rfl, rfl⟩ rfl 0 rfl (by decide) ⟨Nat.zero_le _, Nat.zero_le _⟩ (Nat.le_of_ble_eq_true rfl) ⟨rfl, rfl, trivial⟩ rfl rfl (by decide) (by decide) ⟨rfl, rfl, trivial⟩ [(a_text, .inr (6, [.ref a_text_steps, .ref a_text_stack, .int o5.2.2.1, .int (bI o5.2.2.2.1)])), (a_text_steps, .inl (cI, 124, .inl o5.2.2.2.2))] ⟨rfl, rfl, trivial⟩ ⟨rfl, rfl, trivial⟩ rfl ?_
  refine Ybipush C 63 dX4_readLine_18 (by decide) ?_
  refine Yicmp_ne C 27 dX4_readLine_20 (by decide) hx (fun _ hx => ?_) (fun _ hx => ?_)
  · skip
    refine Yiconst C 0 dX4_readLine_27 (by decide) ?_
    exact b28  o5.1 o5.2.1 o5.2.2.1 o5.2.2.2.1 o5.2.2.2.2 o5.2.2.1 0 hx
  · skip
    refine Yiconst C 1 dX4_readLine_23 (by decide) ?_
    refine Ygoto C 28 dX4_readLine_24 (by decide) ?_
    exact b28  o5.1 o5.2.1 o5.2.2.1 o5.2.2.2.1 o5.2.2.2.2 o5.2.2.1 1 hx
theorem fg4_read_25 : YF wsX4_read RX4 25 4 2 := ⟨RX4, TX4, 5, rfl, (fun w h => List.mem_cons_of_mem _ (List.mem_append_left _ (List.mem_append_right _ h))), by decide, List.mem_of_getElem? (i := 7) rfl⟩
theorem fg4_read_21 : YF wsX4_read RX4 21 4 1 := ⟨RX4, TX4, 5, rfl, (fun w h => List.mem_cons_of_mem _ (List.mem_append_left _ (List.mem_append_right _ h))), by decide, List.mem_of_getElem? (i := 6) rfl⟩
theorem fg4_read_28 : YF wsX4_read RX4 28 4 3 := ⟨RX4, TX4, 5, rfl, (fun w h => List.mem_cons_of_mem _ (List.mem_append_left _ (List.mem_append_right _ h))), by decide, List.mem_of_getElem? (i := 8) rfl⟩
theorem fp4_read_25 : YFp wsX4_read RX4 25 4 2 (tyX4 2) := ⟨RX4, TX4, 5, tyX4, rfl, (fun w h => List.mem_cons_of_mem _ (List.mem_append_left _ (List.mem_append_right _ h))), by decide, List.mem_of_getElem? (i := 7) rfl, tyX4_ok, nmX4, rfl, tyX4_ok _ (by decide)⟩
theorem fp4_read_9 : YFp wsX4_read RX4 9 4 0 (tyX4 0) := ⟨RX4, TX4, 5, tyX4, rfl, (fun w h => List.mem_cons_of_mem _ (List.mem_append_left _ (List.mem_append_right _ h))), by decide, List.mem_of_getElem? (i := 1) rfl, tyX4_ok, nmX4, rfl, tyX4_ok _ (by decide)⟩
theorem fp4_read_21 : YFp wsX4_read RX4 21 4 1 (tyX4 1) := ⟨RX4, TX4, 5, tyX4, rfl, (fun w h => List.mem_cons_of_mem _ (List.mem_append_left _ (List.mem_append_right _ h))), by decide, List.mem_of_getElem? (i := 6) rfl, tyX4_ok, nmX4, rfl, tyX4_ok _ (by decide)⟩
theorem fp4_read_28 : YFp wsX4_read RX4 28 4 3 (tyX4 3) := ⟨RX4, TX4, 5, tyX4, rfl, (fun w h => List.mem_cons_of_mem _ (List.mem_append_left _ (List.mem_append_right _ h))), by decide, List.mem_of_getElem? (i := 8) rfl, tyX4_ok, nmX4, rfl, tyX4_ok _ (by decide)⟩
theorem fp4_read_31 : YFp wsX4_read RX4 31 4 4 (tyX4 4) := ⟨RX4, TX4, 5, tyX4, rfl, (fun w h => List.mem_cons_of_mem _ (List.mem_append_left _ (List.mem_append_right _ h))), by decide, List.mem_of_getElem? (i := 9) rfl, tyX4_ok, nmX4, rfl, tyX4_ok _ (by decide)⟩
theorem fg4_read_31 : YF wsX4_read RX4 31 4 4 := ⟨RX4, TX4, 5, rfl, (fun w h => List.mem_cons_of_mem _ (List.mem_append_left _ (List.mem_append_right _ h))), by decide, List.mem_of_getElem? (i := 9) rfl⟩
theorem yf4_read : (∃ Ty', wsX4_read = Cond.code yX4_read cX4_read 5 (some .int) :: Ty') ∧ (yX4_read.cls ≠ "java/lang/invoke/MethodHandle" ∧ yX4_read.cls ≠ "java/lang/invoke/VarHandle" ∧ (parseMethodDescriptor yX4_read.desc).map (fun d => d.parameters.length) = some 3) := ⟨⟨_, rfl⟩, by decide +kernel, by decide +kernel, by decide +kernel⟩
abbrev w4_read (cI cJ cZ cS cT : ClassId) (a0 a_p1 a_p3 a_p3_steps a_p3_stack : Nat) (v_bytes : Value) (v_length : Int32) (v_at : Int32) (v_fault : Int32) (v_text : Value) (v_p3_size : Int32) (v_p3_usesWaited : Bool) (v_p1 : Nat → Int32) (v_p3_steps : Nat → Int32) : va_W := [(a0, .inr (4, [v_bytes, .int v_length, .int v_at, .int v_fault, v_text])), (a_p1, .inl (cI, 120, .inl v_p1)), (a_p3, .inr (6, [.ref a_p3_steps, .ref a_p3_stack, .int v_p3_size, .int (bI v_p3_usesWaited)])), (a_p3_steps, .inl (cI, 124, .inl v_p3_steps))]
def x4_read_80  (v_p1 : Nat → Int32) (v_length : Int32) (v_at : Int32) (v_fault : Int32) (v_p3_size : Int32) (v_p3_usesWaited : Bool) (v_p3_steps : Nat → Int32) : Option (Int32 × Int32 × Int32 × Int32 × Int32 × Bool × (Nat → Int32)) :=
  if v_length ≤ v_at then (some (v_fault, v_length, v_at, v_fault, v_p3_size, v_p3_usesWaited, v_p3_steps)) else ((x4_fail v_at v_fault).bind fun o1 => some (o1, v_length, v_at, o1, v_p3_size, v_p3_usesWaited, v_p3_steps))
def x4_read_44  (v_length : Int32) (v_p1 : Nat → Int32) : Nat → Int32 → Int32 → Int32 → Bool → (Nat → Int32) → Int32 → Option (Int32 × Int32 × Int32 × Int32 × Int32 × Bool × (Nat → Int32))
  | 0, _, _, _, _, _, _ => none
  | n + 1, v_at, v_fault, v_p3_size, v_p3_usesWaited, v_p3_steps, l4 =>
    if 120 ≤ l4 then (x4_read_80  v_p1 v_length v_at v_fault v_p3_size v_p3_usesWaited v_p3_steps) else ((x4_next v_length v_at v_fault v_p1).bind fun o2 => if o2 = 59 then ((x4_readLine v_length (v_at + 1) v_fault v_p1 v_p3_size v_p3_usesWaited v_p3_steps).bind fun o3 => x4_read_44 v_length v_p1 n o3.1 o3.2.1 o3.2.2.1 o3.2.2.2.1 o3.2.2.2.2 (l4 + 1)) else (x4_read_80  v_p1 v_length v_at v_fault v_p3_size v_p3_usesWaited v_p3_steps))
def x4_read (v_length : Int32) (v_at : Int32) (v_fault : Int32) (v_p1 : Nat → Int32) (v_p3_size : Int32) (v_p3_usesWaited : Bool) (v_p3_steps : Nat → Int32) (p2 : Int32) : Option (Int32 × Int32 × Int32 × Int32 × Int32 × Bool × (Nat → Int32)) :=
  (x6_clear v_p3_size v_p3_usesWaited).bind fun o4 => (x4_readLine (if 120 < p2 then 120 else p2) 0 (-1) v_p1 o4.1 o4.2 v_p3_steps).bind fun o5 => x4_read_44  (if 120 < p2 then 120 else p2) v_p1 yN o5.1 o5.2.1 o5.2.2.1 o5.2.2.2.1 o5.2.2.2.2 0
set_option maxHeartbeats 4000000 in
set_option maxRecDepth 100000 in
theorem c4_read (l : Launch) (D : yD) (cI cJ cZ cS cT : ClassId) (a0 a_p1 a_p3 a_p3_steps a_p3_stack : Nat) (v_bytes : Value) (v_length : Int32) (v_at : Int32) (v_fault : Int32) (v_text : Value) (v_p3_size : Int32) (v_p3_usesWaited : Bool) (v_p1 : Nat → Int32) (v_p3_steps : Nat → Int32) (p2 : Int32) (out : Int32 × Int32 × Int32 × Int32 × Int32 × Bool × (Nat → Int32)) (hx : x4_read v_length v_at v_fault v_p1 v_p3_size v_p3_usesWaited v_p3_steps p2 = some out) : MC l D (yT cI cJ cZ cS cT) yX4_read wsX4_read ({ frames := 74, cells := 0, slots := 0, locals := 2047 } : Room) (0, 0) [.ref a0, .ref a_p1, .int p2, .ref a_p3] (w4_read cI cJ cZ cS cT a0 a_p1 a_p3 a_p3_steps a_p3_stack (v_bytes) v_length v_at v_fault (v_text) v_p3_size v_p3_usesWaited v_p1 v_p3_steps) (POd (fun o : Int32 × Int32 × Int32 × Int32 × Int32 × Bool × (Nat → Int32) => some (.int o.1)) (fun (o : Int32 × Int32 × Int32 × Int32 × Int32 × Bool × (Nat → Int32)) => (w4_read cI cJ cZ cS cT a0 a_p1 a_p3 a_p3_steps a_p3_stack (.ref a_p1) o.2.1 o.2.2.1 o.2.2.2.1 (.ref a_p3) o.2.2.2.2.1 o.2.2.2.2.2.1 v_p1 o.2.2.2.2.2.2)) out) := by
  refine MC.intro (cc := cX4_read) (nL := 5) (ret := (some .int)) (own := RX4) (lv := [(0, .ref a0), (1, .ref a_p1), (2, .int p2), (3, .ref a_p3)]) (by decide) rfl rfl (Nat.le_of_ble_eq_true rfl) rfl (fun X C E => ?_)
  unfold x4_read at hx
  have b44 : ∀ (v_length : Int32), ∀ (n44 : Nat) (v_at : Int32) (v_fault : Int32) (v_p3_size : Int32) (v_p3_usesWaited : Bool) (v_p3_steps : Nat → Int32) (l4 : Int32), x4_read_44  v_length v_p1 n44 v_at v_fault v_p3_size v_p3_usesWaited v_p3_steps l4 = some out → Y X (0, 0) (w4_read cI cJ cZ cS cT a0 a_p1 a_p3 a_p3_steps a_p3_stack (.ref a_p1) v_length v_at v_fault (.ref a_p3) v_p3_size v_p3_usesWaited v_p1 v_p3_steps) [(0, .ref a0), (4, .int l4)] 44 [] := by
    intro v_length
    intro n44
    induction n44 with
    | zero =>
      intro v_at v_fault v_p3_size v_p3_usesWaited v_p3_steps l4  hx
      rw [x4_read_44] at hx
      cases hx
    | succ n44 ih44 =>
      intro v_at v_fault v_p3_size v_p3_usesWaited v_p3_steps l4  hx
      rw [x4_read_44] at hx
      have b80 : ∀  (v_length : Int32) (v_at : Int32) (v_fault : Int32) (v_p3_size : Int32) (v_p3_usesWaited : Bool) (v_p3_steps : Nat → Int32), x4_read_80  v_p1 v_length v_at v_fault v_p3_size v_p3_usesWaited v_p3_steps = some out → Y X (0, 0) (w4_read cI cJ cZ cS cT a0 a_p1 a_p3 a_p3_steps a_p3_stack (.ref a_p1) v_length v_at v_fault (.ref a_p3) v_p3_size v_p3_usesWaited v_p1 v_p3_steps) [(0, .ref a0)] 80 [] := by
        intro  v_length v_at v_fault v_p3_size v_p3_usesWaited v_p3_steps  hx
        unfold x4_read_80 at hx
        refine Yaload_n C dX4_read_80 0 rfl rfl ?_
        refine Yget C fg4_read_25 dX4_read_81 0 rfl rfl ?_
        refine Yaload_n C dX4_read_84 0 rfl rfl ?_
        refine Yget C fg4_read_21 dX4_read_85 0 rfl rfl ?_
        refine Yicmp_ge C 95 dX4_read_88 (by decide) hx (fun _ hx => ?_) (fun _ hx => ?_)
        · skip
          refine Yaload_n C dX4_read_95 0 rfl rfl ?_
          refine Yget C fg4_read_28 dX4_read_96 0 rfl rfl ?_
          exact Yiret C E dX4_read_99 (ypo hx rfl rfl)
        · skip
          refine Yaload_n C dX4_read_91 0 rfl rfl ?_
          obtain ⟨o1, ho1, hx⟩ := ybnd hx
          refine YcallVd (ws' := (w4_read cI cJ cZ cS cT a0 a_p1 a_p3 a_p3_steps a_p3_stack (.ref a_p1) v_length v_at o1 (.ref a_p3) v_p3_size v_p3_usesWaited v_p1 v_p3_steps)) (st' := []) (st := []) (as := []) (b := a0) (ci := 4) C [0] [1, 2, 3] 4 dX4_read_92 (c4_fail l D cI cJ cZ cS cT a0 a_p1 a_p3 v_length v_at v_fault o1 ho1) gX4_read_X4_fail rfl ⟨yf4_fail.1, yf4_fail.2, Nat.le_of_ble_eq_true rfl, Nat.le_of_ble_eq_true rfl, rfl, rfl⟩ rfl 0 rfl (by decide) ⟨Nat.zero_le _, Nat.zero_le _⟩ (Nat.le_of_ble_eq_true rfl) ⟨rfl, trivial⟩ rfl rfl (by decide) (by decide) ⟨rfl, trivial⟩ [(a_p1, .inl (cI, 120, .inl v_p1)), (a_p3, .inr (6, [.ref a_p3_steps, .ref a_p3_stack, .int v_p3_size, .int (bI v_p3_usesWaited)])), (a_p3_steps, .inl (cI, 124, .inl v_p3_steps))] ⟨rfl, rfl, rfl, trivial⟩ ⟨rfl, rfl, rfl, trivial⟩ rfl ?_
          refine Yaload_n C dX4_read_95 0 rfl rfl ?_
          refine Yget C fg4_read_28 dX4_read_96 0 rfl rfl ?_
          exact Yiret C E dX4_read_99 (ypo hx rfl rfl)
      refine Yiload C dX4_read_44 1 rfl ?_
      refine Ybipush C 120 dX4_read_46 (by decide) ?_
      refine Yicmp_ge C 80 dX4_read_48 (by decide) hx (fun _ hx => ?_) (fun _ hx => ?_)
      · skip
        exact Yjmp C [0] rfl (b80  v_length v_at v_fault v_p3_size v_p3_usesWaited v_p3_steps hx)
      · skip
        refine Yaload_n C dX4_read_51 0 rfl rfl ?_
        obtain ⟨o2, ho2, hx⟩ := ybnd hx
        refine YcallVd (ws' := (w4_read cI cJ cZ cS cT a0 a_p1 a_p3 a_p3_steps a_p3_stack (.ref a_p1) v_length v_at v_fault (.ref a_p3) v_p3_size v_p3_usesWaited v_p1 v_p3_steps)) (st' := [.int o2]) (st := []) (as := []) (b := a0) (ci := 4) C [0, 1] [2, 3] 4 dX4_read_52 (c4_next l D cI cJ cZ cS cT a0 a_p1 a_p3 v_length v_at v_fault v_p1 o2 ho2) gX4_read_X4_next rfl ⟨yf4_next.1, yf4_next.2, Nat.le_of_ble_eq_true rfl, Nat.le_of_ble_eq_true rfl, rfl, rfl⟩ rfl 0 rfl (by decide) ⟨Nat.zero_le _, Nat.zero_le _⟩ (Nat.le_of_ble_eq_true rfl) ⟨rfl, rfl, trivial⟩ rfl rfl (by decide) (by decide) ⟨rfl, rfl, trivial⟩ [(a_p3, .inr (6, [.ref a_p3_steps, .ref a_p3_stack, .int v_p3_size, .int (bI v_p3_usesWaited)])), (a_p3_steps, .inl (cI, 124, .inl v_p3_steps))] ⟨rfl, rfl, trivial⟩ ⟨rfl, rfl, trivial⟩ rfl ?_
        refine Ybipush C 59 dX4_read_55 (by decide) ?_
        refine Yicmp_ne C 80 dX4_read_57 (by decide) hx (fun _ hx => ?_) (fun _ hx => ?_)
        · skip
          exact Yjmp C [0] rfl (b80  v_length v_at v_fault v_p3_size v_p3_usesWaited v_p3_steps hx)
        · skip
          refine Yaload_n C dX4_read_60 0 rfl rfl ?_
          refine Ydup C dX4_read_61 rfl ?_
          refine Yget C fg4_read_25 dX4_read_62 0 rfl rfl ?_
          refine Yiconst C 1 dX4_read_65 (by decide) ?_
          refine Yiadd C dX4_read_66 ?_
          refine Yput (v := .int (v_at + 1)) (ws' := (w4_read cI cJ cZ cS cT a0 a_p1 a_p3 a_p3_steps a_p3_stack (.ref a_p1) v_length (v_at + 1) v_fault (.ref a_p3) v_p3_size v_p3_usesWaited v_p1 v_p3_steps)) C fp4_read_25 dX4_read_67 0 rfl rfl rfl (Nat.le_of_ble_eq_true rfl) rfl rfl ?_
          refine Yaload_n C dX4_read_70 0 rfl rfl ?_
          obtain ⟨o3, ho3, hx⟩ := ybnd hx
          refine YcallVd (ws' := (w4_read cI cJ cZ cS cT a0 a_p1 a_p3 a_p3_steps a_p3_stack (.ref a_p1) v_length o3.1 o3.2.1 (.ref a_p3) o3.2.2.1 o3.2.2.2.1 v_p1 o3.2.2.2.2)) (st' := []) (st := []) (as := []) (b := a0) (ci := 4) C [0, 1, 2, 3] [] 4 dX4_read_71 (c4_readLine l D cI cJ cZ cS cT a0 a_p1 a_p3 a_p3_steps a_p3_stack v_length (v_at + 1) v_fault v_p3_size v_p3_usesWaited v_p1 v_p3_steps o3 ho3) gX4_read_X4_readLine rfl ⟨yf4_readLine.1, yf4_readLine.2, Nat.le_of_ble_eq_true rfl, Nat.le_of_ble_eq_true rfl, rfl, rfl⟩ rfl 0 rfl (by decide) ⟨Nat.zero_le _, Nat.zero_le _⟩ (Nat.le_of_ble_eq_true rfl) ⟨rfl, rfl, rfl, rfl, trivial⟩ rfl rfl (by decide) (by decide) ⟨rfl, rfl, rfl, rfl, trivial⟩ [] trivial trivial rfl ?_
          refine Yiinc (v := l4 + 1) (lv' := [(0, .ref a0), (4, .int (l4 + 1))]) C dX4_read_74 1 rfl rfl (by decide) rfl ?_
          refine Ygoto C 44 dX4_read_77 (by decide) ?_
          exact ih44 o3.1 o3.2.1 o3.2.2.1 o3.2.2.2.1 o3.2.2.2.2 (l4 + 1) hx
  refine Yaload_n C dX4_read_0 0 rfl rfl ?_
  refine Yaload_n C dX4_read_1 1 rfl rfl ?_
  refine Yput (v := .ref a_p1) (ws' := (w4_read cI cJ cZ cS cT a0 a_p1 a_p3 a_p3_steps a_p3_stack (.ref a_p1) v_length v_at v_fault (v_text) v_p3_size v_p3_usesWaited v_p1 v_p3_steps)) C fp4_read_9 dX4_read_2 0 rfl rfl rfl (Nat.le_of_ble_eq_true rfl) rfl rfl ?_
  refine Yaload_n C dX4_read_5 0 rfl rfl ?_
  refine Yiload_n C dX4_read_6 2 rfl rfl ?_
  refine Yaload_n C dX4_read_7 1 rfl rfl ?_
  refine Yalen (v := 120) C dX4_read_8 1 0 rfl rfl rfl ?_
  refine Ymmin C dX4_read_9 (List.mem_of_getElem? (i := 2) rfl) (List.mem_of_getElem? (i := 3) rfl) (List.mem_of_getElem? (i := 4) rfl) (List.mem_of_getElem? (i := 5) rfl) (Nat.le_of_ble_eq_true rfl) (Nat.le_of_ble_eq_true rfl) ⟨Nat.zero_le _, Nat.zero_le _⟩ ?_
  refine Yput (v := .int (if 120 < p2 then 120 else p2)) (ws' := (w4_read cI cJ cZ cS cT a0 a_p1 a_p3 a_p3_steps a_p3_stack (.ref a_p1) (if 120 < p2 then 120 else p2) v_at v_fault (v_text) v_p3_size v_p3_usesWaited v_p1 v_p3_steps)) C fp4_read_21 dX4_read_12 0 rfl rfl rfl (Nat.le_of_ble_eq_true rfl) rfl rfl ?_
  refine Yaload_n C dX4_read_15 0 rfl rfl ?_
  refine Yiconst C 0 dX4_read_16 (by decide) ?_
  refine Yput (v := .int 0) (ws' := (w4_read cI cJ cZ cS cT a0 a_p1 a_p3 a_p3_steps a_p3_stack (.ref a_p1) (if 120 < p2 then 120 else p2) 0 v_fault (v_text) v_p3_size v_p3_usesWaited v_p1 v_p3_steps)) C fp4_read_25 dX4_read_17 0 rfl rfl rfl (Nat.le_of_ble_eq_true rfl) rfl rfl ?_
  refine Yaload_n C dX4_read_20 0 rfl rfl ?_
  refine Yiconst C (-1) dX4_read_21 (by decide) ?_
  refine Yput (v := .int (-1)) (ws' := (w4_read cI cJ cZ cS cT a0 a_p1 a_p3 a_p3_steps a_p3_stack (.ref a_p1) (if 120 < p2 then 120 else p2) 0 (-1) (v_text) v_p3_size v_p3_usesWaited v_p1 v_p3_steps)) C fp4_read_28 dX4_read_22 0 rfl rfl rfl (Nat.le_of_ble_eq_true rfl) rfl rfl ?_
  refine Yaload_n C dX4_read_25 0 rfl rfl ?_
  refine Yaload_n C dX4_read_26 3 rfl rfl ?_
  refine Yput (v := .ref a_p3) (ws' := (w4_read cI cJ cZ cS cT a0 a_p1 a_p3 a_p3_steps a_p3_stack (.ref a_p1) (if 120 < p2 then 120 else p2) 0 (-1) (.ref a_p3) v_p3_size v_p3_usesWaited v_p1 v_p3_steps)) C fp4_read_31 dX4_read_27 0 rfl rfl rfl (Nat.le_of_ble_eq_true rfl) rfl rfl ?_
  refine Yaload_n C dX4_read_30 0 rfl rfl ?_
  refine Yget C fg4_read_31 dX4_read_31 0 rfl rfl ?_
  obtain ⟨o4, ho4, hx⟩ := ybnd hx
  refine YcallVd (ws' := (w4_read cI cJ cZ cS cT a0 a_p1 a_p3 a_p3_steps a_p3_stack (.ref a_p1) (if 120 < p2 then 120 else p2) 0 (-1) (.ref a_p3) o4.1 o4.2 v_p1 v_p3_steps)) (st' := []) (st := []) (as := []) (b := a_p3) (ci := 6) C [2] [0, 1, 3] 4 dX4_read_34 (c6_clear l D cI cJ cZ cS cT a_p3 a_p3_steps a_p3_stack v_p3_size v_p3_usesWaited o4 ho4) gX4_read_X6_clear rfl ⟨yf6_clear.1, yf6_clear.2, Nat.le_of_ble_eq_true rfl, Nat.le_of_ble_eq_true rfl, rfl, rfl⟩ rfl 2 rfl (by decide) ⟨Nat.zero_le _, Nat.zero_le _⟩ (Nat.le_of_ble_eq_true rfl) ⟨rfl, trivial⟩ rfl rfl (by decide) (by decide) ⟨rfl, trivial⟩ [(a0, .inr (4, [.ref a_p1, .int (if 120 < p2 then 120 else p2), .int 0, .int (-1), .ref a_p3])), (a_p1, .inl (cI, 120, .inl v_p1)), (a_p3_steps, .inl (cI, 124, .inl v_p3_steps))] ⟨rfl, rfl, rfl, trivial⟩ ⟨rfl, rfl, rfl, trivial⟩ rfl ?_
  refine Yaload_n C dX4_read_37 0 rfl rfl ?_
  obtain ⟨o5, ho5, hx⟩ := ybnd hx
  refine YcallVd (ws' := (w4_read cI cJ cZ cS cT a0 a_p1 a_p3 a_p3_steps a_p3_stack (.ref a_p1) (if 120 < p2 then 120 else p2) o5.1 o5.2.1 (.ref a_p3) o5.2.2.1 o5.2.2.2.1 v_p1 o5.2.2.2.2)) (st' := []) (st := []) (as := []) (b := a0) (ci := 4) C [0, 1, 2, 3] [] 4 dX4_read_38 (c4_readLine l D cI cJ cZ cS cT a0 a_p1 a_p3 a_p3_steps a_p3_stack (if 120 < p2 then 120 else p2) 0 (-1) o4.1 o4.2 v_p1 v_p3_steps o5 ho5) gX4_read_X4_readLine rfl ⟨yf4_readLine.1, yf4_readLine.2, Nat.le_of_ble_eq_true rfl, Nat.le_of_ble_eq_true rfl, rfl, rfl⟩ rfl 0 rfl (by decide) ⟨Nat.zero_le _, Nat.zero_le _⟩ (Nat.le_of_ble_eq_true rfl) ⟨rfl, rfl, rfl, rfl, trivial⟩ rfl rfl (by decide) (by decide) ⟨rfl, rfl, rfl, rfl, trivial⟩ [] trivial trivial rfl ?_
  refine Yiconst C 0 dX4_read_41 (by decide) ?_
  refine Yistore (lv' := [(0, .ref a0), (1, .ref a_p1), (2, .int p2), (3, .ref a_p3), (4, .int 0)]) C dX4_read_42 (by decide) rfl ?_
  exact Yjmp C [0, 4] rfl (b44 (if 120 < p2 then 120 else p2) yN o5.1 o5.2.1 o5.2.2.1 o5.2.2.2.1 o5.2.2.2.2 0 hx)

