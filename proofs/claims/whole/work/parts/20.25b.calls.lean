/-! changes -/
def ValidC (P R : Nat) (n w v : Int32) : Prop := (w = 0 ∧ ∃ k, k < P ∧ n = I k ∧ In v 0 9) ∨ (w = 1 ∧ ∃ k, k < R ∧ n = I k ∧ In v 1 60) ∨ (w = 2 ∧ ∃ k, k < R ∧ n = I k ∧ In v 0 99)
def ChgOk (P R : Nat) (done size kept mdone : Int32) (nums whats olds news kW kO kWas kN : Nat → Int32) : Prop :=
  ∃ d s, d ≤ s ∧ s ≤ 40 ∧ done = I d ∧ size = I s ∧ mdone = I d ∧ kept = I s ∧ kO = nums ∧ kW = whats ∧ kWas = olds ∧ kN = news ∧ ∀ j, j < s → ValidC P R (nums j) (whats j) (olds j) ∧ ValidC P R (nums j) (whats j) (news j)
theorem ValidC.mono {P R P' R' : Nat} {n w v : Int32} (h : ValidC P R n w v) (hp : P ≤ P') (hr : R ≤ R') : ValidC P' R' n w v := by
  rcases h with ⟨h1, k, h2, h3⟩ | ⟨h1, k, h2, h3⟩ | ⟨h1, k, h2, h3⟩
  · exact Or.inl ⟨h1, k, by omega, h3⟩
  · exact Or.inr (Or.inl ⟨h1, k, by omega, h3⟩)
  · exact Or.inr (Or.inr ⟨h1, k, by omega, h3⟩)
theorem ChgOk.mono {P R P' R' : Nat} {done size kept mdone : Int32} {nums whats olds news kW kO kWas kN : Nat → Int32} (h : ChgOk P R done size kept mdone nums whats olds news kW kO kWas kN) (hp : P ≤ P') (hr : R ≤ R') : ChgOk P' R' done size kept mdone nums whats olds news kW kO kWas kN := by
  obtain ⟨d, s, h1, h2, h3, h4, h5, h6, h7, h8, h9, h10, h11⟩ := h
  exact ⟨d, s, h1, h2, h3, h4, h5, h6, h7, h8, h9, h10, fun j hj => ⟨(h11 j hj).1.mono hp hr, (h11 j hj).2.mono hp hr⟩⟩
/-- rows of places and roads that a change may touch -/
def LandV (P R : Nat) (room danger flow frm len to : Nat → Int32) : Prop := P ≤ 8 ∧ R ≤ 16 ∧ (∀ j, In (room j) 0 9) ∧ RoadsOk P R danger flow frm len to
theorem x3has {P R : Nat} (hP : P ≤ 8) (hR : R ≤ 16) {n w v : Int32} (h : ValidC P R n w v) : x3_mayBecome (I P) (I R) n w v = some true := by
  unfold x3_mayBecome
  rcases h with ⟨rfl, k, hk, rfl, hv⟩ | ⟨rfl, k, hk, rfl, hv⟩ | ⟨rfl, k, hk, rfl, hv⟩
  · obtain ⟨m, m1, m2, rfl⟩ := hv
    rw [if_pos rfl, hasPlace_I hP (by omega), decide_eq_true hk, Option.bind_some, bif_t, if_neg (by show ¬ (_ < I 0); rw [I_lt (by omega) (by omega)]; omega), if_neg (by show ¬ (I 9 < _); rw [I_lt (by omega) (by omega)]; omega)]
  · obtain ⟨m, m1, m2, rfl⟩ := hv
    rw [if_neg (by decide), if_pos rfl, hasRoad_I hR (by omega), decide_eq_true hk, Option.bind_some, bif_t, if_neg (by show ¬ (_ < I 1); rw [I_lt (by omega) (by omega)]; omega), if_neg (by show ¬ (I 60 < _); rw [I_lt (by omega) (by omega)]; omega)]
  · obtain ⟨m, m1, m2, rfl⟩ := hv
    rw [if_neg (by decide), if_neg (by decide), if_pos rfl, hasRoad_I hR (by omega), decide_eq_true hk, Option.bind_some, bif_t, if_neg (by show ¬ (_ < I 0); rw [I_lt (by omega) (by omega)]; omega), if_neg (by show ¬ (I 99 < _); rw [I_lt (by omega) (by omega)]; omega)]
theorem m_change {P R : Nat} {room danger flow frm len to : Nat → Int32} (h : LandV P R room danger flow frm len to) {n w v : Int32} (hv : ValidC P R n w v) :
    ∃ ro da fl, x3_change (I P) (I R) danger flow room n w v = some (da, fl, ro) ∧ x9_change flow danger room w n v = some (fl, da, ro) ∧ LandV P R ro da fl frm len to := by
  obtain ⟨hP, hR, hr, hro⟩ := h
  unfold x3_change x9_change
  rw [x3has hP hR hv, Option.bind_some, bif_t]
  rcases hv with ⟨rfl, k, hk, rfl, hv⟩ | ⟨rfl, k, hk, rfl, hv⟩ | ⟨rfl, k, hk, rfl, hv⟩
  · have i1 : inB (I k) 8 = true := by rw [I_inB (by omega)]; exact decide_eq_true (by omega)
    rw [if_pos rfl, if_pos rfl, i1, bif_t, bif_t, I_clamp (by omega)]
    exact ⟨_, _, _, rfl, rfl, hP, hR, In_upd hr hv, hro⟩
  · have i1 : inB (I k) 16 = true := by rw [I_inB (by omega)]; exact decide_eq_true (by omega)
    rw [if_neg (by decide), if_pos rfl, if_neg (by decide), if_pos rfl, i1, bif_t, bif_t, I_clamp (by omega)]
    refine ⟨_, _, _, rfl, rfl, hP, hR, hr, fun j hj => ?_⟩
    obtain ⟨a1, a2, a3⟩ := hro j hj
    refine ⟨a1, ?_, a3⟩
    unfold upd; split
    · exact hv
    · exact a2
  · have i1 : inB (I k) 16 = true := by rw [I_inB (by omega)]; exact decide_eq_true (by omega)
    rw [if_neg (by decide), if_neg (by decide), if_neg (by decide), if_neg (by decide), i1, bif_t, bif_t, I_clamp (by omega)]
    refine ⟨_, _, _, rfl, rfl, hP, hR, hr, fun j hj => ?_⟩
    obtain ⟨a1, a2, a3⟩ := hro j hj
    refine ⟨?_, a2, a3⟩
    unfold upd; split
    · exact hv
    · exact a1
section chg
variable {P R : Nat} {room danger flow frm len to : Nat → Int32} {done size kept mdone : Int32} {nums whats olds news kW kO kWas kN : Nat → Int32}
theorem m_undo (h : LandV P R room danger flow frm len to) (hc : ChgOk P R done size kept mdone nums whats olds news kW kO kWas kN) :
    ∃ r a ro da fl, x8_undo done nums olds whats (I P) (I R) danger flow room = some (r, a, da, fl, ro) ∧ x9_undo mdone flow kO kWas kW danger room = some (r, a, fl, da, ro) ∧ LandV P R ro da fl frm len to ∧ ChgOk P R a size kept a nums whats olds news kW kO kWas kN := by
  have hc' := hc
  obtain ⟨d, s, h1, h2, rfl, rfl, rfl, rfl, rfl, rfl, rfl, rfl, h11⟩ := hc'
  unfold x8_undo x1_stepBack x9_undo
  by_cases h0 : d = 0
  · rw [if_pos (by show _ < I 1; rw [I_lt (by omega) (by omega)]; omega), if_pos (by rw [h0]; rfl)]
    exact ⟨-5, _, _, _, _, rfl, rfl, h, hc⟩
  · have i1 : inB (I (d - 1)) 40 = true := by rw [I_inB (by omega)]; exact decide_eq_true (by omega)
    obtain ⟨ro, da, fl, e1, e2, hL⟩ := m_change h (h11 (d - 1) (by omega)).1
    rw [if_neg (by show ¬ (_ < I 1); rw [I_lt (by omega) (by omega)]; omega), if_pos (by show _ ≤ I 40; rw [I_le (by omega) (by omega)]; omega), if_neg (by show ¬ (_ = I 0); rw [I_eq (by omega) (by omega)]; exact h0), I_pred (by omega), i1, bif_t, bif_t, bif_t, bif_t, bif_t, bif_t, I_clamp (by omega), e1, e2, Option.bind_some, Option.bind_some, Option.bind_some]
    exact ⟨_, _, ro, da, fl, rfl, rfl, hL, d - 1, s, by omega, h2, rfl, rfl, rfl, rfl, rfl, rfl, rfl, rfl, h11⟩
theorem m_redo (h : LandV P R room danger flow frm len to) (hc : ChgOk P R done size kept mdone nums whats olds news kW kO kWas kN) :
    ∃ r a ro da fl, x8_redo done size news nums whats (I P) (I R) danger flow room = some (r, a, da, fl, ro) ∧ x9_redo kept mdone flow kN kO kW danger room = some (r, a, fl, da, ro) ∧ LandV P R ro da fl frm len to ∧ ChgOk P R a size kept a nums whats olds news kW kO kWas kN := by
  have hc' := hc
  obtain ⟨d, s, h1, h2, rfl, rfl, rfl, rfl, rfl, rfl, rfl, rfl, h11⟩ := hc'
  unfold x8_redo x1_stepOn x9_redo
  rw [if_neg (by show ¬ (I d < I 0); rw [I_lt (by omega) (by omega)]; omega)]
  by_cases h0 : d = s
  · rw [if_pos (by rw [I_le (by omega) (by omega)]; omega), if_pos (by rw [h0])]
    exact ⟨-5, _, _, _, _, rfl, rfl, h, hc⟩
  · have i1 : inB (I d) 40 = true := by rw [I_inB (by omega)]; exact decide_eq_true (by omega)
    obtain ⟨ro, da, fl, e1, e2, hL⟩ := m_change h (h11 d (by omega)).2
    rw [if_neg (by rw [I_le (by omega) (by omega)]; omega), if_pos (by show _ < I 40; rw [I_lt (by omega) (by omega)]; omega), if_neg (by rw [I_eq (by omega) (by omega)]; exact h0), i1, bif_t, bif_t, bif_t, bif_t, bif_t, bif_t, I_clamp (by omega), e1, e2, Option.bind_some, Option.bind_some, Option.bind_some, I_succ]
    exact ⟨_, _, ro, da, fl, rfl, rfl, hL, d + 1, s, by omega, h2, rfl, rfl, rfl, rfl, rfl, rfl, rfl, rfl, h11⟩
end chg
theorem drop_fun {f g : Nat → Int32} {k : Nat} (hk : 1 ≤ k) (hg : ∀ j, g j = if j + 1 < k then f (j + 1) else f j) : ∀ j, upd g (k - 1) (g k) j = if j + 1 < k + 1 then f (j + 1) else f j := by
  intro j
  unfold upd
  by_cases e : j = k - 1
  · rw [if_pos e, hg k, if_neg (by omega), if_pos (by omega), show j + 1 = k by omega]
  · rw [if_neg e, hg j]
    by_cases q : j + 1 < k
    · rw [if_pos q, if_pos (by omega)]
    · rw [if_neg q, if_neg (by omega)]
theorem dropE {a b c d : Nat → Int32} : ∀ m n k a' b' c' d', k + m = 40 → m < n → 1 ≤ k → (∀ j, a' j = if j + 1 < k then a (j + 1) else a j) → (∀ j, b' j = if j + 1 < k then b (j + 1) else b j) → (∀ j, c' j = if j + 1 < k then c (j + 1) else c j) → (∀ j, d' j = if j + 1 < k then d (j + 1) else d j) →
    x9_dropEldest_2 (I 40) n a' b' c' d' (I k) = some (I 39, (fun j => if j + 1 < 40 then a (j + 1) else a j), (fun j => if j + 1 < 40 then b (j + 1) else b j), (fun j => if j + 1 < 40 then c (j + 1) else c j), (fun j => if j + 1 < 40 then d (j + 1) else d j)) := by
  intro m
  induction m with
  | zero =>
    intro n k a' b' c' d' hk hn h1 ha hb hc hd
    obtain ⟨n, rfl⟩ : ∃ k, n = k + 1 := ⟨n - 1, by omega⟩
    have hk' : k = 40 := by omega
    subst hk'
    rw [x9_dropEldest_2, if_pos (by decide), funext ha, funext hb, funext hc, funext hd]; rfl
  | succ m ih =>
    intro n k a' b' c' d' hk hn h1 ha hb hc hd
    obtain ⟨n, rfl⟩ : ∃ k, n = k + 1 := ⟨n - 1, by omega⟩
    have i1 : inB (I k) 40 = true := by rw [I_inB (by omega)]; exact decide_eq_true (by omega)
    have i2 : inB (I (k - 1)) 40 = true := by rw [I_inB (by omega)]; exact decide_eq_true (by omega)
    rw [x9_dropEldest_2, if_neg (by show ¬ (I 40 ≤ I k); rw [I_le (by omega) (by omega)]; omega), I_pred h1, i1, i2, I_succ, I_clamp (by omega), I_clamp (by omega)]
    simp only [bif_t]
    exact ih n (k + 1) _ _ _ _ (by omega) (by omega) (by omega) (drop_fun h1 ha) (drop_fun h1 hb) (drop_fun h1 hc) (drop_fun h1 hd)
theorem cpy_fun (f : Nat → Int32) : va_cpy f f (1 : Int32).toNatClampNeg (0 : Int32).toNatClampNeg (39 : Int32).toNatClampNeg = fun j => if j + 1 < 40 then f (j + 1) else f j := by
  funext j
  unfold va_cpy
  rw [show (1 : Int32).toNatClampNeg = 1 by decide, show (0 : Int32).toNatClampNeg = 0 by decide, show (39 : Int32).toNatClampNeg = 39 by decide]
  by_cases q : j + 1 < 40
  · rw [if_pos (by omega), if_pos q, show 1 + (j - 0) = j + 1 by omega]
  · rw [if_neg (by omega), if_neg q]
section chg
variable {P R : Nat} {room danger flow frm len to : Nat → Int32} {done size kept mdone : Int32} {nums whats olds news kW kO kWas kN : Nat → Int32}
/-- a change is kept -/
theorem m_note (h : LandV P R room danger flow frm len to) (hc : ChgOk P R done size kept mdone nums whats olds news kW kO kWas kN) {n w v cur : Int32} (hv : ValidC P R n w v) (hcur : ValidC P R n w cur) :
    ∃ a da fl ro nu wh ol ne, x3_change (I P) (I R) danger flow room n w v = some (da, fl, ro) ∧ x1_note done size news nums olds whats n w cur v = some (a, a, ne, nu, ol, wh) ∧
      (if cur = v then some (cur, kept, mdone, flow, kN, kO, kWas, kW, danger, room) else (if mdone = 40 then ((x9_dropEldest mdone kN kO kWas kW).bind fun o2 => x9_mend_141 (I P) (I R) n w v kept o2.1 flow o2.2.1 o2.2.2.1 o2.2.2.2.1 o2.2.2.2.2 danger room cur) else (x9_mend_141 (I P) (I R) n w v kept mdone flow kN kO kWas kW danger room cur))) = (if cur = v then some (cur, kept, mdone, flow, kN, kO, kWas, kW, danger, room) else some (cur, a, a, fl, ne, nu, ol, wh, da, ro)) ∧
      LandV P R ro da fl frm len to ∧ ChgOk P R a a a a nu wh ol ne wh nu ol ne := by
  obtain ⟨d, s, h1, h2, rfl, rfl, rfl, rfl, rfl, rfl, rfl, rfl, h11⟩ := hc
  obtain ⟨ro, da, fl, e1, e2, hL⟩ := m_change h hv
  have put : ∀ (k : Nat) (a b c e : Nat → Int32), k < 40 → (∀ j, j < k → ValidC P R (a j) (b j) (c j) ∧ ValidC P R (a j) (b j) (e j)) →
      x1_note_13 n w cur v (I k) (I s) e a c b = some (I (k + 1), I (k + 1), upd e k v, upd a k n, upd c k cur, upd b k w) ∧
      x9_mend_141 (I P) (I R) n w v (I s) (I k) flow e a c b danger room cur = some (cur, I (k + 1), I (k + 1), fl, upd e k v, upd a k n, upd c k cur, upd b k w, da, ro) ∧
      ChgOk P R (I (k + 1)) (I (k + 1)) (I (k + 1)) (I (k + 1)) (upd a k n) (upd b k w) (upd c k cur) (upd e k v) (upd b k w) (upd a k n) (upd c k cur) (upd e k v) := by
    intro k a b c e hk hj
    have i1 : inB (I k) 40 = true := by rw [I_inB (by omega)]; exact decide_eq_true (by omega)
    refine ⟨?_, ?_, ?_⟩
    · unfold x1_note_13
      rw [if_neg (by show ¬ (I k < I 0); rw [I_lt (by omega) (by omega)]; omega), if_pos (by show I k < I 40; rw [I_lt (by omega) (by omega)]; omega), i1, I_succ, I_clamp (by omega)]; rfl
    · unfold x9_mend_141
      rw [i1, e2, I_succ, I_clamp (by omega)]; rfl
    · refine ⟨k + 1, k + 1, Nat.le_refl _, by omega, rfl, rfl, rfl, rfl, rfl, rfl, rfl, rfl, fun j hj' => ?_⟩
      unfold upd
      by_cases q : j = k
      · rw [if_pos q, if_pos q, if_pos q, if_pos q]; exact ⟨hcur, hv⟩
      · rw [if_neg q, if_neg q, if_neg q, if_neg q]; exact hj j (by omega)
  by_cases h40 : d = 40
  · have hs : s = 40 := by omega
    subst h40
    obtain ⟨p1, p2, p3⟩ := put 39 (fun j => if j + 1 < 40 then kO (j + 1) else kO j) (fun j => if j + 1 < 40 then kW (j + 1) else kW j) (fun j => if j + 1 < 40 then kWas (j + 1) else kWas j) (fun j => if j + 1 < 40 then kN (j + 1) else kN j) (by omega) (fun j hj => by
      simp only [if_pos (show j + 1 < 40 by omega)]
      exact h11 (j + 1) (by omega))
    refine ⟨_, da, fl, ro, _, _, _, _, e1, ?_, ?_, hL, p3⟩
    · unfold x1_note x1_dropOldest
      rw [if_neg (by decide), show okC 1 0 39 40 40 = true by decide, bif_t, bif_t, bif_t, bif_t, Option.bind_some, cpy_fun, cpy_fun, cpy_fun, cpy_fun]
      exact p1
    · have e9 : x9_dropEldest (I 40) kN kO kWas kW = some (I 39, (fun j => if j + 1 < 40 then kN (j + 1) else kN j), (fun j => if j + 1 < 40 then kO (j + 1) else kO j), (fun j => if j + 1 < 40 then kWas (j + 1) else kWas j), (fun j => if j + 1 < 40 then kW (j + 1) else kW j)) :=
        dropE 39 yN 1 kN kO kWas kW (by omega) (by unfold yN; omega) (Nat.le_refl _) (fun j => by rw [if_neg (by omega)]) (fun j => by rw [if_neg (by omega)]) (fun j => by rw [if_neg (by omega)]) (fun j => by rw [if_neg (by omega)])
      rw [if_pos (show I 40 = 40 from rfl), e9, Option.bind_some, p2]
  · obtain ⟨p1, p2, p3⟩ := put d kO kW kWas kN (by omega) (fun j hj => h11 j (by omega))
    refine ⟨_, da, fl, ro, _, _, _, _, e1, ?_, ?_, hL, p3⟩
    · unfold x1_note
      rw [if_pos (by show I d < I 40; rw [I_lt (by omega) (by omega)]; omega)]
      exact p1
    · rw [if_neg (show ¬ (I d = 40) by show ¬ (I d = I 40); rw [I_eq (by omega) (by omega)]; exact h40), p2]
theorem m_mend (h : LandV P R room danger flow frm len to) (hc : ChgOk P R done size kept mdone nums whats olds news kW kO kWas kN) (n w v : Int32) :
    ∃ r a b a' b' da fl ro nu wh ol ne nu' wh' ol' ne', x8_mend done size news nums olds whats (I P) (I R) danger flow room n w v = some (r, a, b, ne, nu, ol, wh, da, fl, ro) ∧ x9_mend (I P) (I R) kept mdone flow kN kO kWas kW danger room n w v = some (r, b', a', fl, ne', nu', ol', wh', da, ro) ∧ LandV P R ro da fl frm len to ∧ ChgOk P R a b b' a' nu wh ol ne wh' nu' ol' ne' := by
  have hP := h.1
  have hR := h.2.1
  have good : ∀ cur, ValidC P R n w v → ValidC P R n w cur → x3_valueOf danger flow room n w = some cur → x9_mend (I P) (I R) kept mdone flow kN kO kWas kW danger room n w v = x9_mend_117 (I P) (I R) n w v kept mdone flow kN kO kWas kW danger room cur →
      ∃ r a b a' b' da fl ro nu wh ol ne nu' wh' ol' ne', x8_mend done size news nums olds whats (I P) (I R) danger flow room n w v = some (r, a, b, ne, nu, ol, wh, da, fl, ro) ∧ x9_mend (I P) (I R) kept mdone flow kN kO kWas kW danger room n w v = some (r, b', a', fl, ne', nu', ol', wh', da, ro) ∧ LandV P R ro da fl frm len to ∧ ChgOk P R a b b' a' nu wh ol ne wh' nu' ol' ne' := by
    intro cur hv hcur e1 e2
    obtain ⟨a, da, fl, ro, nu, wh, ol, ne, f1, f2, f3, hL, hC⟩ := m_note h hc hv hcur
    have hmb := x3has hP hR hv
    unfold x8_mend
    rw [hmb, Option.bind_some, bif_t, e1, Option.bind_some, e2, x9_mend_117, f3]
    by_cases q : cur = v
    · rw [if_pos q, if_pos q.symm]
      exact ⟨_, _, _, _, _, _, _, _, _, _, _, _, _, _, _, _, rfl, rfl, h, hc⟩
    · rw [if_neg q, if_neg (fun h => q h.symm), f1, Option.bind_some, f2, Option.bind_some]
      exact ⟨_, _, _, _, _, _, _, _, _, _, _, _, _, _, _, _, rfl, rfl, hL, hC⟩
  have bad : x3_mayBecome (I P) (I R) n w v = some false → x9_mend (I P) (I R) kept mdone flow kN kO kWas kW danger room n w v = some (-1, kept, mdone, flow, kN, kO, kWas, kW, danger, room) →
      ∃ r a b a' b' da fl ro nu wh ol ne nu' wh' ol' ne', x8_mend done size news nums olds whats (I P) (I R) danger flow room n w v = some (r, a, b, ne, nu, ol, wh, da, fl, ro) ∧ x9_mend (I P) (I R) kept mdone flow kN kO kWas kW danger room n w v = some (r, b', a', fl, ne', nu', ol', wh', da, ro) ∧ LandV P R ro da fl frm len to ∧ ChgOk P R a b b' a' nu wh ol ne wh' nu' ol' ne' := by
    intro e1 e2
    unfold x8_mend
    rw [e1, Option.bind_some, bif_f, e2]
    exact ⟨_, _, _, _, _, _, _, _, _, _, _, _, _, _, _, _, rfl, rfl, h, hc⟩
  by_cases w0 : w = 0
  · subst w0
    have hw : x9_within 0 0 2 = some true := by decide
    rcases hasPlace_is hP n with ⟨e1, e2, k, hk, rfl⟩ | ⟨e1, e2⟩
    · have i1 : inB (I k) 8 = true := by rw [I_inB (by omega)]; exact decide_eq_true (by omega)
      by_cases h1 : v < 0
      · refine bad (by unfold x3_mayBecome; rw [if_pos rfl, e1, Option.bind_some, bif_t, if_pos h1]) ?_
        unfold x9_mend x9_mend_35
        rw [hw, Option.bind_some, bif_t, if_pos rfl, e2, Option.bind_some, bif_t, if_pos rfl, show x9_within v 0 9 = some false by unfold x9_within; rw [if_pos h1], Option.bind_some, bif_f]
      · by_cases h2 : 9 < v
        · refine bad (by unfold x3_mayBecome; rw [if_pos rfl, e1, Option.bind_some, bif_t, if_neg h1, if_pos h2]) ?_
          unfold x9_mend x9_mend_35
          rw [hw, Option.bind_some, bif_t, if_pos rfl, e2, Option.bind_some, bif_t, if_pos rfl, show x9_within v 0 9 = some false by unfold x9_within; rw [if_neg h1, if_pos h2], Option.bind_some, bif_f]
        · refine good (room k) (Or.inl ⟨rfl, k, hk, rfl, In_of (by omega) (by omega) h1 h2⟩) (Or.inl ⟨rfl, k, hk, rfl, h.2.2.1 k⟩) ?_ ?_
          · unfold x3_valueOf
            rw [if_pos rfl, roomOf_I room (by omega), Option.bind_some]
          · unfold x9_mend x9_mend_35 x9_mend_50 x9_mend_66 x9_mend_84
            rw [hw, Option.bind_some, bif_t, if_pos rfl, e2, Option.bind_some, bif_t, if_pos rfl, show x9_within v 0 9 = some true by unfold x9_within; rw [if_neg h1, if_neg h2], Option.bind_some, bif_t, if_neg (by decide), if_neg (by decide), if_pos rfl, i1, bif_t, I_clamp (by omega)]
    · refine bad (by unfold x3_mayBecome; rw [if_pos rfl, e1, Option.bind_some, bif_f]) ?_
      unfold x9_mend
      rw [hw, Option.bind_some, bif_t, if_pos rfl, e2, Option.bind_some, bif_f]
  · by_cases w1 : w = 1
    · subst w1
      have hw : x9_within 1 0 2 = some true := by decide
      rcases hasRoad_is hR n with ⟨e1, e2, k, hk, rfl⟩ | ⟨e1, e2⟩
      · have i1 : inB (I k) 16 = true := by rw [I_inB (by omega)]; exact decide_eq_true (by omega)
        by_cases h1 : v < 1
        · refine bad (by unfold x3_mayBecome; rw [if_neg (by decide), if_pos rfl, e1, Option.bind_some, bif_t, if_pos h1]) ?_
          unfold x9_mend x9_mend_35 x9_mend_50
          rw [hw, Option.bind_some, bif_t, if_neg (by decide), e2, Option.bind_some, bif_t, if_neg (by decide), if_pos rfl, show x9_within v 1 60 = some false by unfold x9_within; rw [if_pos h1], Option.bind_some, bif_f]
        · by_cases h2 : 60 < v
          · refine bad (by unfold x3_mayBecome; rw [if_neg (by decide), if_pos rfl, e1, Option.bind_some, bif_t, if_neg h1, if_pos h2]) ?_
            unfold x9_mend x9_mend_35 x9_mend_50
            rw [hw, Option.bind_some, bif_t, if_neg (by decide), e2, Option.bind_some, bif_t, if_neg (by decide), if_pos rfl, show x9_within v 1 60 = some false by unfold x9_within; rw [if_neg h1, if_pos h2], Option.bind_some, bif_f]
          · refine good (flow k) (Or.inr (Or.inl ⟨rfl, k, hk, rfl, In_of (by omega) (by omega) h1 h2⟩)) (Or.inr (Or.inl ⟨rfl, k, hk, rfl, (h.2.2.2 k hk).2.1⟩)) ?_ ?_
            · unfold x3_valueOf
              rw [if_neg (by decide), if_pos rfl, flowOf_I flow (by omega), Option.bind_some]
            · unfold x9_mend x9_mend_35 x9_mend_50 x9_mend_66 x9_mend_84
              rw [hw, Option.bind_some, bif_t, if_neg (by decide), e2, Option.bind_some, bif_t, if_neg (by decide), if_pos rfl, show x9_within v 1 60 = some true by unfold x9_within; rw [if_neg h1, if_neg h2], Option.bind_some, bif_t, if_neg (by decide), if_neg (by decide), if_pos rfl, i1, bif_t, I_clamp (by omega)]
      · refine bad (by unfold x3_mayBecome; rw [if_neg (by decide), if_pos rfl, e1, Option.bind_some, bif_f]) ?_
        unfold x9_mend
        rw [hw, Option.bind_some, bif_t, if_neg (by decide), e2, Option.bind_some, bif_f]
    · by_cases w2 : w = 2
      · subst w2
        have hw : x9_within 2 0 2 = some true := by decide
        rcases hasRoad_is hR n with ⟨e1, e2, k, hk, rfl⟩ | ⟨e1, e2⟩
        · have i1 : inB (I k) 16 = true := by rw [I_inB (by omega)]; exact decide_eq_true (by omega)
          by_cases h1 : v < 0
          · refine bad (by unfold x3_mayBecome; rw [if_neg (by decide), if_neg (by decide), if_pos rfl, e1, Option.bind_some, bif_t, if_pos h1]) ?_
            unfold x9_mend x9_mend_35 x9_mend_50 x9_mend_66
            rw [hw, Option.bind_some, bif_t, if_neg (by decide), e2, Option.bind_some, bif_t, if_neg (by decide), if_neg (by decide), if_pos rfl, show x9_within v 0 99 = some false by unfold x9_within; rw [if_pos h1], Option.bind_some, bif_f]
          · by_cases h2 : 99 < v
            · refine bad (by unfold x3_mayBecome; rw [if_neg (by decide), if_neg (by decide), if_pos rfl, e1, Option.bind_some, bif_t, if_neg h1, if_pos h2]) ?_
              unfold x9_mend x9_mend_35 x9_mend_50 x9_mend_66
              rw [hw, Option.bind_some, bif_t, if_neg (by decide), e2, Option.bind_some, bif_t, if_neg (by decide), if_neg (by decide), if_pos rfl, show x9_within v 0 99 = some false by unfold x9_within; rw [if_neg h1, if_pos h2], Option.bind_some, bif_f]
            · refine good (danger k) (Or.inr (Or.inr ⟨rfl, k, hk, rfl, In_of (by omega) (by omega) h1 h2⟩)) (Or.inr (Or.inr ⟨rfl, k, hk, rfl, (h.2.2.2 k hk).1⟩)) ?_ ?_
              · unfold x3_valueOf
                rw [if_neg (by decide), if_neg (by decide), dangerOf_I danger (by omega), Option.bind_some]
              · unfold x9_mend x9_mend_35 x9_mend_50 x9_mend_66 x9_mend_84
                rw [hw, Option.bind_some, bif_t, if_neg (by decide), e2, Option.bind_some, bif_t, if_neg (by decide), if_neg (by decide), if_pos rfl, show x9_within v 0 99 = some true by unfold x9_within; rw [if_neg h1, if_neg h2], Option.bind_some, bif_t, if_neg (by decide), if_neg (by decide), i1, bif_t, I_clamp (by omega)]
        · refine bad (by unfold x3_mayBecome; rw [if_neg (by decide), if_neg (by decide), if_pos rfl, e1, Option.bind_some, bif_f]) ?_
          unfold x9_mend
          rw [hw, Option.bind_some, bif_t, if_neg (by decide), e2, Option.bind_some, bif_f]
      · refine bad (by unfold x3_mayBecome; rw [if_neg w0, if_neg w1, if_neg w2]) ?_
        have hw : x9_within w 0 2 = some false := by
          unfold x9_within
          by_cases q : w < 0
          · rw [if_pos q]
          · rw [if_neg q, if_pos]
            rw [Int32.lt_iff_toInt_lt] at q ⊢
            rw [← Int32.toInt_inj] at w0 w1 w2
            have a0 : (0 : Int32).toInt = 0 := by decide
            have a1 : (1 : Int32).toInt = 1 := by decide
            have a2 : (2 : Int32).toInt = 2 := by decide
            omega
        unfold x9_mend
        rw [hw, Option.bind_some, bif_f]
end chg
