/-! laws and the rule -/
def LawOk (k : Nat) (size : Int32) (uw : Bool) (steps op val lF lM lT ls : Nat → Int32) : Prop := ∃ Q, TxC size uw steps Q ∧ TxM k op val lF lM lT ls Q
theorem LawOk.frame {k q : Nat} (hkq : k ≠ q) {size : Int32} {uw : Bool} {steps op val lF lM lT ls op' val' lF' lM' lT' ls' : Nat → Int32} (h : LawOk k size uw steps op val lF lM lT ls) (h1 : Fr op val op' val' (120 * q)) (h2 : LFr q lF lM lT ls lF' lM' lT' ls') : LawOk k size uw steps op' val' lF' lM' lT' ls' := by
  obtain ⟨Q, hC, h3, h4, h5⟩ := h
  have hK := hC.len
  have hC' := hC
  obtain ⟨_, _, _, _, _, _, h60⟩ := hC'
  refine ⟨Q, hC, fun i x hx => ?_, fun n x hx => ?_, by rw [h2.2 k hkq]; exact h5⟩
  · have hi := lt_of_get hx
    obtain ⟨e1, e2⟩ := h1 (120 * k + i) (by omega)
    rw [e1, e2]; exact h3 i x hx
  · have hn := lt_of_get hx
    obtain ⟨e1, e2, e3⟩ := h2.1 (60 * k + n) (by omega)
    rw [e1, e2, e3]; exact h4 n x hx
theorem faultI {pos : Nat} (h : pos ≤ 120) : I pos ≠ -1 := pos_ne h
/-- law() -/
theorem m_law {n : Nat} (hn : n ≤ 4) {tl fed : Int32} {tape mtape : Nat → Int32} (hT : TapeOk tl fed tape mtape) (rl ra rf sz : Int32) (uw0 : Bool) (steps0 : Nat → Int32) (at0 cod wai opn brk : Int32) (asked : Bool) (lF lM lT ls op val wts : Nat → Int32) :
    ∃ r tl' nx rl' ra' rf' sz' uw' steps' good nm fed' at' cod' wai' opn' brk' asked' lF' lM' lT' ls' op' val' wts', x8_law tl (I n) rl ra rf sz uw0 tape steps0 = some (r, tl', nx, rl', ra', rf', sz', uw', steps', good) ∧
      x9_law (I n) fed at0 cod wai opn brk asked lF lM lT ls op mtape val wts = some (r, nm, fed', at', cod', wai', opn', brk', asked', lF', lM', lT', ls', op', val', wts') ∧ TapeOk tl' fed' tape mtape ∧
      ((good = false ∧ nx = I n ∧ nm = I n) ∨ (good = true ∧ n < 4 ∧ nx = I (n + 1) ∧ nm = I (n + 1) ∧ LawOk n sz' uw' steps' op' val' lF' lM' lT' ls')) ∧
      (n < 4 → Fr op val op' val' (120 * n) ∧ LFr n lF lM lT ls lF' lM' lT' ls') ∧ (¬ n < 4 → lF' = lF ∧ lM' = lM ∧ lT' = lT ∧ ls' = ls ∧ op' = op ∧ val' = val) := by
  have hT' := hT
  obtain ⟨f, hf, rfl, rfl, rfl, hb⟩ := hT'
  unfold x8_law x9_law
  rw [if_neg (by show ¬ (I n < I 0); rw [I_lt (by omega) (by omega)]; omega)]
  by_cases h4 : n = 4
  · rw [if_neg (by show ¬ (I n < I 4); rw [I_lt (by omega) (by omega)]; omega), if_pos (by rw [h4]; rfl)]
    exact ⟨_, _, _, _, _, _, _, _, _, _, _, _, _, _, _, _, _, _, _, _, _, _, _, _, _, rfl, rfl, hT, Or.inl ⟨rfl, rfl, rfl⟩, fun h => by omega, fun _ => ⟨rfl, rfl, rfl, rfl, rfl, rfl⟩⟩
  · rw [if_pos (by show I n < I 4; rw [I_lt (by omega) (by omega)]; omega), if_neg (by show ¬ (I n = I 4); rw [I_eq (by omega) (by omega)]; exact h4)]
    obtain ⟨at', fl', s', uw', steps', e1, hs', g, p, c1, c2, c3, c4, asked', lF', lM', lT', ls', op', val', wts', e2, hF, hL, out⟩ := m_text (tape := mtape) hf (fun j _ => by obtain ⟨b, h1, h2⟩ := hb j; exact ⟨b, h1, h2⟩) hn rl ra rf sz uw0 steps0 at0 cod wai opn brk asked lF lM lT ls op val wts
    unfold x8_readTape
    rw [e1, e2, Option.bind_some, Option.bind_some, Option.bind_some]
    have hT0 : TapeOk 0 0 mtape mtape := ⟨0, by omega, rfl, rfl, rfl, hb⟩
    rcases out with ⟨rfl, rfl, Q, hC, hM⟩ | ⟨pos, hpos, rfl, rfl, rfl⟩
    · rw [if_pos rfl, bif_t, I_inB (by omega), decide_eq_true (by omega : n < 4), bif_t, bif_t, I_succ]
      exact ⟨_, _, _, _, _, _, _, _, _, _, _, _, _, _, _, _, _, _, _, _, _, _, _, _, _, rfl, rfl, hT0, Or.inr ⟨rfl, by omega, rfl, rfl, Q, hC, hM⟩, fun _ => ⟨hF, hL⟩, fun h => by omega⟩
    · rw [if_neg (show ¬ (I pos = -1) from pos_ne (by omega)), bif_f]
      exact ⟨_, _, _, _, _, _, _, _, _, _, _, _, _, _, _, _, _, _, _, _, _, _, _, _, _, rfl, rfl, hT0, Or.inl ⟨rfl, rfl, rfl⟩, fun _ => ⟨hF, hL⟩, fun h => by omega⟩
theorem keep48 (lF lM lT op opW val valW : Nat → Int32) : ∀ m n k a b c, k + m = 60 → m < n → (∀ j, j < k → a j = lF (240 + j) ∧ b j = lM (240 + j) ∧ c j = lT (240 + j)) → ∃ a' b' c', x9_keepRule_48 lF lM lT op opW val valW n a b c (I k) = some (a', b', opW, c', valW) ∧ ∀ j, j < 60 → a' j = lF (240 + j) ∧ b' j = lM (240 + j) ∧ c' j = lT (240 + j) := by
  intro m
  induction m with
  | zero =>
    intro n k a b c hk hn h
    obtain ⟨n, rfl⟩ : ∃ k, n = k + 1 := ⟨n - 1, by omega⟩
    exact ⟨a, b, c, by rw [x9_keepRule_48, if_pos (by show I 60 ≤ I k; rw [I_le (by omega) (by omega)]; omega)], fun j hj => h j (by omega)⟩
  | succ m ih =>
    intro n k a b c hk hn h
    obtain ⟨n, rfl⟩ : ∃ k, n = k + 1 := ⟨n - 1, by omega⟩
    have e : (240 : Int32) + I k = I (240 + k) := I_add 240 k
    have i1 : inB (I (240 + k)) 300 = true := by rw [I_inB (by omega)]; exact decide_eq_true (by omega)
    have i2 : inB (I k) 60 = true := by rw [I_inB (by omega)]; exact decide_eq_true (by omega)
    rw [x9_keepRule_48, if_neg (by show ¬ (I 60 ≤ I k); rw [I_le (by omega) (by omega)]; omega), e, i1, i2, I_succ, I_clamp (by omega), I_clamp (by omega)]
    refine ih n (k + 1) _ _ _ (by omega) (by omega) (fun j hj => ?_)
    unfold upd
    by_cases q : j = k
    · rw [if_pos q, if_pos q, if_pos q, q]; exact ⟨rfl, rfl, rfl⟩
    · rw [if_neg q, if_neg q, if_neg q]; exact h j (by omega)
theorem keep2 (fW lF lM lT mW op tW val : Nat → Int32) : ∀ m n k a b, k + m = 120 → m < n → (∀ j, j < k → a j = op (480 + j) ∧ b j = val (480 + j)) → ∃ a' b' c' d' e', x9_keepRule_2 fW lF lM lT mW op tW val n a b (I k) = some (c', d', a', e', b') ∧ (∀ j, j < 120 → a' j = op (480 + j) ∧ b' j = val (480 + j)) ∧ ∀ j, j < 60 → c' j = lF (240 + j) ∧ d' j = lM (240 + j) ∧ e' j = lT (240 + j) := by
  intro m
  induction m with
  | zero =>
    intro n k a b hk hn h
    obtain ⟨n, rfl⟩ : ∃ k, n = k + 1 := ⟨n - 1, by omega⟩
    obtain ⟨a', b', c', e1, h1⟩ := keep48 lF lM lT op a val b 60 yN 0 fW mW tW (by omega) (by unfold yN; omega) (fun j hj => absurd hj (Nat.not_lt_zero _))
    exact ⟨a, b, a', b', c', by rw [x9_keepRule_2, if_pos (by show I 120 ≤ I k; rw [I_le (by omega) (by omega)]; omega)]; exact e1, fun j hj => h j (by omega), h1⟩
  | succ m ih =>
    intro n k a b hk hn h
    obtain ⟨n, rfl⟩ : ∃ k, n = k + 1 := ⟨n - 1, by omega⟩
    have e : (480 : Int32) + I k = I (480 + k) := I_add 480 k
    have i1 : inB (I (480 + k)) 600 = true := by rw [I_inB (by omega)]; exact decide_eq_true (by omega)
    have i2 : inB (I k) 120 = true := by rw [I_inB (by omega)]; exact decide_eq_true (by omega)
    rw [x9_keepRule_2, if_neg (by show ¬ (I 120 ≤ I k); rw [I_le (by omega) (by omega)]; omega), e, i1, i2, I_succ, I_clamp (by omega), I_clamp (by omega)]
    refine ih n (k + 1) _ _ (by omega) (by omega) (fun j hj => ?_)
    unfold upd
    by_cases q : j = k
    · rw [if_pos q, if_pos q, q]; exact ⟨rfl, rfl⟩
    · rw [if_neg q, if_neg q]; exact h j (by omega)
theorem put48 (fW mW op opW tW val valW : Nat → Int32) : ∀ m n k a b c, k + m = 60 → m < n → ∃ a' b' c', x9_putRule_48 fW mW op opW tW val valW n a b c (I k) = some (a', b', c', op, val) ∧ ∀ j, (a' j = if 240 + k ≤ j ∧ j < 300 then fW (j - 240) else a j) ∧ (b' j = if 240 + k ≤ j ∧ j < 300 then mW (j - 240) else b j) ∧ (c' j = if 240 + k ≤ j ∧ j < 300 then tW (j - 240) else c j) := by
  intro m
  induction m with
  | zero =>
    intro n k a b c hk hn
    obtain ⟨n, rfl⟩ : ∃ k, n = k + 1 := ⟨n - 1, by omega⟩
    exact ⟨a, b, c, by rw [x9_putRule_48, if_pos (by show I 60 ≤ I k; rw [I_le (by omega) (by omega)]; omega)], fun j => by rw [if_neg (by omega), if_neg (by omega), if_neg (by omega)]; exact ⟨rfl, rfl, rfl⟩⟩
  | succ m ih =>
    intro n k a b c hk hn
    obtain ⟨n, rfl⟩ : ∃ k, n = k + 1 := ⟨n - 1, by omega⟩
    have e : (240 : Int32) + I k = I (240 + k) := I_add 240 k
    have i1 : inB (I (240 + k)) 300 = true := by rw [I_inB (by omega)]; exact decide_eq_true (by omega)
    have i2 : inB (I k) 60 = true := by rw [I_inB (by omega)]; exact decide_eq_true (by omega)
    obtain ⟨a', b', c', e1, h1⟩ := ih n (k + 1) (upd a (240 + k) (fW k)) (upd b (240 + k) (mW k)) (upd c (240 + k) (tW k)) (by omega) (by omega)
    refine ⟨a', b', c', ?_, fun j => ?_⟩
    · rw [x9_putRule_48, if_neg (by show ¬ (I 60 ≤ I k); rw [I_le (by omega) (by omega)]; omega), e, i1, i2, I_succ, I_clamp (by omega), I_clamp (by omega)]
      exact e1
    · obtain ⟨g1, g2, g3⟩ := h1 j
      rw [g1, g2, g3]
      by_cases q : 240 + (k + 1) ≤ j ∧ j < 300
      · rw [if_pos q, if_pos q, if_pos q, if_pos (by omega), if_pos (by omega), if_pos (by omega)]; exact ⟨rfl, rfl, rfl⟩
      · rw [if_neg q, if_neg q, if_neg q]
        unfold upd
        by_cases w : j = 240 + k
        · rw [if_pos w, if_pos w, if_pos w, if_pos (by omega), if_pos (by omega), if_pos (by omega), w, Nat.add_sub_cancel_left]; exact ⟨rfl, rfl, rfl⟩
        · rw [if_neg w, if_neg w, if_neg w, if_neg (by omega), if_neg (by omega), if_neg (by omega)]; exact ⟨rfl, rfl, rfl⟩
theorem put2 (fW lF lM lT mW opW tW valW : Nat → Int32) : ∀ m n k a b, k + m = 120 → m < n → ∃ a' b' c' d' e', x9_putRule_2 fW lF lM lT mW opW tW valW n a b (I k) = some (c', d', e', a', b') ∧ (∀ j, (a' j = if 480 + k ≤ j ∧ j < 600 then opW (j - 480) else a j) ∧ (b' j = if 480 + k ≤ j ∧ j < 600 then valW (j - 480) else b j)) ∧ ∀ j, (c' j = if 240 ≤ j ∧ j < 300 then fW (j - 240) else lF j) ∧ (d' j = if 240 ≤ j ∧ j < 300 then mW (j - 240) else lM j) ∧ (e' j = if 240 ≤ j ∧ j < 300 then tW (j - 240) else lT j) := by
  intro m
  induction m with
  | zero =>
    intro n k a b hk hn
    obtain ⟨n, rfl⟩ : ∃ k, n = k + 1 := ⟨n - 1, by omega⟩
    obtain ⟨a', b', c', e1, h1⟩ := put48 fW mW a opW tW b valW 60 yN 0 lF lM lT (by omega) (by unfold yN; omega)
    exact ⟨a, b, a', b', c', by rw [x9_putRule_2, if_pos (by show I 120 ≤ I k; rw [I_le (by omega) (by omega)]; omega)]; exact e1, fun j => by rw [if_neg (by omega), if_neg (by omega)]; exact ⟨rfl, rfl⟩, h1⟩
  | succ m ih =>
    intro n k a b hk hn
    obtain ⟨n, rfl⟩ : ∃ k, n = k + 1 := ⟨n - 1, by omega⟩
    have e : (480 : Int32) + I k = I (480 + k) := I_add 480 k
    have i1 : inB (I (480 + k)) 600 = true := by rw [I_inB (by omega)]; exact decide_eq_true (by omega)
    have i2 : inB (I k) 120 = true := by rw [I_inB (by omega)]; exact decide_eq_true (by omega)
    obtain ⟨a', b', c', d', e', e1, h1, h2⟩ := ih n (k + 1) (upd a (480 + k) (opW k)) (upd b (480 + k) (valW k)) (by omega) (by omega)
    refine ⟨a', b', c', d', e', ?_, fun j => ?_, h2⟩
    · rw [x9_putRule_2, if_neg (by show ¬ (I 120 ≤ I k); rw [I_le (by omega) (by omega)]; omega), e, i1, i2, I_succ, I_clamp (by omega), I_clamp (by omega)]
      exact e1
    · obtain ⟨g1, g2⟩ := h1 j
      rw [g1, g2]
      by_cases q : 480 + (k + 1) ≤ j ∧ j < 600
      · rw [if_pos q, if_pos q, if_pos (by omega), if_pos (by omega)]; exact ⟨rfl, rfl⟩
      · rw [if_neg q, if_neg q]
        unfold upd
        by_cases w : j = 480 + k
        · rw [if_pos w, if_pos w, if_pos (by omega), if_pos (by omega), w, Nat.add_sub_cancel_left]; exact ⟨rfl, rfl⟩
        · rw [if_neg w, if_neg w, if_neg (by omega), if_neg (by omega)]; exact ⟨rfl, rfl⟩
/-- rule() -/
theorem m_rule {tl fed : Int32} {tape mtape : Nat → Int32} (hT : TapeOk tl fed tape mtape) (has : Bool) (rl ra rf sz : Int32) (uw0 : Bool) (steps0 : Nat → Int32) (at0 cod wai opn brk : Int32) (asked : Bool) (fW lF lM lT ls mW op opW tW val valW wts : Nat → Int32) :
    ∃ r tl' hx rl' ra' rf' sz' uw' steps' g1 g2 fed' at' cod' wai' opn' brk' hm asked' fW' lF' lM' lT' ls' mW' op' opW' tW' val' valW' wts', x8_rule tl has rl ra rf sz uw0 tape steps0 = some (r, tl', hx, rl', ra', rf', sz', uw', steps', g1, g2) ∧
      x9_rule fed at0 cod wai opn brk has asked fW lF lM lT ls mW op opW mtape tW val valW wts = some (r, fed', at', cod', wai', opn', brk', hm, asked', fW', lF', lM', lT', ls', mW', op', opW', tW', val', valW', wts') ∧ TapeOk tl' fed' tape mtape ∧ g1 = g2 ∧
      ((g1 = false ∧ hx = has ∧ hm = has ∧ lF' = lF ∧ lM' = lM ∧ lT' = lT ∧ ls' = ls ∧ op' = op ∧ val' = val) ∨ (g1 = true ∧ hx = true ∧ hm = true ∧ LawOk 4 sz' uw' steps' op' val' lF' lM' lT' ls' ∧ Fr op val op' val' (120 * 4) ∧ LFr 4 lF lM lT ls lF' lM' lT' ls')) := by
  have hT' := hT
  obtain ⟨f, hf, rfl, rfl, rfl, hb⟩ := hT'
  obtain ⟨ka, kb, kc, kd, ke, e0, hk1, hk2⟩ := keep2 fW lF lM lT mW op tW val 120 yN 0 opW valW (by omega) (by unfold yN; omega) (fun j hj => absurd hj (Nat.not_lt_zero _))
  have e0' : x9_keepRule fW lF lM lT mW op opW tW val valW = some (kc, kd, ka, ke, kb) := e0
  obtain ⟨at', fl', s', uw', steps', e1, hs', g, p, c1, c2, c3, c4, asked', lF', lM', lT', ls', op', val', wts', e2, hF, hL, out⟩ := m_text (q := 4) (tape := mtape) hf (fun j _ => by obtain ⟨b, h1, h2⟩ := hb j; exact ⟨b, h1, h2⟩) (by omega) rl ra rf sz uw0 steps0 at0 cod wai opn brk asked lF lM lT ls op val wts
  have e2' : x9_takesText (I f) at0 cod wai opn brk asked lF lM lT ls op mtape val wts 4 = some (g, p, c1, c2, c3, c4, asked', lF', lM', lT', ls', op', val', wts') := e2
  unfold x8_rule x9_rule x8_readTape
  rw [e1, e0', Option.bind_some, Option.bind_some, Option.bind_some, show inB 4 5 = true by decide, bif_t, e2', Option.bind_some]
  have hT0 : TapeOk 0 0 mtape mtape := ⟨0, by omega, rfl, rfl, rfl, hb⟩
  rcases out with ⟨rfl, rfl, Q, hC, hM⟩ | ⟨pos, hpos, rfl, rfl, rfl⟩
  · rw [if_pos rfl, bif_t]
    exact ⟨_, _, _, _, _, _, _, _, _, _, _, _, _, _, _, _, _, _, _, _, _, _, _, _, _, _, _, _, _, _, _, rfl, rfl, hT0, rfl, Or.inr ⟨rfl, rfl, rfl, ⟨Q, hC, hM⟩, hF, hL⟩⟩
  · obtain ⟨pa, pb, pc, pd, pe, e3, hp1, hp2⟩ := put2 kc lF' lM' lT' kd ka ke kb 120 yN 0 op' val' (by omega) (by unfold yN; omega)
    have e3' : x9_putRule kc lF' lM' lT' kd op' ka ke val' kb = some (pc, pd, pe, pa, pb) := e3
    rw [if_neg (show ¬ (I pos = -1) from pos_ne (by omega)), bif_f, e3', Option.bind_some, bif_t]
    have q1 : pa = op := by
      funext j
      rw [(hp1 j).1]
      by_cases q : 480 + 0 ≤ j ∧ j < 600
      · rw [if_pos q, (hk1 (j - 480) (by omega)).1, show 480 + (j - 480) = j by omega]
      · rw [if_neg q, (hF j (by omega)).1]
    have q2 : pb = val := by
      funext j
      rw [(hp1 j).2]
      by_cases q : 480 + 0 ≤ j ∧ j < 600
      · rw [if_pos q, (hk1 (j - 480) (by omega)).2, show 480 + (j - 480) = j by omega]
      · rw [if_neg q, (hF j (by omega)).2]
    have q3 : pc = lF := by
      funext j
      rw [(hp2 j).1]
      by_cases q : 240 ≤ j ∧ j < 300
      · rw [if_pos q, (hk2 (j - 240) (by omega)).1, show 240 + (j - 240) = j by omega]
      · rw [if_neg q, (hL.1 j (by omega)).1]
    have q4 : pd = lM := by
      funext j
      rw [(hp2 j).2.1]
      by_cases q : 240 ≤ j ∧ j < 300
      · rw [if_pos q, (hk2 (j - 240) (by omega)).2.1, show 240 + (j - 240) = j by omega]
      · rw [if_neg q, (hL.1 j (by omega)).2.1]
    have q5 : pe = lT := by
      funext j
      rw [(hp2 j).2.2]
      by_cases q : 240 ≤ j ∧ j < 300
      · rw [if_pos q, (hk2 (j - 240) (by omega)).2.2, show 240 + (j - 240) = j by omega]
      · rw [if_neg q, (hL.1 j (by omega)).2.2]
    have q6 : upd ls' (4 : Int32).toNatClampNeg (ls (4 : Int32).toNatClampNeg) = ls := by
      funext j
      unfold upd
      rw [show (4 : Int32).toNatClampNeg = 4 by decide]
      by_cases q : j = 4
      · rw [if_pos q, q]
      · rw [if_neg q]; exact hL.2 j q
    exact ⟨_, _, _, _, _, _, _, _, _, _, _, _, _, _, _, _, _, _, _, _, _, _, _, _, _, _, _, _, _, _, _, rfl, rfl, hT0, rfl, Or.inl ⟨rfl, rfl, rfl, q3, q4, q5, q6, q1, q2⟩⟩
