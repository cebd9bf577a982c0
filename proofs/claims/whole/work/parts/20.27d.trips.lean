/-! in, sign, begin, two -/
section trip
variable {P R : Nat} {A : Nat → Nat → Int32} {st : Nat → Int32} {m2 m3 m4 m5 m6 m7 x1 x2 : Int32} {nul : Bool} {lsz : Int32} {lst : Nat → Int32} {by_ : Int32} {op val lF lM lT ls : Nat → Int32} {lw : Option Prog}
theorem arS_lo {bd : Nat → Nat → Option (Nat × Nat)} {g : Nat} (hbd : ∀ p t q, bd p t = some q → t ≤ q.1) : ∀ n p t u, (arS bd A g n p t).1 = some u → t ≤ u := by
  intro n
  induction n with
  | zero =>
    intro p t u h
    unfold arS at h
    by_cases q : p = g
    · rw [if_pos q] at h; injection h with h; omega
    · rw [if_neg q] at h; cases h
  | succ n ih =>
    intro p t u h
    unfold arS at h
    by_cases q : p = g
    · rw [if_pos q] at h; injection h with h; omega
    · rw [if_neg q] at h
      cases hb : bd p t with
      | none => rw [hb] at h; cases h
      | some v =>
        rw [hb] at h
        have h1 := hbd p t v hb
        have := ih _ _ u h
        omega
theorem m_arr (h : TC P R A st m2 m3 m4 m5 m6 m7 x1 x2 nul lsz lst by_ op val lF lM lT ls lw) {has : Bool} {rsz : Int32} {ruw : Bool} {rst : Nat → Int32} {rl : Option Prog} (hR : RC has rsz ruw rst op val lF lM lT ls rl) {pe : Int32} (hpe : In pe 1 2) {sg sd : Int32} {tg aw st2 : Nat → Int32} (ht : Row8 tg (gD P R A m2)) (ha : Row8 aw (gD P R A m2)) (hS : StopsOk R A pe m5 sg lw sd R st2) {round ground : Int32} {rs vs gs gv : Nat → Int32} (hC : CacheOk round rs vs (bV A pe m5 sg lw)) (hG : GC A pe m5 sg rl (gD P R A m2) ruw ground gs gv) {ms p t : Nat} (hms : ms ≤ 99) (hp : p < 8) (ht' : t < 10000) (rides bd rd f0 : Int32) (fa rid stk rstk fa2 pile rid2 : Nat → Int32) :
    ∃ z n bd' fa' rid' rs' vs' gs' gv' stk' rstk' n2 f0' fa2' pile' rid2', x7_arrival nul (!has) pe m5 sg m2 sd (I ms) rides bd round fa ground (I R) lsz rid rsz ruw tg rs vs gs gv (A 6) (A 4) (A 2) (A 5) (A 1) (A 0) (A 3) stk lst rstk rst (I p) (I t) = some (never z, n, bd', fa', rid', rs', vs', gs', gv', stk', rstk') ∧
      x9_arrives (I R) m2 m5 has pe sg rd f0 aw fa2 (A 4) (A 5) (A 3) (A 2) lF lM lT ls op pile (A 1) rid2 (A 6) (A 0) st2 val (I p) (I t) (I ms) = some (notR z, n2, f0', fa2', pile', rid2') ∧ CacheOk round rs' vs' (bV A pe m5 sg lw) ∧ GC A pe m5 sg rl (gD P R A m2) ruw ground gs' gv' ∧ (∀ u, z = some u → t ≤ u ∧ u < 100000) := by
  obtain ⟨g, hg8, eg, _⟩ := goalI h.2.1
  have hl := h.1
  obtain ⟨bd', fa', rid', rs', vs', gs', gv', stk', rstk', f1, c1, c2, _⟩ := m_arrival (we := m5) (sg := sg) (seed := sd) (ms := ms) (p := p) (t := t) hl hpe h.2.2.2.1 ht hR.1 hms hg8 hp ht' hC hG rides bd fa rid stk rstk
  obtain ⟨f0', fa3', pile3', rid3', f2, _⟩ := r_arrives (ms := ms) (p := p) (t := t) hl hS ha hR.2 hms hg8 hp ht' rd f0 fa2 pile rid2
  rw [← eg] at f1 f2
  refine ⟨_, _, bd', fa', rid', rs', vs', gs', gv', stk', rstk', _, f0', fa3', pile3', rid3', f1, f2, c1, c2, fun u hu => ⟨?_, ar_bd hl ht' u hu⟩⟩
  exact arS_lo (A := A) (bd := bdS A pe m5 sg lw rl sd (gD P R A m2) ms R) (g := g) (fun p t q h => (lx_is _ _ _ h).1) 20 p t u hu
theorem never_le {z : Option Nat} (hz : ∀ u, z = some u → u < 100000) (k : Nat) (hk : k < 100000) : (never z < I k ↔ ∃ u, z = some u ∧ u < k) ∧ (never z ≤ I k ↔ ∃ u, z = some u ∧ u ≤ k) := by
  cases z with
  | none =>
    refine ⟨⟨fun e => ?_, fun ⟨u, e, _⟩ => by cases e⟩, ⟨fun e => ?_, fun ⟨u, e, _⟩ => by cases e⟩⟩
    · have e' : I 2147483647 < I k := e
      rw [I_lt (by omega) (by omega)] at e'; omega
    · have e' : I 2147483647 ≤ I k := e
      rw [I_le (by omega) (by omega)] at e'; omega
  | some u =>
    have := hz u rfl
    refine ⟨⟨fun e => ⟨u, rfl, ?_⟩, fun ⟨v, e, hv⟩ => ?_⟩, ⟨fun e => ⟨u, rfl, ?_⟩, fun ⟨v, e, hv⟩ => ?_⟩⟩
    · have e' : I u < I k := e
      rw [I_lt (by omega) (by omega)] at e'; exact e'
    · injection e with e
      show I u < I k
      rw [I_lt (by omega) (by omega)]; omega
    · have e' : I u ≤ I k := e
      rw [I_le (by omega) (by omega)] at e'; exact e'
    · injection e with e
      show I u ≤ I k
      rw [I_le (by omega) (by omega)]; omega
theorem notR_neg (z : Option Nat) (hz : ∀ u, z = some u → u < 100000) : notR z < 0 ↔ z = none := by
  cases z with
  | none => exact ⟨fun _ => rfl, fun _ => by decide⟩
  | some u =>
    have := hz u rfl
    refine ⟨fun e => ?_, fun e => by cases e⟩
    have e' : I u < I 0 := e
    rw [I_lt (by omega) (by omega)] at e'; omega
theorem pick {b z : Option Nat} (hb : ∀ u, b = some u → u < 100000) (hz : ∀ u, z = some u → u < 100000) :
    (never b ≤ never z ∧ (notR z < 0 ∨ (¬ notR z < 0 ∧ ¬ notR b < 0 ∧ ¬ notR z < notR b))) ∨ (¬ never b ≤ never z ∧ ¬ notR z < 0 ∧ (notR b < 0 ∨ (¬ notR b < 0 ∧ notR z < notR b))) := by
  cases z with
  | none =>
    refine Or.inl ⟨?_, Or.inl (by decide)⟩
    show never b ≤ I 2147483647
    cases b with
    | none => exact Int32.le_refl _
    | some v =>
      have := hb v rfl
      show I v ≤ I 2147483647
      rw [I_le (by omega) (by omega)]; omega
  | some u =>
    have h1 := hz u rfl
    have h2 : ¬ notR (some u) < 0 := by rw [notR_neg _ hz]; intro e; cases e
    cases b with
    | none => exact Or.inr ⟨(by show ¬ never none ≤ I u; rw [(never_le hb u h1).2]; rintro ⟨_, e, _⟩; cases e), h2, Or.inl (by decide)⟩
    | some v =>
      have h3 := hb v rfl
      have h4 : ¬ notR (some v) < 0 := by rw [notR_neg _ hb]; intro e; cases e
      have e1 : never (some v) ≤ never (some u) ↔ v ≤ u := by show I v ≤ I u ↔ _; rw [I_le (by omega) (by omega)]
      have e2 : notR (some u) < notR (some v) ↔ u < v := by show I u < I v ↔ _; rw [I_lt (by omega) (by omega)]
      by_cases c : v ≤ u
      · exact Or.inl ⟨e1.mpr c, Or.inr ⟨h2, h4, fun e => by have := e2.mp e; omega⟩⟩
      · exact Or.inr ⟨fun e => c (e1.mp e), h2, Or.inr ⟨h4, e2.mpr (by omega)⟩⟩
theorem m_in (h : TC P R A st m2 m3 m4 m5 m6 m7 x1 x2 nul lsz lst by_ op val lF lM lT ls lw) {has : Bool} {rsz : Int32} {ruw : Bool} {rst : Nat → Int32} {rl : Option Prog} (hR : RC has rsz ruw rst op val lF lM lT ls rl) {r : Nat} {br gr : Int32} {brs grs : Nat → Int32} (hb : Rd r br brs) (hg : Rd r gr grs) (hr : r + 20 < 100000) (pe0 we0 sg0 g0 se0 md0 rides bd b1 b2 b3 b4 rd f0 : Int32) (stk rstk fa rid tg bvs gvs aw fa2 pile rid2 st2 : Nat → Int32) (p1 p2 : Int32) :
    ∃ o1 o2, x8_in x1 x2 has lsz rsz ruw st pe0 we0 sg0 g0 se0 md0 rides bd stk lst rstk rst br fa gr (I P) (I R) rid tg brs bvs grs gvs (A 6) (A 4) (A 2) (A 5) (A 1) (A 0) (A 3) p1 p2 = some o1 ∧ x9_in (I P) (I R) m2 m4 m5 m6 m7 by_ has b1 b2 b3 b4 rd f0 aw fa2 (A 4) (A 5) (A 3) (A 2) lF lM lT ls op pile (A 1) rid2 (A 6) (A 0) st2 val p1 p2 = some o2 ∧ o1.1 = o2.1 ∧ Rd (r + 20) o1.2.2.2.2.2.2.2.2.2.2.2.1 o1.2.2.2.2.2.2.2.2.2.2.2.2.2.2.2.2.1 ∧ Rd (r + 20) o1.2.2.2.2.2.2.2.2.2.2.2.2.2.1 o1.2.2.2.2.2.2.2.2.2.2.2.2.2.2.2.2.2.2.1 := by
  have hl := h.1
  have hRR := hl.2.1
  have hpe : In m4 1 2 := h.2.1.2.2.2.2.2.2.2.2
  have hb0 := hb.mono (s := r + 20) (by omega)
  have hg0 := hg.mono (s := r + 20) (by omega)
  obtain ⟨hb1, hbf⟩ := hb.forget (by omega)
  obtain ⟨hg1, _⟩ := hg.forget (by omega)
  unfold x8_in x9_in
  rcases car_is hl p1 p2 with ⟨x, j, hx', hj, rfl, rfl, e1, e2, e3, e4⟩ | ⟨e1, e2⟩
  · obtain ⟨_, ⟨a4, l4, l4'⟩, ⟨a2, l2⟩, ⟨a5, l5, l5'⟩, ⟨a3, l3⟩, _⟩ := hl.r hx'
    have hP := hl.1
    have hmn : 60 * j / Nn (A 4) x < 1440 := by
      rw [Nat.div_lt_iff_lt_mul (by omega)]; omega
    have hmin : x9_minuteOf (A 4) (I x) (I j) = some (I (60 * j / Nn (A 4) x)) := by
      unfold x9_minuteOf
      rw [in16 hl hx', bif_t, I_clamp (by omega), a4, if_neg (show ¬ (I (Nn (A 4) x) = 0) by
        show ¬ (I (Nn (A 4) x) = I 0)
        rw [I_eq (by omega) (by omega)]; omega)]
      rw [show (60 : Int32) * I j / I (Nn (A 4) x) = I (60 * j / Nn (A 4) x) by
        show I 60 * I j / I (Nn (A 4) x) = _
        rw [I_mul, I_div (by omega) (by omega)]]
    obtain ⟨tg', e5, h5⟩ := m_prep h has pe0 we0 sg0 g0 se0 md0 br gr tg
    obtain ⟨fa', rs', vs', stk', e6, hc6⟩ := m_isStopping (sg := m6) (we := m5) (seed := m7) hl hpe h.2.2.2.1 (hbf bvs _) hx' hj fa stk
    obtain ⟨fa2', pile', e7⟩ := r_isStop (sg := m6) (we := m5) (seed := m7) hl hpe h.2.2.2.2 hx' hj fa2 pile
    rw [e1, e2, e3, e4, Option.bind_some, Option.bind_some, Option.bind_some, bif_t, bif_t, bif_t, bif_t, e5, Option.bind_some]
    unfold x9_asIs
    rw [Option.bind_some]
    dsimp only
    rw [e6, e7, Option.bind_some, Option.bind_some]
    dsimp only
    cases decide (drw m7 (I x) (I j) < bV A m4 m5 m6 lw x (60 * j / Nn (A 4) x / 60))
    · exact ⟨_, _, rfl, rfl, rfl, (hb1.of (by omega) hc6.2).mono (by omega), hg1.mono (by omega)⟩
    · obtain ⟨fa3', pile3', st2', aw', e8, hS, e9, h9⟩ := m_lays h hpe m6 m7 fa2' pile' st2 aw
      have c5 : (I x).toNatClampNeg = x := I_clamp (by omega)
      have hi := in16 hl hx'
      obtain ⟨z, n, bd', fa4, rid4, rs4, vs4, gs4, gv4, stk4, rstk4, n4, f04, fa5, pile5, rid5, g1, g2, k1, k2, hz⟩ := m_arr h hR hpe h5 h9 hS hc6 (GC_of hg (by omega) gvs) (ms := 99) (p := Nn (A 3) x) (t := 60 * j / Nn (A 4) x + Nn (A 5) x) (by omega) (by omega) (by omega) rides bd rd f0 fa' rid stk' rstk fa3' pile3' rid2
      obtain ⟨y, n6, bd6, fa6, rid6, rs6, vs6, gs6, gv6, stk6, rstk6, n7, f07, fa7, pile7, rid7, g3, g4, k3, k4, hy⟩ := m_arr h hR hpe h5 h9 hS k1 k2 (ms := 99) (p := Nn (A 2) x) (t := 60 * j / Nn (A 4) x + 1) (by omega) (by omega) (by omega) n bd' n4 f04 fa4 rid4 stk4 rstk4 fa5 pile5 rid5
      rw [show I 99 = 99 from rfl] at g1 g2 g3 g4
      simp only [bif_t]
      rw [passI hl hx' (by omega), Option.bind_some, enI hl hx', Option.bind_some, miI hl hx', Option.bind_some, stI hl hx', e8, Option.bind_some, e9, Option.bind_some, hmin, Option.bind_some, c5, a2, a3, a5, I_add, I_succ, g1, Option.bind_some]
      dsimp only
      rw [Option.bind_some, g2, Option.bind_some, g3, Option.bind_some]
      dsimp only
      rw [g4, Option.bind_some]
      clear g1 g2 g3 g4 e5 e6 e7 e8 e9 hmin
      have hzz := (hb1.of (by omega) k3.2).mono (s := r + 20) (by omega)
      have hyy := (hg1.of (by omega) k4.2).mono (s := r + 20) (by omega)
      have hz1 : ∀ u, z = some u → u < 100000 := fun u hu => (hz u hu).2
      have hy1 : ∀ u, y = some u → u < 100000 := fun u hu => (hy u hu).2
      dsimp only
      cases z with
      | none =>
        rw [if_pos (show never none = 2147483647 from rfl), if_pos (show notR none < 0 by decide)]
        exact ⟨_, _, rfl, rfl, rfl, hzz, hyy⟩
      | some u =>
        have n1 : ¬ (never (some u) = 2147483647) := fun e => by have := (never_no hz1).mp e; cases this
        have n2 : ¬ (notR (some u) < 0) := by rw [notR_neg _ hz1]; intro e; cases e
        rw [if_neg n1, if_neg n2]
        cases y with
        | none =>
          rw [if_neg (show ¬ (never none < never (some u)) by show ¬ (never none < I u); rw [(never_le hy1 u (hz1 u rfl)).1]; rintro ⟨_, e, _⟩; cases e), if_pos (show notR none < 0 by decide)]
          exact ⟨_, _, rfl, rfl, rfl, hzz, hyy⟩
        | some v =>
          have n3 : ¬ (notR (some v) < 0) := by rw [notR_neg _ hy1]; intro e; cases e
          rw [if_neg n3]
          by_cases c : never (some v) < never (some u)
          · rw [if_pos c, if_pos (show notR (some v) < notR (some u) from c)]
            exact ⟨_, _, rfl, rfl, rfl, hzz, hyy⟩
          · rw [if_neg c, if_neg (show ¬ (notR (some v) < notR (some u)) from c)]
            exact ⟨_, _, rfl, rfl, rfl, hzz, hyy⟩
  · rw [e1]
    rcases e2 with e2 | ⟨e2, e3, e4⟩
    · rw [e2]; exact ⟨_, _, rfl, rfl, rfl, hb0, hg0⟩
    · rw [e2, e3, e4]; exact ⟨_, _, rfl, rfl, rfl, hb0, hg0⟩
end trip
