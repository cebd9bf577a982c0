/-! car, waits, queue -/
/-- what a trip's call finds: land, settings, the law in force on both sides -/
def TC (P R : Nat) (A : Nat → Nat → Int32) (st : Nat → Int32) (m2 m3 m4 m5 m6 m7 x1 x2 : Int32) (nul : Bool) (lsz : Int32) (lst : Nat → Int32) (by_ : Int32) (op val lF lM lT ls : Nat → Int32) (lw : Option Prog) : Prop :=
  LandOk P R A ∧ SetOk st m2 m3 m4 m5 m6 m7 ∧ x8_lawText x1 x2 = some nul ∧ LwC nul lsz lst lw ∧ LwM by_ op val lF lM lT ls lw
def gD (P R : Nat) (A : Nat → Nat → Int32) (g : Int32) : Nat → Nat := farD P R (Nn (A 2)) (Nn (A 3)) (Nn (A 5)) g.toNatClampNeg
section trip
variable {P R : Nat} {A : Nat → Nat → Int32} {st : Nat → Int32} {m2 m3 m4 m5 m6 m7 x1 x2 : Int32} {nul : Bool} {lsz : Int32} {lst : Nat → Int32} {by_ : Int32} {op val lF lM lT ls : Nat → Int32} {lw : Option Prog}
theorem goalI (hs : SetOk st m2 m3 m4 m5 m6 m7) : ∃ g, g < 8 ∧ m2 = I g ∧ m2.toNatClampNeg = g := by
  obtain ⟨_, _, _, _, _, _, ⟨g, _, hg, rfl⟩, _⟩ := hs
  exact ⟨g, by omega, rfl, I_clamp (by omega)⟩
theorem m_prep (h : TC P R A st m2 m3 m4 m5 m6 m7 x1 x2 nul lsz lst by_ op val lF lM lT ls lw) (has : Bool) (pe0 we0 sg0 g0 se0 md0 br gr : Int32) (tg : Nat → Int32) :
    ∃ tg', x8_prepareTrip x1 x2 has st pe0 we0 sg0 g0 se0 md0 br gr (I P) (I R) tg (A 2) (A 5) (A 3) = some (m4, m5, m6, m2, m7, 99, br + 1, gr + 1, tg', nul, !has) ∧ Row8 tg' (gD P R A m2) := by
  obtain ⟨hl, hs, hx, _, _⟩ := h
  obtain ⟨g, hg, e1, e2⟩ := goalI hs
  obtain ⟨s0, s1, s2, s3, s4, s5, _⟩ := hs
  have hr := hl.2.2.rd hl.1 hl.2.1
  obtain ⟨tg', e3, h3⟩ := m_measure hr tg hg
  unfold x8_prepareTrip x7_begins x7_forget x2_forget
  have t0 : (0 : Int32).toNatClampNeg = 0 := by decide
  have t2 : (2 : Int32).toNatClampNeg = 2 := by decide
  have t3 : (3 : Int32).toNatClampNeg = 3 := by decide
  have t4 : (4 : Int32).toNatClampNeg = 4 := by decide
  have t5 : (5 : Int32).toNatClampNeg = 5 := by decide
  rw [show inB 0 6 = true by decide, show inB 2 6 = true by decide, show inB 3 6 = true by decide, show inB 4 6 = true by decide, show inB 5 6 = true by decide, t0, t2, t3, t4, t5, s0, s2, s3, s4, s5, hx, bif_t, e1, e3, Option.bind_some, Option.bind_some, Option.bind_some, Option.bind_some]
  refine ⟨tg', ?_, ?_⟩
  · cases has <;> rfl
  · unfold gD
    rw [← e1, e2]; exact h3
theorem m_car (h : TC P R A st m2 m3 m4 m5 m6 m7 x1 x2 nul lsz lst by_ op val lF lM lT ls lw) {r : Nat} {br gr : Int32} {brs grs : Nat → Int32} (hb : Rd r br brs) (hg : Rd r gr grs) (hr : r + 20 < 100000) (has : Bool) (pe0 we0 sg0 g0 se0 md0 b1 b2 b3 b4 : Int32) (stk fa tg bvs fa2 pile : Nat → Int32) (p1 p2 p3 : Int32) :
    ∃ o1 o2, x8_car x1 x2 has lsz st pe0 we0 sg0 g0 se0 md0 stk lst br fa gr (I P) (I R) tg brs bvs (A 6) (A 4) (A 2) (A 5) (A 1) (A 0) (A 3) p1 p2 p3 = some o1 ∧ x9_car (I R) m4 m5 m6 m7 by_ b1 b2 b3 b4 fa2 (A 4) (A 3) (A 2) lF lM lT ls op pile (A 1) (A 6) (A 0) val p1 p2 p3 = some o2 ∧ o1.1 = o2.1 ∧ Rd (r + 20) o1.2.2.2.2.2.2.2.2.1 o1.2.2.2.2.2.2.2.2.2.2.2.2.1 ∧ Rd (r + 20) o1.2.2.2.2.2.2.2.2.2.2.1 grs := by
  have h' := h
  obtain ⟨hl, hs, hx, hc, hm⟩ := h'
  have hR := hl.2.1
  have hpe : In m4 1 2 := hs.2.2.2.2.2.2.2.2
  have hb0 := hb.mono (s := r + 20) (by omega)
  have hg0 := hg.mono (s := r + 20) (by omega)
  obtain ⟨hb1, hbf⟩ := hb.forget (by omega)
  obtain ⟨hg1, _⟩ := hg.forget (by omega)
  unfold x8_car x9_car
  rcases car_is hl p1 p2 with ⟨x, j, hx', hj, rfl, rfl, e1, e2, e3, e4⟩ | ⟨e1, e2⟩
  · have l4 := (hl.r hx').2.1.2
    rw [e1, e2, e3, e4, Option.bind_some, Option.bind_some, Option.bind_some, bif_t, bif_t, bif_t, bif_t]
    rcases upto_is p3 2 (by omega) with ⟨u, hu⟩ | ⟨k, hk, rfl, u, u1, u2⟩
    · have u' : x9_within p3 0 2 = some false := u
      rw [u']
      rcases hu with hu | ⟨hu, hu'⟩
      · rw [if_pos hu]; exact ⟨_, _, rfl, rfl, rfl, hb0, hg0⟩
      · rw [if_neg hu, if_neg (show ¬ p3 ≤ 2 from hu')]; exact ⟨_, _, rfl, rfl, rfl, hb0, hg0⟩
    · have u' : x9_within (I k) 0 2 = some true := u
      have hmin : x9_minuteOf (A 4) (I x) (I j) = some (I (60 * j / Nn (A 4) x)) := by
        unfold x9_minuteOf
        rw [in16 hl hx', bif_t, I_clamp (by omega), (hl.r hx').2.1.1, if_neg (show ¬ (I (Nn (A 4) x) = 0) by
          show ¬ (I (Nn (A 4) x) = I 0)
          rw [I_eq (by omega) (by omega)]; omega)]
        rw [show (60 : Int32) * I j / I (Nn (A 4) x) = I (60 * j / Nn (A 4) x) by
          show I 60 * I j / I (Nn (A 4) x) = _
          rw [I_mul, I_div (by omega) (by omega)]]
      rw [u', if_neg u1, if_pos (show I k ≤ 2 from u2), Option.bind_some, bif_t]
      unfold x9_asIs
      rw [Option.bind_some]
      dsimp only
      have hk3 : k = 0 ∨ k = 1 ∨ k = 2 := by omega
      rcases hk3 with rfl | rfl | rfl
      · rw [if_pos (show I 0 = 0 from rfl), if_pos (show I 0 = 0 from rfl), hmin, passI hl hx' (by omega)]
        exact ⟨_, _, rfl, rfl, rfl, hb0, hg0⟩
      · obtain ⟨tg', e5, h5⟩ := m_prep h has pe0 we0 sg0 g0 se0 md0 br gr tg
        rw [if_neg (show ¬ (I 1 = 0) by decide), if_neg (show ¬ (I 1 = 0) by decide), if_pos (show I 1 = 1 from rfl), e5, Option.bind_some]
        dsimp only
        rw [if_pos (show I 1 = 1 from rfl), x7draw, x9draw]
        exact ⟨_, _, rfl, rfl, rfl, hb1.mono (by omega), hg1.mono (by omega)⟩
      · obtain ⟨tg', e5, h5⟩ := m_prep h has pe0 we0 sg0 g0 se0 md0 br gr tg
        obtain ⟨fa', rs', vs', stk', e6, hc6⟩ := m_isStopping (sg := m6) (we := m5) (seed := m7) hl hpe hc (hbf bvs _) hx' hj fa stk
        obtain ⟨fa2', pile', e7⟩ := r_isStop (sg := m6) (we := m5) (seed := m7) hl hpe hm hx' hj fa2 pile
        rw [if_neg (show ¬ (I 2 = 0) by decide), if_neg (show ¬ (I 2 = 0) by decide), if_neg (show ¬ (I 2 = 1) by decide), e5, Option.bind_some]
        dsimp only
        rw [if_neg (show ¬ (I 2 = 1) by decide), e6, e7, Option.bind_some, Option.bind_some]
        have hz := (hb1.of (by omega) hc6.2).mono (s := r + 20) (by omega)
        have hy := hg1.mono (s := r + 20) (by omega)
        cases decide (drw m7 (I x) (I j) < bV A m4 m5 m6 lw x (60 * j / Nn (A 4) x / 60)) <;> exact ⟨_, _, rfl, rfl, rfl, hz, hy⟩
  · rw [e1]
    rcases e2 with e2 | ⟨e2, e3, e4⟩
    · rw [e2]; exact ⟨_, _, rfl, rfl, rfl, hb0, hg0⟩
    · rw [e2, e3, e4]; exact ⟨_, _, rfl, rfl, rfl, hb0, hg0⟩
/-- the class's search and the reference's, both laid out -/
theorem m_kth (h : TC P R A st m2 m3 m4 m5 m6 m7 x1 x2 nul lsz lst by_ op val lF lM lT ls lw) (sd : Int32) {round : Int32} {rounds values : Nat → Int32} (hC : CacheOk round rounds values (bV A m4 m5 m6 lw)) {p s k : Nat} (hp : p < 8) (hs : s < 1440) (hk : 1 ≤ k) (hk9 : k ≤ 9) (fa stops stk fa2 pile stops2 : Nat → Int32) :
    ∃ q fa' stops' rounds' values' stk' fa2' pile' stops2', x7_stopAfter nul m4 m5 m6 sd round fa (I R) lsz stops rounds values (A 6) (A 4) (A 2) (A 1) (A 0) (A 3) stk lst (I p) (I s) (I k) = some (never q, fa', stops', rounds', values', stk') ∧ CacheOk round rounds' values' (bV A m4 m5 m6 lw) ∧
      x9_layStops (I R) m5 by_ m4 sd m6 fa2 (A 4) (A 3) (A 2) lF lM lT ls op pile (A 1) (A 6) (A 0) stops2 val = some (fa2', pile', stops2') ∧ x9_kthAt (I R) (A 4) (A 2) stops2' (I p) (I s) (I k) = some (notR q) ∧ (∀ t, q = some t → s ≤ t ∧ t < 1440) := by
  obtain ⟨hl, hset, hx, hc, hm⟩ := h
  have hpe : In m4 1 2 := hset.2.2.2.2.2.2.2.2
  obtain ⟨q, fa', stops', rounds', values', stk', e1, k1, c1⟩ := m_stopAfter (seed := sd) hl hpe hc hC hp hs hk hk9 fa stops stk
  obtain ⟨fa2', pile', stops2', e2, hS⟩ := r_layStops (seed := sd) (sg := m6) (we := m5) hl hpe hm fa2 pile stops2
  obtain ⟨q2, e3, k2⟩ := r_kthAt (p := p) hl hS hs hk hk9
  have hq := k1.uniq k2
  subst hq
  refine ⟨q, fa', stops', rounds', values', stk', fa2', pile', stops2', e1, c1, e2, e3, fun t ht => ?_⟩
  rcases k1 with ⟨t', a1, a2, _, _, a5⟩ | ⟨_, a5⟩
  · rw [ht] at a5; injection a5 with a5; omega
  · rw [ht] at a5; cases a5
theorem m_waits (h : TC P R A st m2 m3 m4 m5 m6 m7 x1 x2 nul lsz lst by_ op val lF lM lT ls lw) {r : Nat} {br gr : Int32} {brs grs : Nat → Int32} (hb : Rd r br brs) (hg : Rd r gr grs) (hr : r + 20 < 100000) (has : Bool) (pe0 we0 sg0 g0 se0 md0 b1 b2 b3 b4 : Int32) (stk fa stops tg bvs fa2 pile stops2 : Nat → Int32) (p1 p2 : Int32) :
    ∃ o1 o2, x8_waits x1 x2 has lsz st pe0 we0 sg0 g0 se0 md0 stk lst br fa gr (I P) (I R) stops tg brs bvs (A 6) (A 4) (A 2) (A 5) (A 1) (A 0) (A 3) p1 p2 = some o1 ∧ x9_waits (I P) (I R) m4 m5 m6 m7 by_ b1 b2 b3 b4 fa2 (A 4) (A 3) (A 2) lF lM lT ls op pile (A 1) (A 6) (A 0) stops2 val p1 p2 = some o2 ∧ o1.1 = o2.1 ∧ Rd (r + 20) o1.2.2.2.2.2.2.2.2.1 o1.2.2.2.2.2.2.2.2.2.2.2.2.2.1 ∧ Rd (r + 20) o1.2.2.2.2.2.2.2.2.2.2.1 grs := by
  have hl := h.1
  have hP := hl.1
  have hb0 := hb.mono (s := r + 20) (by omega)
  have hg0 := hg.mono (s := r + 20) (by omega)
  obtain ⟨hb1, hbf⟩ := hb.forget (by omega)
  obtain ⟨hg1, _⟩ := hg.forget (by omega)
  unfold x8_waits x9_waits
  rcases hasPlace_is hP p1 with ⟨e1, e2, p, hp, rfl⟩ | ⟨e1, e2⟩
  · obtain ⟨b, e3, e4, h4⟩ := min_is p2
    rw [e1, e2, e3, e4, Option.bind_some, Option.bind_some, Option.bind_some, Option.bind_some, bif_t, bif_t]
    cases b
    · exact ⟨_, _, rfl, rfl, rfl, hb0, hg0⟩
    · obtain ⟨t, ht, rfl⟩ := h4 rfl
      obtain ⟨tg', e5, h5⟩ := m_prep h has pe0 we0 sg0 g0 se0 md0 br gr tg
      obtain ⟨q, fa', stops', rs', vs', stk', fa2', pile', stops2', e6, c6, e7, e8, hq⟩ := m_kth h m7 (hbf bvs _) (p := p) (s := t) (k := 1) (by omega) ht (by omega) (by omega) fa stops stk fa2 pile stops2
      have e6' : x7_stopAfter nul m4 m5 m6 m7 (br + 1) fa (I R) lsz stops brs bvs (A 6) (A 4) (A 2) (A 1) (A 0) (A 3) stk lst (I p) (I t) 1 = some (never q, fa', stops', rs', vs', stk') := e6
      have e8' : x9_kthAt (I R) (A 4) (A 2) stops2' (I p) (I t) 1 = some (notR q) := e8
      rw [bif_t, bif_t, e5, Option.bind_some]
      unfold x9_asIs x9_waitAt
      rw [Option.bind_some]
      dsimp only
      rw [e6', e7, Option.bind_some, Option.bind_some]
      dsimp only
      rw [e8', Option.bind_some]
      have hz := (hb1.of (by omega) c6.2).mono (s := r + 20) (by omega)
      have hy := hg1.mono (s := r + 20) (by omega)
      cases q with
      | none =>
        rw [if_pos (show never none = 2147483647 from rfl), if_neg (show ¬ (0 ≤ notR none) by decide)]
        exact ⟨_, _, rfl, rfl, rfl, hz, hy⟩
      | some u =>
        have hu := hq u rfl
        rw [if_neg (fun e => by have := (never_no (r := some u) (fun t ht => by injection ht with ht; omega)).mp e; cases this), if_pos (show 0 ≤ notR (some u) by show I 0 ≤ I u; rw [I_le (by omega) (by omega)]; omega)]
        exact ⟨_, _, rfl, rfl, rfl, hz, hy⟩
  · rw [e1, e2]; exact ⟨_, _, rfl, rfl, rfl, hb0, hg0⟩
theorem m_queue (h : TC P R A st m2 m3 m4 m5 m6 m7 x1 x2 nul lsz lst by_ op val lF lM lT ls lw) {r : Nat} {br gr : Int32} {brs grs : Nat → Int32} (hb : Rd r br brs) (hg : Rd r gr grs) (hr : r + 20 < 100000) (has : Bool) (pe0 we0 sg0 g0 se0 md0 b1 b2 b3 b4 : Int32) (stk fa stops tg bvs fa2 pile stops2 : Nat → Int32) (p1 p2 p3 : Int32) :
    ∃ o1 o2, x8_queue x1 x2 has lsz st pe0 we0 sg0 g0 se0 md0 stk lst br fa gr (I P) (I R) stops tg brs bvs (A 6) (A 4) (A 2) (A 5) (A 1) (A 0) (A 3) p1 p2 p3 = some o1 ∧ x9_queue (I P) (I R) m4 m5 m6 m7 by_ b1 b2 b3 b4 fa2 (A 4) (A 3) (A 2) lF lM lT ls op pile (A 1) (A 6) (A 0) stops2 val p1 p2 p3 = some o2 ∧ o1.1 = o2.1 ∧ Rd (r + 20) o1.2.2.2.2.2.2.2.2.1 o1.2.2.2.2.2.2.2.2.2.2.2.2.2.1 ∧ Rd (r + 20) o1.2.2.2.2.2.2.2.2.2.2.1 grs := by
  have hl := h.1
  have hP := hl.1
  have hb0 := hb.mono (s := r + 20) (by omega)
  have hg0 := hg.mono (s := r + 20) (by omega)
  obtain ⟨hb1, hbf⟩ := hb.forget (by omega)
  obtain ⟨hg1, _⟩ := hg.forget (by omega)
  unfold x8_queue x9_queue
  rcases hasPlace_is hP p1 with ⟨e1, e2, p, hp, rfl⟩ | ⟨e1, e2⟩
  · obtain ⟨b, e3, e4, h4⟩ := min_is p2
    rw [e1, e2, e3, e4, Option.bind_some, Option.bind_some, Option.bind_some, Option.bind_some, bif_t, bif_t]
    cases b
    · exact ⟨_, _, rfl, rfl, rfl, hb0, hg0⟩
    · obtain ⟨t, ht, rfl⟩ := h4 rfl
      rw [bif_t, bif_t]
      unfold x9_within
      by_cases q1 : p3 < 1
      · rw [if_pos q1, if_pos q1]; exact ⟨_, _, rfl, rfl, rfl, hb0, hg0⟩
      · rw [if_neg q1, if_neg q1]
        by_cases q2 : (9 : Int32) < p3
        · rw [if_pos q2, if_neg (show ¬ (p3 ≤ 9) by rw [Int32.not_le]; exact q2)]; exact ⟨_, _, rfl, rfl, rfl, hb0, hg0⟩
        · obtain ⟨k, hk, hk9, rfl⟩ := In_of (v := p3) (a := 1) (b := 9) (by omega) (by omega) q1 q2
          rw [if_neg q2, if_pos (show I k ≤ 9 by rw [← Int32.not_lt]; exact q2), Option.bind_some, bif_t]
          obtain ⟨tg', e5, h5⟩ := m_prep h has pe0 we0 sg0 g0 se0 md0 br gr tg
          obtain ⟨q, fa', stops', rs', vs', stk', fa2', pile', stops2', e6, c6, e7, e8, hq⟩ := m_kth h m7 (hbf bvs _) (p := p) (s := t) (k := k) (by omega) ht hk hk9 fa stops stk fa2 pile stops2
          rw [e5, Option.bind_some]
          unfold x9_asIs
          rw [Option.bind_some]
          dsimp only
          rw [e6, e7, Option.bind_some, Option.bind_some]
          dsimp only
          rw [e8, Option.bind_some, orNot_is (fun t ht => by have := hq t ht; omega), Option.bind_some]
          exact ⟨_, _, rfl, rfl, rfl, (hb1.of (by omega) c6.2).mono (by omega), hg1.mono (by omega)⟩
  · rw [e1, e2]; exact ⟨_, _, rfl, rfl, rfl, hb0, hg0⟩
end trip
