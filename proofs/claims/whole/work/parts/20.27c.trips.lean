/-! here, goes, in -/
section trip
variable {P R : Nat} {A : Nat → Nat → Int32} {st : Nat → Int32} {m2 m3 m4 m5 m6 m7 x1 x2 : Int32} {nul : Bool} {lsz : Int32} {lst : Nat → Int32} {by_ : Int32} {op val lF lM lT ls : Nat → Int32} {lw : Option Prog}
theorem hereLoop (h : TC P R A st m2 m3 m4 m5 m6 m7 x1 x2 nul lsz lst by_ op val lF lM lT ls lw) (has : Bool) {round ground g0 md0 : Int32} {tg : Nat → Int32} {p1 p2 p3 : Int32} {p t w W z : Nat} (hp : p1 / 10000 = I p) (ht : p1 - p1 / 10000 * 10000 = I t) (hw : p2 - p2 / 10000 * 10000 = I w) (hp8 : p < 8) (ht' : t < 1440) (hw' : w < 1440) (hW1 : 1 ≤ W) (hW : W ≤ 40) (hz : z < 2) (hp3 : p3 = I z) :
    ∀ m n1 n2 k l se stk fa stops rs vs rb bs fa2 pile stops2, k + m = W → m < n1 → m < n2 → l ≤ k → CacheOk round rs vs (bV A m4 m5 m6 lw) →
      ∃ o1 o2, x8_here_72 x1 x2 has lsz st m4 m5 m6 g0 md0 lst round ground (I P) (I R) tg (A 6) (A 4) (A 2) (A 5) (A 1) (A 0) (A 3) p1 p3 (I W) (I (t + w)) n1 se stk fa stops rs vs nul rb (I l) (I k) = some o1 ∧ x9_here_68 (I P) (I R) m4 m5 m6 m7 by_ by_ m4 m6 (A 4) (A 3) (A 2) lF lM lT ls op (A 1) (A 6) (A 0) val p1 p2 p3 (I W) n2 bs fa2 pile stops2 (I l) (I k) = some o2 ∧ o1.1 = o2.1 ∧ o1.2.2.2.2.2.2.2.2.1 = round ∧ RB round o1.2.2.2.2.2.2.2.2.2.2.2.2.2.1 ∧ o1.2.2.2.2.2.2.2.2.2.2.1 = ground := by
  have t5 : (5 : Int32).toNatClampNeg = 5 := by decide
  have s5 : st 5 = m7 := h.2.1.2.2.2.2.2.1
  intro m
  induction m with
  | zero =>
    intro n1 n2 k l se stk fa stops rs vs rb bs fa2 pile stops2 hk h1 h2 hlk hC
    obtain ⟨n1, rfl⟩ : ∃ k, n1 = k + 1 := ⟨n1 - 1, by omega⟩
    obtain ⟨n2, rfl⟩ : ∃ k, n2 = k + 1 := ⟨n2 - 1, by omega⟩
    have g : I W ≤ I k := by rw [I_le (by omega) (by omega)]; omega
    rw [x8_here_72, if_pos g, x9_here_68, if_pos g, x8_here_127, x9_here_137, hp3]
    rcases lowterms l (by omega) W (by omega) z hz with q | q | ⟨q1, q2⟩
    · omega
    · omega
    · cases q3 : x9_lowest (I l) (I W) (I z) with
      | none => rw [q3] at q2; cases q2
      | some v =>
        rw [q1, q3]
        exact ⟨_, _, rfl, rfl, rfl, rfl, hC.2, rfl⟩
  | succ m ih =>
    intro n1 n2 k l se stk fa stops rs vs rb bs fa2 pile stops2 hk h1 h2 hlk hC
    obtain ⟨n1, rfl⟩ : ∃ k, n1 = k + 1 := ⟨n1 - 1, by omega⟩
    obtain ⟨n2, rfl⟩ : ∃ k, n2 = k + 1 := ⟨n2 - 1, by omega⟩
    have g : ¬ (I W ≤ I k) := by rw [I_le (by omega) (by omega)]; omega
    obtain ⟨q, fa', stops', rs', vs', stk', fa2', pile', stops2', e6, c6, e7, e8, hq⟩ := m_kth h (m7 + I k) hC hp8 ht' (k := 1) (by omega) (by omega) fa stops stk fa2 pile stops2
    have e6' : x7_stopAfter nul m4 m5 m6 (m7 + I k) round fa (I R) lsz stops rs vs (A 6) (A 4) (A 2) (A 1) (A 0) (A 3) stk lst (I p) (I t) 1 = some (never q, fa', stops', rs', vs', stk') := e6
    have e8' : x9_kthAt (I R) (A 4) (A 2) stops2' (I p) (I t) 1 = some (notR q) := e8
    rw [x8_here_72, if_neg g, x9_here_68, if_neg g, show inB 5 6 = true by decide, bif_t, t5, s5, ht, hp, hw, e6', e7, Option.bind_some, Option.bind_some]
    unfold x9_waitAt
    dsimp only
    rw [e8', Option.bind_some]
    cases q with
    | none =>
      rw [if_pos (show I (t + w) < never none by show I (t + w) < I 2147483647; rw [I_lt (by omega) (by omega)]; omega), if_neg (show ¬ (0 ≤ notR none) by decide), Option.bind_some, if_pos (show (-2 : Int32) < 0 by decide), x8_here_121, x9_here_127, x9_here_128, I_succ, show I l + 0 = I l from I_add l 0]
      exact ih n1 n2 (k + 1) l _ _ _ _ _ _ _ _ _ _ _ (by omega) (by omega) (by omega) (by omega) c6
    | some u =>
      have hu := hq u rfl
      rw [if_pos (show 0 ≤ notR (some u) by show I 0 ≤ I u; rw [I_le (by omega) (by omega)]; omega), Option.bind_some, show notR (some u) - I t = I (u - t) from I_sub (by omega), if_neg (show ¬ (I (u - t) < 0) by show ¬ (I (u - t) < I 0); rw [I_lt (by omega) (by omega)]; omega)]
      by_cases c : w < u - t
      · rw [if_pos (show I (t + w) < never (some u) by show I (t + w) < I u; rw [I_lt (by omega) (by omega)]; omega), if_pos (show I w < I (u - t) by rw [I_lt (by omega) (by omega)]; exact c), x8_here_121, x9_here_127, x9_here_128, I_succ, show I l + 0 = I l from I_add l 0]
        exact ih n1 n2 (k + 1) l _ _ _ _ _ _ _ _ _ _ _ (by omega) (by omega) (by omega) (by omega) c6
      · rw [if_neg (show ¬ (I (t + w) < never (some u)) by show ¬ (I (t + w) < I u); rw [I_lt (by omega) (by omega)]; omega), if_neg (show ¬ (I w < I (u - t)) by rw [I_lt (by omega) (by omega)]; exact c), x8_here_121, x9_here_128, I_succ, I_succ]
        exact ih n1 n2 (k + 1) (l + 1) _ _ _ _ _ _ _ _ _ _ _ (by omega) (by omega) (by omega) (by omega) c6
theorem m_here (h : TC P R A st m2 m3 m4 m5 m6 m7 x1 x2 nul lsz lst by_ op val lF lM lT ls lw) {r : Nat} {br gr : Int32} {brs grs : Nat → Int32} (hb : Rd r br brs) (hg : Rd r gr grs) (hr : r + 20 < 100000) (has : Bool) (pe0 we0 sg0 g0 se0 md0 b1 b2 b3 b4 : Int32) (stk fa stops tg bvs fa2 pile stops2 : Nat → Int32) (p1 p2 p3 : Int32) :
    ∃ o1 o2, x8_here x1 x2 has lsz st pe0 we0 sg0 g0 se0 md0 stk lst br fa gr (I P) (I R) stops tg brs bvs (A 6) (A 4) (A 2) (A 5) (A 1) (A 0) (A 3) p1 p2 p3 = some o1 ∧ x9_here (I P) (I R) m4 m5 m6 m7 by_ b1 b2 b3 b4 fa2 (A 4) (A 3) (A 2) lF lM lT ls op pile (A 1) (A 6) (A 0) stops2 val p1 p2 p3 = some o2 ∧ o1.1 = o2.1 ∧ Rd (r + 20) o1.2.2.2.2.2.2.2.2.1 o1.2.2.2.2.2.2.2.2.2.2.2.2.2.1 ∧ Rd (r + 20) o1.2.2.2.2.2.2.2.2.2.2.1 grs := by
  have hl := h.1
  have hP := hl.1
  have hb0 := hb.mono (s := r + 20) (by omega)
  have hg0 := hg.mono (s := r + 20) (by omega)
  obtain ⟨hb1, hbf⟩ := hb.forget (by omega)
  obtain ⟨hg1, _⟩ := hg.forget (by omega)
  unfold x8_here x9_here
  obtain ⟨b, e1, e2, h2⟩ := moment_is hP p1
  rw [e1, e2, Option.bind_some, Option.bind_some]
  cases b
  · exact ⟨_, _, rfl, rfl, rfl, hb0, hg0⟩
  · obtain ⟨p, t, hp, ht, ep, et⟩ := h2 rfl
    rw [bif_t, bif_t]
    by_cases q1 : p2 < 0
    · rw [if_pos q1, if_pos q1]; exact ⟨_, _, rfl, rfl, rfl, hb0, hg0⟩
    · obtain ⟨b, e3, e4, h4⟩ := seeds_is (p2 / 10000)
      rw [if_neg q1, if_neg q1, e3, e4, Option.bind_some, Option.bind_some]
      cases b
      · exact ⟨_, _, rfl, rfl, rfl, hb0, hg0⟩
      · obtain ⟨W, hW1, hW, eW⟩ := h4 rfl
        obtain ⟨b, e5, e6, h6⟩ := min_is (p2 - p2 / 10000 * 10000)
        rw [bif_t, bif_t, e5, e6, Option.bind_some, Option.bind_some]
        cases b
        · exact ⟨_, _, rfl, rfl, rfl, hb0, hg0⟩
        · obtain ⟨w, hw, ew⟩ := h6 rfl
          rw [bif_t, bif_t]
          rcases upto_is p3 1 (by omega) with ⟨u, hu⟩ | ⟨z, hz, e9, u, u1, u2⟩
          · have u' : x9_within p3 0 1 = some false := u
            rw [u']
            rcases hu with hu | ⟨hu, hu'⟩
            · rw [if_pos hu]; exact ⟨_, _, rfl, rfl, rfl, hb0, hg0⟩
            · rw [if_neg hu, if_neg (show ¬ p3 ≤ 1 from hu')]; exact ⟨_, _, rfl, rfl, rfl, hb0, hg0⟩
          · have u' : x9_within p3 0 1 = some true := u
            obtain ⟨tg', e7, h7⟩ := m_prep h has pe0 we0 sg0 g0 se0 md0 br gr tg
            rw [if_neg u1, if_pos (show p3 ≤ 1 from u2), u', e7, Option.bind_some, Option.bind_some, bif_t]
            unfold x9_asIs
            rw [Option.bind_some]
            dsimp only
            have et' : p1 - p1 / 10000 * 10000 + (p2 - p2 / 10000 * 10000) = I (t + w) := by rw [et, ew, I_add]
            rw [et', eW]
            obtain ⟨o1, o2, f1, f2, f3, f4, f5, f6⟩ := hereLoop h has (ground := gr + 1) (g0 := m2) (md0 := 99) (tg := tg') ep et ew (by omega) ht hw hW1 hW (by omega : z < 2) e9 W yN yN 0 0 m7 stk fa stops brs bvs (!has) m7 fa2 pile stops2 (by omega) (by unfold yN; omega) (by unfold yN; omega) (by omega) (hbf bvs _)
            refine ⟨o1, o2, f1, f2, f3, ?_, ?_⟩
            · rw [f4]; exact (hb1.of (by omega) f5).mono (by omega)
            · rw [f6]; exact hg1.mono (by omega)
theorem arS_bd {bd : Nat → Nat → Option (Nat × Nat)} {g : Nat} (hbd : ∀ p t q, bd p t = some q → q.1 < 1440 ∧ Nn (A 5) q.2 ≤ 300) : ∀ n p t u, (arS bd A g n p t).1 = some u → u ≤ t ∨ u ≤ 1740 := by
  intro n
  induction n with
  | zero =>
    intro p t u h
    unfold arS at h
    by_cases q : p = g
    · rw [if_pos q] at h; injection h with h; omega
    · rw [if_neg q] at h; cases h
  | succ n ih =>
    intro p t u h
    unfold arS at h
    by_cases q : p = g
    · rw [if_pos q] at h; injection h with h; omega
    · rw [if_neg q] at h
      cases hb : bd p t with
      | none => rw [hb] at h; cases h
      | some v =>
        rw [hb] at h
        obtain ⟨h1, h2⟩ := hbd p t v hb
        have := ih _ _ u h
        omega
theorem ar_bd (hl : LandOk P R A) {pe we sg : Int32} {rl : Option Prog} {sd : Int32} {d : Nat → Nat} {ms g p t : Nat} (ht : t < 10000) : ∀ u, (arS (bdS A pe we sg lw rl sd d ms R) A g 20 p t).1 = some u → u < 100000 := by
  intro u hu
  have := arS_bd (A := A) (bd := bdS A pe we sg lw rl sd d ms R) (g := g) (fun p t q h => by
    obtain ⟨h1, h2, h3⟩ := lx_is _ _ _ h
    exact ⟨by omega, (hl.r h3).2.2.2.1.2.2⟩) 20 p t u hu
  omega
/-- the rule on both sides -/
def RC (has : Bool) (rsz : Int32) (ruw : Bool) (rst op val lF lM lT ls : Nat → Int32) (rl : Option Prog) : Prop := RlC (!has) rsz ruw rst rl ∧ RlM has op val lF lM lT ls rl
theorem m_lays (h : TC P R A st m2 m3 m4 m5 m6 m7 x1 x2 nul lsz lst by_ op val lF lM lT ls lw) {pe : Int32} (hpe : In pe 1 2) (sg sd : Int32) (fa2 pile st2 aw : Nat → Int32) :
    ∃ fa2' pile' st2' aw', x9_layStops (I R) m5 by_ pe sd sg fa2 (A 4) (A 3) (A 2) lF lM lT ls op pile (A 1) (A 6) (A 0) st2 val = some (fa2', pile', st2') ∧ StopsOk R A pe m5 sg lw sd R st2' ∧ x9_layAway (I P) (I R) aw (A 5) (A 3) (A 2) m2 = some aw' ∧ Row8 aw' (gD P R A m2) := by
  obtain ⟨hl, hset, _, _, hm⟩ := h
  obtain ⟨g, hg, e1, e2⟩ := goalI hset
  obtain ⟨fa2', pile', st2', e3, hS⟩ := r_layStops (seed := sd) (sg := sg) (we := m5) hl hpe hm fa2 pile st2
  obtain ⟨aw', e4, h4⟩ := m_away (hl.2.2.rd hl.1 hl.2.1) aw hg
  refine ⟨fa2', pile', st2', aw', e3, hS, by rw [e1]; exact e4, ?_⟩
  unfold gD
  rw [e2]; exact h4
theorem GC_of {pe we sg : Int32} {rl : Option Prog} {d : Nat → Nat} {uw : Bool} {r : Nat} {gr : Int32} {grs : Nat → Int32} (hg : Rd r gr grs) (hr : r + 1 < 100000) (gvs : Nat → Int32) : GC A pe we sg rl d uw (gr + 1) grs gvs := by
  obtain ⟨h1, h2⟩ := hg.forget hr
  exact ⟨fun Q _ _ => h2 gvs _, h1.rb (by omega)⟩
theorem m_goes (h : TC P R A st m2 m3 m4 m5 m6 m7 x1 x2 nul lsz lst by_ op val lF lM lT ls lw) {has : Bool} {rsz : Int32} {ruw : Bool} {rst : Nat → Int32} {rl : Option Prog} (hR : RC has rsz ruw rst op val lF lM lT ls rl) {r : Nat} {br gr : Int32} {brs grs : Nat → Int32} (hb : Rd r br brs) (hg : Rd r gr grs) (hr : r + 20 < 100000) (pe0 we0 sg0 g0 se0 md0 rides bd b1 b2 b3 b4 rd f0 : Int32) (stk rstk fa rid tg bvs gvs aw fa2 pile rid2 st2 : Nat → Int32) (p1 p2 : Int32) :
    ∃ o1 o2, x8_goes x1 x2 has lsz rsz ruw st pe0 we0 sg0 g0 se0 md0 rides bd stk lst rstk rst br fa gr (I P) (I R) rid tg brs bvs grs gvs (A 6) (A 4) (A 2) (A 5) (A 1) (A 0) (A 3) p1 p2 = some o1 ∧ x9_goes (I P) (I R) m2 m4 m5 m6 m7 by_ has b1 b2 b3 b4 rd f0 aw fa2 (A 4) (A 5) (A 3) (A 2) lF lM lT ls op pile (A 1) rid2 (A 6) (A 0) st2 val p1 p2 = some o2 ∧ o1.1 = o2.1 ∧ Rd (r + 20) o1.2.2.2.2.2.2.2.2.2.2.2.1 o1.2.2.2.2.2.2.2.2.2.2.2.2.2.2.2.2.1 ∧ Rd (r + 20) o1.2.2.2.2.2.2.2.2.2.2.2.2.2.1 o1.2.2.2.2.2.2.2.2.2.2.2.2.2.2.2.2.2.2.1 := by
  have hl := h.1
  have hP := hl.1
  have hpe : In m4 1 2 := h.2.1.2.2.2.2.2.2.2.2
  have hb0 := hb.mono (s := r + 20) (by omega)
  have hg0 := hg.mono (s := r + 20) (by omega)
  obtain ⟨hb1, hbf⟩ := hb.forget (by omega)
  obtain ⟨hg1, _⟩ := hg.forget (by omega)
  unfold x8_goes x9_goes
  obtain ⟨b, e1, e2, h2⟩ := moment_is hP p1
  rw [e1, e2, Option.bind_some, Option.bind_some]
  cases b
  · exact ⟨_, _, rfl, rfl, rfl, hb0, hg0⟩
  · obtain ⟨p, t, hp, ht, ep, et⟩ := h2 rfl
    rw [bif_t, bif_t]
    by_cases q1 : (-1 : Int32) ≤ p2
    · obtain ⟨tg', e7, h7⟩ := m_prep h has pe0 we0 sg0 g0 se0 md0 br gr tg
      obtain ⟨fa2', pile', st2', aw', e8, hS, e9, h9⟩ := m_lays h hpe m6 m7 fa2 pile st2 aw
      obtain ⟨g, hg8, eg, _⟩ := goalI h.2.1
      obtain ⟨bd', fa', rid', rs', vs', gs', gv', stk', rstk', f1, c1, c2, c3⟩ := m_arrival (we := m5) (sg := m6) (seed := m7) (ms := 99) (p := p) (t := t) hl hpe h.2.2.2.1 h7 hR.1 (by omega) hg8 (by omega) (by omega) (hbf bvs _) (GC_of hg (by omega) gvs) rides bd fa rid stk rstk
      obtain ⟨f0', fa3', pile3', rid3', f2, c4⟩ := r_arrives (ms := 99) (p := p) (t := t) hl hS h9 hR.2 (by omega) hg8 (by omega) (by omega) rd f0 fa2' pile' rid2
      rw [← eg, show I 99 = 99 from rfl] at f1 f2
      have hz := (hb1.of (by omega) c1.2).mono (s := r + 20) (by omega)
      have hy := (hg1.of (by omega) c2.2).mono (s := r + 20) (by omega)
      have hn := ar_bd (lw := lw) (pe := m4) (we := m5) (sg := m6) (rl := rl) (sd := m7) (d := gD P R A m2) (ms := 99) (g := g) (p := p) hl (show t < 10000 by omega)
      have hln : (arS (bdS A m4 m5 m6 lw rl m7 (gD P R A m2) 99 R) A g 20 p t).2.length ≤ 20 := arS_len 20 p t
      unfold x9_asIs
      rw [if_pos q1, if_pos q1, e7, Option.bind_some, Option.bind_some]
      dsimp only
      rw [e8, Option.bind_some, e9, Option.bind_some, et, ep]
      dsimp only
      rw [f1, f2, Option.bind_some, Option.bind_some]
      clear f1 f2 e7 e8 e9
      dsimp only
      generalize arS (bdS A m4 m5 m6 lw rl m7 (gD P R A m2) 99 R) A g 20 p t = Z at *
      rcases I_or p2 with ⟨k, hk, rfl⟩ | hneg
      · have k0 : (0 : Int32) ≤ I k := by show I 0 ≤ I k; rw [I_le (by omega) (by omega)]; omega
        rw [if_neg (show ¬ (I k = -1) from fun e => by rw [e] at k0; exact absurd k0 (by decide)), if_pos k0]
        by_cases c : Z.2.length ≤ k
        · rw [if_pos (show I Z.2.length ≤ I k by rw [I_le (by omega) (by omega)]; exact c), if_pos (show I Z.2.length ≤ I k by rw [I_le (by omega) (by omega)]; exact c)]
          exact ⟨_, _, rfl, rfl, rfl, hz, hy⟩
        · have hx : Z.2[k]? = some (Z.2[k]'(by omega)) := List.getElem?_eq_getElem (by omega)
          rw [if_neg (show ¬ (I Z.2.length ≤ I k) by rw [I_le (by omega) (by omega)]; exact c), if_neg (show ¬ (I Z.2.length ≤ I k) by rw [I_le (by omega) (by omega)]; exact c), if_neg (show ¬ (20 ≤ I k) by show ¬ (I 20 ≤ I k); rw [I_le (by omega) (by omega)]; omega), show inB (I k) 20 = true by rw [I_inB (by omega)]; exact decide_eq_true (by omega), bif_t, bif_t, I_clamp (by omega), c3 k _ hx, c4 k _ hx]
          exact ⟨_, _, rfl, rfl, rfl, hz, hy⟩
      · have e : p2 = -1 := by
          apply Int32.toInt_inj.mp
          rw [Int32.le_iff_toInt_le] at q1
          rw [Int32.lt_iff_toInt_lt] at hneg
          have a1 : (-1 : Int32).toInt = -1 := by decide
          have a2 : (0 : Int32).toInt = 0 := by decide
          omega
        subst e
        rw [if_pos (show (-1 : Int32) = -1 from rfl), if_neg (show ¬ (0 : Int32) ≤ -1 by decide), orNot_is hn, Option.bind_some]
        exact ⟨_, _, rfl, rfl, rfl, hz, hy⟩
    · rw [if_neg q1, if_neg q1]; exact ⟨_, _, rfl, rfl, rfl, hb0, hg0⟩
end trip
