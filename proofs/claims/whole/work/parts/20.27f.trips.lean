/-! dark, walks, two -/
section trip
variable {P R : Nat} {A : Nat → Nat → Int32} {st : Nat → Int32} {m2 m3 m4 m5 m6 m7 x1 x2 : Int32} {nul : Bool} {lsz : Int32} {lst : Nat → Int32} {by_ : Int32} {op val lF lM lT ls : Nat → Int32} {lw : Option Prog}
/-- later than the dusk, or never -/
theorem duskP {d : Nat} (hd : d ≤ 1439) {z : Option Nat} (hz : ∀ u, z = some u → u < 100000) : (I d < never z ∧ (notR z < 0 ∨ (¬ notR z < 0 ∧ I d < notR z))) ∨ (¬ I d < never z ∧ ¬ notR z < 0 ∧ ¬ I d < notR z) := by
  cases z with
  | none => exact Or.inl ⟨(by show I d < I 2147483647; rw [I_lt (by omega) (by omega)]; omega), Or.inl (by decide)⟩
  | some u =>
    have h2 : ¬ notR (some u) < 0 := by rw [notR_neg _ hz]; intro e; cases e
    by_cases c : I d < I u
    · exact Or.inl ⟨c, Or.inr ⟨h2, c⟩⟩
    · exact Or.inr ⟨c, h2, c⟩
theorem duskI (hs : SetOk st m2 m3 m4 m5 m6 m7) : ∃ d, d ≤ 1439 ∧ m3 = I d ∧ st 1 = I d ∧ st 5 = m7 := by
  obtain ⟨_, s1, _, _, _, s5, _, ⟨d, _, hd, rfl⟩, _⟩ := hs
  exact ⟨d, hd, rfl, s1, s5⟩
theorem darkLoop (h : TC P R A st m2 m3 m4 m5 m6 m7 x1 x2 nul lsz lst by_ op val lF lM lT ls lw) {has : Bool} {rsz : Int32} {ruw : Bool} {rst : Nat → Int32} {rl : Option Prog} (hR : RC has rsz ruw rst op val lF lM lT ls rl) {tg aw : Nat → Int32} (ht : Row8 tg (gD P R A m2)) (ha : Row8 aw (gD P R A m2)) {round ground : Int32} {p t W z : Nat} {p1 p3 : Int32} (hp : p < 8) (ht' : t < 1440) (ep : p1 / 10000 = I p) (et : p1 - p1 / 10000 * 10000 = I t) (hW1 : 1 ≤ W) (hW : W ≤ 40) (hz : z < 2) (hp3 : p3 = I z) :
    ∀ m n1 n2 k l se rides bd stk rstk fa rid rs vs gs gv bs rd f0 fa2 pile rid2 st2, k + m = W → m < n1 → m < n2 → l ≤ k → CacheOk round rs vs (bV A m4 m5 m6 lw) → GC A m4 m5 m6 rl (gD P R A m2) ruw ground gs gv →
      ∃ o1 o2, x8_dark_36 x1 x2 has lsz rsz ruw st m4 m5 m6 m2 99 lst rst round ground (I P) (I R) tg (A 6) (A 4) (A 2) (A 5) (A 1) (A 0) (A 3) p1 (I W) p3 n1 se rides bd stk rstk fa rid rs vs gs gv nul (!has) (I l) (I k) = some o1 ∧ x9_dark_49 (I P) (I R) m2 m3 m4 m5 m6 m7 by_ has by_ m4 m6 aw (A 4) (A 5) (A 3) (A 2) lF lM lT ls op (A 1) (A 6) (A 0) val p1 (I W) p3 n2 bs rd f0 fa2 pile rid2 st2 (I l) (I k) = some o2 ∧ o1.1 = o2.1 ∧ (o1.2.2.2.2.2.2.2.2.2.2.2.1 = round ∧ RB round o1.2.2.2.2.2.2.2.2.2.2.2.2.2.2.2.2.1) ∧ o1.2.2.2.2.2.2.2.2.2.2.2.2.2.1 = ground ∧ RB ground o1.2.2.2.2.2.2.2.2.2.2.2.2.2.2.2.2.2.2.1 := by
  have hpe : In m4 1 2 := h.2.1.2.2.2.2.2.2.2.2
  obtain ⟨d, hd, ed, s1, s5⟩ := duskI h.2.1
  have t1 : (1 : Int32).toNatClampNeg = 1 := by decide
  have t5 : (5 : Int32).toNatClampNeg = 5 := by decide
  intro m
  induction m with
  | zero =>
    intro n1 n2 k l se rides bd stk rstk fa rid rs vs gs gv bs rd f0 fa2 pile rid2 st2 hk h1 h2 hlk hC hG
    obtain ⟨n1, rfl⟩ : ∃ k, n1 = k + 1 := ⟨n1 - 1, by omega⟩
    obtain ⟨n2, rfl⟩ : ∃ k, n2 = k + 1 := ⟨n2 - 1, by omega⟩
    have g : I W ≤ I k := by rw [I_le (by omega) (by omega)]; omega
    rw [x8_dark_36, if_pos g, x9_dark_49, if_pos g, x8_dark_93, x9_dark_118, hp3]
    rcases lowterms l (by omega) W (by omega) z hz with q | q | ⟨q1, q2⟩
    · omega
    · omega
    · cases q3 : x9_lowest (I l) (I W) (I z) with
      | none => rw [q3] at q2; cases q2
      | some v =>
        rw [q1, q3]
        exact ⟨_, _, rfl, rfl, rfl, ⟨rfl, hC.2⟩, rfl, hG.2⟩
  | succ m ih =>
    intro n1 n2 k l se rides bd stk rstk fa rid rs vs gs gv bs rd f0 fa2 pile rid2 st2 hk h1 h2 hlk hC hG
    obtain ⟨n1, rfl⟩ : ∃ k, n1 = k + 1 := ⟨n1 - 1, by omega⟩
    obtain ⟨n2, rfl⟩ : ∃ k, n2 = k + 1 := ⟨n2 - 1, by omega⟩
    have g : ¬ (I W ≤ I k) := by rw [I_le (by omega) (by omega)]; omega
    obtain ⟨fa3', pile3', st2', _, e8, hS, _, _⟩ := m_lays h hpe m6 (m7 + I k) fa2 pile st2 aw
    obtain ⟨y, n, bd', fa', rid', rs', vs', gs', gv', stk', rstk', n4, f04, fa5, pile5, rid5, g1, g2, c1, c2, hy⟩ := m_arr h hR hpe ht ha hS hC hG (ms := 99) (p := p) (t := t) (by omega) hp (by omega) rides bd rd f0 fa rid stk rstk fa3' pile3' rid2
    rw [show I 99 = 99 from rfl] at g1 g2
    have hy1 : ∀ u, y = some u → u < 100000 := fun u hu => (hy u hu).2
    rw [x8_dark_36, if_neg g, x9_dark_49, if_neg g, show inB 5 6 = true by decide, show inB 1 6 = true by decide, t1, t5, s1, s5, et, ep, e8, Option.bind_some]
    simp only [bif_t]
    rw [g1, g2, Option.bind_some, Option.bind_some]
    dsimp only
    rw [ed]
    rcases duskP hd hy1 with ⟨q1, q2⟩ | ⟨q1, q2, q3⟩
    · rw [if_pos q1]
      rcases q2 with q2 | ⟨q2, q3⟩
      · rw [if_pos q2, x8_dark_87, x9_dark_108, x9_dark_109, I_succ, show I l + 0 = I l from I_add l 0, ← ed]
        exact ih n1 n2 (k + 1) l _ _ _ _ _ _ _ _ _ _ _ _ _ _ _ _ _ _ (by omega) (by omega) (by omega) (by omega) c1 c2
      · rw [if_neg q2, if_pos q3, x8_dark_87, x9_dark_108, x9_dark_109, I_succ, show I l + 0 = I l from I_add l 0, ← ed]
        exact ih n1 n2 (k + 1) l _ _ _ _ _ _ _ _ _ _ _ _ _ _ _ _ _ _ (by omega) (by omega) (by omega) (by omega) c1 c2
    · rw [if_neg q1, if_neg q2, if_neg q3, x8_dark_87, x9_dark_109, I_succ, I_succ, ← ed]
      exact ih n1 n2 (k + 1) (l + 1) _ _ _ _ _ _ _ _ _ _ _ _ _ _ _ _ _ _ (by omega) (by omega) (by omega) (by omega) c1 c2
theorem m_dark (h : TC P R A st m2 m3 m4 m5 m6 m7 x1 x2 nul lsz lst by_ op val lF lM lT ls lw) {has : Bool} {rsz : Int32} {ruw : Bool} {rst : Nat → Int32} {rl : Option Prog} (hR : RC has rsz ruw rst op val lF lM lT ls rl) {r : Nat} {br gr : Int32} {brs grs : Nat → Int32} (hb : Rd r br brs) (hg : Rd r gr grs) (hr : r + 20 < 100000) (pe0 we0 sg0 g0 se0 md0 rides bd b1 b2 b3 b4 rd f0 : Int32) (stk rstk fa rid tg bvs gvs aw fa2 pile rid2 st2 : Nat → Int32) (p1 p2 p3 : Int32) :
    ∃ o1 o2, x8_dark x1 x2 has lsz rsz ruw st pe0 we0 sg0 g0 se0 md0 rides bd stk lst rstk rst br fa gr (I P) (I R) rid tg brs bvs grs gvs (A 6) (A 4) (A 2) (A 5) (A 1) (A 0) (A 3) p1 p2 p3 = some o1 ∧ x9_dark (I P) (I R) m2 m3 m4 m5 m6 m7 by_ has b1 b2 b3 b4 rd f0 aw fa2 (A 4) (A 5) (A 3) (A 2) lF lM lT ls op pile (A 1) rid2 (A 6) (A 0) st2 val p1 p2 p3 = some o2 ∧ o1.1 = o2.1 ∧ Rd (r + 20) o1.2.2.2.2.2.2.2.2.2.2.2.1 o1.2.2.2.2.2.2.2.2.2.2.2.2.2.2.2.2.1 ∧ Rd (r + 20) o1.2.2.2.2.2.2.2.2.2.2.2.2.2.1 o1.2.2.2.2.2.2.2.2.2.2.2.2.2.2.2.2.2.2.1 := by
  have hl := h.1
  have hP := hl.1
  have hb0 := hb.mono (s := r + 20) (by omega)
  have hg0 := hg.mono (s := r + 20) (by omega)
  obtain ⟨hb1, hbf⟩ := hb.forget (by omega)
  obtain ⟨hg1, _⟩ := hg.forget (by omega)
  unfold x8_dark x9_dark
  obtain ⟨b, e1, e2, h2⟩ := moment_is hP p1
  rw [e1, e2, Option.bind_some, Option.bind_some]
  cases b
  · exact ⟨_, _, rfl, rfl, rfl, hb0, hg0⟩
  · obtain ⟨p, t, hp, ht, ep, et⟩ := h2 rfl
    obtain ⟨b, e3, e4, h4⟩ := seeds_is p2
    rw [bif_t, bif_t, e3, e4, Option.bind_some, Option.bind_some]
    cases b
    · exact ⟨_, _, rfl, rfl, rfl, hb0, hg0⟩
    · obtain ⟨W, hW1, hW, rfl⟩ := h4 rfl
      rw [bif_t, bif_t]
      rcases upto_is p3 1 (by omega) with ⟨u, hu⟩ | ⟨z, hz, e9, u, u1, u2⟩
      · have u' : x9_within p3 0 1 = some false := u
        rw [u']
        rcases hu with hu | ⟨hu, hu'⟩
        · rw [if_pos hu]; exact ⟨_, _, rfl, rfl, rfl, hb0, hg0⟩
        · rw [if_neg hu, if_neg (show ¬ p3 ≤ 1 from hu')]; exact ⟨_, _, rfl, rfl, rfl, hb0, hg0⟩
      · have u' : x9_within p3 0 1 = some true := u
        obtain ⟨tg', e7, h7⟩ := m_prep h has pe0 we0 sg0 g0 se0 md0 br gr tg
        obtain ⟨_, _, _, aw', _, _, e10, h9⟩ := m_lays h (h.2.1.2.2.2.2.2.2.2.2) m6 m7 fa2 pile st2 aw
        rw [if_neg u1, if_pos (show p3 ≤ 1 from u2), u', e7, Option.bind_some, Option.bind_some, bif_t]
        unfold x9_asIs
        rw [Option.bind_some]
        dsimp only
        rw [e10, Option.bind_some]
        obtain ⟨o1, o2, f1, f2, f3, ⟨f4, f5⟩, f6, f7⟩ := darkLoop h hR h7 h9 (round := br + 1) (ground := gr + 1) (show p < 8 by omega) ht ep et hW1 hW (by omega : z < 2) e9 W yN yN 0 0 m7 rides bd stk rstk fa rid brs bvs grs gvs m7 rd f0 fa2 pile rid2 st2 (by omega) (by unfold yN; omega) (by unfold yN; omega) (by omega) (hbf bvs _) (GC_of hg (by omega) gvs)
        refine ⟨o1, o2, f1, f2, f3, ?_, ?_⟩
        · rw [f4]; exact (hb1.of (by omega) f5).mono (by omega)
        · rw [f6]; exact (hg1.of (by omega) f7).mono (by omega)
theorem walkLoop (h : TC P R A st m2 m3 m4 m5 m6 m7 x1 x2 nul lsz lst by_ op val lF lM lT ls lw) {has : Bool} {rsz : Int32} {ruw : Bool} {rst : Nat → Int32} {rl : Option Prog} (hR : RC has rsz ruw rst op val lF lM lT ls rl) {ft mft : Nat → Int32} (hft : FootOk ft mft) {tg aw st2 : Nat → Int32} (ht : Row8 tg (gD P R A m2)) (ha : Row8 aw (gD P R A m2)) (hS : StopsOk R A m4 m5 m6 lw m7 R st2) {round ground : Int32} {p t : Nat} {p1 : Int32} (hp : p < P) (ht' : t < 1440) (ep : p1 / 10000 = I p) (et : p1 - p1 / 10000 * 10000 = I t) (p2 : Int32) :
    ∀ m n1 n2 k b l3 rides bd stk rstk fa rid rs vs gs gv rd f0 fa2 pile rid2, k + m = P → m < n1 → m < n2 → (∀ u, b = some u → u < 100000) → CacheOk round rs vs (bV A m4 m5 m6 lw) → GC A m4 m5 m6 rl (gD P R A m2) ruw ground gs gv →
      ∃ o1 o2, x8_walks_33 x1 x2 has lsz rsz ruw st m4 m5 m6 m2 m7 99 lst rst round ground (I P) (I R) tg (A 6) (A 4) ft (A 2) (A 5) (A 1) (A 0) (A 3) p1 p2 n1 rides bd stk rstk fa rid rs vs gs gv nul (!has) l3 (never b) (I k) = some o1 ∧ x9_walks_53 (I P) (I R) m2 m4 m5 m6 m7 by_ has by_ m4 m7 m6 aw (A 4) (A 5) (A 3) (A 2) lF lM lT ls mft op (A 1) (A 6) (A 0) st2 val p1 p2 (I p) n2 rd f0 fa2 pile rid2 l3 (notR b) (I k) = some o2 ∧ o1.1 = o2.1 ∧ (o1.2.2.2.2.2.2.2.2.2.2.2.1 = round ∧ RB round o1.2.2.2.2.2.2.2.2.2.2.2.2.2.2.2.2.1) ∧ o1.2.2.2.2.2.2.2.2.2.2.2.2.2.1 = ground ∧ RB ground o1.2.2.2.2.2.2.2.2.2.2.2.2.2.2.2.2.2.2.1 := by
  have hpe : In m4 1 2 := h.2.1.2.2.2.2.2.2.2.2
  have hP := h.1.1
  obtain ⟨rfl, hf1, hf2⟩ := hft
  intro m
  induction m with
  | zero =>
    intro n1 n2 k b l3 rides bd stk rstk fa rid rs vs gs gv rd f0 fa2 pile rid2 hk h1 h2 hbb hC hG
    obtain ⟨n1, rfl⟩ : ∃ k, n1 = k + 1 := ⟨n1 - 1, by omega⟩
    obtain ⟨n2, rfl⟩ : ∃ k, n2 = k + 1 := ⟨n2 - 1, by omega⟩
    have g : I P ≤ I k := by rw [I_le (by omega) (by omega)]; omega
    rw [x8_walks_33, if_pos g, x9_walks_53, if_pos g, x8_walks_118, x9_walks_152]
    by_cases q : p2 = 0
    · rw [if_pos q, if_pos q]; exact ⟨_, _, rfl, rfl, rfl, ⟨rfl, hC.2⟩, rfl, hG.2⟩
    · rw [if_neg q, if_neg q, orNot_is hbb]; exact ⟨_, _, rfl, rfl, rfl, ⟨rfl, hC.2⟩, rfl, hG.2⟩
  | succ m ih =>
    intro n1 n2 k b l3 rides bd stk rstk fa rid rs vs gs gv rd f0 fa2 pile rid2 hk h1 h2 hbb hC hG
    obtain ⟨n1, rfl⟩ : ∃ k, n1 = k + 1 := ⟨n1 - 1, by omega⟩
    obtain ⟨n2, rfl⟩ : ∃ k, n2 = k + 1 := ⟨n2 - 1, by omega⟩
    have g : ¬ (I P ≤ I k) := by rw [I_le (by omega) (by omega)]; omega
    have e8 : (8 : Int32) * I p + I k = I (8 * p + k) := by show I 8 * I p + I k = _; rw [I_mul, I_add]
    have e8' : I p * 8 + I k = I (8 * p + k) := by show I p * I 8 + I k = _; rw [I_mul, I_add, Nat.mul_comm]
    have i64 : inB (I (8 * p + k)) 64 = true := by rw [I_inB (by omega)]; exact decide_eq_true (by omega)
    have hpl : ∀ q, q < P → x3_hasPlace (I P) (I q) = some true := by
      intro q hq
      unfold x3_hasPlace
      rw [if_neg (show ¬ (I q < 0) by show ¬ (I q < I 0); rw [I_lt (by omega) (by omega)]; omega), if_neg (show ¬ (I P ≤ I q) by rw [I_le (by omega) (by omega)]; omega), if_neg (show ¬ (8 ≤ I q) by show ¬ (I 8 ≤ I q); rw [I_le (by omega) (by omega)]; omega)]
    obtain ⟨f, _, hf, ef⟩ := hf1 (8 * p + k)
    obtain ⟨z, n, bd', fa', rid', rs', vs', gs', gv', stk', rstk', n4, f04, fa5, pile5, rid5, g1, g2, c1, c2, hz⟩ := m_arr h hR hpe ht ha hS hC hG (ms := 99) (p := k) (t := t + f) (by omega) (by omega) (by omega) rides bd rd f0 fa rid stk rstk fa2 pile rid2
    rw [show I 99 = 99 from rfl] at g1 g2
    have hz1 : ∀ u, z = some u → u < 100000 := fun u hu => (hz u hu).2
    have onf : x3_onFoot (I P) mft (p1 / 10000) (I k) = some (I f) := by
      unfold x3_onFoot
      rw [ep, hpl p hp, hpl k (by omega), Option.bind_some, Option.bind_some, bif_t, bif_t, e8', i64, bif_t, I_clamp (by omega), ef]
    rw [x8_walks_33, if_neg g, x9_walks_53, if_neg g, onf, Option.bind_some, e8, i64, bif_t, I_clamp (by omega), ef, ep]
    -- what follows once one walks there
    have go : ∀ (F : Int32), (I t + F = I (t + f)) → ∃ o1 o2, (x8_walks_79 (fun z0 z1 z2 z3 z4 z5 z6 z7 z8 z9 z10 z11 z12 z13 z14 => x8_walks_33 x1 x2 has lsz rsz ruw st m4 m5 m6 m2 m7 99 lst rst round ground (I P) (I R) tg (A 6) (A 4) mft (A 2) (A 5) (A 1) (A 0) (A 3) p1 p2 n1 z0 z1 z2 z3 z4 z5 z6 z7 z8 z9 z10 z11 z12 z13 z14) x1 x2 has lsz rsz ruw st m4 m5 m6 m2 m7 99 lst rst round ground (I P) (I R) tg (A 6) (A 4) mft (A 2) (A 5) (A 1) (A 0) (A 3) p1 p2 rides bd stk rstk fa rid rs vs gs gv nul (!has) l3 (never b) (I k) F) = some o1 ∧ (x9_walks_110 (fun z0 z1 z2 z3 z4 z5 z6 z7 => x9_walks_53 (I P) (I R) m2 m4 m5 m6 m7 by_ has by_ m4 m7 m6 aw (A 4) (A 5) (A 3) (A 2) lF lM lT ls mft op (A 1) (A 6) (A 0) st2 val p1 p2 (I p) n2 z0 z1 z2 z3 z4 z5 z6 z7) (I P) (I R) m2 m4 m5 m6 m7 by_ has by_ m4 m7 m6 aw (A 4) (A 5) (A 3) (A 2) lF lM lT ls mft op (A 1) (A 6) (A 0) st2 val p1 p2 (I p) rd f0 fa2 pile rid2 l3 (notR b) (I k) (I k) (I t) F) = some o2 ∧ o1.1 = o2.1 ∧ (o1.2.2.2.2.2.2.2.2.2.2.2.1 = round ∧ RB round o1.2.2.2.2.2.2.2.2.2.2.2.2.2.2.2.2.1) ∧ o1.2.2.2.2.2.2.2.2.2.2.2.2.2.1 = ground ∧ RB ground o1.2.2.2.2.2.2.2.2.2.2.2.2.2.2.2.2.2.2.1 := by
      intro F hF
      rw [x8_walks_79, x9_walks_110, et, hF, g1, g2, Option.bind_some, Option.bind_some]
      dsimp only
      rcases pick hbb hz1 with ⟨q1, q2⟩ | ⟨q1, q0, q2⟩
      · rw [if_pos q1]
        rcases q2 with q2 | ⟨q0, q2, q3⟩
        · rw [if_pos q2, x8_walks_112, x9_walks_146, I_succ]
          exact ih n1 n2 (k + 1) b l3 _ _ _ _ _ _ _ _ _ _ _ _ _ _ _ (by omega) (by omega) (by omega) hbb c1 c2
        · rw [if_neg q0, if_neg q2, if_neg q3, x8_walks_112, x9_walks_146, I_succ]
          exact ih n1 n2 (k + 1) b l3 _ _ _ _ _ _ _ _ _ _ _ _ _ _ _ (by omega) (by omega) (by omega) hbb c1 c2
      · rw [if_neg q1, if_neg q0]
        rcases q2 with q2 | ⟨q2, q3⟩
        · rw [if_pos q2, x8_walks_112, x9_walks_138, x9_walks_146, I_succ]
          exact ih n1 n2 (k + 1) z _ _ _ _ _ _ _ _ _ _ _ _ _ _ _ _ (by omega) (by omega) (by omega) hz1 c1 c2
        · rw [if_neg q2, if_pos q3, x8_walks_112, x9_walks_138, x9_walks_146, I_succ]
          exact ih n1 n2 (k + 1) z _ _ _ _ _ _ _ _ _ _ _ _ _ _ _ _ (by omega) (by omega) (by omega) hz1 c1 c2
    by_cases q : k = p
    · have f0' : f = 0 := by
        have a := hf2 k (by omega)
        rw [show 9 * k = 8 * p + k by omega, ef, I_eq (by omega) (by omega)] at a
        exact a
      have qk : I k = I p := by rw [q]
      rw [if_pos (show I f = 0 by rw [f0']; rfl), if_pos qk, if_pos qk, x9_walks_90, if_pos qk, et]
      have G := go 0 (by rw [f0']; exact I_add t 0)
      rw [show I f = 0 by rw [f0']; rfl]
      exact G
    · have qk : ¬ (I k = I p) := by rw [I_eq (by omega) (by omega)]; exact q
      by_cases w : f = 0
      · have w' : I f = 0 := by rw [w]; rfl
        rw [if_pos w', if_neg qk, if_neg qk, if_pos w', x8_walks_112, x9_walks_146, I_succ]
        exact ih n1 n2 (k + 1) b l3 _ _ _ _ _ _ _ _ _ _ _ _ _ _ _ (by omega) (by omega) (by omega) hbb hC hG
      · have w' : ¬ (I f = 0) := by show ¬ (I f = I 0); rw [I_eq (by omega) (by omega)]; exact w
        rw [if_neg w', if_neg qk, if_neg w', x9_walks_90, if_neg qk, et]
        exact go (I f) (I_add t f)
end trip
