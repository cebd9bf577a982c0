/-! begin, sign, two -/
section trip
variable {P R : Nat} {A : Nat → Nat → Int32} {st : Nat → Int32} {m2 m3 m4 m5 m6 m7 x1 x2 : Int32} {nul : Bool} {lsz : Int32} {lst : Nat → Int32} {by_ : Int32} {op val lF lM lT ls : Nat → Int32} {lw : Option Prog}
theorem beginLoop (h : TC P R A st m2 m3 m4 m5 m6 m7 x1 x2 nul lsz lst by_ op val lF lM lT ls lw) {has : Bool} {rsz : Int32} {ruw : Bool} {rst : Nat → Int32} {rl : Option Prog} (hR : RC has rsz ruw rst op val lF lM lT ls rl) {tg aw st2 : Nat → Int32} (ht : Row8 tg (gD P R A m2)) (ha : Row8 aw (gD P R A m2)) (hS : StopsOk R A m4 m5 m6 lw m7 R st2) {round ground : Int32} {p : Nat} (hp : p < 8) (p2 : Int32) :
    ∀ m n1 n2 k b l3 rides bd stk rstk fa rid rs vs gs gv rd f0 fa2 pile rid2, k + m = 24 → m < n1 → m < n2 → (∀ u, b = some u → u < 100000) → CacheOk round rs vs (bV A m4 m5 m6 lw) → GC A m4 m5 m6 rl (gD P R A m2) ruw ground gs gv →
      ∃ o1 o2, x8_begin_36 x1 x2 has lsz rsz ruw st m4 m5 m6 m2 m7 99 lst rst round ground (I P) (I R) tg (A 6) (A 4) (A 2) (A 5) (A 1) (A 0) (A 3) (I p) p2 n1 rides bd stk rstk fa rid rs vs gs gv nul (!has) l3 (never b) (I k) = some o1 ∧ x9_begin_46 (I P) (I R) m2 m4 m5 m6 m7 by_ has by_ m4 m7 m6 aw (A 4) (A 5) (A 3) (A 2) lF lM lT ls op (A 1) (A 6) (A 0) st2 val (I p) p2 n2 rd f0 fa2 pile rid2 l3 (notR b) (I k) = some o2 ∧ o1.1 = o2.1 ∧ (o1.2.2.2.2.2.2.2.2.2.2.2.1 = round ∧ RB round o1.2.2.2.2.2.2.2.2.2.2.2.2.2.2.2.2.1) ∧ o1.2.2.2.2.2.2.2.2.2.2.2.2.2.1 = ground ∧ RB ground o1.2.2.2.2.2.2.2.2.2.2.2.2.2.2.2.2.2.2.1 := by
  have hpe : In m4 1 2 := h.2.1.2.2.2.2.2.2.2.2
  intro m
  induction m with
  | zero =>
    intro n1 n2 k b l3 rides bd stk rstk fa rid rs vs gs gv rd f0 fa2 pile rid2 hk h1 h2 hbb hC hG
    obtain ⟨n1, rfl⟩ : ∃ k, n1 = k + 1 := ⟨n1 - 1, by omega⟩
    obtain ⟨n2, rfl⟩ : ∃ k, n2 = k + 1 := ⟨n2 - 1, by omega⟩
    have g : (24 : Int32) ≤ I k := by show I 24 ≤ I k; rw [I_le (by omega) (by omega)]; omega
    rw [x8_begin_36, if_pos g, x9_begin_46, if_pos g, x8_begin_97, x9_begin_112]
    by_cases q : p2 = 0
    · rw [if_pos q, if_pos q]; exact ⟨_, _, rfl, rfl, rfl, ⟨rfl, hC.2⟩, rfl, hG.2⟩
    · rw [if_neg q, if_neg q, orNot_is hbb]; exact ⟨_, _, rfl, rfl, rfl, ⟨rfl, hC.2⟩, rfl, hG.2⟩
  | succ m ih =>
    intro n1 n2 k b l3 rides bd stk rstk fa rid rs vs gs gv rd f0 fa2 pile rid2 hk h1 h2 hbb hC hG
    obtain ⟨n1, rfl⟩ : ∃ k, n1 = k + 1 := ⟨n1 - 1, by omega⟩
    obtain ⟨n2, rfl⟩ : ∃ k, n2 = k + 1 := ⟨n2 - 1, by omega⟩
    have g : ¬ ((24 : Int32) ≤ I k) := by show ¬ (I 24 ≤ I k); rw [I_le (by omega) (by omega)]; omega
    have e60 : (60 : Int32) * I k = I (60 * k) := I_mul 60 k
    obtain ⟨z, n, bd', fa', rid', rs', vs', gs', gv', stk', rstk', n4, f04, fa5, pile5, rid5, g1, g2, c1, c2, hz⟩ := m_arr h hR hpe ht ha hS hC hG (ms := 99) (p := p) (t := 60 * k) (by omega) hp (by omega) rides bd rd f0 fa rid stk rstk fa2 pile rid2
    rw [show I 99 = 99 from rfl] at g1 g2
    have hz1 : ∀ u, z = some u → u < 100000 := fun u hu => (hz u hu).2
    rw [x8_begin_36, if_neg g, x9_begin_46, if_neg g, e60, g1, g2, Option.bind_some, Option.bind_some]
    dsimp only
    cases z with
    | none =>
      rw [if_pos (show never none = 2147483647 from rfl), if_pos (show notR none < 0 by decide), x8_begin_91, x9_begin_106, I_succ]
      exact ih n1 n2 (k + 1) b l3 _ _ _ _ _ _ _ _ _ _ _ _ _ _ _ (by omega) (by omega) (by omega) hbb c1 c2
    | some u =>
      have hu := hz u rfl
      have a1 : ¬ (never (some u) = 2147483647) := fun e => by have := (never_no hz1).mp e; cases this
      have a2 : ¬ (notR (some u) < 0) := by rw [notR_neg _ hz1]; intro e; cases e
      have a3 : never (some u) - I (60 * k) = never (some (u - 60 * k)) := I_sub (by omega)
      have a4 : notR (some u) - I (60 * k) = notR (some (u - 60 * k)) := I_sub (by omega)
      have hz2 : ∀ v, some (u - 60 * k) = some v → v < 100000 := fun v hv => by injection hv with hv; omega
      have a5 : ¬ (notR (some (u - 60 * k)) < 0) := by rw [notR_neg _ hz2]; intro e; cases e
      rw [if_neg a1, if_neg a2, a3, a4]
      rcases pick hbb hz2 with ⟨q1, q2⟩ | ⟨q1, _, q2⟩
      · rcases q2 with q2 | ⟨_, q2, q3⟩
        · exact absurd q2 a5
        · rw [if_pos q1, if_neg q2, if_neg q3, x8_begin_91, x9_begin_106, I_succ]
          exact ih n1 n2 (k + 1) b l3 _ _ _ _ _ _ _ _ _ _ _ _ _ _ _ (by omega) (by omega) (by omega) hbb c1 c2
      · rw [if_neg q1]
        rcases q2 with q2 | ⟨q2, q3⟩
        · rw [if_pos q2, x9_begin_93, x8_begin_91, x9_begin_106, e60, a4, I_succ]
          exact ih n1 n2 (k + 1) (some (u - 60 * k)) (I k) _ _ _ _ _ _ _ _ _ _ _ _ _ _ _ (by omega) (by omega) (by omega) hz2 c1 c2
        · rw [if_neg q2, if_pos q3, x9_begin_93, x8_begin_91, x9_begin_106, e60, a4, I_succ]
          exact ih n1 n2 (k + 1) (some (u - 60 * k)) (I k) _ _ _ _ _ _ _ _ _ _ _ _ _ _ _ (by omega) (by omega) (by omega) hz2 c1 c2
theorem m_begin (h : TC P R A st m2 m3 m4 m5 m6 m7 x1 x2 nul lsz lst by_ op val lF lM lT ls lw) {has : Bool} {rsz : Int32} {ruw : Bool} {rst : Nat → Int32} {rl : Option Prog} (hR : RC has rsz ruw rst op val lF lM lT ls rl) {r : Nat} {br gr : Int32} {brs grs : Nat → Int32} (hb : Rd r br brs) (hg : Rd r gr grs) (hr : r + 20 < 100000) (pe0 we0 sg0 g0 se0 md0 rides bd b1 b2 b3 b4 rd f0 : Int32) (stk rstk fa rid tg bvs gvs aw fa2 pile rid2 st2 : Nat → Int32) (p1 p2 : Int32) :
    ∃ o1 o2, x8_begin x1 x2 has lsz rsz ruw st pe0 we0 sg0 g0 se0 md0 rides bd stk lst rstk rst br fa gr (I P) (I R) rid tg brs bvs grs gvs (A 6) (A 4) (A 2) (A 5) (A 1) (A 0) (A 3) p1 p2 = some o1 ∧ x9_begin (I P) (I R) m2 m4 m5 m6 m7 by_ has b1 b2 b3 b4 rd f0 aw fa2 (A 4) (A 5) (A 3) (A 2) lF lM lT ls op pile (A 1) rid2 (A 6) (A 0) st2 val p1 p2 = some o2 ∧ o1.1 = o2.1 ∧ Rd (r + 20) o1.2.2.2.2.2.2.2.2.2.2.2.1 o1.2.2.2.2.2.2.2.2.2.2.2.2.2.2.2.2.1 ∧ Rd (r + 20) o1.2.2.2.2.2.2.2.2.2.2.2.2.2.1 o1.2.2.2.2.2.2.2.2.2.2.2.2.2.2.2.2.2.2.1 := by
  have hl := h.1
  have hP := hl.1
  have hpe : In m4 1 2 := h.2.1.2.2.2.2.2.2.2.2
  have hb0 := hb.mono (s := r + 20) (by omega)
  have hg0 := hg.mono (s := r + 20) (by omega)
  obtain ⟨hb1, hbf⟩ := hb.forget (by omega)
  obtain ⟨hg1, _⟩ := hg.forget (by omega)
  unfold x8_begin x9_begin
  rcases hasPlace_is hP p1 with ⟨e1, e2, p, hp, rfl⟩ | ⟨e1, e2⟩
  · rw [e1, e2, Option.bind_some, Option.bind_some, bif_t, bif_t]
    rcases upto_is p2 1 (by omega) with ⟨u, hu⟩ | ⟨z, hz, e9, u, u1, u2⟩
    · have u' : x9_within p2 0 1 = some false := u
      rw [u']
      rcases hu with hu | ⟨hu, hu'⟩
      · rw [if_pos hu]; exact ⟨_, _, rfl, rfl, rfl, hb0, hg0⟩
      · rw [if_neg hu, if_neg (show ¬ p2 ≤ 1 from hu')]; exact ⟨_, _, rfl, rfl, rfl, hb0, hg0⟩
    · have u' : x9_within p2 0 1 = some true := u
      obtain ⟨tg', e7, h7⟩ := m_prep h has pe0 we0 sg0 g0 se0 md0 br gr tg
      obtain ⟨fa3', pile3', st2', aw', e8, hS, e10, h9⟩ := m_lays h hpe m6 m7 fa2 pile st2 aw
      rw [if_neg u1, if_pos (show p2 ≤ 1 from u2), u', e7, Option.bind_some, Option.bind_some, bif_t]
      unfold x9_asIs
      rw [Option.bind_some]
      dsimp only
      rw [e8, Option.bind_some, e10, Option.bind_some]
      dsimp only
      obtain ⟨o1, o2, f1, f2, f3, ⟨f4, f5⟩, f6, f7⟩ := beginLoop h hR h7 h9 hS (show p < 8 by omega) p2 24 yN yN 0 none (-2) rides bd stk rstk fa rid brs bvs grs gvs rd f0 fa3' pile3' rid2 (by omega) (by unfold yN; omega) (by unfold yN; omega) (fun u hu => by cases hu) (hbf bvs _) (GC_of hg (by omega) gvs)
      refine ⟨o1, o2, f1, f2, f3, ?_, ?_⟩
      · rw [f4]; exact (hb1.of (by omega) f5).mono (by omega)
      · rw [f6]; exact (hg1.of (by omega) f7).mono (by omega)
  · rw [e1, e2]; exact ⟨_, _, rfl, rfl, rfl, hb0, hg0⟩
theorem jm_le {P k : Nat} (hP : P ≤ 8) (hk : k ≤ 9) : (I P ≤ I k - 1) ↔ P + 1 ≤ k := by
  rw [Int32.le_iff_toInt_le, Int32.toInt_sub, I_toInt (by omega), I_toInt (by omega), show (1 : Int32).toInt = 1 by decide, Int.bmod_def]
  omega
theorem jm_succ (k : Nat) : I k - 1 + 1 = I (k + 1) - 1 := by
  rw [← I_succ, Int32.sub_add_cancel, Int32.add_sub_cancel]
theorem signLoop (h : TC P R A st m2 m3 m4 m5 m6 m7 x1 x2 nul lsz lst by_ op val lF lM lT ls lw) {has : Bool} {rsz : Int32} {ruw : Bool} {rst : Nat → Int32} {rl : Option Prog} (hR : RC has rsz ruw rst op val lF lM lT ls rl) {tg aw : Nat → Int32} (ht : Row8 tg (gD P R A m2)) (ha : Row8 aw (gD P R A m2)) {p t B : Nat} {p1 : Int32} (hp : p < 8) (ht' : t < 1440) (ep : p1 / 10000 = I p) (et : p1 - p1 / 10000 * 10000 = I t) (hB : B < 100000) (p2 : Int32) :
    ∀ m n1 n2 k s b l3 sg rides bd stk rstk br fa gr rid rs vs gs gv bs rd f0 fa2 pile rid2 st2, k + m = P + 1 → m < n1 → m < n2 → (∀ u, b = some u → u < 100000) → s + m ≤ B → Rd s br rs → Rd s gr gs →
      ∃ o1 o2, x8_sign_33 x1 x2 has lsz rsz ruw st m4 m5 m2 m7 99 lst rst (I P) (I R) tg (A 6) (A 4) (A 2) (A 5) (A 1) (A 0) (A 3) p1 p2 n1 sg rides bd stk rstk br fa gr rid rs vs gs gv nul (!has) l3 (never b) (I k - 1) = some o1 ∧ x9_sign_42 (I P) (I R) m2 m4 m5 m6 m7 by_ has by_ m4 m7 aw (A 4) (A 5) (A 3) (A 2) lF lM lT ls op (A 1) (A 6) (A 0) val p1 p2 n2 bs rd f0 fa2 pile rid2 st2 l3 (notR b) (I k - 1) = some o2 ∧ o1.1 = o2.1 ∧ Rd B o1.2.2.2.2.2.2.2.2.2.2.2.1 o1.2.2.2.2.2.2.2.2.2.2.2.2.2.2.2.2.1 ∧ Rd B o1.2.2.2.2.2.2.2.2.2.2.2.2.2.1 o1.2.2.2.2.2.2.2.2.2.2.2.2.2.2.2.2.2.2.1 := by
  have hpe : In m4 1 2 := h.2.1.2.2.2.2.2.2.2.2
  have hP := h.1.1
  intro m
  induction m with
  | zero =>
    intro n1 n2 k s b l3 sg rides bd stk rstk br fa gr rid rs vs gs gv bs rd f0 fa2 pile rid2 st2 hk h1 h2 hbb hs hb hg
    obtain ⟨n1, rfl⟩ : ∃ k, n1 = k + 1 := ⟨n1 - 1, by omega⟩
    obtain ⟨n2, rfl⟩ : ∃ k, n2 = k + 1 := ⟨n2 - 1, by omega⟩
    have g : I P ≤ I k - 1 := by rw [jm_le hP (by omega)]; omega
    have hz := hb.mono (s := B) (by omega)
    have hy := hg.mono (s := B) (by omega)
    rw [x8_sign_33, if_pos g, x9_sign_42, if_pos g, x8_sign_93, x9_sign_112]
    by_cases q : p2 = 0
    · rw [if_pos q, if_pos q]; exact ⟨_, _, rfl, rfl, rfl, hz, hy⟩
    · rw [if_neg q, if_neg q, orNot_is hbb]; exact ⟨_, _, rfl, rfl, rfl, hz, hy⟩
  | succ m ih =>
    intro n1 n2 k s b l3 sg rides bd stk rstk br fa gr rid rs vs gs gv bs rd f0 fa2 pile rid2 st2 hk h1 h2 hbb hs hb hg
    obtain ⟨n1, rfl⟩ : ∃ k, n1 = k + 1 := ⟨n1 - 1, by omega⟩
    obtain ⟨n2, rfl⟩ : ∃ k, n2 = k + 1 := ⟨n2 - 1, by omega⟩
    have g : ¬ (I P ≤ I k - 1) := by rw [jm_le hP (by omega)]; omega
    obtain ⟨hb1, hbf⟩ := hb.forget (by omega)
    obtain ⟨hg1, _⟩ := hg.forget (by omega)
    obtain ⟨fa3', pile3', st2', _, e8, hS, _, _⟩ := m_lays h hpe (I k - 1) m7 fa2 pile st2 aw
    obtain ⟨z, n, bd', fa', rid', rs', vs', gs', gv', stk', rstk', n4, f04, fa5, pile5, rid5, g1, g2, c1, c2, hz⟩ := m_arr h hR hpe ht ha hS (hbf vs _) (GC_of hg (by omega) gv) (ms := 99) (p := p) (t := t) (by omega) hp (by omega) rides bd rd f0 fa rid stk rstk fa3' pile3' rid2
    rw [show I 99 = 99 from rfl] at g1 g2
    have hz1 : ∀ u, z = some u → u < 100000 := fun u hu => (hz u hu).2
    have hb2 := hb1.of (by omega) c1.2
    have hg2 := hg1.of (by omega) c2.2
    rw [x8_sign_33, if_neg g, x9_sign_42, if_neg g, x7_holdSign, x7_forget, x2_forget, x2_forget, et, ep, e8, Option.bind_some, Option.bind_some, Option.bind_some, Option.bind_some, Option.bind_some]
    dsimp only
    rw [g1, g2, Option.bind_some, Option.bind_some]
    dsimp only
    rcases pick hbb hz1 with ⟨q1, q2⟩ | ⟨q1, q0, q2⟩
    · rw [if_pos q1]
      rcases q2 with q2 | ⟨q0, q2, q3⟩
      · rw [if_pos q2, x8_sign_87, x9_sign_106, jm_succ]
        exact ih n1 n2 (k + 1) (s + 1) b l3 _ _ _ _ _ _ _ _ _ _ _ _ _ _ _ _ _ _ _ _ (by omega) (by omega) (by omega) hbb (by omega) hb2 hg2
      · rw [if_neg q0, if_neg q2, if_neg q3, x8_sign_87, x9_sign_106, jm_succ]
        exact ih n1 n2 (k + 1) (s + 1) b l3 _ _ _ _ _ _ _ _ _ _ _ _ _ _ _ _ _ _ _ _ (by omega) (by omega) (by omega) hbb (by omega) hb2 hg2
    · rw [if_neg q1, if_neg q0]
      rcases q2 with q2 | ⟨q2, q3⟩
      · rw [if_pos q2, x8_sign_87, x9_sign_99, x9_sign_106, jm_succ]
        exact ih n1 n2 (k + 1) (s + 1) z _ _ _ _ _ _ _ _ _ _ _ _ _ _ _ _ _ _ _ _ _ (by omega) (by omega) (by omega) hz1 (by omega) hb2 hg2
      · rw [if_neg q2, if_pos q3, x8_sign_87, x9_sign_99, x9_sign_106, jm_succ]
        exact ih n1 n2 (k + 1) (s + 1) z _ _ _ _ _ _ _ _ _ _ _ _ _ _ _ _ _ _ _ _ _ (by omega) (by omega) (by omega) hz1 (by omega) hb2 hg2
theorem m_sign (h : TC P R A st m2 m3 m4 m5 m6 m7 x1 x2 nul lsz lst by_ op val lF lM lT ls lw) {has : Bool} {rsz : Int32} {ruw : Bool} {rst : Nat → Int32} {rl : Option Prog} (hR : RC has rsz ruw rst op val lF lM lT ls rl) {r : Nat} {br gr : Int32} {brs grs : Nat → Int32} (hb : Rd r br brs) (hg : Rd r gr grs) (hr : r + 20 < 100000) (pe0 we0 sg0 g0 se0 md0 rides bd b1 b2 b3 b4 rd f0 : Int32) (stk rstk fa rid tg bvs gvs aw fa2 pile rid2 st2 : Nat → Int32) (p1 p2 : Int32) :
    ∃ o1 o2, x8_sign x1 x2 has lsz rsz ruw st pe0 we0 sg0 g0 se0 md0 rides bd stk lst rstk rst br fa gr (I P) (I R) rid tg brs bvs grs gvs (A 6) (A 4) (A 2) (A 5) (A 1) (A 0) (A 3) p1 p2 = some o1 ∧ x9_sign (I P) (I R) m2 m4 m5 m6 m7 by_ has b1 b2 b3 b4 rd f0 aw fa2 (A 4) (A 5) (A 3) (A 2) lF lM lT ls op pile (A 1) rid2 (A 6) (A 0) st2 val p1 p2 = some o2 ∧ o1.1 = o2.1 ∧ Rd (r + 20) o1.2.2.2.2.2.2.2.2.2.2.2.1 o1.2.2.2.2.2.2.2.2.2.2.2.2.2.2.2.2.1 ∧ Rd (r + 20) o1.2.2.2.2.2.2.2.2.2.2.2.2.2.1 o1.2.2.2.2.2.2.2.2.2.2.2.2.2.2.2.2.2.2.1 := by
  have hl := h.1
  have hP := hl.1
  have hpe : In m4 1 2 := h.2.1.2.2.2.2.2.2.2.2
  have hb0 := hb.mono (s := r + 20) (by omega)
  have hg0 := hg.mono (s := r + 20) (by omega)
  obtain ⟨hb1, hbf⟩ := hb.forget (by omega)
  obtain ⟨hg1, _⟩ := hg.forget (by omega)
  unfold x8_sign x9_sign
  obtain ⟨b, e1, e2, h2⟩ := moment_is hP p1
  rw [e1, e2, Option.bind_some, Option.bind_some]
  cases b
  · exact ⟨_, _, rfl, rfl, rfl, hb0, hg0⟩
  · obtain ⟨p, t, hp, ht, ep, et⟩ := h2 rfl
    rw [bif_t, bif_t]
    rcases upto_is p2 1 (by omega) with ⟨u, hu⟩ | ⟨z, hz, e9, u, u1, u2⟩
    · have u' : x9_within p2 0 1 = some false := u
      rw [u']
      rcases hu with hu | ⟨hu, hu'⟩
      · rw [if_pos hu]; exact ⟨_, _, rfl, rfl, rfl, hb0, hg0⟩
      · rw [if_neg hu, if_neg (show ¬ p2 ≤ 1 from hu')]; exact ⟨_, _, rfl, rfl, rfl, hb0, hg0⟩
    · have u' : x9_within p2 0 1 = some true := u
      obtain ⟨tg', e7, h7⟩ := m_prep h has pe0 we0 sg0 g0 se0 md0 br gr tg
      obtain ⟨_, _, _, aw', _, _, e10, h9⟩ := m_lays h hpe m6 m7 fa2 pile st2 aw
      rw [if_neg u1, if_pos (show p2 ≤ 1 from u2), u', e7, Option.bind_some, Option.bind_some, bif_t]
      unfold x9_asIs
      rw [Option.bind_some]
      dsimp only
      rw [e10, Option.bind_some]
      exact signLoop h hR h7 h9 (B := r + 20) (p1 := p1) (show p < 8 by omega) ht ep et (by omega) p2 (P + 1) yN yN 0 (r + 1) none (-1) m6 rides bd stk rstk (br + 1) fa (gr + 1) rid brs bvs grs gvs m6 rd f0 fa2 pile rid2 st2 (by omega) (by unfold yN; omega) (by unfold yN; omega) (fun u hu => by cases hu) (by omega) hb1 hg1
end trip
