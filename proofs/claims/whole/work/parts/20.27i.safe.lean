/-! safe, the rest -/
section trip
variable {P R : Nat} {A : Nat → Nat → Int32} {st : Nat → Int32} {m2 m3 m4 m5 m6 m7 x1 x2 : Int32} {nul : Bool} {lsz : Int32} {lst : Nat → Int32} {by_ : Int32} {op val lF lM lT ls : Nat → Int32} {lw : Option Prog}
/-- a danger's word after some seeds -/
def okK (P R : Nat) (A : Nat → Nat → Int32) (m2 m3 m4 m5 m6 m7 : Int32) (lw rl : Option Prog) (p t k d : Nat) : Bool := hD R A d && allB (gG P R A m2 m3 m4 m5 m6 m7 lw rl p t d) k
theorem safe23 (h : TC P R A st m2 m3 m4 m5 m6 m7 x1 x2 nul lsz lst by_ op val lF lM lT ls lw) {has : Bool} {rsz : Int32} {ruw : Bool} {rst : Nat → Int32} {rl : Option Prog} (hR : RC has rsz ruw rst op val lF lM lT ls rl) {tg : Nat → Int32} (ht : Row8 tg (gD P R A m2)) {round ground : Int32} {p t W : Nat} {p1 : Int32} (hp : p < 8) (ht' : t < 1440) (ep : p1 / 10000 = I p) (et : p1 - p1 / 10000 * 10000 = I t) (hW : W ≤ 40) :
    ∀ m n d se md rides bd stk rstk fa rid rs vs gs gv, d + m = 100 → m < n → CacheOk round rs vs (bV A m4 m5 m6 lw) → GC A m4 m5 m6 rl (gD P R A m2) ruw ground gs gv →
      ∃ o1, x8_safe_23 x1 x2 has lsz rsz ruw st m4 m5 m6 m2 lst rst round ground (I P) (I R) tg (A 6) (A 4) (A 2) (A 5) (A 1) (A 0) (A 3) p1 (I W) n se md rides bd stk rstk fa rid rs vs gs gv nul (!has) (I d) = some o1 ∧ o1.1 = notR (fnd (okK P R A m2 m3 m4 m5 m6 m7 lw rl p t W) m d) ∧ (o1.2.2.2.2.2.2.2.2.2.2.2.1 = round ∧ RB round o1.2.2.2.2.2.2.2.2.2.2.2.2.2.2.2.2.1) ∧ o1.2.2.2.2.2.2.2.2.2.2.2.2.2.1 = ground ∧ RB ground o1.2.2.2.2.2.2.2.2.2.2.2.2.2.2.2.2.2.2.1 := by
  have hRR := h.1.2.1
  intro m
  induction m with
  | zero =>
    intro n d se md rides bd stk rstk fa rid rs vs gs gv hd hn hC hG
    obtain ⟨n, rfl⟩ : ∃ k, n = k + 1 := ⟨n - 1, by omega⟩
    rw [x8_safe_23, if_pos (show (99 : Int32) < I d by show I 99 < I d; rw [I_lt (by omega) (by omega)]; omega)]
    exact ⟨_, rfl, rfl, ⟨rfl, hC.2⟩, rfl, hG.2⟩
  | succ m ih =>
    intro n d se md rides bd stk rstk fa rid rs vs gs gv hd hn hC hG
    obtain ⟨n, rfl⟩ : ∃ k, n = k + 1 := ⟨n - 1, by omega⟩
    have e : fnd (okK P R A m2 m3 m4 m5 m6 m7 lw rl p t W) (m + 1) d = if okK P R A m2 m3 m4 m5 m6 m7 lw rl p t W d = true then some d else fnd (okK P R A m2 m3 m4 m5 m6 m7 lw rl p t W) m (d + 1) := rfl
    rw [x8_safe_23, if_neg (show ¬ ((99 : Int32) < I d) by show ¬ (I 99 < I d); rw [I_lt (by omega) (by omega)]; omega)]
    have tst := safe61 h hR ht (round := round) (ground := ground) (W := W) (d := d) hp ht' ep et hW (by omega) (fun z0 z1 z2 z3 z4 z5 z6 z7 z8 z9 z10 z11 z12 z13 z14 => x8_safe_23 x1 x2 has lsz rsz ruw st m4 m5 m6 m2 lst rst round ground (I P) (I R) tg (A 6) (A 4) (A 2) (A 5) (A 1) (A 0) (A 3) p1 (I W) n z0 z1 z2 z3 z4 z5 z6 z7 z8 z9 z10 z11 z12 z13 z14) W yN 0 se rides bd stk rstk fa rid rs vs gs gv (by omega) (by unfold yN; omega) rfl hC hG
    obtain ⟨se', rides', bd', stk', rstk', fa', rid', rs', vs', gs', gv', c1, c2, et1⟩ := tst
    -- the test of one danger
    have go : hD R A d = true → ∃ o1, x8_safe_47 (fun z0 z1 z2 z3 z4 z5 z6 z7 z8 z9 z10 z11 z12 z13 z14 => x8_safe_23 x1 x2 has lsz rsz ruw st m4 m5 m6 m2 lst rst round ground (I P) (I R) tg (A 6) (A 4) (A 2) (A 5) (A 1) (A 0) (A 3) p1 (I W) n z0 z1 z2 z3 z4 z5 z6 z7 z8 z9 z10 z11 z12 z13 z14) x1 x2 has lsz rsz ruw st m4 m5 m6 m2 lst rst round ground (I P) (I R) tg (A 6) (A 4) (A 2) (A 5) (A 1) (A 0) (A 3) p1 (I W) se md rides bd stk rstk fa rid rs vs gs gv nul (!has) (I d) = some o1 ∧ o1.1 = notR (fnd (okK P R A m2 m3 m4 m5 m6 m7 lw rl p t W) (m + 1) d) ∧ (o1.2.2.2.2.2.2.2.2.2.2.2.1 = round ∧ RB round o1.2.2.2.2.2.2.2.2.2.2.2.2.2.2.2.2.1) ∧ o1.2.2.2.2.2.2.2.2.2.2.2.2.2.1 = ground ∧ RB ground o1.2.2.2.2.2.2.2.2.2.2.2.2.2.2.2.2.2.2.1 := by
      intro hh
      rw [x8_safe_47]
      have et2 : x8_safe_61 (fun z0 z1 z2 z3 z4 z5 z6 z7 z8 z9 z10 z11 z12 z13 z14 => x8_safe_23 x1 x2 has lsz rsz ruw st m4 m5 m6 m2 lst rst round ground (I P) (I R) tg (A 6) (A 4) (A 2) (A 5) (A 1) (A 0) (A 3) p1 (I W) n z0 z1 z2 z3 z4 z5 z6 z7 z8 z9 z10 z11 z12 z13 z14) x1 x2 has lsz rsz ruw st m4 m5 m6 m2 (I d) lst rst round ground (I P) (I R) tg (A 6) (A 4) (A 2) (A 5) (A 1) (A 0) (A 3) p1 (I W) (I d) yN se rides bd stk rstk fa rid rs vs gs gv nul (!has) 1 0 = _ := et1
      rw [et2, e]
      unfold okK
      rw [hh, Bool.true_and]
      cases hall : allB (gG P R A m2 m3 m4 m5 m6 m7 lw rl p t d) W
      · rw [if_neg (show ¬ (false = true) by decide), if_neg (show ¬ (false = true) by decide)]
        exact ih n (d + 1) _ _ _ _ _ _ _ _ _ _ _ _ (by omega) (by omega) c1 c2
      · rw [if_pos rfl, if_pos rfl]
        exact ⟨_, rfl, rfl, ⟨rfl, c1.2⟩, rfl, c2.2⟩
    by_cases q : d = 0
    · rw [if_pos (show I d ≤ 0 by show I d ≤ I 0; rw [I_le (by omega) (by omega)]; omega)]
      exact go (by unfold hD; rw [decide_eq_true q, Bool.or_true])
    · rw [if_neg (show ¬ (I d ≤ 0) by show ¬ (I d ≤ I 0); rw [I_le (by omega) (by omega)]; omega), (hD_is hRR A (by omega)).2 q, Option.bind_some]
      cases hh : hD R A d
      · have e' : okK P R A m2 m3 m4 m5 m6 m7 lw rl p t W d = false := by unfold okK; rw [hh, Bool.false_and]
        rw [bif_f, x8_safe_134, I_succ, e, e', if_neg (show ¬ (false = true) by decide)]
        exact ih n (d + 1) _ _ _ _ _ _ _ _ _ _ _ _ (by omega) (by omega) hC hG
      · rw [bif_t]; exact go hh
/-- the dangers of one seed, in the reference -/
theorem safe82 (h : TC P R A st m2 m3 m4 m5 m6 m7 x1 x2 nul lsz lst by_ op val lF lM lT ls lw) {has : Bool} {rsz : Int32} {ruw : Bool} {rst : Nat → Int32} {rl : Option Prog} (hR : RC has rsz ruw rst op val lF lM lT ls rl) {aw st2 : Nat → Int32} (ha : Row8 aw (gD P R A m2)) {p t W k : Nat} {p1 : Int32} (hp : p < 8) (ht' : t < 1440) (ep : p1 / 10000 = I p) (et : p1 - p1 / 10000 * 10000 = I t) (hS : StopsOk R A m4 m5 m6 lw (m7 + I k) R st2)
    (k60 : Int32 → Int32 → Int32 → (Nat → Int32) → (Nat → Int32) → (Nat → Int32) → (Nat → Int32) → (Nat → Int32) → Int32 → Option (Int32 × Int32 × Int32 × Int32 × Int32 × Int32 × Int32 × (Nat → Int32) × (Nat → Int32) × (Nat → Int32) × (Nat → Int32) × (Nat → Int32) × (Nat → Int32))) :
    ∀ m n d rd f0 fa2 sf pile rid2, d + m = 100 → m < n → (∀ e, e < 100 → (sf e = 0 ↔ okK P R A m2 m3 m4 m5 m6 m7 lw rl p t (if e < d then k + 1 else k) e = false)) →
      ∃ rd' f0' fa2' sf' pile' rid2', x9_safe_82 k60 (I P) (I R) m2 m3 m4 m5 m6 m7 by_ has by_ m4 (m7 + I k) m6 aw (A 4) (A 5) (A 3) (A 2) lF lM lT ls op (A 1) (A 6) (A 0) st2 val p1 (I W) (I k) n rd f0 fa2 sf pile rid2 (I d) = k60 (m7 + I k) rd' f0' fa2' sf' pile' rid2' st2 (I (k + 1)) ∧ ∀ e, e < 100 → (sf' e = 0 ↔ okK P R A m2 m3 m4 m5 m6 m7 lw rl p t (k + 1) e = false) := by
  obtain ⟨u, hu, ed, s1, s5⟩ := duskI h.2.1
  intro m
  induction m with
  | zero =>
    intro n d rd f0 fa2 sf pile rid2 hd hn hsf
    obtain ⟨n, rfl⟩ : ∃ k, n = k + 1 := ⟨n - 1, by omega⟩
    rw [x9_safe_82, if_pos (show (100 : Int32) ≤ I d by show I 100 ≤ I d; rw [I_le (by omega) (by omega)]; omega), x9_safe_152, I_succ]
    refine ⟨_, _, _, _, _, _, rfl, fun e he => ?_⟩
    have := hsf e he
    rw [if_pos (by omega)] at this
    exact this
  | succ m ih =>
    intro n d rd f0 fa2 sf pile rid2 hd hn hsf
    obtain ⟨n, rfl⟩ : ∃ k, n = k + 1 := ⟨n - 1, by omega⟩
    have i : inB (I d) 100 = true := by rw [I_inB (by omega)]; exact decide_eq_true (by omega)
    have hdd := hsf d (by omega)
    rw [if_neg (by omega)] at hdd
    rw [x9_safe_82, if_neg (show ¬ ((100 : Int32) ≤ I d) by show ¬ (I 100 ≤ I d); rw [I_le (by omega) (by omega)]; omega), i, bif_t, I_clamp (by omega)]
    -- a new word for d
    have nw : ∀ (v : Int32), (v = 0 ↔ okK P R A m2 m3 m4 m5 m6 m7 lw rl p t (k + 1) d = false) → ∀ e, e < 100 → (upd sf d v e = 0 ↔ okK P R A m2 m3 m4 m5 m6 m7 lw rl p t (if e < d + 1 then k + 1 else k) e = false) := by
      intro v hv e he
      unfold upd
      by_cases q : e = d
      · rw [if_pos q, if_pos (by omega), q]; exact hv
      · rw [if_neg q]
        have := hsf e he
        by_cases w : e < d
        · rw [if_pos w] at this; rw [if_pos (by omega)]; exact this
        · rw [if_neg w] at this; rw [if_neg (by omega)]; exact this
    by_cases q : sf d = 0
    · have q' := hdd.mp q
      have q2 : okK P R A m2 m3 m4 m5 m6 m7 lw rl p t (k + 1) d = false := by
        unfold okK at q' ⊢
        unfold allB
        rw [← Bool.and_assoc, q', Bool.false_and]
      rw [if_pos q, x9_safe_146, I_succ]
      refine ih n (d + 1) _ _ _ _ _ _ (by omega) (by omega) (fun e he => ?_)
      have := nw 0 (iff_of_true rfl q2) e he
      unfold upd at this
      by_cases w : e = d
      · rw [if_pos w] at this; rw [w] at this ⊢; exact iff_of_true q (this.mp rfl)
      · rw [if_neg w] at this; exact this
    · have q1 : okK P R A m2 m3 m4 m5 m6 m7 lw rl p t k d = true := by
        cases c : okK P R A m2 m3 m4 m5 m6 m7 lw rl p t k d
        · exact absurd (hdd.mpr c) q
        · rfl
      have q3 : okK P R A m2 m3 m4 m5 m6 m7 lw rl p t (k + 1) d = gG P R A m2 m3 m4 m5 m6 m7 lw rl p t d k := by
        unfold okK at q1 ⊢
        unfold allB
        rw [← Bool.and_assoc, q1, Bool.true_and]
      obtain ⟨n2, f0', fa2', pile', rid2', g2⟩ := r_arrX (k := k) (p := p) (t := t) h hR ha hS (show d ≤ 99 by omega) hp (by omega) rd f0 fa2 pile rid2
      rw [if_neg q, et, ep, g2, Option.bind_some]
      dsimp only
      have b0 : (vp_nar .boolean (0 : Int32)) = 0 := by decide
      have b1 : ¬ ((vp_nar .boolean (1 : Int32)) = 0) := by decide
      rcases duskP hu (zz_bd (m2 := m2) (m4 := m4) (m5 := m5) (m6 := m6) (m7 := m7) (lw := lw) (rl := rl) (p := p) (d := d) (k := k) h.1 (show t < 10000 by omega)) with ⟨w1, w2⟩ | ⟨w1, w2, w3⟩
      · have gno : gG P R A m2 m3 m4 m5 m6 m7 lw rl p t d k = false := by unfold gG; rw [ed, decide_eq_true w1]; rfl
        have nx := nw (vp_nar .boolean 0) (iff_of_true b0 (by rw [q3, gno]))
        rcases w2 with w2 | ⟨w2, w3⟩
        · rw [if_pos w2, x9_safe_144, x9_safe_145, i, bif_t, x9_safe_146, I_clamp (by omega), I_succ]
          exact ih n (d + 1) _ _ _ _ _ _ (by omega) (by omega) nx
        · rw [if_neg w2, if_pos (show m3 < _ by rw [ed]; exact w3), x9_safe_144, x9_safe_145, i, bif_t, x9_safe_146, I_clamp (by omega), I_succ]
          exact ih n (d + 1) _ _ _ _ _ _ (by omega) (by omega) nx
      · have gyes : gG P R A m2 m3 m4 m5 m6 m7 lw rl p t d k = true := by unfold gG; rw [ed, decide_eq_false w1]; rfl
        have nx := nw (vp_nar .boolean 1) ⟨fun e => absurd e b1, fun e => by rw [q3, gyes] at e; cases e⟩
        rw [if_neg w2, if_neg (show ¬ (m3 < _) by rw [ed]; exact w3), x9_safe_145, i, bif_t, x9_safe_146, I_clamp (by omega), I_succ]
        exact ih n (d + 1) _ _ _ _ _ _ (by omega) (by omega) nx
end trip
