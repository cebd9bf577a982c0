/-! safe, together -/
section trip
variable {P R : Nat} {A : Nat → Nat → Int32} {st : Nat → Int32} {m2 m3 m4 m5 m6 m7 x1 x2 : Int32} {nul : Bool} {lsz : Int32} {lst : Nat → Int32} {by_ : Int32} {op val lF lM lT ls : Nat → Int32} {lw : Option Prog}
theorem safe160 {ok : Nat → Bool} {sf : Nat → Int32} (hsf : ∀ e, e < 100 → (sf e = 0 ↔ ok e = false)) (a0 a1 a2 a3 a4 a5 a6 a7 : Int32) (a8 : Bool) (c1 c2 c3 c4 c5 c6 : Int32) (r1 r2 r3 r4 r5 r6 r7 r8 r9 r10 r11 r12 r13 r14 r15 r16 r17 r18 : Nat → Int32) (a9 : Int32) :
    ∀ m n d, d + m = 100 → m < n → ∃ o2, x9_safe_160 a0 a1 a2 a3 a4 a5 a6 a7 a9 a8 c1 c2 c3 c4 c5 c6 r1 r2 r3 sf r4 r5 r6 r7 r8 r9 r10 r11 r12 r13 r14 r15 r16 r17 r18 n (I d) = some o2 ∧ o2.1 = notR (fnd ok m d) := by
  intro m
  induction m with
  | zero =>
    intro n d hd hn
    obtain ⟨n, rfl⟩ : ∃ k, n = k + 1 := ⟨n - 1, by omega⟩
    rw [x9_safe_160, if_pos (show (100 : Int32) ≤ I d by show I 100 ≤ I d; rw [I_le (by omega) (by omega)]; omega)]
    exact ⟨_, rfl, rfl⟩
  | succ m ih =>
    intro n d hd hn
    obtain ⟨n, rfl⟩ : ∃ k, n = k + 1 := ⟨n - 1, by omega⟩
    have i : inB (I d) 100 = true := by rw [I_inB (by omega)]; exact decide_eq_true (by omega)
    rw [x9_safe_160, if_neg (show ¬ ((100 : Int32) ≤ I d) by show ¬ (I 100 ≤ I d); rw [I_le (by omega) (by omega)]; omega), i, bif_t, I_clamp (by omega), show fnd ok (m + 1) d = (if ok d = true then some d else fnd ok m (d + 1)) from rfl]
    by_cases q : sf d = 0
    · rw [if_pos q, (hsf d (by omega)).mp q, if_neg (show ¬ (false = true) by decide), I_succ]
      exact ih n (d + 1) (by omega) (by omega)
    · have : ok d = true := by
        cases c : ok d
        · exact absurd ((hsf d (by omega)).mpr c) q
        · rfl
      rw [if_neg q, this, if_pos rfl]; exact ⟨_, rfl, rfl⟩
theorem safe60 (h : TC P R A st m2 m3 m4 m5 m6 m7 x1 x2 nul lsz lst by_ op val lF lM lT ls lw) {has : Bool} {rsz : Int32} {ruw : Bool} {rst : Nat → Int32} {rl : Option Prog} (hR : RC has rsz ruw rst op val lF lM lT ls rl) {aw : Nat → Int32} (ha : Row8 aw (gD P R A m2)) {p t W : Nat} {p1 : Int32} (hp : p < 8) (ht' : t < 1440) (ep : p1 / 10000 = I p) (et : p1 - p1 / 10000 * 10000 = I t) (hW : W ≤ 40) :
    ∀ m n k bs rd f0 fa2 sf pile rid2 st2, k + m = W → m < n → (∀ e, e < 100 → (sf e = 0 ↔ okK P R A m2 m3 m4 m5 m6 m7 lw rl p t k e = false)) →
      ∃ o2, x9_safe_60 (I P) (I R) m2 m3 m4 m5 m6 m7 by_ has by_ m4 m6 aw (A 4) (A 5) (A 3) (A 2) lF lM lT ls op (A 1) (A 6) (A 0) val p1 (I W) n bs rd f0 fa2 sf pile rid2 st2 (I k) = some o2 ∧ o2.1 = notR (fnd (okK P R A m2 m3 m4 m5 m6 m7 lw rl p t W) 100 0) := by
  have hpe : In m4 1 2 := h.2.1.2.2.2.2.2.2.2.2
  intro m
  induction m with
  | zero =>
    intro n k bs rd f0 fa2 sf pile rid2 st2 hk hn hsf
    obtain ⟨n, rfl⟩ : ∃ k, n = k + 1 := ⟨n - 1, by omega⟩
    have hk' : k = W := by omega
    subst hk'
    rw [x9_safe_60, if_pos (show I k ≤ I k from Int32.le_refl _), x9_safe_158]
    exact safe160 hsf _ _ _ _ _ _ _ _ _ _ _ _ _ _ _ _ _ _ _ _ _ _ _ _ _ _ _ _ _ _ _ _ _ _ 100 yN 0 (by omega) (by unfold yN; omega)
  | succ m ih =>
    intro n k bs rd f0 fa2 sf pile rid2 st2 hk hn hsf
    obtain ⟨n, rfl⟩ : ∃ k, n = k + 1 := ⟨n - 1, by omega⟩
    have g : ¬ (I W ≤ I k) := by rw [I_le (by omega) (by omega)]; omega
    obtain ⟨fa3', pile3', st2', _, e8, hS, _, _⟩ := m_lays h hpe m6 (m7 + I k) fa2 pile st2 aw
    rw [x9_safe_60, if_neg g, e8, Option.bind_some]
    dsimp only
    obtain ⟨rd', f0', fa2', sf', pile', rid2', e1, h1⟩ := safe82 h hR ha (W := W) hp ht' ep et hS (fun z0 z1 z2 z3 z4 z5 z6 z7 z8 => x9_safe_60 (I P) (I R) m2 m3 m4 m5 m6 m7 by_ has by_ m4 m6 aw (A 4) (A 5) (A 3) (A 2) lF lM lT ls op (A 1) (A 6) (A 0) val p1 (I W) n z0 z1 z2 z3 z4 z5 z6 z7 z8) 100 yN 0 rd f0 fa3' sf pile3' rid2 (by omega) (by unfold yN; omega) (fun e he => by rw [if_neg (by omega)]; exact hsf e he)
    have e1' : x9_safe_82 (fun z0 z1 z2 z3 z4 z5 z6 z7 z8 => x9_safe_60 (I P) (I R) m2 m3 m4 m5 m6 m7 by_ has by_ m4 m6 aw (A 4) (A 5) (A 3) (A 2) lF lM lT ls op (A 1) (A 6) (A 0) val p1 (I W) n z0 z1 z2 z3 z4 z5 z6 z7 z8) (I P) (I R) m2 m3 m4 m5 m6 m7 by_ has by_ m4 (m7 + I k) m6 aw (A 4) (A 5) (A 3) (A 2) lF lM lT ls op (A 1) (A 6) (A 0) st2' val p1 (I W) (I k) yN rd f0 fa3' sf pile3' rid2 0 = _ := e1
    rw [e1']
    exact ih n (k + 1) _ _ _ _ _ _ _ _ (by omega) (by omega) h1
theorem safe35 (h : TC P R A st m2 m3 m4 m5 m6 m7 x1 x2 nul lsz lst by_ op val lF lM lT ls lw) {has : Bool} {rsz : Int32} {ruw : Bool} {rst : Nat → Int32} {rl : Option Prog} (hR : RC has rsz ruw rst op val lF lM lT ls rl) {aw : Nat → Int32} (ha : Row8 aw (gD P R A m2)) {p t W : Nat} {p1 : Int32} (hp : p < 8) (ht' : t < 1440) (ep : p1 / 10000 = I p) (et : p1 - p1 / 10000 * 10000 = I t) (hW : W ≤ 40) (bs rd f0 : Int32) (fa2 pile rid2 st2 : Nat → Int32) :
    ∀ m n d sf, d + m = 100 → m < n → (∀ e, e < d → (sf e = 0 ↔ hD R A e = false)) →
      ∃ o2, x9_safe_35 (I P) (I R) m2 m3 m4 m5 m6 m7 by_ has by_ m4 bs m6 rd f0 aw fa2 (A 4) (A 5) (A 3) (A 2) lF lM lT ls op pile (A 1) rid2 (A 6) (A 0) st2 val p1 (I W) n sf (I d) = some o2 ∧ o2.1 = notR (fnd (okK P R A m2 m3 m4 m5 m6 m7 lw rl p t W) 100 0) := by
  have hRR := h.1.2.1
  intro m
  induction m with
  | zero =>
    intro n d sf hd hn hsf
    obtain ⟨n, rfl⟩ : ∃ k, n = k + 1 := ⟨n - 1, by omega⟩
    rw [x9_safe_35, if_pos (show (100 : Int32) ≤ I d by show I 100 ≤ I d; rw [I_le (by omega) (by omega)]; omega), x9_safe_58]
    exact safe60 h hR ha hp ht' ep et hW W yN 0 bs rd f0 fa2 sf pile rid2 st2 (by omega) (by unfold yN; omega) (fun e he => by
      rw [hsf e (by omega)]
      unfold okK allB
      rw [Bool.and_true])
  | succ m ih =>
    intro n d sf hd hn hsf
    obtain ⟨n, rfl⟩ : ∃ k, n = k + 1 := ⟨n - 1, by omega⟩
    have i : inB (I d) 100 = true := by rw [I_inB (by omega)]; exact decide_eq_true (by omega)
    rw [x9_safe_35, if_neg (show ¬ ((100 : Int32) ≤ I d) by show ¬ (I 100 ≤ I d); rw [I_le (by omega) (by omega)]; omega), (hD_is hRR A (by omega)).1, Option.bind_some, i, bif_t, I_clamp (by omega), I_succ]
    refine ih n (d + 1) _ (by omega) (by omega) (fun e he => ?_)
    unfold upd
    by_cases q : e = d
    · rw [if_pos q, q]; exact nar0 _
    · rw [if_neg q]; exact hsf e (by omega)
theorem m_safe (h : TC P R A st m2 m3 m4 m5 m6 m7 x1 x2 nul lsz lst by_ op val lF lM lT ls lw) {has : Bool} {rsz : Int32} {ruw : Bool} {rst : Nat → Int32} {rl : Option Prog} (hR : RC has rsz ruw rst op val lF lM lT ls rl) {r : Nat} {br gr : Int32} {brs grs : Nat → Int32} (hb : Rd r br brs) (hg : Rd r gr grs) (hr : r + 20 < 100000) (pe0 we0 sg0 g0 se0 md0 rides bd b1 b2 b3 b4 rd f0 : Int32) (stk rstk fa rid tg bvs gvs aw fa2 sf pile rid2 st2 : Nat → Int32) (p1 p2 : Int32) :
    ∃ o1 o2, x8_safe x1 x2 has lsz rsz ruw st pe0 we0 sg0 g0 se0 md0 rides bd stk lst rstk rst br fa gr (I P) (I R) rid tg brs bvs grs gvs (A 6) (A 4) (A 2) (A 5) (A 1) (A 0) (A 3) p1 p2 = some o1 ∧ x9_safe (I P) (I R) m2 m3 m4 m5 m6 m7 by_ has b1 b2 b3 b4 rd f0 aw fa2 (A 4) sf (A 5) (A 3) (A 2) lF lM lT ls op pile (A 1) rid2 (A 6) (A 0) st2 val p1 p2 = some o2 ∧ o1.1 = o2.1 ∧ Rd (r + 20) o1.2.2.2.2.2.2.2.2.2.2.2.1 o1.2.2.2.2.2.2.2.2.2.2.2.2.2.2.2.2.1 ∧ Rd (r + 20) o1.2.2.2.2.2.2.2.2.2.2.2.2.2.1 o1.2.2.2.2.2.2.2.2.2.2.2.2.2.2.2.2.2.2.1 := by
  have hl := h.1
  have hP := hl.1
  have hb0 := hb.mono (s := r + 20) (by omega)
  have hg0 := hg.mono (s := r + 20) (by omega)
  obtain ⟨hb1, hbf⟩ := hb.forget (by omega)
  obtain ⟨hg1, _⟩ := hg.forget (by omega)
  unfold x8_safe x9_safe
  obtain ⟨b, e1, e2, h2⟩ := moment_is hP p1
  rw [e1, e2, Option.bind_some, Option.bind_some]
  cases b
  · exact ⟨_, _, rfl, rfl, rfl, hb0, hg0⟩
  · obtain ⟨p, t, hp, ht, ep, et⟩ := h2 rfl
    obtain ⟨b, e3, e4, h4⟩ := seeds_is p2
    rw [bif_t, bif_t, e3, e4, Option.bind_some, Option.bind_some]
    cases b
    · exact ⟨_, _, rfl, rfl, rfl, hb0, hg0⟩
    · obtain ⟨W, hW1, hW, rfl⟩ := h4 rfl
      obtain ⟨tg', e7, h7⟩ := m_prep h has pe0 we0 sg0 g0 se0 md0 br gr tg
      obtain ⟨_, _, _, aw', _, _, e10, h9⟩ := m_lays h (h.2.1.2.2.2.2.2.2.2.2) m6 m7 fa2 pile st2 aw
      rw [bif_t, bif_t, e7, Option.bind_some]
      unfold x9_asIs
      rw [Option.bind_some]
      dsimp only
      rw [e10, Option.bind_some]
      obtain ⟨o1, f1, f3, ⟨f4, f5⟩, f6, f7⟩ := safe23 h hR h7 (round := br + 1) (ground := gr + 1) (show p < 8 by omega) ht ep et hW 100 yN 0 m7 99 rides bd stk rstk fa rid brs bvs grs gvs (by omega) (by unfold yN; omega) (hbf bvs _) (GC_of hg (by omega) gvs)
      obtain ⟨o2, f8, f9⟩ := safe35 h hR h9 (show p < 8 by omega) ht ep et hW m7 rd f0 fa2 pile rid2 st2 100 yN 0 sf (by omega) (by unfold yN; omega) (fun e he => absurd he (Nat.not_lt_zero _))
      refine ⟨o1, o2, f1, f8, by rw [f3, f9], ?_, ?_⟩
      · rw [f4]; exact (hb1.of (by omega) f5).mono (by omega)
      · rw [f6]; exact (hg1.of (by omega) f7).mono (by omega)
end trip
