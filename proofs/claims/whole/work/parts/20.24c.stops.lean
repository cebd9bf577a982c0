/-! the k-th stop: the class -/
def gS (A : Nat → Nat → Int32) (pe we sg : Int32) (lw : Option Prog) (seed : Int32) (p x t : Nat) : Bool := decide (A 2 x = I p) && stB A pe we sg lw seed x t
/-- how many cars have stopped in [s, u) on roads below x -/
def tot (A : Nat → Nat → Int32) (pe we sg : Int32) (lw : Option Prog) (seed : Int32) (p s x u : Nat) : Nat := sm x (fun y => cu (gS A pe we sg lw seed p y) s u)
def Kth (A : Nat → Nat → Int32) (pe we sg : Int32) (lw : Option Prog) (seed : Int32) (R p s k : Nat) (r : Option Nat) : Prop :=
  (∃ t, s ≤ t ∧ t < 1440 ∧ tot A pe we sg lw seed p s R t < k ∧ k ≤ tot A pe we sg lw seed p s R (t + 1) ∧ r = some t) ∨ (tot A pe we sg lw seed p s R 1440 < k ∧ r = none)
theorem tot_mono {A : Nat → Nat → Int32} {pe we sg : Int32} {lw : Option Prog} {seed : Int32} {p s x u v : Nat} (h : u ≤ v) : tot A pe we sg lw seed p s x u ≤ tot A pe we sg lw seed p s x v := by
  refine sm_mono x (fun i _ => ?_)
  have := cu_mono (p := gS A pe we sg lw seed p i) (s := s) (u := u) (v - u)
  rw [show u + (v - u) = v by omega] at this
  exact this
theorem Kth.uniq {A : Nat → Nat → Int32} {pe we sg : Int32} {lw : Option Prog} {seed : Int32} {R p s k : Nat} {r q : Option Nat} (h : Kth A pe we sg lw seed R p s k r) (g : Kth A pe we sg lw seed R p s k q) : r = q := by
  rcases h with ⟨t, h1, h2, h3, h4, h5⟩ | ⟨h1, h2⟩
  · rcases g with ⟨u, g1, g2, g3, g4, g5⟩ | ⟨g1, g2⟩
    · have : t = u := by
        by_cases q1 : t < u
        · have := tot_mono (A := A) (pe := pe) (we := we) (sg := sg) (lw := lw) (seed := seed) (p := p) (s := s) (x := R) (show t + 1 ≤ u by omega)
          omega
        · by_cases q2 : u < t
          · have := tot_mono (A := A) (pe := pe) (we := we) (sg := sg) (lw := lw) (seed := seed) (p := p) (s := s) (x := R) (show u + 1 ≤ t by omega)
            omega
          · omega
      rw [h5, g5, this]
    · have := tot_mono (A := A) (pe := pe) (we := we) (sg := sg) (lw := lw) (seed := seed) (p := p) (s := s) (x := R) (show t + 1 ≤ 1440 by omega)
      omega
  · rcases g with ⟨u, g1, g2, g3, g4, g5⟩ | ⟨g1, g2⟩
    · have := tot_mono (A := A) (pe := pe) (we := we) (sg := sg) (lw := lw) (seed := seed) (p := p) (s := s) (x := R) (show u + 1 ≤ 1440 by omega)
      omega
    · rw [h2, g2]
def never (r : Option Nat) : Int32 := match r with
  | none => 2147483647
  | some t => I t
section trip
variable {P R : Nat} {A : Nat → Nat → Int32}
theorem befI {k had : Nat} {S : Nat → Nat} {stops : Nat → Int32} {C : Nat → Nat} (h : Wst k had S stops C) (hk : 1 ≤ k) : bef k had S ≤ 1440 := by
  unfold bef
  split
  · exact Nat.le_refl _
  · have := (h.2.2.1 (k - 1) (by have := h.1; omega)).2
    omega
/-- a road's cars -/
theorem m_road (h : LandOk P R A) {pe we sg seed : Int32} (hpe : In pe 1 2) {nul : Bool} {size : Int32} {steps : Nat → Int32} {lw : Option Prog} (hlw : LwC nul size steps lw) {round : Int32} {x : Nat} (hx : x < R) {p s k : Nat} (hp : A 2 x = I p) (hk : 1 ≤ k) (hk9 : k ≤ 9) (p1 p2 : Int32) (B : Nat → Nat)
    (k25 : (Nat → Int32) → (Nat → Int32) → (Nat → Int32) → (Nat → Int32) → (Nat → Int32) → Int32 → Int32 → Int32 → Option (Int32 × (Nat → Int32) × (Nat → Int32) × (Nat → Int32) × (Nat → Int32) × (Nat → Int32))) :
    ∀ m n u had S fa stops rounds values stk c, 1440 - u ≤ m → m < n → s ≤ u → s + c ≤ u → Wst k had S stops (fun t => B t + cu (gS A pe we sg lw seed p x) s (min u (t + 1))) → CacheOk round rounds values (bV A pe we sg lw) →
      ∃ had' S' fa' stops' rounds' values' stk', x7_stopAfter_76 k25 nul pe we sg seed round (I R) size (A 6) (A 4) (A 2) (A 1) (A 0) (A 3) steps p1 p2 (I k) (I x) n fa stops rounds values stk (I had) (I (bef k had S)) (ans A x (fnd (stB A pe we sg lw seed x) (bef k had S - u) u)) (I c) = k25 fa' stops' rounds' values' stk' (I had') (I (bef k had' S')) (I x + 1) ∧ Wst k had' S' stops' (fun t => B t + cu (gS A pe we sg lw seed p x) s (t + 1)) ∧ CacheOk round rounds' values' (bV A pe we sg lw) := by
  obtain ⟨_, ⟨e4, l4, l4'⟩, _⟩ := h.r hx
  have hg : ∀ w, gS A pe we sg lw seed p x w = stB A pe we sg lw seed x w := by
    intro w; unfold gS; rw [decide_eq_true hp, Bool.true_and]
  intro m
  induction m with
  | zero =>
    intro n u had S fa stops rounds values stk c hm hn hsu hc hW hC
    obtain ⟨n, rfl⟩ : ∃ k, n = k + 1 := ⟨n - 1, by omega⟩
    have hb := befI hW hk
    refine ⟨had, S, fa, stops, rounds, values, stk, ?_, ?_, hC⟩
    · rw [show bef k had S - u = 0 by omega]
      show x7_stopAfter_76 k25 nul pe we sg seed round (I R) size (A 6) (A 4) (A 2) (A 1) (A 0) (A 3) steps p1 p2 (I k) (I x) (n + 1) fa stops rounds values stk (I had) (I (bef k had S)) (-1) (I c) = _
      rw [x7_stopAfter_76]
      by_cases q : (1440 : Int32) ≤ I c
      · rw [if_pos q, x7_stopAfter_151]
      · rw [if_neg q, if_pos (by decide), x7_stopAfter_151]
    · refine hW.skip (fun t h1 h2 => ?_) (fun t => ?_) hk
      · rw [show min u (t + 1) = t + 1 by omega]
      · have := cu_mono (p := gS A pe we sg lw seed p x) (s := s) (u := min u (t + 1)) (t + 1 - min u (t + 1))
        rw [show min u (t + 1) + (t + 1 - min u (t + 1)) = t + 1 by omega] at this
        omega
  | succ m ih =>
    intro n u had S fa stops rounds values stk c hm hn hsu hc hW hC
    obtain ⟨n, rfl⟩ : ∃ k, n = k + 1 := ⟨n - 1, by omega⟩
    have hb := befI hW hk
    cases hf : fnd (stB A pe we sg lw seed x) (bef k had S - u) u with
    | none =>
      have hno := fnd_none' _ _ hf
      refine ⟨had, S, fa, stops, rounds, values, stk, ?_, ?_, hC⟩
      · show x7_stopAfter_76 k25 nul pe we sg seed round (I R) size (A 6) (A 4) (A 2) (A 1) (A 0) (A 3) steps p1 p2 (I k) (I x) (n + 1) fa stops rounds values stk (I had) (I (bef k had S)) (-1) (I c) = _
        rw [x7_stopAfter_76]
        by_cases q : (1440 : Int32) ≤ I c
        · rw [if_pos q, x7_stopAfter_151]
        · rw [if_neg q, if_pos (by decide), x7_stopAfter_151]
      · refine hW.skip (fun t h1 h2 => ?_) (fun t => ?_) hk
        · by_cases q : u ≤ t + 1
          · have := cu_flat (p := gS A pe we sg lw seed p x) (s := s) (u := u) hsu (t + 1 - u) (fun w h3 h4 => by rw [hg]; exact hno w h3 (by omega))
            rw [show u + (t + 1 - u) = t + 1 by omega] at this
            rw [this, show min u (t + 1) = u by omega]
          · rw [show min u (t + 1) = t + 1 by omega]
        · have := cu_mono (p := gS A pe we sg lw seed p x) (s := s) (u := min u (t + 1)) (t + 1 - min u (t + 1))
          rw [show min u (t + 1) + (t + 1 - min u (t + 1)) = t + 1 by omega] at this
          omega
    | some mi =>
      obtain ⟨f1, f2, f3, f4⟩ := fnd_some _ _ _ hf
      obtain ⟨s1, s2, s3⟩ := stB_is f3
      have hmb : mi < bef k had S := by omega
      obtain ⟨c1, c2⟩ := car_min (A := A) (x := x) (j := fc A x mi) l4 l4'
      rw [s2] at c2
      have hfcb : fc A x mi < 1440 := by omega
      obtain ⟨S', stops', had', e1, hW', hh'⟩ := hW.insert hk hk9 hmb (by omega)
      have hW2 : Wst k had' S' stops' (fun t => B t + cu (gS A pe we sg lw seed p x) s (min (mi + 1) (t + 1))) := by
        obtain ⟨w1, w2, w3, w4⟩ := hW'
        refine ⟨w1, w2, w3, fun t ht => ?_⟩
        rw [w4 t ht]
        congr 1
        show B t + cu (gS A pe we sg lw seed p x) s (min u (t + 1)) + _ = B t + cu (gS A pe we sg lw seed p x) s (min (mi + 1) (t + 1))
        by_cases q : mi ≤ t
        · have h1 := cu_flat (p := gS A pe we sg lw seed p x) (s := s) (u := u) hsu (mi - u) (fun w h3 h4 => by rw [hg]; exact f4 w h3 (by omega))
          rw [show u + (mi - u) = mi by omega] at h1
          rw [if_pos q, show min u (t + 1) = u by omega, show min (mi + 1) (t + 1) = mi + 1 by omega, cu_succ (by omega), h1, hg, f3, if_pos rfl]; omega
        · rw [if_neg q, show min (mi + 1) (t + 1) = t + 1 by omega, Nat.add_zero]
          by_cases q2 : u ≤ t + 1
          · have h1 := cu_flat (p := gS A pe we sg lw seed p x) (s := s) (u := u) hsu (t + 1 - u) (fun w h3 h4 => by rw [hg]; exact f4 w h3 (by omega))
            rw [show u + (t + 1 - u) = t + 1 by omega] at h1
            rw [h1, show min u (t + 1) = u by omega]
          · rw [show min u (t + 1) = t + 1 by omega]
      have hb' := befI hW2 hk
      have hk2 : had' ≤ k := hW2.1
      show ∃ had' S' fa' stops' rounds' values' stk', x7_stopAfter_76 k25 nul pe we sg seed round (I R) size (A 6) (A 4) (A 2) (A 1) (A 0) (A 3) steps p1 p2 (I k) (I x) (n + 1) fa stops rounds values stk (I had) (I (bef k had S)) (I (fc A x mi)) (I c) = _ ∧ _
      rw [x7_stopAfter_76, if_neg (by show ¬ (I 1440 ≤ I c); rw [I_le (by omega) (by omega)]; omega), if_neg (by show ¬ (_ < I 0); rw [I_lt (by omega) (by omega)]; omega), passI h hx (by omega), Option.bind_some, s2, e1, Option.bind_some]
      dsimp only
      have rest : ∀ t0, t0 = I (bef k had' S') → ∃ had'' S'' fa' stops'' rounds' values' stk', x7_stopAfter_129 k25 (fun z0 z1 z2 z3 z4 z5 z6 z7 z8 => x7_stopAfter_76 k25 nul pe we sg seed round (I R) size (A 6) (A 4) (A 2) (A 1) (A 0) (A 3) steps p1 p2 (I k) (I x) n z0 z1 z2 z3 z4 z5 z6 z7 z8) nul pe we sg seed round (I R) size (A 6) (A 4) (A 2) (A 1) (A 0) (A 3) steps p1 p2 (I k) (I x) fa stops' rounds values stk (I had') (I (fc A x mi)) (I c) t0 = k25 fa' stops'' rounds' values' stk' (I had'') (I (bef k had'' S'')) (I x + 1) ∧ Wst k had'' S'' stops'' (fun t => B t + cu (gS A pe we sg lw seed p x) s (t + 1)) ∧ CacheOk round rounds' values' (bV A pe we sg lw) := by
        intro t0 ht0
        obtain ⟨fa1, r1, v1, k1, e2, hC1⟩ := m_nextStop (seed := seed) h hpe hlw hx hb' hC (t := mi + 1) (by omega) fa stk
        rw [c2] at e2
        rw [x7_stopAfter_129, I_succ, I_succ, ht0, e2, Option.bind_some]
        exact ih n (mi + 1) had' S' fa1 stops' r1 v1 k1 (c + 1) (by omega) (by omega) (by omega) (by omega) hW2 hC1
      by_cases hhk : k ≤ had'
      · have hst := (hW2.2.2.1 (k - 1) (by omega)).1
        rw [if_pos (by rw [I_le (by omega) (by omega)]; exact hhk), I_pred hk, I_inB (by omega), decide_eq_true (by omega : k - 1 < 9), bif_t, I_clamp (by omega), hst]
        exact rest _ (by unfold bef; rw [if_neg (by omega)])
      · rw [if_neg (by rw [I_le (by omega) (by omega)]; exact hhk)]
        exact rest 1440 (by unfold bef; rw [if_pos (by omega)]; rfl)
/-- all roads -/
theorem m_roads25 (h : LandOk P R A) {pe we sg seed : Int32} (hpe : In pe 1 2) {nul : Bool} {size : Int32} {steps : Nat → Int32} {lw : Option Prog} (hlw : LwC nul size steps lw) {round : Int32} {p s k : Nat} (hp : p < 8) (hs : s < 1440) (hk : 1 ≤ k) (hk9 : k ≤ 9) :
    ∀ m n x had S fa stops rounds values stk, x + m = R → m < n → Wst k had S stops (fun t => tot A pe we sg lw seed p s x (t + 1)) → CacheOk round rounds values (bV A pe we sg lw) →
      ∃ r fa' stops' rounds' values' stk', x7_stopAfter_25 nul pe we sg seed round (I R) size (A 6) (A 4) (A 2) (A 1) (A 0) (A 3) steps (I p) (I s) (I k) n fa stops rounds values stk (I had) (I (bef k had S)) (I x) = some (never r, fa', stops', rounds', values', stk') ∧ Kth A pe we sg lw seed R p s k r ∧ CacheOk round rounds' values' (bV A pe we sg lw) := by
  have hR := h.2.1
  intro m
  induction m with
  | zero =>
    intro n x had S fa stops rounds values stk hx hn hW hC
    obtain ⟨n, rfl⟩ : ∃ k, n = k + 1 := ⟨n - 1, by omega⟩
    have hxR : x = R := by omega
    subst hxR
    obtain ⟨w1, w2, w3, w4⟩ := hW
    replace w4 : ∀ t, t < 1440 → cn S had t = min k (tot A pe we sg lw seed p s x (t + 1)) := w4
    rw [x7_stopAfter_25, if_pos (by rw [I_le (by omega) (by omega)]; omega), x7_stopAfter_157]
    by_cases hhk : k ≤ had
    · obtain ⟨v1, v2⟩ := w3 (k - 1) (by omega)
      rw [if_pos (by rw [I_le (by omega) (by omega)]; exact hhk), I_pred hk, I_inB (by omega), decide_eq_true (by omega : k - 1 < 9), bif_t, I_clamp (by omega), v1]
      have hk' : had = k := by omega
      have q1 : cn S had (S (k - 1)) = had := cn_all (fun j hj => w2 j (k - 1) (by omega) (by omega))
      have q2 := w4 (S (k - 1)) v2
      have q4 : tot A pe we sg lw seed p s x (S (k - 1)) < k := by
        by_cases hz : S (k - 1) = 0
        · rw [hz]
          have : tot A pe we sg lw seed p s x 0 = 0 := sm_zero x (fun i _ => cu_lo (Nat.zero_le _))
          omega
        · have q5 := w4 (S (k - 1) - 1) (by omega)
          rw [show S (k - 1) - 1 + 1 = S (k - 1) by omega] at q5
          have q6 : cn S had (S (k - 1) - 1) ≤ k - 1 := by
            have : cn S (k - 1 + 1) (S (k - 1) - 1) = cn S (k - 1) (S (k - 1) - 1) + (if S (k - 1) ≤ S (k - 1) - 1 then 1 else 0) := rfl
            rw [if_neg (by omega), show k - 1 + 1 = had by omega] at this
            have := cn_le S (k - 1) (S (k - 1) - 1)
            omega
          omega
      refine ⟨some (S (k - 1)), fa, stops, rounds, values, stk, rfl, Or.inl ⟨S (k - 1), ?_, v2, q4, by omega, rfl⟩, hC⟩
      by_cases q : s ≤ S (k - 1)
      · exact q
      · have : tot A pe we sg lw seed p s x (S (k - 1) + 1) = 0 := sm_zero x (fun i _ => cu_lo (by omega))
        omega
    · rw [if_neg (by rw [I_le (by omega) (by omega)]; exact hhk)]
      refine ⟨none, fa, stops, rounds, values, stk, rfl, Or.inr ⟨?_, rfl⟩, hC⟩
      have q1 : cn S had 1439 = had := cn_all (fun j hj => by have := (w3 j hj).2; omega)
      have q2 := w4 1439 (by omega)
      have q3 : tot A pe we sg lw seed p s x (1439 + 1) = tot A pe we sg lw seed p s x 1440 := rfl
      omega
  | succ m ih =>
    intro n x had S fa stops rounds values stk hx hn hW hC
    obtain ⟨n, rfl⟩ : ∃ k, n = k + 1 := ⟨n - 1, by omega⟩
    have hxR : x < R := by omega
    obtain ⟨_, _, ⟨e2, l2⟩, _, _, _⟩ := h.r hxR
    have hb := befI hW hk
    rw [x7_stopAfter_25, if_neg (by rw [I_le (by omega) (by omega)]; omega), startOf_I _ (by have := h.2.1; omega), Option.bind_some]
    by_cases hp2 : A 2 x = I p
    · rw [if_pos hp2, fcI h hxR (by omega), Option.bind_some]
      obtain ⟨fa1, r1, v1, k1, e1, hC1⟩ := m_nextStop (seed := seed) h hpe hlw hxR hb hC (t := s) (by omega) fa stk
      rw [e1, Option.bind_some]
      obtain ⟨had', S', fa', stops', rounds', values', stk', e3, hW', hC'⟩ := m_road (seed := seed) h hpe hlw (round := round) hxR (p := p) (s := s) (k := k) hp2 hk hk9 (I p) (I s) (fun t => tot A pe we sg lw seed p s x (t + 1)) (fun z0 z1 z2 z3 z4 z5 z6 z7 => x7_stopAfter_25 nul pe we sg seed round (I R) size (A 6) (A 4) (A 2) (A 1) (A 0) (A 3) steps (I p) (I s) (I k) n z0 z1 z2 z3 z4 z5 z6 z7) 1440 yN s had S fa1 stops r1 v1 k1 0 (by omega) (by unfold yN; omega) (Nat.le_refl _) (by omega) (by
        obtain ⟨w1, w2, w3, w4⟩ := hW
        refine ⟨w1, w2, w3, fun t ht => ?_⟩
        show cn S had t = min k (tot A pe we sg lw seed p s x (t + 1) + cu (gS A pe we sg lw seed p x) s (min s (t + 1)))
        rw [w4 t ht, cu_lo (by omega : min s (t + 1) ≤ s)]; rfl) hC1
      have e3' := e3
      rw [I_succ] at e3'
      obtain ⟨r, fa2, st2, r2, v2, k2, e4, q4, q5⟩ := ih n (x + 1) had' S' fa' stops' rounds' values' stk' (by omega) (by omega) hW' hC'
      exact ⟨r, fa2, st2, r2, v2, k2, e3'.trans e4, q4, q5⟩
    · rw [if_neg hp2, x7_stopAfter_151, I_succ]
      refine ih n (x + 1) had S fa stops rounds values stk (by omega) (by omega) ?_ hC
      obtain ⟨w1, w2, w3, w4⟩ := hW
      refine ⟨w1, w2, w3, fun t ht => ?_⟩
      rw [w4 t ht]
      congr 1
      show sm x _ = sm x _ + cu (gS A pe we sg lw seed p x) s (t + 1)
      have : ∀ n s, ct (gS A pe we sg lw seed p x) s n = 0 := by
        intro n s
        induction n with
        | zero => rfl
        | succ n ih => unfold ct; rw [ih, show gS A pe we sg lw seed p x (s + n) = false by unfold gS; rw [decide_eq_false hp2, Bool.false_and], if_neg (by decide)]
      unfold cu
      rw [this]; rfl
/-- the class: the k-th car that stops -/
theorem m_stopAfter (h : LandOk P R A) {pe we sg seed : Int32} (hpe : In pe 1 2) {nul : Bool} {size : Int32} {steps : Nat → Int32} {lw : Option Prog} (hlw : LwC nul size steps lw) {round : Int32} {rounds values : Nat → Int32} (hC : CacheOk round rounds values (bV A pe we sg lw)) {p s k : Nat} (hp : p < 8) (hs : s < 1440) (hk : 1 ≤ k) (hk9 : k ≤ 9) (fa stops stk : Nat → Int32) :
    ∃ r fa' stops' rounds' values' stk', x7_stopAfter nul pe we sg seed round fa (I R) size stops rounds values (A 6) (A 4) (A 2) (A 1) (A 0) (A 3) stk steps (I p) (I s) (I k) = some (never r, fa', stops', rounds', values', stk') ∧ Kth A pe we sg lw seed R p s k r ∧ CacheOk round rounds' values' (bV A pe we sg lw) := by
  unfold x7_stopAfter
  rw [if_neg (by show ¬ (_ < I 1); rw [I_lt (by omega) (by omega)]; omega), if_pos (by show _ ≤ I 9; rw [I_le (by omega) (by omega)]; omega)]
  have hb : bef k 0 (fun _ => 0) = 1440 := by unfold bef; rw [if_pos (by omega)]
  have := m_roads25 (seed := seed) h hpe hlw (round := round) hp hs hk hk9 R yN 0 0 (fun _ => 0) fa stops rounds values stk (by omega) (by have := h.2.1; unfold yN; omega) ⟨by omega, fun i j _ hj => absurd hj (Nat.not_lt_zero _), fun j hj => absurd hj (Nat.not_lt_zero _), fun t _ => by show 0 = min k 0; omega⟩ hC
  rw [hb] at this
  exact this
end trip
