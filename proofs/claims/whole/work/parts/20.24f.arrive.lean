/-! how one goes till the goal -/
def bdS (A : Nat → Nat → Int32) (pe we sg : Int32) (lw rl : Option Prog) (seed : Int32) (d : Nat → Nat) (ms R p s : Nat) : Option (Nat × Nat) := lx (Gd A pe we sg lw rl seed d ms p s) R (1440 - s) s
def arS (bd : Nat → Nat → Option (Nat × Nat)) (A : Nat → Nat → Int32) (g : Nat) : Nat → Nat → Nat → Option Nat × List Nat
  | 0, p, t => (if p = g then some t else none, [])
  | n + 1, p, t => if p = g then (some t, []) else match bd p t with
    | none => (none, [])
    | some q => ((arS bd A g n (Nn (A 3) q.2) (q.1 + Nn (A 5) q.2)).1, q.2 :: (arS bd A g n (Nn (A 3) q.2) (q.1 + Nn (A 5) q.2)).2)
theorem lx_is {G : Nat → Nat → Bool} {R : Nat} : ∀ n t q, lx G R n t = some q → t ≤ q.1 ∧ q.1 < t + n ∧ q.2 < R := by
  intro n
  induction n with
  | zero => intro t q h; cases h
  | succ n ih =>
    intro t q h
    unfold lx at h
    cases hf : fnd (fun x => G x t) R 0 with
    | none =>
      rw [hf] at h
      have := ih (t + 1) q h
      exact ⟨by omega, by omega, this.2.2⟩
    | some x =>
      rw [hf] at h
      have h1 := fnd_some _ _ _ hf
      have h2 : (t, x) = q := by injection h
      rw [← h2]; exact ⟨Nat.le_refl _, by show t < t + (n + 1); omega, by show x < R; omega⟩
section trip
variable {P R : Nat} {A : Nat → Nat → Int32}
theorem m_arrival13 (h : LandOk P R A) {pe we sg seed : Int32} (hpe : In pe 1 2) {nul : Bool} {size : Int32} {steps : Nat → Int32} {lw : Option Prog} (hlw : LwC nul size steps lw) {round : Int32} {tg : Nat → Int32} {d : Nat → Nat} (hd : Row8 tg d) {rnul : Bool} {rsize : Int32} {ruw : Bool} {rsteps : Nat → Int32} {rl : Option Prog} (hrl : RlC rnul rsize ruw rsteps rl) {ground : Int32} {ms g : Nat} (hms : ms ≤ 99) (hg : g < 8) :
    ∀ m n i p t bd fa rid rounds values grounds gvalues stk rstk, i + m = 20 → m < n → p < 8 → t < 10000 → CacheOk round rounds values (bV A pe we sg lw) → GC A pe we sg rl d ruw ground grounds gvalues →
      ∃ bd' fa' rid' rounds' values' grounds' gvalues' stk' rstk', x7_arrival_13 nul rnul pe we sg (I g) seed (I ms) round ground (I R) size rsize ruw tg (A 6) (A 4) (A 2) (A 5) (A 1) (A 0) (A 3) steps rsteps n (I i) bd fa rid rounds values grounds gvalues stk rstk (I p) (I t) (I i) = some (never (arS (bdS A pe we sg lw rl seed d ms R) A g m p t).1, I (i + (arS (bdS A pe we sg lw rl seed d ms R) A g m p t).2.length), bd', fa', rid', rounds', values', grounds', gvalues', stk', rstk') ∧ CacheOk round rounds' values' (bV A pe we sg lw) ∧ GC A pe we sg rl d ruw ground grounds' gvalues' ∧ (∀ k, k < i → rid' k = rid k) ∧ (∀ k x, (arS (bdS A pe we sg lw rl seed d ms R) A g m p t).2[k]? = some x → rid' (i + k) = I x) := by
  have hR := h.2.1
  have hP := h.1
  intro m
  induction m with
  | zero =>
    intro n i p t bd fa rid rounds values grounds gvalues stk rstk hi hn hp ht hC hGC
    obtain ⟨n, rfl⟩ : ∃ k, n = k + 1 := ⟨n - 1, by omega⟩
    refine ⟨bd, fa, rid, rounds, values, grounds, gvalues, stk, rstk, ?_, hC, hGC, fun _ _ => rfl, fun k x hk => by cases hk⟩
    rw [x7_arrival_13, if_pos (by show I 20 ≤ I i; rw [I_le (by omega) (by omega)]; omega), x7_arrival_94]
    unfold arS
    by_cases e : p = g
    · rw [if_pos (by rw [e]), if_pos e]; rfl
    · rw [if_neg (by rw [I_eq (by omega) (by omega)]; exact e), if_neg e]; rfl
  | succ m ih =>
    intro n i p t bd fa rid rounds values grounds gvalues stk rstk hi hn hp ht hC hGC
    obtain ⟨n, rfl⟩ : ∃ k, n = k + 1 := ⟨n - 1, by omega⟩
    rw [x7_arrival_13, if_neg (by show ¬ (I 20 ≤ I i); rw [I_le (by omega) (by omega)]; omega)]
    by_cases e : p = g
    · refine ⟨bd, fa, rid, rounds, values, grounds, gvalues, stk, rstk, ?_, hC, hGC, fun _ _ => rfl, fun k x hk => ?_⟩
      · rw [if_pos (by rw [e]), x7_arrival_94, if_pos (by rw [e])]
        unfold arS
        rw [if_pos e]; rfl
      · unfold arS at hk
        rw [if_pos e] at hk; cases hk
    · rw [if_neg (by rw [I_eq (by omega) (by omega)]; exact e)]
      obtain ⟨fa1, r1, v1, gr1, gv1, k1, rk1, e1, hC1, hGC1⟩ := m_board10 (seed := seed) h hpe hlw (round := round) hd hrl (ground := ground) (p := p) (s := t) hms ht bd R yN 0 1440 none fa rounds values grounds gvalues stk rstk (by omega) (by unfold yN; omega) (Or.inl ⟨rfl, rfl, fun y u hy => absurd hy (Nat.not_lt_zero _)⟩) hC hGC
      have e1' : x7_board nul rnul pe we sg seed (I ms) bd round fa ground (I R) size rsize ruw tg rounds values grounds gvalues (A 6) (A 4) (A 2) (A 1) (A 0) (A 3) stk steps rstk rsteps (I p) (I t) = some (bby (bdS A pe we sg lw rl seed d ms R p t), bat (bdS A pe we sg lw rl seed d ms R p t), fa1, r1, v1, gr1, gv1, k1, rk1) := e1
      rw [e1', Option.bind_some]
      unfold arS
      rw [if_neg e]
      cases hb : bdS A pe we sg lw rl seed d ms R p t with
      | none =>
        rw [show bby (none : Option (Nat × Nat)) = -1 from rfl, if_neg (show ¬ ((0 : Int32) ≤ -1) by decide)]
        exact ⟨_, fa1, rid, r1, v1, gr1, gv1, k1, rk1, rfl, hC1, hGC1, fun _ _ => rfl, fun k x hk => by cases hk⟩
      | some q =>
        obtain ⟨b1, b2, b3⟩ := lx_is _ _ _ hb
        obtain ⟨_, _, _, ⟨e5, l5, l5'⟩, ⟨e3, l3⟩, _⟩ := h.r b3
        rw [show bby (some q) = I q.2 from rfl, show bat (some q) = I q.1 from rfl, if_pos (by show I 0 ≤ I q.2; rw [I_le (by omega) (by omega)]; omega), I_inB (n := i) (by omega), decide_eq_true (by omega : i < 20), bif_t, miI h b3, Option.bind_some, enI h b3, Option.bind_some, I_clamp (n := i) (by omega)]
        dsimp only
        rw [e3, e5, I_succ, I_add]
        obtain ⟨bd2, fa2, rid2, r2, v2, gr2, gv2, k2, rk2, e2, hC2, hGC2, h1, h2⟩ := ih n (i + 1) (Nn (A 3) q.2) (q.1 + Nn (A 5) q.2) (I q.1) fa1 (upd rid i (I q.2)) r1 v1 gr1 gv1 k1 rk1 (by omega) (by omega) (by omega) (by omega) hC1 hGC1
        refine ⟨bd2, fa2, rid2, r2, v2, gr2, gv2, k2, rk2, ?_, hC2, hGC2, ?_, ?_⟩
        · rw [e2, List.length_cons, show i + 1 + (arS (bdS A pe we sg lw rl seed d ms R) A g m (Nn (A 3) q.2) (q.1 + Nn (A 5) q.2)).2.length = i + ((arS (bdS A pe we sg lw rl seed d ms R) A g m (Nn (A 3) q.2) (q.1 + Nn (A 5) q.2)).2.length + 1) by omega]
        · intro k hk
          rw [h1 k (by omega)]
          unfold upd; rw [if_neg (by omega)]
        · intro k x hk
          cases k with
          | zero =>
            have : q.2 = x := by simpa using hk
            rw [Nat.add_zero, h1 i (by omega)]
            unfold upd; rw [if_pos rfl, this]
          | succ k =>
            rw [List.getElem?_cons_succ] at hk
            have := h2 k x hk
            rw [show i + 1 + k = i + (k + 1) by omega] at this
            exact this
/-- the class: when one arrives -/
theorem m_arrival (h : LandOk P R A) {pe we sg seed : Int32} (hpe : In pe 1 2) {nul : Bool} {size : Int32} {steps : Nat → Int32} {lw : Option Prog} (hlw : LwC nul size steps lw) {round : Int32} {tg : Nat → Int32} {d : Nat → Nat} (hd : Row8 tg d) {rnul : Bool} {rsize : Int32} {ruw : Bool} {rsteps : Nat → Int32} {rl : Option Prog} (hrl : RlC rnul rsize ruw rsteps rl) {ground : Int32} {ms g p t : Nat} (hms : ms ≤ 99) (hg : g < 8) (hp : p < 8) (ht : t < 10000) {rounds values grounds gvalues : Nat → Int32} (hC : CacheOk round rounds values (bV A pe we sg lw)) (hGC : GC A pe we sg rl d ruw ground grounds gvalues) (rides bd : Int32) (fa rid stk rstk : Nat → Int32) :
    ∃ bd' fa' rid' rounds' values' grounds' gvalues' stk' rstk', x7_arrival nul rnul pe we sg (I g) seed (I ms) rides bd round fa ground (I R) size rid rsize ruw tg rounds values grounds gvalues (A 6) (A 4) (A 2) (A 5) (A 1) (A 0) (A 3) stk steps rstk rsteps (I p) (I t) = some (never (arS (bdS A pe we sg lw rl seed d ms R) A g 20 p t).1, I (arS (bdS A pe we sg lw rl seed d ms R) A g 20 p t).2.length, bd', fa', rid', rounds', values', grounds', gvalues', stk', rstk') ∧ CacheOk round rounds' values' (bV A pe we sg lw) ∧ GC A pe we sg rl d ruw ground grounds' gvalues' ∧ (∀ k x, (arS (bdS A pe we sg lw rl seed d ms R) A g 20 p t).2[k]? = some x → rid' k = I x) := by
  obtain ⟨bd', fa', rid', r', v', gr', gv', k', rk', e, h1, h2, _, h4⟩ := m_arrival13 (seed := seed) h hpe hlw (round := round) hd hrl (ground := ground) hms hg 20 yN 0 p t bd fa rid rounds values grounds gvalues stk rstk (by omega) (by unfold yN; omega) hp ht hC hGC
  refine ⟨bd', fa', rid', r', v', gr', gv', k', rk', ?_, h1, h2, fun k x hk => ?_⟩
  · rw [Nat.zero_add] at e; exact e
  · have := h4 k x hk
    rw [Nat.zero_add] at this; exact this
theorem r_getsIn (h : LandOk P R A) {pe we sg : Int32} {aw : Nat → Int32} {d : Nat → Nat} (hd : Row8 aw d) {has : Bool} {op val lF lM lT ls : Nat → Int32} {rl : Option Prog} (hrl : RlM has op val lF lM lT ls rl) {x t s : Nat} (hx : x < R) (ht : t < 1440) (hs : s ≤ t) (fa pile : Nat → Int32) :
    ∃ fa' pile', x9_getsIn we has pe sg aw fa (A 3) (A 2) lF lM lT ls op pile (A 1) (A 6) (A 0) val (I x) (I t) (I s) = some (gIB A pe we sg rl d x t (t - s), fa', pile') := by
  obtain ⟨_, _, ⟨e2, l2⟩, _, ⟨e3, l3⟩, _⟩ := h.r hx
  have hR := h.2.1
  have hP := h.1
  have d2 := hd (Nn (A 2) x) (by omega)
  have d3 := hd (Nn (A 3) x) (by omega)
  have i2 : inB (I (Nn (A 2) x)) 8 = true := by rw [I_inB (by omega)]; exact decide_eq_true (by omega)
  have i3 : inB (I (Nn (A 3) x)) 8 = true := by rw [I_inB (by omega)]; exact decide_eq_true (by omega)
  have eN : (I t - I s : Int32) = I (t - s) := I_sub (by omega)
  unfold x9_getsIn
  rcases hrl with ⟨rfl, rfl⟩ | ⟨rfl, Q, size, uw, steps, rfl, hT, hC⟩
  · simp only [in16 h hx, bif_t, bif_f, I_clamp (n := x) (by omega), e2, e3, i2, i3, I_clamp (n := Nn (A 2) x) (by omega), I_clamp (n := Nn (A 3) x) (by omega), d2.1, d3.1]
    show ∃ fa' pile', _ = some (decide (d (Nn (A 3) x) < d (Nn (A 2) x)), fa', pile')
    by_cases q : d (Nn (A 3) x) < d (Nn (A 2) x)
    · rw [if_neg (by rw [I_le (by omega) (by omega)]; omega), decide_eq_true q]; exact ⟨fa, pile, rfl⟩
    · rw [if_pos (by rw [I_le (by omega) (by omega)]; omega), decide_eq_false q]; exact ⟨fa, pile, rfl⟩
  · obtain ⟨fa1, f1, q1⟩ := r_facts h hx pe we sg (m := t) (by omega) fa
    have q2 := faG_upd (d := d) (w := I (t - s)) q1 d3.1 d2.1
    obtain ⟨pile', f2⟩ := m_given (fa := upd (upd (upd fa1 (7 : Int32).toNatClampNeg (aw (Nn (A 3) x))) (8 : Int32).toNatClampNeg (aw (Nn (A 2) x))) (9 : Int32).toNatClampNeg (I (t - s))) (q := 4) (by omega) hC hT pile
    rw [evP_cong q2 Q] at f2
    have f2' : x9_given (upd (upd (upd fa1 (7 : Int32).toNatClampNeg (aw (Nn (A 3) x))) (8 : Int32).toNatClampNeg (aw (Nn (A 2) x))) (9 : Int32).toNatClampNeg (I (t - s))) lF lM lT ls op pile val 4 = some (evP (faG A pe we sg d x (I (t / 60)) (I (t - s))) Q, pile') := f2
    simp only [f1, Option.bind_some, in16 h hx, bif_t, I_clamp (n := x) (by omega), e2, e3, i2, i3, I_clamp (n := Nn (A 2) x) (by omega), I_clamp (n := Nn (A 3) x) (by omega), show inB 7 10 = true by decide, show inB 8 10 = true by decide, show inB 9 10 = true by decide, eN, f2']
    by_cases q : evP (faG A pe we sg d x (I (t / 60)) (I (t - s))) Q = 0
    · rw [if_pos q, gIB_f q]; exact ⟨_, pile', rfl⟩
    · rw [if_neg q, gIB_t q]; exact ⟨_, pile', rfl⟩
def fat (f0 : Int32) (r : Option (Nat × Nat)) : Int32 := match r with
  | none => f0
  | some q => I q.1
theorem r_tak14 (h : LandOk P R A) {pe we sg seed : Int32} {lw : Option Prog} {st : Nat → Int32} (hS : StopsOk R A pe we sg lw seed R st) {aw : Nat → Int32} {d : Nat → Nat} (hd : Row8 aw d) {has : Bool} {op val lF lM lT ls : Nat → Int32} {rl : Option Prog} (hrl : RlM has op val lF lM lT ls rl) (f0 : Int32) {ms p s t : Nat} (hms : ms ≤ 99) (ht : t < 1440) (hs : s ≤ t) (r : Option (Nat × Nat))
    (k3 : (Nat → Int32) → (Nat → Int32) → Int32 → Option (Int32 × Int32 × (Nat → Int32) × (Nat → Int32))) (h3 : ∀ fa pile, ∃ fa' pile', k3 fa pile (I (t + 1)) = some (bby r, fat f0 r, fa', pile')) :
    ∀ m n x fa pile, x + m = R → m < n →
      ∃ fa' pile', x9_takenAlong_14 k3 (I R) we has pe sg f0 aw (A 4) (A 3) (A 2) lF lM lT ls op (A 1) (A 6) (A 0) st val (I p) (I s) (I ms) (I t) n fa pile (I x) = some (bby (match fnd (fun x => Gd A pe we sg lw rl seed d ms p s x t) m x with | some x => some (t, x) | none => r), fat f0 (match fnd (fun x => Gd A pe we sg lw rl seed d ms p s x t) m x with | some x => some (t, x) | none => r), fa', pile') := by
  have hR := h.2.1
  intro m
  induction m with
  | zero =>
    intro n x fa pile hx hn
    obtain ⟨n, rfl⟩ : ∃ k, n = k + 1 := ⟨n - 1, by omega⟩
    obtain ⟨fa', pile', e⟩ := h3 fa pile
    exact ⟨fa', pile', by rw [x9_takenAlong_14, if_pos (by rw [I_le (by omega) (by omega)]; omega), x9_takenAlong_76, I_succ]; exact e⟩
  | succ m ih =>
    intro n x fa pile hx hn
    obtain ⟨n, rfl⟩ : ∃ k, n = k + 1 := ⟨n - 1, by omega⟩
    have hxR : x < R := by omega
    obtain ⟨⟨e6, l6⟩, _⟩ := h.r hxR
    rw [x9_takenAlong_14, if_neg (by rw [I_le (by omega) (by omega)]; omega), r_isHere h hS hxR (by omega), Option.bind_some]
    have miss : ∀ fa pile, Gd A pe we sg lw rl seed d ms p s x t = false → ∃ fa' pile', x9_takenAlong_70 k3 (fun z0 z1 z2 => x9_takenAlong_14 k3 (I R) we has pe sg f0 aw (A 4) (A 3) (A 2) lF lM lT ls op (A 1) (A 6) (A 0) st val (I p) (I s) (I ms) (I t) n z0 z1 z2) (I R) we has pe sg f0 aw (A 4) (A 3) (A 2) lF lM lT ls op (A 1) (A 6) (A 0) st val (I p) (I s) (I ms) (I t) fa pile (I x) = some (bby (match fnd (fun x => Gd A pe we sg lw rl seed d ms p s x t) (m + 1) x with | some x => some (t, x) | none => r), fat f0 (match fnd (fun x => Gd A pe we sg lw rl seed d ms p s x t) (m + 1) x with | some x => some (t, x) | none => r), fa', pile') := by
      intro fa pile hg
      obtain ⟨fa', pile', e⟩ := ih n (x + 1) fa pile (by omega) (by omega)
      have hf : fnd (fun x => Gd A pe we sg lw rl seed d ms p s x t) (m + 1) x = fnd (fun x => Gd A pe we sg lw rl seed d ms p s x t) m (x + 1) := by
        show (if Gd A pe we sg lw rl seed d ms p s x t = true then some x else _) = _
        rw [hg, if_neg (by decide)]
      rw [hf]
      exact ⟨fa', pile', by rw [x9_takenAlong_70, I_succ]; exact e⟩
    cases hgs : gS A pe we sg lw seed p x t
    · rw [bif_f]
      exact miss fa pile (by unfold Gd; rw [hgs, Bool.false_and])
    · rw [bif_t, in16 h hxR, bif_t, I_clamp (by omega), e6]
      by_cases q : Nn (A 6) x ≤ ms
      · obtain ⟨fa1, pile1, e1⟩ := r_getsIn (s := s) h hd hrl hxR ht hs fa pile (pe := pe) (we := we) (sg := sg)
        rw [if_neg (by rw [I_lt (by omega) (by omega)]; omega), e1, Option.bind_some]
        cases hgi : gIB A pe we sg rl d x t (t - s)
        · rw [bif_f]
          exact miss fa1 pile1 (by unfold Gd; rw [hgi, Bool.and_false, Bool.and_false])
        · have hf : fnd (fun x => Gd A pe we sg lw rl seed d ms p s x t) (m + 1) x = some x := by
            show (if Gd A pe we sg lw rl seed d ms p s x t = true then some x else _) = _
            rw [if_pos (by unfold Gd; rw [hgs, hgi, decide_eq_true q]; rfl)]
          rw [bif_t, hf]
          exact ⟨fa1, pile1, rfl⟩
      · rw [if_pos (by rw [I_lt (by omega) (by omega)]; omega)]
        exact miss fa pile (by unfold Gd; rw [decide_eq_false q, Bool.false_and, Bool.and_false])
theorem r_tak3 (h : LandOk P R A) {pe we sg seed : Int32} {lw : Option Prog} {st : Nat → Int32} (hS : StopsOk R A pe we sg lw seed R st) {aw : Nat → Int32} {d : Nat → Nat} (hd : Row8 aw d) {has : Bool} {op val lF lM lT ls : Nat → Int32} {rl : Option Prog} (hrl : RlM has op val lF lM lT ls rl) (f0 : Int32) {ms p s : Nat} (hms : ms ≤ 99) :
    ∀ m n t fa pile, 1440 - t = m → m < n → s ≤ t → t < 10000 →
      ∃ fa' pile', x9_takenAlong_3 (I R) we has pe sg f0 aw (A 4) (A 3) (A 2) lF lM lT ls op (A 1) (A 6) (A 0) st val (I p) (I s) (I ms) n fa pile (I t) = some (bby (lx (Gd A pe we sg lw rl seed d ms p s) R m t), fat f0 (lx (Gd A pe we sg lw rl seed d ms p s) R m t), fa', pile') := by
  intro m
  induction m with
  | zero =>
    intro n t fa pile ht hn hs htb
    obtain ⟨n, rfl⟩ : ∃ k, n = k + 1 := ⟨n - 1, by omega⟩
    exact ⟨fa, pile, by rw [x9_takenAlong_3, if_pos (by show I 1440 ≤ I t; rw [I_le (by omega) (by omega)]; omega)]; rfl⟩
  | succ m ih =>
    intro n t fa pile ht hn hs htb
    obtain ⟨n, rfl⟩ : ∃ k, n = k + 1 := ⟨n - 1, by omega⟩
    rw [x9_takenAlong_3, if_neg (by show ¬ (I 1440 ≤ I t); rw [I_le (by omega) (by omega)]; omega)]
    exact r_tak14 h hS hd hrl f0 hms (by omega) hs (lx (Gd A pe we sg lw rl seed d ms p s) R m (t + 1)) _ (fun fa pile => ih n (t + 1) fa pile (by omega) (by omega) (by omega) (by omega)) R yN 0 fa pile (by omega) (by have := h.2.1; unfold yN; omega)
theorem r_takenAlong (h : LandOk P R A) {pe we sg seed : Int32} {lw : Option Prog} {st : Nat → Int32} (hS : StopsOk R A pe we sg lw seed R st) {aw : Nat → Int32} {d : Nat → Nat} (hd : Row8 aw d) {has : Bool} {op val lF lM lT ls : Nat → Int32} {rl : Option Prog} (hrl : RlM has op val lF lM lT ls rl) (f0 : Int32) {ms p s : Nat} (hms : ms ≤ 99) (hs : s < 10000) (fa pile : Nat → Int32) :
    ∃ fa' pile', x9_takenAlong (I R) we has pe sg f0 aw fa (A 4) (A 3) (A 2) lF lM lT ls op pile (A 1) (A 6) (A 0) st val (I p) (I s) (I ms) = some (bby (bdS A pe we sg lw rl seed d ms R p s), fat f0 (bdS A pe we sg lw rl seed d ms R p s), fa', pile') :=
  r_tak3 h hS hd hrl f0 hms (1440 - s) yN s fa pile rfl (by unfold yN; omega) (Nat.le_refl _) hs
theorem r_arr11 (h : LandOk P R A) {pe we sg seed : Int32} {lw : Option Prog} {st : Nat → Int32} (hS : StopsOk R A pe we sg lw seed R st) {aw : Nat → Int32} {d : Nat → Nat} (hd : Row8 aw d) {has : Bool} {op val lF lM lT ls : Nat → Int32} {rl : Option Prog} (hrl : RlM has op val lF lM lT ls rl) {ms g : Nat} (hms : ms ≤ 99) (hg : g < 8) :
    ∀ m n i p t f0 fa pile rid, i + m = 20 → m + 1 < n → p < 8 → t < 10000 →
      ∃ f0' fa' pile' rid', x9_arrives_11 (I R) (I g) we has pe sg aw (A 4) (A 5) (A 3) (A 2) lF lM lT ls op (A 1) (A 6) (A 0) st val (I ms) n (I i) f0 fa pile rid (I p) (I t) = some (notR (arS (bdS A pe we sg lw rl seed d ms R) A g m p t).1, I (i + (arS (bdS A pe we sg lw rl seed d ms R) A g m p t).2.length), f0', fa', pile', rid') ∧ (∀ k, k < i → rid' k = rid k) ∧ (∀ k x, (arS (bdS A pe we sg lw rl seed d ms R) A g m p t).2[k]? = some x → rid' (i + k) = I x) := by
  have hR := h.2.1
  have hP := h.1
  intro m
  induction m with
  | zero =>
    intro n i p t f0 fa pile rid hi hn hp ht
    obtain ⟨n, rfl⟩ : ∃ k, n = k + 1 := ⟨n - 1, by omega⟩
    refine ⟨f0, fa, pile, rid, ?_, fun _ _ => rfl, fun k x hk => by cases hk⟩
    rw [x9_arrives_11]
    unfold arS
    by_cases e : p = g
    · rw [if_pos (by rw [e]), if_pos e]; rfl
    · rw [if_neg (by rw [I_eq (by omega) (by omega)]; exact e), if_neg e, if_pos (by show I i = I 20; rw [show i = 20 by omega]), x9_arrives_42, if_neg (by decide)]; rfl
  | succ m ih =>
    intro n i p t f0 fa pile rid hi hn hp ht
    obtain ⟨n, rfl⟩ : ∃ k, n = k + 1 := ⟨n - 1, by omega⟩
    rw [x9_arrives_11]
    by_cases e : p = g
    · refine ⟨f0, fa, pile, rid, ?_, fun _ _ => rfl, fun k x hk => ?_⟩
      · rw [if_pos (by rw [e])]
        unfold arS
        rw [if_pos e]; rfl
      · unfold arS at hk
        rw [if_pos e] at hk; cases hk
    · obtain ⟨fa1, pile1, e1⟩ := r_takenAlong h hS hd hrl f0 (p := p) hms ht fa pile
      rw [if_neg (by rw [I_eq (by omega) (by omega)]; exact e), if_neg (by show ¬ (I i = I 20); rw [I_eq (by omega) (by omega)]; omega), e1, Option.bind_some]
      unfold arS
      rw [if_neg e]
      cases hb : bdS A pe we sg lw rl seed d ms R p t with
      | none =>
        rw [x9_arrives_42, show bby (none : Option (Nat × Nat)) = -1 from rfl, if_neg (show ¬ ((0 : Int32) ≤ -1) by decide)]
        exact ⟨_, fa1, pile1, rid, rfl, fun _ _ => rfl, fun k x hk => by cases hk⟩
      | some q =>
        obtain ⟨b1, b2, b3⟩ := lx_is _ _ _ hb
        obtain ⟨_, _, _, ⟨e5, l5, l5'⟩, ⟨e3, l3⟩, _⟩ := h.r b3
        rw [x9_arrives_42, show bby (some q) = I q.2 from rfl, show fat f0 (some q) = I q.1 from rfl, if_pos (by show I 0 ≤ I q.2; rw [I_le (by omega) (by omega)]; omega), I_inB (n := i) (by omega), decide_eq_true (by omega : i < 20), in16 h b3, bif_t, bif_t, bif_t, I_clamp (n := i) (by omega), I_clamp (n := q.2) (by omega)]
        dsimp only
        rw [e3, e5, I_succ, I_add]
        obtain ⟨f2, fa2, pile2, rid2, e2, h1, h2⟩ := ih n (i + 1) (Nn (A 3) q.2) (q.1 + Nn (A 5) q.2) (I q.1) fa1 pile1 (upd rid i (I q.2)) (by omega) (by omega) (by omega) (by omega)
        refine ⟨f2, fa2, pile2, rid2, ?_, ?_, ?_⟩
        · rw [e2, List.length_cons, show i + 1 + (arS (bdS A pe we sg lw rl seed d ms R) A g m (Nn (A 3) q.2) (q.1 + Nn (A 5) q.2)).2.length = i + ((arS (bdS A pe we sg lw rl seed d ms R) A g m (Nn (A 3) q.2) (q.1 + Nn (A 5) q.2)).2.length + 1) by omega]
        · intro k hk
          rw [h1 k (by omega)]
          unfold upd; rw [if_neg (by omega)]
        · intro k x hk
          cases k with
          | zero =>
            have : q.2 = x := by simpa using hk
            rw [Nat.add_zero, h1 i (by omega)]
            unfold upd; rw [if_pos rfl, this]
          | succ k =>
            rw [List.getElem?_cons_succ] at hk
            have := h2 k x hk
            rw [show i + 1 + k = i + (k + 1) by omega] at this
            exact this
/-- the reference: when one arrives -/
theorem r_arrives (h : LandOk P R A) {pe we sg seed : Int32} {lw : Option Prog} {st : Nat → Int32} (hS : StopsOk R A pe we sg lw seed R st) {aw : Nat → Int32} {d : Nat → Nat} (hd : Row8 aw d) {has : Bool} {op val lF lM lT ls : Nat → Int32} {rl : Option Prog} (hrl : RlM has op val lF lM lT ls rl) {ms g p t : Nat} (hms : ms ≤ 99) (hg : g < 8) (hp : p < 8) (ht : t < 10000) (rd f0 : Int32) (fa pile rid : Nat → Int32) :
    ∃ f0' fa' pile' rid', x9_arrives (I R) (I g) we has pe sg rd f0 aw fa (A 4) (A 5) (A 3) (A 2) lF lM lT ls op pile (A 1) rid (A 6) (A 0) st val (I p) (I t) (I ms) = some (notR (arS (bdS A pe we sg lw rl seed d ms R) A g 20 p t).1, I (arS (bdS A pe we sg lw rl seed d ms R) A g 20 p t).2.length, f0', fa', pile', rid') ∧ (∀ k x, (arS (bdS A pe we sg lw rl seed d ms R) A g 20 p t).2[k]? = some x → rid' k = I x) := by
  obtain ⟨f0', fa', pile', rid', e, _, h2⟩ := r_arr11 (seed := seed) h hS hd hrl hms hg 20 yN 0 p t f0 fa pile rid (by omega) (by unfold yN; omega) hp ht
  refine ⟨f0', fa', pile', rid', ?_, fun k x hk => ?_⟩
  · rw [Nat.zero_add] at e; exact e
  · have := h2 k x hk
    rw [Nat.zero_add] at this; exact this
theorem arS_len {bd : Nat → Nat → Option (Nat × Nat)} {g : Nat} : ∀ n p t, (arS bd A g n p t).2.length ≤ n := by
  intro n
  induction n with
  | zero => intro p t; exact Nat.le_refl _
  | succ n ih =>
    intro p t
    unfold arS
    by_cases e : p = g
    · rw [if_pos e]; exact Nat.zero_le _
    · rw [if_neg e]
      cases bd p t with
      | none => exact Nat.zero_le _
      | some q =>
        have := ih (Nn (A 3) q.2) (q.1 + Nn (A 5) q.2)
        show (_ :: _ : List Nat).length ≤ n + 1
        rw [List.length_cons]; omega
end trip
