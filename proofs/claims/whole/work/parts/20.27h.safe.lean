/-! safe -/
def allB (f : Nat → Bool) : Nat → Bool
  | 0 => true
  | n + 1 => allB f n && f n
theorem allB_no {f : Nat → Bool} {k : Nat} (h : f k = false) : ∀ n, k < n → allB f n = false := by
  intro n
  induction n with
  | zero => intro hk; omega
  | succ n ih =>
    intro hk
    unfold allB
    by_cases q : k = n
    · rw [← q, h, Bool.and_false]
    · rw [ih (by omega), Bool.false_and]
/-- a danger that some road has -/
def hasD (R : Nat) (A : Nat → Nat → Int32) (d : Nat) : Nat → Nat → Bool
  | 0, _ => false
  | n + 1, x => if A 6 x = I d then true else hasD R A d n (x + 1)
section trip
variable {P R : Nat} {A : Nat → Nat → Int32} {st : Nat → Int32} {m2 m3 m4 m5 m6 m7 x1 x2 : Int32} {nul : Bool} {lsz : Int32} {lst : Nat → Int32} {by_ : Int32} {op val lF lM lT ls : Nat → Int32} {lw : Option Prog}
theorem hasD2 (hR : R ≤ 16) (A : Nat → Nat → Int32) (d : Nat) : ∀ m n x, x + m = R → m < n → x3_hasDanger_2 (I R) (A 6) (I d) n (I x) = some (hasD R A d m x) ∧ x9_isDanger_2 (I R) (A 6) (I d) n (I x) = (if hasD R A d m x = true then some true else x9_isDanger_28 (I R) (A 6) (I d)) := by
  intro m
  induction m with
  | zero =>
    intro n x hx hn
    obtain ⟨n, rfl⟩ : ∃ k, n = k + 1 := ⟨n - 1, by omega⟩
    have g : I R ≤ I x := by rw [I_le (by omega) (by omega)]; omega
    rw [x3_hasDanger_2, if_pos g, x9_isDanger_2, if_pos g]
    exact ⟨rfl, rfl⟩
  | succ m ih =>
    intro n x hx hn
    obtain ⟨n, rfl⟩ : ∃ k, n = k + 1 := ⟨n - 1, by omega⟩
    have g : ¬ (I R ≤ I x) := by rw [I_le (by omega) (by omega)]; omega
    have i : inB (I x) 16 = true := by rw [I_inB (by omega)]; exact decide_eq_true (by omega)
    rw [x3_hasDanger_2, if_neg g, dangerOf_I _ (by omega), Option.bind_some, x9_isDanger_2, if_neg g, i, bif_t, I_clamp (by omega), I_succ]
    obtain ⟨h1, h2⟩ := ih n (x + 1) (by omega) (by omega)
    rw [h1, h2, show hasD R A d (m + 1) x = (if A 6 x = I d then true else hasD R A d m (x + 1)) from rfl]
    by_cases q : A 6 x = I d
    · rw [if_pos q, if_pos q, if_pos q]; exact ⟨rfl, rfl⟩
    · rw [if_neg q, if_neg q, if_neg q]; exact ⟨rfl, rfl⟩
def hD (R : Nat) (A : Nat → Nat → Int32) (d : Nat) : Bool := hasD R A d R 0 || decide (d = 0)
theorem hD_is (hR : R ≤ 16) (A : Nat → Nat → Int32) {d : Nat} (hd : d < 100) : x9_isDanger (I R) (A 6) (I d) = some (hD R A d) ∧ (d ≠ 0 → x3_hasDanger (I R) (A 6) (I d) = some (hD R A d)) := by
  obtain ⟨h1, h2⟩ := hasD2 hR A d R yN 0 (by omega) (by unfold yN; omega)
  have h1' : x3_hasDanger (I R) (A 6) (I d) = some (hasD R A d R 0) := h1
  have h2' : x9_isDanger (I R) (A 6) (I d) = (if hasD R A d R 0 = true then some true else x9_isDanger_28 (I R) (A 6) (I d)) := h2
  rw [h1', h2']
  unfold hD x9_isDanger_28
  cases hasD R A d R 0
  · by_cases q : d = 0
    · subst q; exact ⟨rfl, fun h => absurd rfl h⟩
    · rw [if_neg (by decide), if_neg (show ¬ (I d = 0) by show ¬ (I d = I 0); rw [I_eq (by omega) (by omega)]; exact q), decide_eq_false q]; exact ⟨rfl, fun _ => rfl⟩
  · rw [if_pos rfl, Bool.true_or]; exact ⟨rfl, fun _ => rfl⟩
def zz (P R : Nat) (A : Nat → Nat → Int32) (m2 m4 m5 m6 m7 : Int32) (lw rl : Option Prog) (p t d k : Nat) : Option Nat := (arS (bdS A m4 m5 m6 lw rl (m7 + I k) (gD P R A m2) d R) A m2.toNatClampNeg 20 p t).1
theorem m_arrX (h : TC P R A st m2 m3 m4 m5 m6 m7 x1 x2 nul lsz lst by_ op val lF lM lT ls lw) {has : Bool} {rsz : Int32} {ruw : Bool} {rst : Nat → Int32} {rl : Option Prog} (hR : RC has rsz ruw rst op val lF lM lT ls rl) {tg : Nat → Int32} (ht : Row8 tg (gD P R A m2)) {round ground : Int32} {rs vs gs gv : Nat → Int32} (hC : CacheOk round rs vs (bV A m4 m5 m6 lw)) (hG : GC A m4 m5 m6 rl (gD P R A m2) ruw ground gs gv) {d p t k : Nat} (hd : d ≤ 99) (hp : p < 8) (ht' : t < 10000) (rides bd : Int32) (fa rid stk rstk : Nat → Int32) :
    ∃ n bd' fa' rid' rs' vs' gs' gv' stk' rstk', x7_arrival nul (!has) m4 m5 m6 m2 (m7 + I k) (I d) rides bd round fa ground (I R) lsz rid rsz ruw tg rs vs gs gv (A 6) (A 4) (A 2) (A 5) (A 1) (A 0) (A 3) stk lst rstk rst (I p) (I t) = some (never (zz P R A m2 m4 m5 m6 m7 lw rl p t d k), n, bd', fa', rid', rs', vs', gs', gv', stk', rstk') ∧ CacheOk round rs' vs' (bV A m4 m5 m6 lw) ∧ GC A m4 m5 m6 rl (gD P R A m2) ruw ground gs' gv' := by
  have hpe : In m4 1 2 := h.2.1.2.2.2.2.2.2.2.2
  obtain ⟨g, hg8, eg, eg'⟩ := goalI h.2.1
  obtain ⟨bd', fa', rid', rs', vs', gs', gv', stk', rstk', f1, c1, c2, _⟩ := m_arrival (we := m5) (sg := m6) (seed := m7 + I k) (ms := d) (p := p) (t := t) h.1 hpe h.2.2.2.1 ht hR.1 hd hg8 hp ht' hC hG rides bd fa rid stk rstk
  rw [← eg] at f1
  unfold zz
  rw [eg']
  exact ⟨_, bd', fa', rid', rs', vs', gs', gv', stk', rstk', f1, c1, c2⟩
theorem r_arrX (h : TC P R A st m2 m3 m4 m5 m6 m7 x1 x2 nul lsz lst by_ op val lF lM lT ls lw) {has : Bool} {rsz : Int32} {ruw : Bool} {rst : Nat → Int32} {rl : Option Prog} (hR : RC has rsz ruw rst op val lF lM lT ls rl) {aw st2 : Nat → Int32} (ha : Row8 aw (gD P R A m2)) {d p t k : Nat} (hS : StopsOk R A m4 m5 m6 lw (m7 + I k) R st2) (hd : d ≤ 99) (hp : p < 8) (ht' : t < 10000) (rd f0 : Int32) (fa2 pile rid2 : Nat → Int32) :
    ∃ n2 f0' fa2' pile' rid2', x9_arrives (I R) m2 m5 has m4 m6 rd f0 aw fa2 (A 4) (A 5) (A 3) (A 2) lF lM lT ls op pile (A 1) rid2 (A 6) (A 0) st2 val (I p) (I t) (I d) = some (notR (zz P R A m2 m4 m5 m6 m7 lw rl p t d k), n2, f0', fa2', pile', rid2') := by
  obtain ⟨g, hg8, eg, eg'⟩ := goalI h.2.1
  obtain ⟨f0', fa3', pile3', rid3', f2, _⟩ := r_arrives (ms := d) (p := p) (t := t) h.1 hS ha hR.2 hd hg8 hp ht' rd f0 fa2 pile rid2
  rw [← eg] at f2
  unfold zz
  rw [eg']
  exact ⟨_, f0', fa3', pile3', rid3', f2⟩
def gG (P R : Nat) (A : Nat → Nat → Int32) (m2 m3 m4 m5 m6 m7 : Int32) (lw rl : Option Prog) (p t d k : Nat) : Bool := !(decide (m3 < never (zz P R A m2 m4 m5 m6 m7 lw rl p t d k)))
theorem zz_bd (hl : LandOk P R A) {rl : Option Prog} {p t d k : Nat} (ht : t < 10000) : ∀ u, zz P R A m2 m4 m5 m6 m7 lw rl p t d k = some u → u < 100000 := ar_bd hl ht
/-- the seeds of one danger, in the class -/
theorem safe61 (h : TC P R A st m2 m3 m4 m5 m6 m7 x1 x2 nul lsz lst by_ op val lF lM lT ls lw) {has : Bool} {rsz : Int32} {ruw : Bool} {rst : Nat → Int32} {rl : Option Prog} (hR : RC has rsz ruw rst op val lF lM lT ls rl) {tg : Nat → Int32} (ht : Row8 tg (gD P R A m2)) {round ground : Int32} {p t W d : Nat} {p1 : Int32} (hp : p < 8) (ht' : t < 1440) (ep : p1 / 10000 = I p) (et : p1 - p1 / 10000 * 10000 = I t) (hW : W ≤ 40) (hd : d ≤ 99)
    (k23 : Int32 → Int32 → Int32 → Int32 → (Nat → Int32) → (Nat → Int32) → (Nat → Int32) → (Nat → Int32) → (Nat → Int32) → (Nat → Int32) → (Nat → Int32) → (Nat → Int32) → Bool → Bool → Int32 → Option (Int32 × Int32 × Int32 × Int32 × Int32 × Int32 × Int32 × Int32 × Int32 × (Nat → Int32) × (Nat → Int32) × Int32 × (Nat → Int32) × Int32 × (Nat → Int32) × (Nat → Int32) × (Nat → Int32) × (Nat → Int32) × (Nat → Int32) × (Nat → Int32))) :
    ∀ m n k se rides bd stk rstk fa rid rs vs gs gv, k + m = W → m + 1 < n → allB (gG P R A m2 m3 m4 m5 m6 m7 lw rl p t d) k = true → CacheOk round rs vs (bV A m4 m5 m6 lw) → GC A m4 m5 m6 rl (gD P R A m2) ruw ground gs gv →
      ∃ se' rides' bd' stk' rstk' fa' rid' rs' vs' gs' gv', CacheOk round rs' vs' (bV A m4 m5 m6 lw) ∧ GC A m4 m5 m6 rl (gD P R A m2) ruw ground gs' gv' ∧ x8_safe_61 k23 x1 x2 has lsz rsz ruw st m4 m5 m6 m2 (I d) lst rst round ground (I P) (I R) tg (A 6) (A 4) (A 2) (A 5) (A 1) (A 0) (A 3) p1 (I W) (I d) n se rides bd stk rstk fa rid rs vs gs gv nul (!has) 1 (I k) = (if allB (gG P R A m2 m3 m4 m5 m6 m7 lw rl p t d) W = true then some (I d, m4, m5, m6, m2, se', I d, rides', bd', stk', rstk', round, fa', ground, rid', tg, rs', vs', gs', gv') else k23 se' (I d) rides' bd' stk' rstk' fa' rid' rs' vs' gs' gv' nul (!has) (I (d + 1))) := by
  obtain ⟨u, hu, ed, s1, s5⟩ := duskI h.2.1
  have t1 : (1 : Int32).toNatClampNeg = 1 := by decide
  have t5 : (5 : Int32).toNatClampNeg = 5 := by decide
  intro m
  induction m with
  | zero =>
    intro n k se rides bd stk rstk fa rid rs vs gs gv hk hn hall hC hG
    obtain ⟨n, rfl⟩ : ∃ k, n = k + 1 := ⟨n - 1, by omega⟩
    have g : I W ≤ I k := by rw [I_le (by omega) (by omega)]; omega
    have hk' : k = W := by omega
    subst hk'
    refine ⟨se, rides, bd, stk, rstk, fa, rid, rs, vs, gs, gv, hC, hG, ?_⟩
    rw [x8_safe_61, if_pos g, x8_safe_127, if_neg (show ¬ ((1 : Int32) = 0) by decide), hall, if_pos rfl]
  | succ m ih =>
    intro n k se rides bd stk rstk fa rid rs vs gs gv hk hn hall hC hG
    obtain ⟨n, rfl⟩ : ∃ k, n = k + 1 := ⟨n - 1, by omega⟩
    have g : ¬ (I W ≤ I k) := by rw [I_le (by omega) (by omega)]; omega
    obtain ⟨n4, bd', fa', rid', rs', vs', gs', gv', stk', rstk', g1, c1, c2⟩ := m_arrX (k := k) (p := p) (t := t) h hR ht hC hG hd hp (by omega) rides bd fa rid stk rstk
    rw [x8_safe_61, if_neg g, if_neg (show ¬ ((1 : Int32) = 0) by decide), show inB 5 6 = true by decide, show inB 1 6 = true by decide, t1, t5, s1, s5, et, ep]
    simp only [bif_t]
    rw [g1, Option.bind_some]
    dsimp only
    by_cases q : I u < never (zz P R A m2 m4 m5 m6 m7 lw rl p t d k)
    · have hno : gG P R A m2 m3 m4 m5 m6 m7 lw rl p t d k = false := by
        unfold gG
        rw [ed, decide_eq_true q]; rfl
      obtain ⟨n, rfl⟩ : ∃ k, n = k + 1 := ⟨n - 1, by omega⟩
      refine ⟨m7 + I k, n4, bd', stk', rstk', fa', rid', rs', vs', gs', gv', c1, c2, ?_⟩
      rw [if_pos q, x8_safe_119, allB_no hno W (by omega), if_neg (show ¬ (false = true) by decide), x8_safe_61, x8_safe_127, if_pos (show (0 : Int32) = 0 from rfl), if_pos (show (0 : Int32) = 0 from rfl), x8_safe_134, I_succ k, I_succ d]
      by_cases w : I W ≤ I (k + 1)
      · rw [if_pos w]
      · rw [if_neg w]
    · have hyes : gG P R A m2 m3 m4 m5 m6 m7 lw rl p t d k = true := by
        unfold gG
        rw [ed, decide_eq_false q]; rfl
      rw [if_neg q, x8_safe_119, I_succ]
      exact ih n (k + 1) _ _ _ _ _ _ _ _ _ _ _ (by omega) (by omega) (by unfold allB; rw [hall, hyes]; rfl) c1 c2
end trip
