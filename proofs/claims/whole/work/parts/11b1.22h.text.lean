/-! texts: lines, and the whole text -/
abbrev Prog := List (List Int32 × List Int32)
def KP : Prog → List Int32
  | [] => []
  | x :: r => x.1 ++ x.2 ++ KP r
def lnC (s : Nat) (x : List Int32 × List Int32) : List Int32 := if x.1 = [] then x.2 ++ [59] else x.1 ++ ([-(I (s + x.1.length + x.2.length + 2))] ++ (x.2 ++ [59]))
def layC : Nat → Prog → List Int32
  | _, [] => []
  | s, x :: r => lnC s x ++ layC (s + (lnC s x).length) r
theorem KP_snoc (P : Prog) (x : List Int32 × List Int32) : KP (P ++ [x]) = KP P ++ x.1 ++ x.2 := by
  induction P with
  | nil => show x.1 ++ x.2 ++ [] = [] ++ x.1 ++ x.2; simp
  | cons y P ih => show y.1 ++ y.2 ++ KP (P ++ [x]) = y.1 ++ y.2 ++ KP P ++ x.1 ++ x.2; rw [ih]; simp only [List.append_assoc]
theorem layC_snoc (P : Prog) (x : List Int32 × List Int32) : ∀ s, layC s (P ++ [x]) = layC s P ++ lnC (s + (layC s P).length) x := by
  induction P with
  | nil => intro s; show lnC s x ++ [] = [] ++ lnC (s + 0) x; simp
  | cons y P ih =>
    intro s
    show lnC s y ++ layC (s + (lnC s y).length) (P ++ [x]) = lnC s y ++ layC (s + (lnC s y).length) P ++ lnC (s + (lnC s y ++ layC (s + (lnC s y).length) P).length) x
    rw [ih, List.append_assoc, List.length_append, Nat.add_assoc s]
def HasT (steps : Nat → Int32) (s : Nat) (t : List Int32) : Prop := ∀ i x, t[i]? = some x → steps (s + i) = x
theorem HasT.app {steps : Nat → Int32} {s : Nat} {a b : List Int32} (h : HasT steps s a) (g : HasT steps (s + a.length) b) : HasT steps s (a ++ b) := by
  intro i x hx
  rw [List.getElem?_append] at hx
  by_cases h9 : i < a.length
  · rw [if_pos h9] at hx; exact h i x hx
  · rw [if_neg h9] at hx
    have := g _ x hx
    rw [show s + a.length + (i - a.length) = s + i by omega] at this
    exact this
theorem HasT.one {steps : Nat → Int32} {s : Nat} {v : Int32} (h : steps s = v) : HasT steps s [v] := by
  intro i x hx
  have h0 : i = 0 := by
    by_cases h : i = 0
    · exact h
    · rw [List.getElem?_eq_none (by rw [List.length_singleton]; omega)] at hx; cases hx
  subst h0
  have : v = x := by simpa using hx
  rw [← this]; exact h
theorem lt_of_get {α : Type} {l : List α} {i : Nat} {x : α} (h : l[i]? = some x) : i < l.length := by
  by_cases h1 : i < l.length
  · exact h1
  · rw [List.getElem?_eq_none (by omega)] at h; cases h
theorem HasT.agree {steps steps' : Nat → Int32} {s : Nat} {t : List Int32} (h : HasT steps s t) (g : ∀ i, s ≤ i → i < s + t.length → steps' i = steps i) : HasT steps' s t := by
  intro i x hx
  rw [g (s + i) (by omega) (by have := lt_of_get hx; omega)]; exact h i x hx
/-- the class's rows hold the text -/
def TxS (steps : Nat → Int32) (s : Nat) (P : Prog) : Prop := s = (layC 0 P).length ∧ HasT steps 0 (layC 0 P)
theorem TxS.snoc {steps steps' : Nat → Int32} {s s' : Nat} {P : Prog} {x : List Int32 × List Int32} (h : TxS steps s P) (h1 : ∀ i, i < s → steps' i = steps i) (h2 : HasT steps' s (lnC s x)) (h3 : s' = s + (lnC s x).length) : TxS steps' s' (P ++ [x]) := by
  obtain ⟨e, g⟩ := h
  have hl : layC 0 (P ++ [x]) = layC 0 P ++ lnC s x := by rw [layC_snoc, Nat.zero_add, ← e]
  refine ⟨by rw [hl, List.length_append, ← e]; exact h3, ?_⟩
  rw [hl]
  refine (g.agree (fun i _ hi => h1 i (by omega))).app ?_
  rw [Nat.zero_add, ← e]; exact h2
def Wf (x : List Int32 × List Int32) : Prop := (x.1 = [] ∨ dpt x.1 0 = some 1) ∧ dpt x.2 0 = some 1
/-- the reference's lines -/
def LFr (q : Nat) (F M T S lF lM lT ls : Nat → Int32) : Prop := (∀ j, (j < 60 * q ∨ 60 * q + 60 ≤ j) → lF j = F j ∧ lM j = M j ∧ lT j = T j) ∧ ∀ j, j ≠ q → ls j = S j
def LnM (q : Nat) (lF lM lT : Nat → Int32) (P : Prog) : Prop := ∀ n x, P[n]? = some x → lF (60 * q + n) = I (120 * q + (KP (P.take n)).length) ∧ lM (60 * q + n) = I (120 * q + (KP (P.take n)).length + x.1.length) ∧ lT (60 * q + n) = I (120 * q + (KP (P.take n)).length + x.1.length + x.2.length)
def LSt (q : Nat) (F M T S : Nat → Int32) (P : Prog) (lF lM lT ls : Nat → Int32) : Prop := LFr q F M T S lF lM lT ls ∧ LnM q lF lM lT P ∧ (P.length < 60 → lF (60 * q + P.length) = I (120 * q + (KP P).length) ∧ lM (60 * q + P.length) = I (120 * q + (KP P).length))
theorem LnM.snoc {q : Nat} {lF lM lT lF' lM' lT' : Nat → Int32} {P : Prog} {x : List Int32 × List Int32} (h : LnM q lF lM lT P) (h1 : ∀ j, j < 60 * q + P.length → lF' j = lF j ∧ lM' j = lM j ∧ lT' j = lT j)
    (h2 : lF' (60 * q + P.length) = I (120 * q + (KP P).length)) (h3 : lM' (60 * q + P.length) = I (120 * q + (KP P).length + x.1.length)) (h4 : lT' (60 * q + P.length) = I (120 * q + (KP P).length + x.1.length + x.2.length)) : LnM q lF' lM' lT' (P ++ [x]) := by
  intro n y hy
  rw [List.getElem?_append] at hy
  by_cases hn : n < P.length
  · rw [if_pos hn] at hy
    obtain ⟨a1, a2, a3⟩ := h n y hy
    obtain ⟨b1, b2, b3⟩ := h1 (60 * q + n) (by omega)
    rw [List.take_append_of_le_length (by omega), b1, b2, b3]
    exact ⟨a1, a2, a3⟩
  · rw [if_neg hn] at hy
    have h0 : n = P.length := by
      have := lt_of_get hy
      rw [List.length_singleton] at this
      omega
    subst h0
    rw [Nat.sub_self] at hy
    have : x = y := by simpa using hy
    rw [List.take_left', ← this]
    · exact ⟨h2, h3, h4⟩
    · rfl
section text
variable {f q : Nat} {tape : Nat → Int32} {o0 v0 F M T S : Nat → Int32}
def GL (f q : Nat) (tape o0 v0 F M T S : Nat → Int32) (Q : Option TT → Prop) (a : Nat) (P : Prog) : Prop :=
  ∀ lF lM lT ls, LSt q F M T S P lF lM lT ls → GE f (120 * q) tape (I q) false lF lM lT ls (I P.length) o0 v0 Q a (KP P) []
def QFT (q : Nat) (o0 v0 F M T S : Nat → Int32) (Q : Option TT → Prop) (pos : Nat) : Prop :=
  ∀ asked lF lM lT ls cod wai opn brk op val wts, Fr o0 v0 op val (120 * q) → LFr q F M T S lF lM lT ls → Q (some (false, I pos, cod, wai, opn, brk, asked, lF, lM, lT, ls, op, val, wts))
def QS (q : Nat) (o0 v0 F M T S : Nat → Int32) (Q : Option TT → Prop) (P : Prog) : Prop :=
  ∀ a cod wai opn brk lF lM lT ls op val wts, Cod o0 v0 op val (120 * q) (KP P) → LFr q F M T S lF lM lT ls → LnM q lF lM lT P → ls q = I P.length → Q (some (true, a, cod, wai, opn, brk, false, lF, lM, lT, ls, op, val, wts))
def GB (f q : Nat) (tape o0 v0 F M T S : Nat → Int32) (Q : Option TT → Prop) (a : Nat) (P : Prog) : Prop :=
  (tk f tape a = 59 → GL f q tape o0 v0 F M T S Q (a + 1) P) ∧ (a = f → QS q o0 v0 F M T S Q P) ∧ (a < f → tk f tape a ≠ 59 → QFT q o0 v0 F M T S Q a)
theorem QFT.qf {Q : Option TT → Prop} {pos : Nat} (h : QFT q o0 v0 F M T S Q pos) {asked : Bool} {lF lM lT ls : Nat → Int32} (hl : LFr q F M T S lF lM lT ls) : QF (120 * q) asked lF lM lT ls o0 v0 Q pos :=
  fun cod wai opn brk op val wts hfr => h asked lF lM lT ls cod wai opn brk op val wts hfr hl
theorem LFr.upd_ {q : Nat} {lF lM lT ls : Nat → Int32} (h : LFr q F M T S lF lM lT ls) {n : Nat} (hn : n < 60) (v w u z : Int32) : LFr q F M T S (upd lF (60 * q + n) v) (upd lM (60 * q + n) w) (upd lT (60 * q + n) u) (upd ls q z) := by
  refine ⟨fun j hj => ?_, fun j hj => ?_⟩
  · unfold upd; rw [if_neg (by omega), if_neg (by omega), if_neg (by omega)]; exact h.1 j hj
  · unfold upd; rw [if_neg hj]; exact h.2 j hj
theorem LFr.upM {q : Nat} {lF lM lT ls : Nat → Int32} (h : LFr q F M T S lF lM lT ls) {n : Nat} (hn : n < 60) (w : Int32) : LFr q F M T S lF (upd lM (60 * q + n) w) lT ls := by
  refine ⟨fun j hj => ?_, h.2⟩
  unfold upd; rw [if_neg (by omega)]; exact h.1 j hj
theorem LFr.upFM {q : Nat} {lF lM lT ls : Nat → Int32} (h : LFr q F M T S lF lM lT ls) {n : Nat} (hn : n < 60) (v w : Int32) : LFr q F M T S (upd lF (60 * q + n) v) (upd lM (60 * q + n) w) lT ls := by
  refine ⟨fun j hj => ?_, h.2⟩
  unfold upd; rw [if_neg (by omega), if_neg (by omega)]; exact h.1 j hj
theorem LFr.upTS {q : Nat} {lF lM lT ls : Nat → Int32} (h : LFr q F M T S lF lM lT ls) {n : Nat} (hn : n < 60) (u z : Int32) : LFr q F M T S lF lM (upd lT (60 * q + n) u) (upd ls q z) := by
  refine ⟨fun j hj => ?_, fun j hj => ?_⟩
  · unfold upd; rw [if_neg (by omega)]; exact h.1 j hj
  · unfold upd; rw [if_neg hj]; exact h.2 j hj
/-- behind a line's last expression: what the reference does -/
theorem GA_lineEnd (hf : f ≤ 120) (hq : q ≤ 4) {Q : Option TT → Prop} {asked : Bool} {lF lM lT ls : Nat → Int32} {P : Prog} {x : List Int32 × List Int32} {a : Nat} {K pend : List Int32} (hP60 : P.length < 60) (ha : a ≤ f) (hp : ∀ x, x ∈ pend → 1 ≤ rk x) (hN : Nx f tape 0 a pend) (h63 : tk f tape a = 63 → asked = true)
    (hK : K ++ pend = KP P ++ x.1 ++ x.2) (hL : LFr q F M T S lF lM lT ls) (hLn : LnM q lF lM lT P) (hlF : lF (60 * q + P.length) = I (120 * q + (KP P).length)) (hlM : lM (60 * q + P.length) = I (120 * q + (KP P).length + x.1.length))
    (hB : GB f q tape o0 v0 F M T S Q a (P ++ [x])) : GA f (120 * q) tape (I q) asked lF lM lT ls (I P.length) o0 v0 Q a K (pend ++ []) := by
  have hlen : (K ++ pend).length = (KP P).length + x.1.length + x.2.length := by rw [hK, List.length_append, List.length_append]
  have hPl : (P ++ [x]).length = P.length + 1 := by rw [List.length_append, List.length_singleton]
  have hKP : KP (P ++ [x]) = K ++ pend := by rw [KP_snoc, hK]
  have hb : 120 * q ≤ 480 := by omega
  by_cases h59 : tk f tape a = 59
  · refine GA_line hf hb hq hP60 hp h59 ?_
    intro lF' lM' h1 h2
    have hnew : LnM q lF' lM' (upd lT (60 * q + P.length) (I (120 * q + (K ++ pend).length))) (P ++ [x]) := by
      refine LnM.snoc hLn ?_ ?_ ?_ ?_
      · intro j hj
        by_cases h60 : P.length + 1 < 60
        · obtain ⟨e1, e2⟩ := h1 h60
          rw [e1, e2]; unfold upd; rw [if_neg (by omega), if_neg (by omega), if_neg (by omega)]; exact ⟨rfl, rfl, rfl⟩
        · obtain ⟨e1, e2⟩ := h2 h60
          rw [e1, e2]; unfold upd; rw [if_neg (by omega)]; exact ⟨rfl, rfl, rfl⟩
      · by_cases h60 : P.length + 1 < 60
        · rw [(h1 h60).1]; unfold upd; rw [if_neg (by omega)]; exact hlF
        · rw [(h2 h60).1]; exact hlF
      · by_cases h60 : P.length + 1 < 60
        · rw [(h1 h60).2]; unfold upd; rw [if_neg (by omega)]; exact hlM
        · rw [(h2 h60).2]; exact hlM
      · unfold upd; rw [if_pos rfl, hlen]; congr 1; omega
    have hLS : LSt q F M T S (P ++ [x]) lF' lM' (upd lT (60 * q + P.length) (I (120 * q + (K ++ pend).length))) (upd ls q (I (P.length + 1))) := by
      refine ⟨?_, hnew, ?_⟩
      · by_cases h60 : P.length + 1 < 60
        · rw [(h1 h60).1, (h1 h60).2]; exact (hL.upTS hP60 _ _).upFM h60 _ _
        · rw [(h2 h60).1, (h2 h60).2]; exact hL.upTS hP60 _ _
      · intro h
        rw [hPl] at h ⊢
        rw [(h1 h).1, (h1 h).2, hKP]
        unfold upd; exact ⟨if_pos rfl, if_pos rfl⟩
    have := hB.1 h59 _ _ _ _ hLS
    rw [hPl, hKP] at this
    exact this
  · by_cases haf : a = f
    · refine GA_end hf hb hq hP60 hp haf ?_
      intro wai opn brk op val wts hC
      refine hB.2.1 haf _ _ _ _ _ _ _ _ _ _ _ _ (by rw [hKP]; exact hC) (hL.upTS hP60 _ _) ?_ ?_
      · refine LnM.snoc hLn ?_ hlF hlM ?_
        · intro j hj; unfold upd; rw [if_neg (by omega)]; exact ⟨rfl, rfl, rfl⟩
        · unfold upd; rw [if_pos rfl, hlen]; congr 1; omega
      · unfold upd; rw [if_pos rfl, hPl]
    · exact GA_bad hf hb (by omega) hp hN h59 h63 ((hB.2.2 (by omega) h59).qf hL)
end text
