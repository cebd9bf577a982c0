/-! both objects hold the same: the invariant of the law's loop (laid by mkinv.py) -/
theorem bg {α : Type} {b : Bool} {x y z : α} (h : b = true) (k : x = z) : (bif b then x else y) = z := by
  subst h; exact k
theorem igp {α : Type} {c : Prop} {d : Decidable c} {x y z : α} (h : c) (k : x = z) : @ite α c d x y = z := by
  rw [if_pos h]; exact k
theorem ign {α : Type} {c : Prop} {d : Decidable c} {x y z : α} (h : ¬ c) (k : y = z) : @ite α c d x y = z := by
  rw [if_neg h]; exact k
theorem bd {α β : Type} {F : Option α} {o : α} {k : α → Option β} {z : Option β} (h : F = some o) (e : k o = z) : F.bind k = z := by
  subst h; exact e
theorem lg_same (x : Int64) : lg_cmp x x = 0 := by
  unfold lg_cmp
  rw [if_neg (fun h : x < x => by rw [Int64.lt_iff_toInt_lt] at h; omega), if_pos rfl]
def Gland (P R : Nat) (xi : Nat → Int32) (xa : Nat → Nat → Int32) (mi : Nat → Int32) (ma : Nat → Nat → Int32) : Prop :=
  (xi 11 = I P ∧ mi 0 = I P ∧ xi 12 = I R ∧ mi 1 = I R) ∧ LandOk P R xa ∧ (∀ j, In (xa 0 j) 0 9) ∧ (∀ j, In (xa 1 j) 0 1) ∧ ma 0 = xa 0 ∧ ma 1 = xa 1 ∧ ma 2 = xa 2 ∧ ma 3 = xa 3 ∧ ma 4 = xa 4 ∧ ma 5 = xa 5 ∧ ma 6 = xa 6
def Glaw (n : Nat) (xi : Nat → Int32) (xb : Nat → Bool) (xa : Nat → Nat → Int32) (mi : Nat → Int32) (ma : Nat → Nat → Int32) : Prop :=
  (n ≤ 4 ∧ xi 1 = I n ∧ mi 10 = I n ∧ ForceOk n (xi 2) (mi 11)) ∧ (0 < n → LawOk 0 (xi 26) (xb 3) (xa 29) (ma 13) (ma 14) (ma 16) (ma 17) (ma 18) (ma 15)) ∧ (1 < n → LawOk 1 (xi 27) (xb 4) (xa 31) (ma 13) (ma 14) (ma 16) (ma 17) (ma 18) (ma 15)) ∧ (2 < n → LawOk 2 (xi 28) (xb 5) (xa 33) (ma 13) (ma 14) (ma 16) (ma 17) (ma 18) (ma 15)) ∧ (3 < n → LawOk 3 (xi 29) (xb 6) (xa 35) (ma 13) (ma 14) (ma 16) (ma 17) (ma 18) (ma 15))
def Grul (xi : Nat → Int32) (xb : Nat → Bool) (xa : Nat → Nat → Int32) (mb : Nat → Bool) (ma : Nat → Nat → Int32) : Prop :=
  xb 0 = mb 0 ∧ (xb 0 = true → LawOk 4 (xi 20) (xb 1) (xa 23) (ma 13) (ma 14) (ma 16) (ma 17) (ma 18) (ma 15))
def Grd (c : Nat) (xi : Nat → Int32) (xa : Nat → Nat → Int32) : Prop := Rd (1 + 20 * c) (xi 13) (xa 11) ∧ Rd (1 + 20 * c) (xi 14) (xa 13)
def Gsh (nb : Nat) (xi : Nat → Int32) (xl : Nat → Nat → Int64) (ma : Nat → Nat → Int32) (ml : Nat → Nat → Int64) : Prop :=
  ShOk 0 (xi 30) (xi 31) (xi 32) (xl 0) (ma 33) (ma 34) (ml 0) nb ∧ ShOk 1 (xi 33) (xi 34) (xi 35) (xl 1) (ma 33) (ma 34) (ml 0) nb ∧ ShOk 2 (xi 36) (xi 37) (xi 38) (xl 2) (ma 33) (ma 34) (ml 0) nb ∧ ShOk 3 (xi 39) (xi 40) (xi 41) (xl 3) (ma 33) (ma 34) (ml 0) nb ∧ ShOk 4 (xi 42) (xi 43) (xi 44) (xl 4) (ma 33) (ma 34) (ml 0) nb ∧ ShOk 5 (xi 45) (xi 46) (xi 47) (xl 5) (ma 33) (ma 34) (ml 0) nb
def Inv (c : Nat) (xi : Nat → Int32) (xb : Nat → Bool) (xa : Nat → Nat → Int32) (xl : Nat → Nat → Int64) (mi : Nat → Int32) (mb : Nat → Bool) (ma : Nat → Nat → Int32) (ml : Nat → Nat → Int64) : Prop := ∃ P R n nb, Gland P R xi xa mi ma ∧ FootOk (xa 7) (ma 7) ∧ SetOk (xa 20) (mi 2) (mi 3) (mi 4) (mi 5) (mi 6) (mi 7) ∧
  ChgOk P R (xi 15) (xi 16) (mi 8) (mi 9) (xa 16) (xa 17) (xa 18) (xa 19) (ma 8) (ma 9) (ma 10) (ma 11) ∧ TapeOk (xi 0) (mi 12) (xa 22) (ma 12) ∧
  Glaw n xi xb xa mi ma ∧ Grul xi xb xa mb ma ∧ Grd c xi xa ∧ BodOk nb (xi 22) (mi 24) (xi 23) (mi 25) (xa 27) (xa 28) (ma 31) (ma 32) ∧ Gsh nb xi xl ma ml
theorem Grd.up {c : Nat} {xi : Nat → Int32} {xa : Nat → Nat → Int32} (h : Grd c xi xa) : Grd (c + 1) xi xa := ⟨h.1.mono (by omega), h.2.mono (by omega)⟩
theorem Gsh.more {nb nb' : Nat} {xi : Nat → Int32} {xl : Nat → Nat → Int64} {ma : Nat → Nat → Int32} {ml : Nat → Nat → Int64} (h : Gsh nb xi xl ma ml) (hn : nb ≤ nb') : Gsh nb' xi xl ma ml := by
  obtain ⟨h0, h1, h2, h3, h4, h5⟩ := h
  exact ⟨h0.frame rfl rfl (fun _ _ => rfl) hn, h1.frame rfl rfl (fun _ _ => rfl) hn, h2.frame rfl rfl (fun _ _ => rfl) hn, h3.frame rfl rfl (fun _ _ => rfl) hn, h4.frame rfl rfl (fun _ _ => rfl) hn, h5.frame rfl rfl (fun _ _ => rfl) hn⟩
/-- a case of the law's loop: from a state that is right, the rest is right behind it -/
def Case (f : ((Nat → Int32) → (Nat → Bool) → (Nat → Nat → Int32) → (Nat → Nat → Int64) → (Nat → Int32) → (Nat → Bool) → (Nat → Nat → Int32) → (Nat → Nat → Int64) → Option Bool) → Nat → (Nat → Int32) → Int32 → (Nat → Int32) → (Nat → Bool) → (Nat → Nat → Int32) → (Nat → Nat → Int64) → (Nat → Int32) → (Nat → Bool) → (Nat → Nat → Int32) → (Nat → Nat → Int64) → Option Bool) : Prop :=
  ∀ (next : (Nat → Int32) → (Nat → Bool) → (Nat → Nat → Int32) → (Nat → Nat → Int64) → (Nat → Int32) → (Nat → Bool) → (Nat → Nat → Int32) → (Nat → Nat → Int64) → Option Bool) (L : Nat) (xs : Nat → Int32) (i : Int32) (c : Nat) (xi : Nat → Int32) (xb : Nat → Bool) (xa : Nat → Nat → Int32) (xl : Nat → Nat → Int64) (mi : Nat → Int32) (mb : Nat → Bool) (ma : Nat → Nat → Int32) (ml : Nat → Nat → Int64),
    Inv c xi xb xa xl mi mb ma ml → (∀ (xi : Nat → Int32) (xb : Nat → Bool) (xa : Nat → Nat → Int32) (xl : Nat → Nat → Int64) (mi : Nat → Int32) (mb : Nat → Bool) (ma : Nat → Nat → Int32) (ml : Nat → Nat → Int64), Inv (c + 1) xi xb xa xl mi mb ma ml → next xi xb xa xl mi mb ma ml = some true) → inB (i + 1) L = true → inB (i + 2) L = true → inB (i + 3) L = true → inB (i + 4) L = true → inB (i + 5) L = true → c ≤ 512 → f next L xs i xi xb xa xl mi mb ma ml = some true
theorem m_countSame (a b c d e f g p : Int32) : x8_count a b c d e f g p = x9_count f g e b a c d p := rfl
theorem Inv.up {c : Nat} {xi : Nat → Int32} {xb : Nat → Bool} {xa : Nat → Nat → Int32} {xl : Nat → Nat → Int64} {mi : Nat → Int32} {mb : Nat → Bool} {ma : Nat → Nat → Int32} {ml : Nat → Nat → Int64} (h : Inv c xi xb xa xl mi mb ma ml) : Inv (c + 1) xi xb xa xl mi mb ma ml := by
  obtain ⟨P, R, n, nb, hG, hF, hS, hC, hT, hW, hRl, hRd, hB, hH⟩ := h
  exact ⟨P, R, n, nb, hG, hF, hS, hC, hT, hW, hRl, hRd.up, hB, hH⟩
theorem ForceOk.up {n : Nat} {x m : Int32} (h : ForceOk n x m) : ForceOk (n + 1) x m := ⟨h.1, h.2.imp id (fun ⟨k, hk, e⟩ => ⟨k, by omega, e⟩)⟩
theorem TCk {n k P R : Nat} {A : Nat → Nat → Int32} {st : Nat → Int32} {m2 m3 m4 m5 m6 m7 x1 x2 m11 sz : Int32} {uw : Bool} {lst op val lF lM lT ls : Nat → Int32} (hL : LandOk P R A) (hS : SetOk st m2 m3 m4 m5 m6 m7) (hn : n ≤ 4) (hk : k < n) (e1 : x1 = I n) (e2 : x2 = I k) (e3 : m11 = x2) (hw : LawOk k sz uw lst op val lF lM lT ls) :
    ∃ lw, TC P R A st m2 m3 m4 m5 m6 m7 x1 x2 false sz lst m11 op val lF lM lT ls lw := by
  obtain ⟨Q, hC, hM⟩ := hw
  refine ⟨some Q, hL, hS, ?_, Or.inr ⟨rfl, Q, uw, rfl, hC⟩, Or.inr ⟨k, Q, sz, uw, lst, by omega, e3.trans e2, rfl, hM, hC⟩⟩
  unfold x8_lawText
  rw [e1, e2, if_neg (show ¬ (I k < 0) by show ¬ (I k < I 0); rw [I_lt (by omega) (by omega)]; omega), if_neg (show ¬ (I n ≤ I k) by rw [I_le (by omega) (by omega)]; omega), if_neg (show ¬ ((4 : Int32) ≤ I k) by show ¬ (I 4 ≤ I k); rw [I_le (by omega) (by omega)]; omega), I_inB (by omega), decide_eq_true (show k < 4 by omega)]
  rfl
theorem TCn {P R : Nat} {A : Nat → Nat → Int32} {st : Nat → Int32} {m2 m3 m4 m5 m6 m7 x2 m11 : Int32} (op val lF lM lT ls : Nat → Int32) (hL : LandOk P R A) (hS : SetOk st m2 m3 m4 m5 m6 m7) (e2 : x2 = -1) (e3 : m11 = x2) (x1 sz : Int32) (lst : Nat → Int32) :
    TC P R A st m2 m3 m4 m5 m6 m7 x1 x2 true sz lst m11 op val lF lM lT ls none := by
  refine ⟨hL, hS, ?_, Or.inl ⟨rfl, rfl⟩, Or.inl ⟨e3.trans e2, rfl⟩⟩
  unfold x8_lawText
  rw [e2, if_pos (show (-1 : Int32) < 0 by decide)]
theorem RCof {has : Bool} {sz : Int32} {uw : Bool} {st op val lF lM lT ls : Nat → Int32} (h : has = true → LawOk 4 sz uw st op val lF lM lT ls) : ∃ rl, RC has sz uw st op val lF lM lT ls rl := by
  cases has with
  | false => exact ⟨none, Or.inl ⟨rfl, rfl⟩, Or.inl ⟨rfl, rfl⟩⟩
  | true =>
    obtain ⟨Q, hC, hM⟩ := h rfl
    exact ⟨some Q, Or.inr ⟨rfl, Q, rfl, hC⟩, Or.inr ⟨rfl, Q, sz, uw, st, rfl, hM, hC⟩⟩
theorem o8 {p : Int32} (f : x8_shelfAt_o p = some ()) (q r : Int32) (v : Int64) : x8_keep_o p q = some (-1) ∧ x8_row_o p q r = some (-1) ∧ x8_put_o p q v = some (-1) ∧ x8_element_o p q = some (-9223372036854775808) ∧ x8_taken_o p q = some (-1) ∧ x8_roads_o p q r = some (-1) ∧ x8_book_o p q r = some (-2000000000) := by
  refine ⟨?_, ?_, ?_, ?_, ?_, ?_, ?_⟩
  · unfold x8_keep_o; rw [f]; rfl
  · unfold x8_row_o; rw [f]; rfl
  · unfold x8_put_o x8_refusalOf_o; rw [f, Option.bind_some, Option.bind_some, Option.bind_some]; split <;> rfl
  · unfold x8_element_o x8_refusalOf_o; rw [f, Option.bind_some, Option.bind_some, Option.bind_some]; split <;> rfl
  · unfold x8_taken_o; rw [f]; rfl
  · unfold x8_roads_o; rw [f]; rfl
  · unfold x8_book_o; rw [f]; rfl
