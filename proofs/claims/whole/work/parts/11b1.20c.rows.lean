/-! rows of the land that are read behind a look at the index -/
theorem row_in {α : Type} (k : Nat) (hk : k < 2147483648) {n : Nat} (h : n < k) (a b : Option α) (c : Nat → Option α) :
    (if I n < 0 then a else (if I k ≤ I n then b else (bif inB (I n) k then c (I n).toNatClampNeg else none))) = c n := by
  have g1 : ¬ (I n < 0) := by show ¬ (I n < I 0); rw [I_lt (by omega) (by omega)]; omega
  have g2 : ¬ (I k ≤ I n) := by rw [I_le (by omega) (by omega)]; omega
  have g3 : inB (I n) k = true := by rw [I_inB (by omega)]; exact decide_eq_true h
  rw [if_neg g1, if_neg g2, g3, bif_t, I_clamp (by omega)]
theorem roomOf_I (v : Nat → Int32) {n : Nat} (h : n < 8) : x3_roomOf v (I n) = some (v n) := row_in 8 (by omega) h _ _ (fun j => some (v j))
theorem pumpsOf_I (v : Nat → Int32) {n : Nat} (h : n < 8) : x3_pumpsOf v (I n) = some (v n) := row_in 8 (by omega) h _ _ (fun j => some (v j))
theorem startOf_I (v : Nat → Int32) {n : Nat} (h : n < 16) : x3_startOf v (I n) = some (v n) := row_in 16 (by omega) h _ _ (fun j => some (v j))
theorem endOf_I (v : Nat → Int32) {n : Nat} (h : n < 16) : x3_endOf v (I n) = some (v n) := row_in 16 (by omega) h _ _ (fun j => some (v j))
theorem flowOf_I (v : Nat → Int32) {n : Nat} (h : n < 16) : x3_flowOf v (I n) = some (v n) := row_in 16 (by omega) h _ _ (fun j => some (v j))
theorem minutesOf_I (v : Nat → Int32) {n : Nat} (h : n < 16) : x3_minutesOf v (I n) = some (v n) := row_in 16 (by omega) h _ _ (fun j => some (v j))
theorem dangerOf_I (v : Nat → Int32) {n : Nat} (h : n < 16) : x3_dangerOf v (I n) = some (v n) := row_in 16 (by omega) h _ _ (fun j => some (v j))
theorem goalFrom_I (v : Nat → Int32) {n : Nat} (h : n < 8) : x7_goalFrom v (I n) = some (v n) := row_in 8 (by omega) h _ _ (fun j => some (v j))
