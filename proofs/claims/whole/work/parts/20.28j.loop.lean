/-! the law's loop answers true (laid by mkinv.py) -/
theorem rest_true (L : Nat) (hL : L ≤ 3072) (xs : Nat → Int32) : ∀ m c (xi : Nat → Int32) (xb : Nat → Bool) (xa : Nat → Nat → Int32) (xl : Nat → Nat → Int64) (mi : Nat → Int32) (mb : Nat → Bool) (ma : Nat → Nat → Int32) (ml : Nat → Nat → Int64), 6 * c + m = L → c ≤ 512 → Inv c xi xb xa xl mi mb ma ml → ∀ n, m < n → xL_18 n L xs (I (6 * c)) xi xb xa xl mi mb ma ml = some true := by
  intro m
  induction m using Nat.strongRecOn with
  | _ m ih =>
  intro c xi xb xa xl mi mb ma ml hm hc h n hn
  obtain ⟨n, rfl⟩ : ∃ k, n = k + 1 := ⟨n - 1, by omega⟩
  rw [xL_18]
  have eL : (Int32.ofNat L - 6 : Int32) = I L - I 6 := rfl
  rw [eL]
  by_cases h6 : m < 6
  · refine igp ?_ rfl
    rw [Int32.lt_iff_toInt_lt, I_toInt (by omega), Int32.toInt_sub, I_toInt (by omega), I_toInt (by omega), Int.bmod_def]
    omega
  · refine ign ?_ ?_
    · rw [I_sub (by omega), I_lt (by omega) (by omega)]; omega
    have hi : ∀ k, k < 6 → inB (I (6 * c + k)) L = true := fun k hk => by rw [I_inB (by omega)]; exact decide_eq_true (by omega)
    have b0 : inB (I (6 * c)) L = true := hi 0 (by omega)
    have b1 : inB (I (6 * c) + 1) L = true := by rw [show (1 : Int32) = I 1 from rfl, I_add]; exact hi 1 (by omega)
    have b2 : inB (I (6 * c) + 2) L = true := by rw [show (2 : Int32) = I 2 from rfl, I_add]; exact hi 2 (by omega)
    have b3 : inB (I (6 * c) + 3) L = true := by rw [show (3 : Int32) = I 3 from rfl, I_add]; exact hi 3 (by omega)
    have b4 : inB (I (6 * c) + 4) L = true := by rw [show (4 : Int32) = I 4 from rfl, I_add]; exact hi 4 (by omega)
    have b5 : inB (I (6 * c) + 5) L = true := by rw [show (5 : Int32) = I 5 from rfl, I_add]; exact hi 5 (by omega)
    have hc1 : I (6 * c) + 6 = I (6 * (c + 1)) := by rw [show (6 : Int32) = I 6 from rfl, I_add]; congr 1
    have hn1 : ∀ (xi : Nat → Int32) (xb : Nat → Bool) (xa : Nat → Nat → Int32) (xl : Nat → Nat → Int64) (mi : Nat → Int32) (mb : Nat → Bool) (ma : Nat → Nat → Int32) (ml : Nat → Nat → Int64), Inv (c + 1) xi xb xa xl mi mb ma ml → (fun xi xb xa xl mi mb ma ml => xL_18 n L xs (I (6 * c) + 6) xi xb xa xl mi mb ma ml) xi xb xa xl mi mb ma ml = some true := by
      intro xi xb xa xl mi mb ma ml h'
      show xL_18 n L xs (I (6 * c) + 6) xi xb xa xl mi mb ma ml = some true
      rw [hc1]
      exact ih (m - 6) (by omega) (c + 1) xi xb xa xl mi mb ma ml (by omega) (by omega) h' n (by omega)
    have go : ∀ f, Case f → f (fun xi xb xa xl mi mb ma ml => xL_18 n L xs (I (6 * c) + 6) xi xb xa xl mi mb ma ml) L xs (I (6 * c)) xi xb xa xl mi mb ma ml = some true := fun f hf => hf _ L xs _ c xi xb xa xl mi mb ma ml h hn1 b1 b2 b3 b4 b5 hc
    refine bg b0 ?_
    by_cases d0 : ((xs (I (6 * c)).toNatClampNeg) &&& 63) = 0
    · exact igp d0 (go _ k_c0)
    refine ign d0 ?_
    by_cases d1 : ((xs (I (6 * c)).toNatClampNeg) &&& 63) = 1
    · exact igp d1 (go _ k_c1)
    refine ign d1 ?_
    by_cases d2 : ((xs (I (6 * c)).toNatClampNeg) &&& 63) = 2
    · exact igp d2 (go _ k_c2)
    refine ign d2 ?_
    by_cases d3 : ((xs (I (6 * c)).toNatClampNeg) &&& 63) = 3
    · exact igp d3 (go _ k_c3)
    refine ign d3 ?_
    by_cases d4 : ((xs (I (6 * c)).toNatClampNeg) &&& 63) = 4
    · exact igp d4 (go _ k_c4)
    refine ign d4 ?_
    by_cases d5 : ((xs (I (6 * c)).toNatClampNeg) &&& 63) = 5
    · exact igp d5 (go _ k_c5)
    refine ign d5 ?_
    by_cases d6 : ((xs (I (6 * c)).toNatClampNeg) &&& 63) = 6
    · exact igp d6 (go _ k_c6)
    refine ign d6 ?_
    by_cases d7 : ((xs (I (6 * c)).toNatClampNeg) &&& 63) = 7
    · exact igp d7 (go _ k_c7)
    refine ign d7 ?_
    by_cases d8 : ((xs (I (6 * c)).toNatClampNeg) &&& 63) = 8
    · exact igp d8 (go _ k_c8)
    refine ign d8 ?_
    by_cases d9 : ((xs (I (6 * c)).toNatClampNeg) &&& 63) = 9
    · exact igp d9 (go _ k_c9)
    refine ign d9 ?_
    by_cases d10 : ((xs (I (6 * c)).toNatClampNeg) &&& 63) = 10
    · exact igp d10 (go _ k_c10)
    refine ign d10 ?_
    by_cases d11 : ((xs (I (6 * c)).toNatClampNeg) &&& 63) = 11
    · exact igp d11 (go _ k_c11)
    refine ign d11 ?_
    by_cases d12 : ((xs (I (6 * c)).toNatClampNeg) &&& 63) = 12
    · exact igp d12 (go _ k_c12)
    refine ign d12 ?_
    by_cases d13 : ((xs (I (6 * c)).toNatClampNeg) &&& 63) = 13
    · exact igp d13 (go _ k_c13)
    refine ign d13 ?_
    by_cases d14 : ((xs (I (6 * c)).toNatClampNeg) &&& 63) = 14
    · exact igp d14 (go _ k_c14)
    refine ign d14 ?_
    by_cases d15 : ((xs (I (6 * c)).toNatClampNeg) &&& 63) = 15
    · exact igp d15 (go _ k_c15)
    refine ign d15 ?_
    by_cases d16 : ((xs (I (6 * c)).toNatClampNeg) &&& 63) = 16
    · exact igp d16 (go _ k_c16)
    refine ign d16 ?_
    by_cases d17 : ((xs (I (6 * c)).toNatClampNeg) &&& 63) = 17
    · exact igp d17 (go _ k_c17)
    refine ign d17 ?_
    by_cases d18 : ((xs (I (6 * c)).toNatClampNeg) &&& 63) = 18
    · exact igp d18 (go _ k_c18)
    refine ign d18 ?_
    by_cases d19 : ((xs (I (6 * c)).toNatClampNeg) &&& 63) = 19
    · exact igp d19 (go _ k_c19)
    refine ign d19 ?_
    by_cases d20 : ((xs (I (6 * c)).toNatClampNeg) &&& 63) = 20
    · exact igp d20 (go _ k_c20)
    refine ign d20 ?_
    by_cases d21 : ((xs (I (6 * c)).toNatClampNeg) &&& 63) = 21
    · exact igp d21 (go _ k_c21)
    refine ign d21 ?_
    by_cases d22 : ((xs (I (6 * c)).toNatClampNeg) &&& 63) = 22
    · exact igp d22 (go _ k_c22)
    refine ign d22 ?_
    by_cases d23 : ((xs (I (6 * c)).toNatClampNeg) &&& 63) = 23
    · exact igp d23 (go _ k_c23)
    refine ign d23 ?_
    by_cases d24 : ((xs (I (6 * c)).toNatClampNeg) &&& 63) = 24
    · exact igp d24 (go _ k_c24)
    refine ign d24 ?_
    by_cases d25 : ((xs (I (6 * c)).toNatClampNeg) &&& 63) = 25
    · exact igp d25 (go _ k_c25)
    refine ign d25 ?_
    by_cases d26 : ((xs (I (6 * c)).toNatClampNeg) &&& 63) = 26
    · exact igp d26 (go _ k_c26)
    refine ign d26 ?_
    by_cases d27 : ((xs (I (6 * c)).toNatClampNeg) &&& 63) = 27
    · exact igp d27 (go _ k_c27)
    refine ign d27 ?_
    by_cases d28 : ((xs (I (6 * c)).toNatClampNeg) &&& 63) = 28
    · exact igp d28 (go _ k_c28)
    refine ign d28 ?_
    by_cases d29 : ((xs (I (6 * c)).toNatClampNeg) &&& 63) = 29
    · exact igp d29 (go _ k_c29)
    refine ign d29 ?_
    by_cases d30 : ((xs (I (6 * c)).toNatClampNeg) &&& 63) = 30
    · exact igp d30 (go _ k_c30)
    refine ign d30 ?_
    by_cases d31 : ((xs (I (6 * c)).toNatClampNeg) &&& 63) = 31
    · exact igp d31 (go _ k_c31)
    refine ign d31 ?_
    by_cases d32 : ((xs (I (6 * c)).toNatClampNeg) &&& 63) = 32
    · exact igp d32 (go _ k_c32)
    refine ign d32 ?_
    by_cases d33 : ((xs (I (6 * c)).toNatClampNeg) &&& 63) = 33
    · exact igp d33 (go _ k_c33)
    refine ign d33 ?_
    by_cases d34 : ((xs (I (6 * c)).toNatClampNeg) &&& 63) = 34
    · exact igp d34 (go _ k_c34)
    refine ign d34 ?_
    by_cases d35 : ((xs (I (6 * c)).toNatClampNeg) &&& 63) = 35
    · exact igp d35 (go _ k_c35)
    refine ign d35 ?_
    by_cases d36 : ((xs (I (6 * c)).toNatClampNeg) &&& 63) = 36
    · exact igp d36 (go _ k_c36)
    refine ign d36 ?_
    by_cases d37 : ((xs (I (6 * c)).toNatClampNeg) &&& 63) = 37
    · exact igp d37 (go _ k_c37)
    refine ign d37 ?_
    exact hn1 xi xb xa xl mi mb ma ml h.up
