/-! the first state of both objects (laid by mkend.py) -/
def s_xi : Nat → Int32 := fun j => if j = 2 then (-1) else (if j = 13 then 1 else (if j = 14 then 1 else (if j = 30 then (-1) else (if j = 31 then (-1) else (if j = 33 then (-1) else (if j = 34 then (-1) else (if j = 36 then (-1) else (if j = 37 then (-1) else (if j = 39 then (-1) else (if j = 40 then (-1) else (if j = 42 then (-1) else (if j = 43 then (-1) else (if j = 45 then (-1) else (if j = 46 then (-1) else (0)))))))))))))))
def s_xb : Nat → Bool := fun j => false
def s_xa : Nat → Nat → Int32 := fun j => if j = 20 then (upd (upd (upd (upd (upd (upd (fun _ => 0) (0 : Int32).toNatClampNeg 0) (1 : Int32).toNatClampNeg 1200) (2 : Int32).toNatClampNeg 1) (3 : Int32).toNatClampNeg 0) (4 : Int32).toNatClampNeg (-1)) (5 : Int32).toNatClampNeg 0) else ((fun _ => 0))
def s_xl : Nat → Nat → Int64 := fun j => (fun _ => 0)
def s_mi : Nat → Int32 := fun j => if j = 3 then 1200 else (if j = 4 then 1 else (if j = 6 then (-1) else (if j = 11 then (-1) else (if j = 18 then (-1) else (if j = 19 then 1 else (if j = 21 then (-1) else (0)))))))
def s_mb : Nat → Bool := fun j => false
def s_ma : Nat → Nat → Int32 := fun j => if j = 33 then (upd (upd (upd (upd (upd (upd (fun _ => 0) (0 : Int32).toNatClampNeg (-1)) (1 : Int32).toNatClampNeg (-1)) (2 : Int32).toNatClampNeg (-1)) (3 : Int32).toNatClampNeg (-1)) (4 : Int32).toNatClampNeg (-1)) (5 : Int32).toNatClampNeg (-1)) else ((fun _ => 0))
def s_ml : Nat → Nat → Int64 := fun j => (fun _ => 0)
theorem I0in {a b : Nat} (ha : a = 0) : In 0 a b := ⟨0, by omega, by omega, rfl⟩
theorem s_inv : Inv 0 s_xi s_xb s_xa s_xl s_mi s_mb s_ma s_ml := by
  refine ⟨0, 0, 0, 0, ⟨⟨rfl, rfl, rfl, rfl⟩, ⟨by decide, by decide, fun j hj => absurd hj (Nat.not_lt_zero j)⟩, fun j => I0in rfl, fun j => I0in rfl, rfl, rfl, rfl, rfl, rfl, rfl, rfl⟩, ⟨rfl, fun j => I0in rfl, fun p _ => rfl⟩, ?_, ?_, ⟨0, by decide, rfl, rfl, rfl, fun j => ⟨0, by decide, rfl⟩⟩, ?_, ⟨rfl, fun h => absurd (show false = true from h) (by decide)⟩, ?_, ?_, ?_⟩
  · exact ⟨by decide, by decide, by decide, by decide, by decide, by decide, ⟨0, by decide, by decide, rfl⟩, ⟨1200, by decide, by decide, rfl⟩, ⟨1, by decide, by decide, rfl⟩⟩
  · exact ⟨0, 0, by decide, by decide, rfl, rfl, rfl, rfl, rfl, rfl, rfl, rfl, fun j hj => absurd hj (Nat.not_lt_zero j)⟩
  · exact ⟨⟨by decide, rfl, rfl, ⟨rfl, Or.inl rfl⟩⟩, fun h => absurd h (Nat.not_lt_zero _), fun h => absurd h (Nat.not_lt_zero _), fun h => absurd h (Nat.not_lt_zero _), fun h => absurd h (Nat.not_lt_zero _)⟩
  · exact ⟨⟨1, by decide, rfl, fun j _ => ⟨0, by decide, rfl⟩⟩, ⟨1, by decide, rfl, fun j _ => ⟨0, by decide, rfl⟩⟩⟩
  · exact ⟨by decide, rfl, rfl, rfl, rfl, rfl, ⟨0, by decide, rfl⟩, fun j hj => absurd hj (Nat.not_lt_zero j)⟩
  · exact ⟨Or.inl ⟨rfl, by decide⟩, Or.inl ⟨rfl, by decide⟩, Or.inl ⟨rfl, by decide⟩, Or.inl ⟨rfl, by decide⟩, Or.inl ⟨rfl, by decide⟩, Or.inl ⟨rfl, by decide⟩⟩
