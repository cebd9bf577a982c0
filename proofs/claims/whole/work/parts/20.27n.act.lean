/-! an act as a call -/
theorem m_act {nb : Nat} {x22 m24 x23 m25 : Int32} {kinds trace mk mt : Nat → Int32} (h : BodOk nb x22 m24 x23 m25 kinds trace mk mt) (sf kd p1 p2 p3 : Int32) :
    ∃ o1 o2, x8_act x22 x23 sf kd kinds trace p1 p2 p3 = some o1 ∧ x9_act m24 m25 mk mt p1 p2 p3 = some o2 ∧ o1.1 = o2.1 ∧ BodOk nb x22 m24 o1.2.1 o2.2.1 kinds o1.2.2.2.2 mk o2.2.2 := sorry
