/-! what a method leaves, but for stale references that it may have set: those hold some value -/
def POe {β : Type} (rf : β → Option Value) (wf : β → (Nat → Value) → va_W) (out : β) : Option Value → va_W → Prop := fun r w => r = rf out ∧ ∃ v : Nat → Value, w = wf out v
theorem ype {β : Type} {rf : β → Option Value} {wf : β → (Nat → Value) → va_W} {out o' : β} {r : Option Value} {w : va_W} {v : Nat → Value} (hx : some o' = some out) (h1 : rf o' = r) (h2 : wf o' v = w) : POe rf wf out r w := by
  cases hx
  exact ⟨h1.symm, v, h2.symm⟩
