theorem xand01 : ∀ (w : Nat), w < 2 → ∀ v, v < 2 → nI w &&& nI v = nI (w * v) := by decide
