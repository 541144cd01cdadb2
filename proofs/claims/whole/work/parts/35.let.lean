/-- a name for a value, that opens by an equation -/
def px_let {α β : Type} (a : α) (f : α → β) : β := f a
theorem px_let_eq {α β : Type} {a b : α} {f : α → β} (h : b = a) : px_let a f = f b := by rw [h]; rfl
