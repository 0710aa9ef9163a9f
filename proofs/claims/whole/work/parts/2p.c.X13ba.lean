theorem pjP {A B : Type} {a a2 : A} {b b2 : B} (h : (a, b) = (a2, b2)) : a = a2 ∧ b = b2 := Prod.mk.inj h
