/-! evaluation ahead of going on: simp looks at a, not at F -/
def Wrp {α : Type} (_ : α → Prop) : Type := Unit
def wr {α : Type} (F : α → Prop) : Wrp F := ()
def evl {α : Type} (F : α → Prop) (a : α) (_ : Wrp F) : Prop := F a
theorem evl_e {α : Type} {F : α → Prop} {a : α} {t : Wrp F} : evl F a t = F a := rfl
theorem endQ_e {I : Nat → Nat → Int32} {L : Nat → Nat → Int64} {P : Nat → Nat → Option Nat} {n s : Nat} {Q : Qm} {r : Option Value} : endQ n s Q r (I, L, P, n, s) = Q r (I, L, P, n, s) := propext ⟨fun h => h.2, fun h => ⟨⟨rfl, rfl⟩, h⟩⟩
