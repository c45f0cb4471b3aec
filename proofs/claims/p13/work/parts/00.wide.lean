theorem wide_in (cA : ClassId) (h0 : Nat) : True := by
  have := Jvm.Free.Multi.outerC_facts cA 3 h0 3
  trivial
