/-! a private method of the class above, selected on an object of the class below -/
theorem w9_sel {C : String} {y z : MethodName} {s : State} {args : Array Value} {n : Nat} (hy : y.cls ≠ "java/lang/invoke/MethodHandle" ∧ y.cls ≠ "java/lang/invoke/VarHandle") (hzy : z.cls = y.cls)
    (hins : (Cond.instantiable C n).before args s = true) (hpriv : (Cond.privateMethod y).before args s = true) (hinst : (Cond.instanceMethod y).before args s = true) (hz : (Cond.selects C z z).before args s = true) :
    (Cond.selects C y y).before args s = true := by
  obtain ⟨c, k, hc, hk, -, -, -, -⟩ := Cond.instantiable_spec hins
  obtain ⟨mk, methM, hnamed, hmethM, -, -⟩ := Cond.instanceMethod_spec hinst
  have hfound : s.methodFound? y.cls y.name y.desc = some mk := State.methodFound?_of_named hnamed hy
  have hsel : selectMethod {} s.vm c mk = .method mk := selectMethod_private hmethM (Cond.privateMethod_at hpriv mk methM hnamed hmethM)
  have hcl : (s.vm.classes[mk.cls]?).any (fun q => !q.isInterface) = true := by
    simp only [Cond.before, Cond.holds, Cond.value, hc] at hz
    cases h1 : s.methodFound? z.cls z.name z.desc with
    | none => simp [h1] at hz
    | some r =>
      cases h2 : s.methodNamed? z with
      | none => simp [h1, h2] at hz
      | some m2 =>
        have e1 : m2.cls = mk.cls := Option.some.inj ((findClass_of_methodNamed h2).symm.trans (by rw [hzy]; exact findClass_of_methodNamed hnamed))
        rw [← e1]
        simp only [h1, h2] at hz
        cases h3 : selectMethod {} s.vm c r with
        | method m3 =>
          simp only [h3] at hz
          simp at hz
          simpa using hz.2
        | _ => simp [h3] at hz
  simp only [Cond.before, Cond.holds, Cond.value, hc, hfound, hnamed, hsel]
  simp
  simpa using hcl
