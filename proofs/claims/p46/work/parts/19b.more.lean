theorem bi_and {a b : Bool} : bi a &&& bi b = bi (a && b) := by cases a <;> cases b <;> rfl
theorem bi_or {a b : Bool} : bi a ||| bi b = bi (a || b) := by cases a <;> cases b <;> rfl
theorem bi_and1 {a : Bool} : bi a &&& 1 = bi a := by cases a <;> rfl
theorem bi_and0 {a : Bool} : bi a &&& 0 = 0 := by cases a <;> rfl
theorem bi_or1 {a : Bool} : bi a ||| 1 = 1 := by cases a <;> rfl
theorem bi_or0 {a : Bool} : bi a ||| 0 = bi a := by cases a <;> rfl
