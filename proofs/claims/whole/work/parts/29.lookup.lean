theorem lk_out3 {a b c a1 b1 c1 d x : Int} (h1 : x ≠ a) (h2 : x ≠ b) (h3 : x ≠ c) : Op.lookupswitch.offset [(a, a1), (b, b1), (c, c1)] d x = d := by
  simp [Op.lookupswitch.offset, h1, h2, h3, Ne.symm h1, Ne.symm h2, Ne.symm h3]
