theorem zl23_0 : zlf 23 [(-2147483648, 2147483647), (-2147483648, 2147483647), (-2147483648, 2147483647), (-2147483648, 2147483647), (-2147483648, 2147483647)] := zlf_of (sc := [7, 4, 12, 20, 28, 36]) (by decide +kernel) (by decide +kernel)
theorem zc23 : zcov 23 := by
  intro P x hx h
  obtain ⟨a0, b0⟩ := hx 0
  obtain ⟨a1, b1⟩ := hx 1
  obtain ⟨a2, b2⟩ := hx 2
  obtain ⟨a3, b3⟩ := hx 3
  obtain ⟨a4, b4⟩ := hx 4
  exact h _ zl23_0 (zbox5 ⟨by omega, by omega⟩ ⟨by omega, by omega⟩ ⟨by omega, by omega⟩ ⟨by omega, by omega⟩ ⟨by omega, by omega⟩)
