theorem zl9_0 : zlf 9 [(-2147483648, -1), (-2147483648, 2147483647), (-2147483648, 2147483647), (-2147483648, 2147483647), (-2147483648, 2147483647)] := zlf_of (sc := [7, 4, 12, 20, 28, 36]) (by decide +kernel) (by decide +kernel)
theorem zl9_1 : zlf 9 [(0, 4), (-2147483648, -3), (-2147483648, 2147483647), (-2147483648, 2147483647), (-2147483648, 2147483647)] := zlf_of (sc := [7, 4, 12, 20, 28, 36]) (by decide +kernel) (by decide +kernel)
theorem zl9_2 : zlf 9 [(0, 0), (-2, -2), (-2147483648, 2147483647), (-2147483648, 2147483647), (-2147483648, 2147483647)] := zlf_of (sc := [7, 0, 34359738352, 20, 28, 36]) (by decide +kernel) (by decide +kernel)
theorem zl9_3 : zlf 9 [(1, 1), (-2, -2), (-2147483648, 2147483647), (-2147483648, 2147483647), (-2147483648, 2147483647)] := zlf_of (sc := [7, 8, 34359738352, 20, 28, 36]) (by decide +kernel) (by decide +kernel)
theorem zl9_4 : zlf 9 [(2, 2), (-2, -2), (-2147483648, 2147483647), (-2147483648, 2147483647), (-2147483648, 2147483647)] := zlf_of (sc := [7, 16, 34359738352, 20, 28, 36]) (by decide +kernel) (by decide +kernel)
theorem zl9_5 : zlf 9 [(3, 3), (-2, -2), (-2147483648, 2147483647), (-2147483648, 2147483647), (-2147483648, 2147483647)] := zlf_of (sc := [7, 24, 34359738352, 20, 28, 36]) (by decide +kernel) (by decide +kernel)
theorem zl9_6 : zlf 9 [(4, 4), (-2, -2), (-2147483648, 2147483647), (-2147483648, 2147483647), (-2147483648, 2147483647)] := zlf_of (sc := [7, 32, 34359738352, 20, 28, 36]) (by decide +kernel) (by decide +kernel)
theorem zl9_7 : zlf 9 [(0, 4), (-1, -1), (-2147483648, 2147483647), (-2147483648, 2147483647), (-2147483648, 2147483647)] := zlf_of (sc := [7, 4, 34359738360, 20, 28, 36]) (by decide +kernel) (by decide +kernel)
theorem zl9_8 : zlf 9 [(0, 0), (0, 2147483647), (-2147483648, 2147483647), (-2147483648, 2147483647), (-2147483648, 2147483647)] := zlf_of (sc := [7, 0, 12, 20, 28, 36]) (by decide +kernel) (by decide +kernel)
theorem zl9_9 : zlf 9 [(1, 1), (0, 2147483647), (-2147483648, 2147483647), (-2147483648, 2147483647), (-2147483648, 2147483647)] := zlf_of (sc := [7, 8, 12, 20, 28, 36]) (by decide +kernel) (by decide +kernel)
theorem zl9_10 : zlf 9 [(2, 2), (0, 2147483647), (-2147483648, 2147483647), (-2147483648, 2147483647), (-2147483648, 2147483647)] := zlf_of (sc := [7, 16, 12, 20, 28, 36]) (by decide +kernel) (by decide +kernel)
theorem zl9_11 : zlf 9 [(3, 3), (0, 2147483647), (-2147483648, 2147483647), (-2147483648, 2147483647), (-2147483648, 2147483647)] := zlf_of (sc := [7, 24, 12, 20, 28, 36]) (by decide +kernel) (by decide +kernel)
theorem zl9_12 : zlf 9 [(4, 4), (0, 2147483647), (-2147483648, 2147483647), (-2147483648, 2147483647), (-2147483648, 2147483647)] := zlf_of (sc := [7, 32, 12, 20, 28, 36]) (by decide +kernel) (by decide +kernel)
theorem zl9_13 : zlf 9 [(5, 2147483647), (-2147483648, 2147483647), (-2147483648, 2147483647), (-2147483648, 2147483647), (-2147483648, 2147483647)] := zlf_of (sc := [7, 4, 12, 20, 28, 36]) (by decide +kernel) (by decide +kernel)
theorem zc9 : zcov 9 := by
  intro P x hx h
  obtain ⟨a0, b0⟩ := hx 0
  obtain ⟨a1, b1⟩ := hx 1
  obtain ⟨a2, b2⟩ := hx 2
  obtain ⟨a3, b3⟩ := hx 3
  obtain ⟨a4, b4⟩ := hx 4
  by_cases q1_0 : x 0 ≤ -1
  · exact h _ zl9_0 (zbox5 ⟨by omega, by omega⟩ ⟨by omega, by omega⟩ ⟨by omega, by omega⟩ ⟨by omega, by omega⟩ ⟨by omega, by omega⟩)
  by_cases q1_0 : x 0 ≤ 4
  · by_cases q2_0 : x 1 ≤ -3
    · exact h _ zl9_1 (zbox5 ⟨by omega, by omega⟩ ⟨by omega, by omega⟩ ⟨by omega, by omega⟩ ⟨by omega, by omega⟩ ⟨by omega, by omega⟩)
    by_cases q2_1 : x 1 ≤ -2
    · by_cases q3_0 : x 0 ≤ 0
      · exact h _ zl9_2 (zbox5 ⟨by omega, by omega⟩ ⟨by omega, by omega⟩ ⟨by omega, by omega⟩ ⟨by omega, by omega⟩ ⟨by omega, by omega⟩)
      by_cases q3_1 : x 0 ≤ 1
      · exact h _ zl9_3 (zbox5 ⟨by omega, by omega⟩ ⟨by omega, by omega⟩ ⟨by omega, by omega⟩ ⟨by omega, by omega⟩ ⟨by omega, by omega⟩)
      by_cases q3_2 : x 0 ≤ 2
      · exact h _ zl9_4 (zbox5 ⟨by omega, by omega⟩ ⟨by omega, by omega⟩ ⟨by omega, by omega⟩ ⟨by omega, by omega⟩ ⟨by omega, by omega⟩)
      by_cases q3_3 : x 0 ≤ 3
      · exact h _ zl9_5 (zbox5 ⟨by omega, by omega⟩ ⟨by omega, by omega⟩ ⟨by omega, by omega⟩ ⟨by omega, by omega⟩ ⟨by omega, by omega⟩)
      exact h _ zl9_6 (zbox5 ⟨by omega, by omega⟩ ⟨by omega, by omega⟩ ⟨by omega, by omega⟩ ⟨by omega, by omega⟩ ⟨by omega, by omega⟩)
    by_cases q2_0 : x 1 ≤ -1
    · exact h _ zl9_7 (zbox5 ⟨by omega, by omega⟩ ⟨by omega, by omega⟩ ⟨by omega, by omega⟩ ⟨by omega, by omega⟩ ⟨by omega, by omega⟩)
    by_cases q2_0 : x 0 ≤ 0
    · exact h _ zl9_8 (zbox5 ⟨by omega, by omega⟩ ⟨by omega, by omega⟩ ⟨by omega, by omega⟩ ⟨by omega, by omega⟩ ⟨by omega, by omega⟩)
    by_cases q2_1 : x 0 ≤ 1
    · exact h _ zl9_9 (zbox5 ⟨by omega, by omega⟩ ⟨by omega, by omega⟩ ⟨by omega, by omega⟩ ⟨by omega, by omega⟩ ⟨by omega, by omega⟩)
    by_cases q2_2 : x 0 ≤ 2
    · exact h _ zl9_10 (zbox5 ⟨by omega, by omega⟩ ⟨by omega, by omega⟩ ⟨by omega, by omega⟩ ⟨by omega, by omega⟩ ⟨by omega, by omega⟩)
    by_cases q2_3 : x 0 ≤ 3
    · exact h _ zl9_11 (zbox5 ⟨by omega, by omega⟩ ⟨by omega, by omega⟩ ⟨by omega, by omega⟩ ⟨by omega, by omega⟩ ⟨by omega, by omega⟩)
    exact h _ zl9_12 (zbox5 ⟨by omega, by omega⟩ ⟨by omega, by omega⟩ ⟨by omega, by omega⟩ ⟨by omega, by omega⟩ ⟨by omega, by omega⟩)
  exact h _ zl9_13 (zbox5 ⟨by omega, by omega⟩ ⟨by omega, by omega⟩ ⟨by omega, by omega⟩ ⟨by omega, by omega⟩ ⟨by omega, by omega⟩)
