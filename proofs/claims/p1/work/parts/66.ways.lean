theorem zl0_0 : zlf 0 [(-2147483648, 2147483647), (-2147483648, 2147483647), (-2147483648, 2147483647), (-2147483648, 2147483647), (-2147483648, 2147483647)] := zlf_of (sc := [7, 4, 12, 20, 28, 36]) (by decide +kernel) (by decide +kernel)
theorem zc0 : zcov 0 := by
  intro P x hx h
  obtain ⟨a0, b0⟩ := hx 0
  obtain ⟨a1, b1⟩ := hx 1
  obtain ⟨a2, b2⟩ := hx 2
  obtain ⟨a3, b3⟩ := hx 3
  obtain ⟨a4, b4⟩ := hx 4
  exact h _ zl0_0 (zbox5 ⟨by omega, by omega⟩ ⟨by omega, by omega⟩ ⟨by omega, by omega⟩ ⟨by omega, by omega⟩ ⟨by omega, by omega⟩)
theorem zl1_0 : zlf 1 [(-2147483648, -1), (-2147483648, 2147483647), (-2147483648, 2147483647), (-2147483648, 2147483647), (-2147483648, 2147483647)] := zlf_of (sc := [7, 4, 12, 20, 28, 36]) (by decide +kernel) (by decide +kernel)
theorem zl1_1 : zlf 1 [(0, 0), (-2147483648, 2147483647), (-2147483648, 2147483647), (-2147483648, 2147483647), (-2147483648, 2147483647)] := zlf_of (sc := [7, 0, 12, 20, 28, 36]) (by decide +kernel) (by decide +kernel)
theorem zl1_2 : zlf 1 [(1, 2147483647), (-2147483648, 2147483647), (-2147483648, 2147483647), (-2147483648, 2147483647), (-2147483648, 2147483647)] := zlf_of (sc := [7, 4, 12, 20, 28, 36]) (by decide +kernel) (by decide +kernel)
theorem zc1 : zcov 1 := by
  intro P x hx h
  obtain ⟨a0, b0⟩ := hx 0
  obtain ⟨a1, b1⟩ := hx 1
  obtain ⟨a2, b2⟩ := hx 2
  obtain ⟨a3, b3⟩ := hx 3
  obtain ⟨a4, b4⟩ := hx 4
  by_cases q1_0 : x 0 ≤ -1
  · exact h _ zl1_0 (zbox5 ⟨by omega, by omega⟩ ⟨by omega, by omega⟩ ⟨by omega, by omega⟩ ⟨by omega, by omega⟩ ⟨by omega, by omega⟩)
  by_cases q1_0 : x 0 ≤ 0
  · exact h _ zl1_1 (zbox5 ⟨by omega, by omega⟩ ⟨by omega, by omega⟩ ⟨by omega, by omega⟩ ⟨by omega, by omega⟩ ⟨by omega, by omega⟩)
  exact h _ zl1_2 (zbox5 ⟨by omega, by omega⟩ ⟨by omega, by omega⟩ ⟨by omega, by omega⟩ ⟨by omega, by omega⟩ ⟨by omega, by omega⟩)
theorem zl2_0 : zlf 2 [(-2147483648, 2147483647), (-2147483648, 2147483647), (-2147483648, -1), (-2147483648, 2147483647), (-2147483648, 2147483647)] := zlf_of (sc := [7, 4, 12, 20, 28, 36]) (by decide +kernel) (by decide +kernel)
theorem zl2_1 : zlf 2 [(-2147483648, -1), (-2147483648, 2147483647), (0, 0), (-2147483648, 2147483647), (-2147483648, 2147483647)] := zlf_of (sc := [7, 4, 12, 0, 28, 36]) (by decide +kernel) (by decide +kernel)
theorem zl2_2 : zlf 2 [(0, 0), (-2147483648, -1), (0, 0), (-2147483648, 2147483647), (-2147483648, 2147483647)] := zlf_of (sc := [7, 0, 12, 0, 28, 36]) (by decide +kernel) (by decide +kernel)
theorem zl2_3 : zlf 2 [(0, 0), (0, 0), (0, 0), (-2147483648, 2147483647), (-2147483648, 2147483647)] := zlf_of (sc := [7, 0, 0, 0, 28, 36]) (by decide +kernel) (by decide +kernel)
theorem zl2_4 : zlf 2 [(0, 0), (1, 2147483647), (0, 0), (-2147483648, 2147483647), (-2147483648, 2147483647)] := zlf_of (sc := [7, 0, 12, 0, 28, 36]) (by decide +kernel) (by decide +kernel)
theorem zl2_5 : zlf 2 [(1, 2147483647), (-2147483648, 2147483647), (0, 0), (-2147483648, 2147483647), (-2147483648, 2147483647)] := zlf_of (sc := [7, 4, 12, 0, 28, 36]) (by decide +kernel) (by decide +kernel)
theorem zl2_6 : zlf 2 [(-2147483648, 2147483647), (-2147483648, 2147483647), (1, 2147483647), (-2147483648, 2147483647), (-2147483648, 2147483647)] := zlf_of (sc := [7, 4, 12, 20, 28, 36]) (by decide +kernel) (by decide +kernel)
theorem zc2 : zcov 2 := by
  intro P x hx h
  obtain ⟨a0, b0⟩ := hx 0
  obtain ⟨a1, b1⟩ := hx 1
  obtain ⟨a2, b2⟩ := hx 2
  obtain ⟨a3, b3⟩ := hx 3
  obtain ⟨a4, b4⟩ := hx 4
  by_cases q1_0 : x 2 ≤ -1
  · exact h _ zl2_0 (zbox5 ⟨by omega, by omega⟩ ⟨by omega, by omega⟩ ⟨by omega, by omega⟩ ⟨by omega, by omega⟩ ⟨by omega, by omega⟩)
  by_cases q1_0 : x 2 ≤ 0
  · by_cases q2_0 : x 0 ≤ -1
    · exact h _ zl2_1 (zbox5 ⟨by omega, by omega⟩ ⟨by omega, by omega⟩ ⟨by omega, by omega⟩ ⟨by omega, by omega⟩ ⟨by omega, by omega⟩)
    by_cases q2_0 : x 0 ≤ 0
    · by_cases q3_0 : x 1 ≤ -1
      · exact h _ zl2_2 (zbox5 ⟨by omega, by omega⟩ ⟨by omega, by omega⟩ ⟨by omega, by omega⟩ ⟨by omega, by omega⟩ ⟨by omega, by omega⟩)
      by_cases q3_0 : x 1 ≤ 0
      · exact h _ zl2_3 (zbox5 ⟨by omega, by omega⟩ ⟨by omega, by omega⟩ ⟨by omega, by omega⟩ ⟨by omega, by omega⟩ ⟨by omega, by omega⟩)
      exact h _ zl2_4 (zbox5 ⟨by omega, by omega⟩ ⟨by omega, by omega⟩ ⟨by omega, by omega⟩ ⟨by omega, by omega⟩ ⟨by omega, by omega⟩)
    exact h _ zl2_5 (zbox5 ⟨by omega, by omega⟩ ⟨by omega, by omega⟩ ⟨by omega, by omega⟩ ⟨by omega, by omega⟩ ⟨by omega, by omega⟩)
  exact h _ zl2_6 (zbox5 ⟨by omega, by omega⟩ ⟨by omega, by omega⟩ ⟨by omega, by omega⟩ ⟨by omega, by omega⟩ ⟨by omega, by omega⟩)
theorem zl3_0 : zlf 3 [(-2147483648, -1), (-2147483648, 2147483647), (-2147483648, 2147483647), (-2147483648, 2147483647), (-2147483648, 2147483647)] := zlf_of (sc := [7, 4, 12, 20, 28, 36]) (by decide +kernel) (by decide +kernel)
theorem zl3_1 : zlf 3 [(0, 4), (-2147483648, -1), (-2147483648, 2147483647), (-2147483648, 2147483647), (-2147483648, 2147483647)] := zlf_of (sc := [7, 4, 12, 20, 28, 36]) (by decide +kernel) (by decide +kernel)
theorem zl3_2 : zlf 3 [(0, 0), (0, 2147483647), (-2147483648, 2147483647), (-2147483648, 2147483647), (-2147483648, 2147483647)] := zlf_of (sc := [7, 0, 12, 20, 28, 36]) (by decide +kernel) (by decide +kernel)
theorem zl3_3 : zlf 3 [(1, 1), (0, 2147483647), (-2147483648, 2147483647), (-2147483648, 2147483647), (-2147483648, 2147483647)] := zlf_of (sc := [7, 8, 12, 20, 28, 36]) (by decide +kernel) (by decide +kernel)
theorem zl3_4 : zlf 3 [(2, 2), (0, 2147483647), (-2147483648, 2147483647), (-2147483648, 2147483647), (-2147483648, 2147483647)] := zlf_of (sc := [7, 16, 12, 20, 28, 36]) (by decide +kernel) (by decide +kernel)
theorem zl3_5 : zlf 3 [(3, 3), (0, 2147483647), (-2147483648, 2147483647), (-2147483648, 2147483647), (-2147483648, 2147483647)] := zlf_of (sc := [7, 24, 12, 20, 28, 36]) (by decide +kernel) (by decide +kernel)
theorem zl3_6 : zlf 3 [(4, 4), (0, 2147483647), (-2147483648, 2147483647), (-2147483648, 2147483647), (-2147483648, 2147483647)] := zlf_of (sc := [7, 32, 12, 20, 28, 36]) (by decide +kernel) (by decide +kernel)
theorem zl3_7 : zlf 3 [(5, 2147483647), (-2147483648, 2147483647), (-2147483648, 2147483647), (-2147483648, 2147483647), (-2147483648, 2147483647)] := zlf_of (sc := [7, 4, 12, 20, 28, 36]) (by decide +kernel) (by decide +kernel)
theorem zc3 : zcov 3 := by
  intro P x hx h
  obtain ⟨a0, b0⟩ := hx 0
  obtain ⟨a1, b1⟩ := hx 1
  obtain ⟨a2, b2⟩ := hx 2
  obtain ⟨a3, b3⟩ := hx 3
  obtain ⟨a4, b4⟩ := hx 4
  by_cases q1_0 : x 0 ≤ -1
  · exact h _ zl3_0 (zbox5 ⟨by omega, by omega⟩ ⟨by omega, by omega⟩ ⟨by omega, by omega⟩ ⟨by omega, by omega⟩ ⟨by omega, by omega⟩)
  by_cases q1_0 : x 0 ≤ 4
  · by_cases q2_0 : x 1 ≤ -1
    · exact h _ zl3_1 (zbox5 ⟨by omega, by omega⟩ ⟨by omega, by omega⟩ ⟨by omega, by omega⟩ ⟨by omega, by omega⟩ ⟨by omega, by omega⟩)
    by_cases q2_0 : x 0 ≤ 0
    · exact h _ zl3_2 (zbox5 ⟨by omega, by omega⟩ ⟨by omega, by omega⟩ ⟨by omega, by omega⟩ ⟨by omega, by omega⟩ ⟨by omega, by omega⟩)
    by_cases q2_1 : x 0 ≤ 1
    · exact h _ zl3_3 (zbox5 ⟨by omega, by omega⟩ ⟨by omega, by omega⟩ ⟨by omega, by omega⟩ ⟨by omega, by omega⟩ ⟨by omega, by omega⟩)
    by_cases q2_2 : x 0 ≤ 2
    · exact h _ zl3_4 (zbox5 ⟨by omega, by omega⟩ ⟨by omega, by omega⟩ ⟨by omega, by omega⟩ ⟨by omega, by omega⟩ ⟨by omega, by omega⟩)
    by_cases q2_3 : x 0 ≤ 3
    · exact h _ zl3_5 (zbox5 ⟨by omega, by omega⟩ ⟨by omega, by omega⟩ ⟨by omega, by omega⟩ ⟨by omega, by omega⟩ ⟨by omega, by omega⟩)
    exact h _ zl3_6 (zbox5 ⟨by omega, by omega⟩ ⟨by omega, by omega⟩ ⟨by omega, by omega⟩ ⟨by omega, by omega⟩ ⟨by omega, by omega⟩)
  exact h _ zl3_7 (zbox5 ⟨by omega, by omega⟩ ⟨by omega, by omega⟩ ⟨by omega, by omega⟩ ⟨by omega, by omega⟩ ⟨by omega, by omega⟩)
theorem zl4_0 : zlf 4 [(-2147483648, 2147483647), (-2147483648, 2147483647), (-2147483648, 2147483647), (-2147483648, 2147483647), (-2147483648, 2147483647)] := zlf_of (sc := [7, 4, 12, 20, 28, 36]) (by decide +kernel) (by decide +kernel)
theorem zc4 : zcov 4 := by
  intro P x hx h
  obtain ⟨a0, b0⟩ := hx 0
  obtain ⟨a1, b1⟩ := hx 1
  obtain ⟨a2, b2⟩ := hx 2
  obtain ⟨a3, b3⟩ := hx 3
  obtain ⟨a4, b4⟩ := hx 4
  exact h _ zl4_0 (zbox5 ⟨by omega, by omega⟩ ⟨by omega, by omega⟩ ⟨by omega, by omega⟩ ⟨by omega, by omega⟩ ⟨by omega, by omega⟩)
theorem zl5_0 : zlf 5 [(-2147483648, -1), (-2147483648, 2147483647), (-2147483648, 2147483647), (-2147483648, 2147483647), (-2147483648, 2147483647)] := zlf_of (sc := [7, 4, 12, 20, 28, 36]) (by decide +kernel) (by decide +kernel)
theorem zl5_1 : zlf 5 [(0, 2147483647), (-2147483648, 2147483647), (-2147483648, 2147483647), (-2147483648, 2147483647), (-2147483648, 2147483647)] := zlf_of (sc := [7, 4, 12, 20, 28, 36]) (by decide +kernel) (by decide +kernel)
theorem zc5 : zcov 5 := by
  intro P x hx h
  obtain ⟨a0, b0⟩ := hx 0
  obtain ⟨a1, b1⟩ := hx 1
  obtain ⟨a2, b2⟩ := hx 2
  obtain ⟨a3, b3⟩ := hx 3
  obtain ⟨a4, b4⟩ := hx 4
  by_cases q1_0 : x 0 ≤ -1
  · exact h _ zl5_0 (zbox5 ⟨by omega, by omega⟩ ⟨by omega, by omega⟩ ⟨by omega, by omega⟩ ⟨by omega, by omega⟩ ⟨by omega, by omega⟩)
  exact h _ zl5_1 (zbox5 ⟨by omega, by omega⟩ ⟨by omega, by omega⟩ ⟨by omega, by omega⟩ ⟨by omega, by omega⟩ ⟨by omega, by omega⟩)
theorem zl6_0 : zlf 6 [(-2147483648, -1), (-2147483648, 2147483647), (-2147483648, 2147483647), (-2147483648, 2147483647), (-2147483648, 2147483647)] := zlf_of (sc := [7, 4, 12, 20, 28, 36]) (by decide +kernel) (by decide +kernel)
theorem zl6_1 : zlf 6 [(0, 0), (-2147483648, 2147483647), (-2147483648, 2147483647), (-2147483648, 2147483647), (-2147483648, 2147483647)] := zlf_of (sc := [7, 0, 12, 20, 28, 36]) (by decide +kernel) (by decide +kernel)
theorem zl6_2 : zlf 6 [(1, 1), (-2147483648, 2147483647), (-2147483648, 2147483647), (-2147483648, 2147483647), (-2147483648, 2147483647)] := zlf_of (sc := [7, 8, 12, 20, 28, 36]) (by decide +kernel) (by decide +kernel)
theorem zl6_3 : zlf 6 [(2, 2), (-2147483648, 2147483647), (-2147483648, 2147483647), (-2147483648, 2147483647), (-2147483648, 2147483647)] := zlf_of (sc := [7, 16, 12, 20, 28, 36]) (by decide +kernel) (by decide +kernel)
theorem zl6_4 : zlf 6 [(3, 3), (-2147483648, 2147483647), (-2147483648, 2147483647), (-2147483648, 2147483647), (-2147483648, 2147483647)] := zlf_of (sc := [7, 24, 12, 20, 28, 36]) (by decide +kernel) (by decide +kernel)
theorem zl6_5 : zlf 6 [(4, 4), (-2147483648, 2147483647), (-2147483648, 2147483647), (-2147483648, 2147483647), (-2147483648, 2147483647)] := zlf_of (sc := [7, 32, 12, 20, 28, 36]) (by decide +kernel) (by decide +kernel)
theorem zl6_6 : zlf 6 [(5, 2147483647), (-2147483648, 2147483647), (-2147483648, 2147483647), (-2147483648, 2147483647), (-2147483648, 2147483647)] := zlf_of (sc := [7, 4, 12, 20, 28, 36]) (by decide +kernel) (by decide +kernel)
theorem zc6 : zcov 6 := by
  intro P x hx h
  obtain ⟨a0, b0⟩ := hx 0
  obtain ⟨a1, b1⟩ := hx 1
  obtain ⟨a2, b2⟩ := hx 2
  obtain ⟨a3, b3⟩ := hx 3
  obtain ⟨a4, b4⟩ := hx 4
  by_cases q1_0 : x 0 ≤ -1
  · exact h _ zl6_0 (zbox5 ⟨by omega, by omega⟩ ⟨by omega, by omega⟩ ⟨by omega, by omega⟩ ⟨by omega, by omega⟩ ⟨by omega, by omega⟩)
  by_cases q1_0 : x 0 ≤ 4
  · by_cases q2_0 : x 0 ≤ 0
    · exact h _ zl6_1 (zbox5 ⟨by omega, by omega⟩ ⟨by omega, by omega⟩ ⟨by omega, by omega⟩ ⟨by omega, by omega⟩ ⟨by omega, by omega⟩)
    by_cases q2_1 : x 0 ≤ 1
    · exact h _ zl6_2 (zbox5 ⟨by omega, by omega⟩ ⟨by omega, by omega⟩ ⟨by omega, by omega⟩ ⟨by omega, by omega⟩ ⟨by omega, by omega⟩)
    by_cases q2_2 : x 0 ≤ 2
    · exact h _ zl6_3 (zbox5 ⟨by omega, by omega⟩ ⟨by omega, by omega⟩ ⟨by omega, by omega⟩ ⟨by omega, by omega⟩ ⟨by omega, by omega⟩)
    by_cases q2_3 : x 0 ≤ 3
    · exact h _ zl6_4 (zbox5 ⟨by omega, by omega⟩ ⟨by omega, by omega⟩ ⟨by omega, by omega⟩ ⟨by omega, by omega⟩ ⟨by omega, by omega⟩)
    exact h _ zl6_5 (zbox5 ⟨by omega, by omega⟩ ⟨by omega, by omega⟩ ⟨by omega, by omega⟩ ⟨by omega, by omega⟩ ⟨by omega, by omega⟩)
  exact h _ zl6_6 (zbox5 ⟨by omega, by omega⟩ ⟨by omega, by omega⟩ ⟨by omega, by omega⟩ ⟨by omega, by omega⟩ ⟨by omega, by omega⟩)
theorem zl7_0 : zlf 7 [(-2147483648, 2147483647), (-2147483648, 2147483647), (-2147483648, 2147483647), (-2147483648, 2147483647), (-2147483648, 2147483647)] := zlf_of (sc := [7, 4, 12, 20, 28, 36]) (by decide +kernel) (by decide +kernel)
theorem zc7 : zcov 7 := by
  intro P x hx h
  obtain ⟨a0, b0⟩ := hx 0
  obtain ⟨a1, b1⟩ := hx 1
  obtain ⟨a2, b2⟩ := hx 2
  obtain ⟨a3, b3⟩ := hx 3
  obtain ⟨a4, b4⟩ := hx 4
  exact h _ zl7_0 (zbox5 ⟨by omega, by omega⟩ ⟨by omega, by omega⟩ ⟨by omega, by omega⟩ ⟨by omega, by omega⟩ ⟨by omega, by omega⟩)
theorem zl8_0 : zlf 8 [(-2147483648, -1), (-2147483648, 2147483647), (-2147483648, 2147483647), (-2147483648, 2147483647), (-2147483648, 2147483647)] := zlf_of (sc := [7, 4, 12, 20, 28, 36]) (by decide +kernel) (by decide +kernel)
theorem zl8_1 : zlf 8 [(0, 0), (-2147483648, 2147483647), (-2147483648, 2147483647), (-2147483648, 2147483647), (-2147483648, 2147483647)] := zlf_of (sc := [7, 0, 12, 20, 28, 36]) (by decide +kernel) (by decide +kernel)
theorem zl8_2 : zlf 8 [(1, 1), (-2147483648, 2147483647), (-2147483648, 2147483647), (-2147483648, 2147483647), (-2147483648, 2147483647)] := zlf_of (sc := [7, 8, 12, 20, 28, 36]) (by decide +kernel) (by decide +kernel)
theorem zl8_3 : zlf 8 [(2, 2), (-2147483648, 2147483647), (-2147483648, 2147483647), (-2147483648, 2147483647), (-2147483648, 2147483647)] := zlf_of (sc := [7, 16, 12, 20, 28, 36]) (by decide +kernel) (by decide +kernel)
theorem zl8_4 : zlf 8 [(3, 3), (-2147483648, 2147483647), (-2147483648, 2147483647), (-2147483648, 2147483647), (-2147483648, 2147483647)] := zlf_of (sc := [7, 24, 12, 20, 28, 36]) (by decide +kernel) (by decide +kernel)
theorem zl8_5 : zlf 8 [(4, 4), (-2147483648, 2147483647), (-2147483648, 2147483647), (-2147483648, 2147483647), (-2147483648, 2147483647)] := zlf_of (sc := [7, 32, 12, 20, 28, 36]) (by decide +kernel) (by decide +kernel)
theorem zl8_6 : zlf 8 [(5, 2147483647), (-2147483648, 2147483647), (-2147483648, 2147483647), (-2147483648, 2147483647), (-2147483648, 2147483647)] := zlf_of (sc := [7, 4, 12, 20, 28, 36]) (by decide +kernel) (by decide +kernel)
theorem zc8 : zcov 8 := by
  intro P x hx h
  obtain ⟨a0, b0⟩ := hx 0
  obtain ⟨a1, b1⟩ := hx 1
  obtain ⟨a2, b2⟩ := hx 2
  obtain ⟨a3, b3⟩ := hx 3
  obtain ⟨a4, b4⟩ := hx 4
  by_cases q1_0 : x 0 ≤ -1
  · exact h _ zl8_0 (zbox5 ⟨by omega, by omega⟩ ⟨by omega, by omega⟩ ⟨by omega, by omega⟩ ⟨by omega, by omega⟩ ⟨by omega, by omega⟩)
  by_cases q1_0 : x 0 ≤ 4
  · by_cases q2_0 : x 0 ≤ 0
    · exact h _ zl8_1 (zbox5 ⟨by omega, by omega⟩ ⟨by omega, by omega⟩ ⟨by omega, by omega⟩ ⟨by omega, by omega⟩ ⟨by omega, by omega⟩)
    by_cases q2_1 : x 0 ≤ 1
    · exact h _ zl8_2 (zbox5 ⟨by omega, by omega⟩ ⟨by omega, by omega⟩ ⟨by omega, by omega⟩ ⟨by omega, by omega⟩ ⟨by omega, by omega⟩)
    by_cases q2_2 : x 0 ≤ 2
    · exact h _ zl8_3 (zbox5 ⟨by omega, by omega⟩ ⟨by omega, by omega⟩ ⟨by omega, by omega⟩ ⟨by omega, by omega⟩ ⟨by omega, by omega⟩)
    by_cases q2_3 : x 0 ≤ 3
    · exact h _ zl8_4 (zbox5 ⟨by omega, by omega⟩ ⟨by omega, by omega⟩ ⟨by omega, by omega⟩ ⟨by omega, by omega⟩ ⟨by omega, by omega⟩)
    exact h _ zl8_5 (zbox5 ⟨by omega, by omega⟩ ⟨by omega, by omega⟩ ⟨by omega, by omega⟩ ⟨by omega, by omega⟩ ⟨by omega, by omega⟩)
  exact h _ zl8_6 (zbox5 ⟨by omega, by omega⟩ ⟨by omega, by omega⟩ ⟨by omega, by omega⟩ ⟨by omega, by omega⟩ ⟨by omega, by omega⟩)
