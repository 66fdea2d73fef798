theorem zl24_0 : zlf 24 [(-2147483648, -1), (-2147483648, 2147483647), (-2147483648, 2147483647), (-2147483648, 2147483647), (-2147483648, 2147483647)] := zlf_of (sc := [7, 4, 12, 20, 28, 36]) (by decide +kernel) (by decide +kernel)
theorem zl24_1 : zlf 24 [(0, 4), (-2147483648, -1), (-2147483648, -1), (-2147483648, 2147483647), (-2147483648, 2147483647)] := zlf_of (sc := [7, 4, 12, 20, 28, 36]) (by decide +kernel) (by decide +kernel)
theorem zl24_2 : zlf 24 [(0, 0), (-2147483648, -1), (0, 2147483647), (-2147483648, 2147483647), (-2147483648, 2147483647)] := zlf_of (sc := [7, 0, 12, 20, 28, 36]) (by decide +kernel) (by decide +kernel)
theorem zl24_3 : zlf 24 [(1, 1), (-2147483648, -1), (0, 2147483647), (-2147483648, 2147483647), (-2147483648, 2147483647)] := zlf_of (sc := [7, 8, 12, 20, 28, 36]) (by decide +kernel) (by decide +kernel)
theorem zl24_4 : zlf 24 [(2, 2), (-2147483648, -1), (0, 2147483647), (-2147483648, 2147483647), (-2147483648, 2147483647)] := zlf_of (sc := [7, 16, 12, 20, 28, 36]) (by decide +kernel) (by decide +kernel)
theorem zl24_5 : zlf 24 [(3, 3), (-2147483648, -1), (0, 2147483647), (-2147483648, 2147483647), (-2147483648, 2147483647)] := zlf_of (sc := [7, 24, 12, 20, 28, 36]) (by decide +kernel) (by decide +kernel)
theorem zl24_6 : zlf 24 [(4, 4), (-2147483648, -1), (0, 2147483647), (-2147483648, 2147483647), (-2147483648, 2147483647)] := zlf_of (sc := [7, 32, 12, 20, 28, 36]) (by decide +kernel) (by decide +kernel)
theorem zl24_7 : zlf 24 [(0, 0), (0, 2147483647), (-2147483648, -1), (-2147483648, 2147483647), (-2147483648, 2147483647)] := zlf_of (sc := [7, 0, 12, 20, 28, 36]) (by decide +kernel) (by decide +kernel)
theorem zl24_8 : zlf 24 [(0, 0), (0, 2147483647), (0, 2147483647), (-2147483648, 2147483647), (-2147483648, 2147483647)] := zlf_of (sc := [7, 0, 12, 20, 28, 36]) (by decide +kernel) (by decide +kernel)
theorem zl24_9 : zlf 24 [(1, 1), (0, 2147483647), (-2147483648, -1), (-2147483648, 2147483647), (-2147483648, 2147483647)] := zlf_of (sc := [7, 8, 12, 20, 28, 36]) (by decide +kernel) (by decide +kernel)
theorem zl24_10 : zlf 24 [(1, 1), (0, 2147483647), (0, 2147483647), (-2147483648, 2147483647), (-2147483648, 2147483647)] := zlf_of (sc := [7, 8, 12, 20, 28, 36]) (by decide +kernel) (by decide +kernel)
theorem zl24_11 : zlf 24 [(2, 2), (0, 2147483647), (-2147483648, -1), (-2147483648, 2147483647), (-2147483648, 2147483647)] := zlf_of (sc := [7, 16, 12, 20, 28, 36]) (by decide +kernel) (by decide +kernel)
theorem zl24_12 : zlf 24 [(2, 2), (0, 2147483647), (0, 2147483647), (-2147483648, 2147483647), (-2147483648, 2147483647)] := zlf_of (sc := [7, 16, 12, 20, 28, 36]) (by decide +kernel) (by decide +kernel)
theorem zl24_13 : zlf 24 [(3, 3), (0, 2147483647), (-2147483648, -1), (-2147483648, 2147483647), (-2147483648, 2147483647)] := zlf_of (sc := [7, 24, 12, 20, 28, 36]) (by decide +kernel) (by decide +kernel)
theorem zl24_14 : zlf 24 [(3, 3), (0, 2147483647), (0, 2147483647), (-2147483648, 2147483647), (-2147483648, 2147483647)] := zlf_of (sc := [7, 24, 12, 20, 28, 36]) (by decide +kernel) (by decide +kernel)
theorem zl24_15 : zlf 24 [(4, 4), (0, 2147483647), (-2147483648, -1), (-2147483648, 2147483647), (-2147483648, 2147483647)] := zlf_of (sc := [7, 32, 12, 20, 28, 36]) (by decide +kernel) (by decide +kernel)
theorem zl24_16 : zlf 24 [(4, 4), (0, 2147483647), (0, 2147483647), (-2147483648, 2147483647), (-2147483648, 2147483647)] := zlf_of (sc := [7, 32, 12, 20, 28, 36]) (by decide +kernel) (by decide +kernel)
theorem zl24_17 : zlf 24 [(5, 2147483647), (-2147483648, 2147483647), (-2147483648, 2147483647), (-2147483648, 2147483647), (-2147483648, 2147483647)] := zlf_of (sc := [7, 4, 12, 20, 28, 36]) (by decide +kernel) (by decide +kernel)
theorem zc24 : zcov 24 := by
  intro P x hx h
  obtain ⟨a0, b0⟩ := hx 0
  obtain ⟨a1, b1⟩ := hx 1
  obtain ⟨a2, b2⟩ := hx 2
  obtain ⟨a3, b3⟩ := hx 3
  obtain ⟨a4, b4⟩ := hx 4
  by_cases q1_0 : x 0 ≤ -1
  · exact h _ zl24_0 (zbox5 ⟨by omega, by omega⟩ ⟨by omega, by omega⟩ ⟨by omega, by omega⟩ ⟨by omega, by omega⟩ ⟨by omega, by omega⟩)
  by_cases q1_0 : x 0 ≤ 4
  · by_cases q2_0 : x 1 ≤ -1
    · by_cases q3_0 : x 2 ≤ -1
      · exact h _ zl24_1 (zbox5 ⟨by omega, by omega⟩ ⟨by omega, by omega⟩ ⟨by omega, by omega⟩ ⟨by omega, by omega⟩ ⟨by omega, by omega⟩)
      by_cases q3_0 : x 0 ≤ 0
      · exact h _ zl24_2 (zbox5 ⟨by omega, by omega⟩ ⟨by omega, by omega⟩ ⟨by omega, by omega⟩ ⟨by omega, by omega⟩ ⟨by omega, by omega⟩)
      by_cases q3_1 : x 0 ≤ 1
      · exact h _ zl24_3 (zbox5 ⟨by omega, by omega⟩ ⟨by omega, by omega⟩ ⟨by omega, by omega⟩ ⟨by omega, by omega⟩ ⟨by omega, by omega⟩)
      by_cases q3_2 : x 0 ≤ 2
      · exact h _ zl24_4 (zbox5 ⟨by omega, by omega⟩ ⟨by omega, by omega⟩ ⟨by omega, by omega⟩ ⟨by omega, by omega⟩ ⟨by omega, by omega⟩)
      by_cases q3_3 : x 0 ≤ 3
      · exact h _ zl24_5 (zbox5 ⟨by omega, by omega⟩ ⟨by omega, by omega⟩ ⟨by omega, by omega⟩ ⟨by omega, by omega⟩ ⟨by omega, by omega⟩)
      exact h _ zl24_6 (zbox5 ⟨by omega, by omega⟩ ⟨by omega, by omega⟩ ⟨by omega, by omega⟩ ⟨by omega, by omega⟩ ⟨by omega, by omega⟩)
    by_cases q2_0 : x 0 ≤ 0
    · by_cases q3_0 : x 2 ≤ -1
      · exact h _ zl24_7 (zbox5 ⟨by omega, by omega⟩ ⟨by omega, by omega⟩ ⟨by omega, by omega⟩ ⟨by omega, by omega⟩ ⟨by omega, by omega⟩)
      exact h _ zl24_8 (zbox5 ⟨by omega, by omega⟩ ⟨by omega, by omega⟩ ⟨by omega, by omega⟩ ⟨by omega, by omega⟩ ⟨by omega, by omega⟩)
    by_cases q2_1 : x 0 ≤ 1
    · by_cases q3_0 : x 2 ≤ -1
      · exact h _ zl24_9 (zbox5 ⟨by omega, by omega⟩ ⟨by omega, by omega⟩ ⟨by omega, by omega⟩ ⟨by omega, by omega⟩ ⟨by omega, by omega⟩)
      exact h _ zl24_10 (zbox5 ⟨by omega, by omega⟩ ⟨by omega, by omega⟩ ⟨by omega, by omega⟩ ⟨by omega, by omega⟩ ⟨by omega, by omega⟩)
    by_cases q2_2 : x 0 ≤ 2
    · by_cases q3_0 : x 2 ≤ -1
      · exact h _ zl24_11 (zbox5 ⟨by omega, by omega⟩ ⟨by omega, by omega⟩ ⟨by omega, by omega⟩ ⟨by omega, by omega⟩ ⟨by omega, by omega⟩)
      exact h _ zl24_12 (zbox5 ⟨by omega, by omega⟩ ⟨by omega, by omega⟩ ⟨by omega, by omega⟩ ⟨by omega, by omega⟩ ⟨by omega, by omega⟩)
    by_cases q2_3 : x 0 ≤ 3
    · by_cases q3_0 : x 2 ≤ -1
      · exact h _ zl24_13 (zbox5 ⟨by omega, by omega⟩ ⟨by omega, by omega⟩ ⟨by omega, by omega⟩ ⟨by omega, by omega⟩ ⟨by omega, by omega⟩)
      exact h _ zl24_14 (zbox5 ⟨by omega, by omega⟩ ⟨by omega, by omega⟩ ⟨by omega, by omega⟩ ⟨by omega, by omega⟩ ⟨by omega, by omega⟩)
    by_cases q2_0 : x 2 ≤ -1
    · exact h _ zl24_15 (zbox5 ⟨by omega, by omega⟩ ⟨by omega, by omega⟩ ⟨by omega, by omega⟩ ⟨by omega, by omega⟩ ⟨by omega, by omega⟩)
    exact h _ zl24_16 (zbox5 ⟨by omega, by omega⟩ ⟨by omega, by omega⟩ ⟨by omega, by omega⟩ ⟨by omega, by omega⟩ ⟨by omega, by omega⟩)
  exact h _ zl24_17 (zbox5 ⟨by omega, by omega⟩ ⟨by omega, by omega⟩ ⟨by omega, by omega⟩ ⟨by omega, by omega⟩ ⟨by omega, by omega⟩)
theorem zl25_0 : zlf 25 [(-2147483648, -1), (-2147483648, 2147483647), (-2147483648, 2147483647), (-2147483648, 2147483647), (-2147483648, 2147483647)] := zlf_of (sc := [7, 4, 12, 20, 28, 36]) (by decide +kernel) (by decide +kernel)
theorem zl25_1 : zlf 25 [(0, 2147483647), (-2147483648, 2147483647), (-2147483648, 2147483647), (-2147483648, 2147483647), (-2147483648, 2147483647)] := zlf_of (sc := [7, 4, 12, 20, 28, 36]) (by decide +kernel) (by decide +kernel)
theorem zc25 : zcov 25 := by
  intro P x hx h
  obtain ⟨a0, b0⟩ := hx 0
  obtain ⟨a1, b1⟩ := hx 1
  obtain ⟨a2, b2⟩ := hx 2
  obtain ⟨a3, b3⟩ := hx 3
  obtain ⟨a4, b4⟩ := hx 4
  by_cases q1_0 : x 0 ≤ -1
  · exact h _ zl25_0 (zbox5 ⟨by omega, by omega⟩ ⟨by omega, by omega⟩ ⟨by omega, by omega⟩ ⟨by omega, by omega⟩ ⟨by omega, by omega⟩)
  exact h _ zl25_1 (zbox5 ⟨by omega, by omega⟩ ⟨by omega, by omega⟩ ⟨by omega, by omega⟩ ⟨by omega, by omega⟩ ⟨by omega, by omega⟩)
theorem zl26_0 : zlf 26 [(-2147483648, -1), (-2147483648, 2147483647), (-2147483648, 2147483647), (-2147483648, 2147483647), (-2147483648, 2147483647)] := zlf_of (sc := [7, 4, 12, 20, 28, 36]) (by decide +kernel) (by decide +kernel)
theorem zl26_1 : zlf 26 [(0, 4), (-2147483648, -1), (-2147483648, -1), (-2147483648, 2147483647), (-2147483648, 2147483647)] := zlf_of (sc := [7, 4, 12, 20, 28, 36]) (by decide +kernel) (by decide +kernel)
theorem zl26_2 : zlf 26 [(0, 0), (-2147483648, -1), (0, 2147483647), (-2147483648, 2147483647), (-2147483648, 2147483647)] := zlf_of (sc := [7, 0, 12, 20, 28, 36]) (by decide +kernel) (by decide +kernel)
theorem zl26_3 : zlf 26 [(1, 1), (-2147483648, -1), (0, 2147483647), (-2147483648, 2147483647), (-2147483648, 2147483647)] := zlf_of (sc := [7, 8, 12, 20, 28, 36]) (by decide +kernel) (by decide +kernel)
theorem zl26_4 : zlf 26 [(2, 2), (-2147483648, -1), (0, 2147483647), (-2147483648, 2147483647), (-2147483648, 2147483647)] := zlf_of (sc := [7, 16, 12, 20, 28, 36]) (by decide +kernel) (by decide +kernel)
theorem zl26_5 : zlf 26 [(3, 3), (-2147483648, -1), (0, 2147483647), (-2147483648, 2147483647), (-2147483648, 2147483647)] := zlf_of (sc := [7, 24, 12, 20, 28, 36]) (by decide +kernel) (by decide +kernel)
theorem zl26_6 : zlf 26 [(4, 4), (-2147483648, -1), (0, 2147483647), (-2147483648, 2147483647), (-2147483648, 2147483647)] := zlf_of (sc := [7, 32, 12, 20, 28, 36]) (by decide +kernel) (by decide +kernel)
theorem zl26_7 : zlf 26 [(0, 0), (0, 2147483647), (-2147483648, -1), (-2147483648, 2147483647), (-2147483648, 2147483647)] := zlf_of (sc := [7, 0, 12, 20, 28, 36]) (by decide +kernel) (by decide +kernel)
theorem zl26_8 : zlf 26 [(0, 0), (0, 2147483647), (0, 2147483647), (-2147483648, 2147483647), (-2147483648, 2147483647)] := zlf_of (sc := [7, 0, 12, 20, 28, 36]) (by decide +kernel) (by decide +kernel)
theorem zl26_9 : zlf 26 [(1, 1), (0, 2147483647), (-2147483648, -1), (-2147483648, 2147483647), (-2147483648, 2147483647)] := zlf_of (sc := [7, 8, 12, 20, 28, 36]) (by decide +kernel) (by decide +kernel)
theorem zl26_10 : zlf 26 [(1, 1), (0, 2147483647), (0, 2147483647), (-2147483648, 2147483647), (-2147483648, 2147483647)] := zlf_of (sc := [7, 8, 12, 20, 28, 36]) (by decide +kernel) (by decide +kernel)
theorem zl26_11 : zlf 26 [(2, 2), (0, 2147483647), (-2147483648, -1), (-2147483648, 2147483647), (-2147483648, 2147483647)] := zlf_of (sc := [7, 16, 12, 20, 28, 36]) (by decide +kernel) (by decide +kernel)
theorem zl26_12 : zlf 26 [(2, 2), (0, 2147483647), (0, 2147483647), (-2147483648, 2147483647), (-2147483648, 2147483647)] := zlf_of (sc := [7, 16, 12, 20, 28, 36]) (by decide +kernel) (by decide +kernel)
theorem zl26_13 : zlf 26 [(3, 3), (0, 2147483647), (-2147483648, -1), (-2147483648, 2147483647), (-2147483648, 2147483647)] := zlf_of (sc := [7, 24, 12, 20, 28, 36]) (by decide +kernel) (by decide +kernel)
theorem zl26_14 : zlf 26 [(3, 3), (0, 2147483647), (0, 2147483647), (-2147483648, 2147483647), (-2147483648, 2147483647)] := zlf_of (sc := [7, 24, 12, 20, 28, 36]) (by decide +kernel) (by decide +kernel)
theorem zl26_15 : zlf 26 [(4, 4), (0, 2147483647), (-2147483648, -1), (-2147483648, 2147483647), (-2147483648, 2147483647)] := zlf_of (sc := [7, 32, 12, 20, 28, 36]) (by decide +kernel) (by decide +kernel)
theorem zl26_16 : zlf 26 [(4, 4), (0, 2147483647), (0, 2147483647), (-2147483648, 2147483647), (-2147483648, 2147483647)] := zlf_of (sc := [7, 32, 12, 20, 28, 36]) (by decide +kernel) (by decide +kernel)
theorem zl26_17 : zlf 26 [(5, 2147483647), (-2147483648, 2147483647), (-2147483648, 2147483647), (-2147483648, 2147483647), (-2147483648, 2147483647)] := zlf_of (sc := [7, 4, 12, 20, 28, 36]) (by decide +kernel) (by decide +kernel)
theorem zc26 : zcov 26 := by
  intro P x hx h
  obtain ⟨a0, b0⟩ := hx 0
  obtain ⟨a1, b1⟩ := hx 1
  obtain ⟨a2, b2⟩ := hx 2
  obtain ⟨a3, b3⟩ := hx 3
  obtain ⟨a4, b4⟩ := hx 4
  by_cases q1_0 : x 0 ≤ -1
  · exact h _ zl26_0 (zbox5 ⟨by omega, by omega⟩ ⟨by omega, by omega⟩ ⟨by omega, by omega⟩ ⟨by omega, by omega⟩ ⟨by omega, by omega⟩)
  by_cases q1_0 : x 0 ≤ 4
  · by_cases q2_0 : x 1 ≤ -1
    · by_cases q3_0 : x 2 ≤ -1
      · exact h _ zl26_1 (zbox5 ⟨by omega, by omega⟩ ⟨by omega, by omega⟩ ⟨by omega, by omega⟩ ⟨by omega, by omega⟩ ⟨by omega, by omega⟩)
      by_cases q3_0 : x 0 ≤ 0
      · exact h _ zl26_2 (zbox5 ⟨by omega, by omega⟩ ⟨by omega, by omega⟩ ⟨by omega, by omega⟩ ⟨by omega, by omega⟩ ⟨by omega, by omega⟩)
      by_cases q3_1 : x 0 ≤ 1
      · exact h _ zl26_3 (zbox5 ⟨by omega, by omega⟩ ⟨by omega, by omega⟩ ⟨by omega, by omega⟩ ⟨by omega, by omega⟩ ⟨by omega, by omega⟩)
      by_cases q3_2 : x 0 ≤ 2
      · exact h _ zl26_4 (zbox5 ⟨by omega, by omega⟩ ⟨by omega, by omega⟩ ⟨by omega, by omega⟩ ⟨by omega, by omega⟩ ⟨by omega, by omega⟩)
      by_cases q3_3 : x 0 ≤ 3
      · exact h _ zl26_5 (zbox5 ⟨by omega, by omega⟩ ⟨by omega, by omega⟩ ⟨by omega, by omega⟩ ⟨by omega, by omega⟩ ⟨by omega, by omega⟩)
      exact h _ zl26_6 (zbox5 ⟨by omega, by omega⟩ ⟨by omega, by omega⟩ ⟨by omega, by omega⟩ ⟨by omega, by omega⟩ ⟨by omega, by omega⟩)
    by_cases q2_0 : x 0 ≤ 0
    · by_cases q3_0 : x 2 ≤ -1
      · exact h _ zl26_7 (zbox5 ⟨by omega, by omega⟩ ⟨by omega, by omega⟩ ⟨by omega, by omega⟩ ⟨by omega, by omega⟩ ⟨by omega, by omega⟩)
      exact h _ zl26_8 (zbox5 ⟨by omega, by omega⟩ ⟨by omega, by omega⟩ ⟨by omega, by omega⟩ ⟨by omega, by omega⟩ ⟨by omega, by omega⟩)
    by_cases q2_1 : x 0 ≤ 1
    · by_cases q3_0 : x 2 ≤ -1
      · exact h _ zl26_9 (zbox5 ⟨by omega, by omega⟩ ⟨by omega, by omega⟩ ⟨by omega, by omega⟩ ⟨by omega, by omega⟩ ⟨by omega, by omega⟩)
      exact h _ zl26_10 (zbox5 ⟨by omega, by omega⟩ ⟨by omega, by omega⟩ ⟨by omega, by omega⟩ ⟨by omega, by omega⟩ ⟨by omega, by omega⟩)
    by_cases q2_2 : x 0 ≤ 2
    · by_cases q3_0 : x 2 ≤ -1
      · exact h _ zl26_11 (zbox5 ⟨by omega, by omega⟩ ⟨by omega, by omega⟩ ⟨by omega, by omega⟩ ⟨by omega, by omega⟩ ⟨by omega, by omega⟩)
      exact h _ zl26_12 (zbox5 ⟨by omega, by omega⟩ ⟨by omega, by omega⟩ ⟨by omega, by omega⟩ ⟨by omega, by omega⟩ ⟨by omega, by omega⟩)
    by_cases q2_3 : x 0 ≤ 3
    · by_cases q3_0 : x 2 ≤ -1
      · exact h _ zl26_13 (zbox5 ⟨by omega, by omega⟩ ⟨by omega, by omega⟩ ⟨by omega, by omega⟩ ⟨by omega, by omega⟩ ⟨by omega, by omega⟩)
      exact h _ zl26_14 (zbox5 ⟨by omega, by omega⟩ ⟨by omega, by omega⟩ ⟨by omega, by omega⟩ ⟨by omega, by omega⟩ ⟨by omega, by omega⟩)
    by_cases q2_0 : x 2 ≤ -1
    · exact h _ zl26_15 (zbox5 ⟨by omega, by omega⟩ ⟨by omega, by omega⟩ ⟨by omega, by omega⟩ ⟨by omega, by omega⟩ ⟨by omega, by omega⟩)
    exact h _ zl26_16 (zbox5 ⟨by omega, by omega⟩ ⟨by omega, by omega⟩ ⟨by omega, by omega⟩ ⟨by omega, by omega⟩ ⟨by omega, by omega⟩)
  exact h _ zl26_17 (zbox5 ⟨by omega, by omega⟩ ⟨by omega, by omega⟩ ⟨by omega, by omega⟩ ⟨by omega, by omega⟩ ⟨by omega, by omega⟩)
theorem zl27_0 : zlf 27 [(-2147483648, -1), (-2147483648, 2147483647), (-2147483648, 2147483647), (-2147483648, 2147483647), (-2147483648, 2147483647)] := zlf_of (sc := [7, 4, 12, 20, 28, 36]) (by decide +kernel) (by decide +kernel)
theorem zl27_1 : zlf 27 [(0, 4), (-2147483648, -1), (-2147483648, -1), (-2147483648, 2147483647), (-2147483648, 2147483647)] := zlf_of (sc := [7, 4, 12, 20, 28, 36]) (by decide +kernel) (by decide +kernel)
theorem zl27_2 : zlf 27 [(0, 0), (-2147483648, -1), (0, 2147483647), (-2147483648, 2147483647), (-2147483648, 2147483647)] := zlf_of (sc := [7, 0, 12, 20, 28, 36]) (by decide +kernel) (by decide +kernel)
theorem zl27_3 : zlf 27 [(1, 1), (-2147483648, -1), (0, 2147483647), (-2147483648, 2147483647), (-2147483648, 2147483647)] := zlf_of (sc := [7, 8, 12, 20, 28, 36]) (by decide +kernel) (by decide +kernel)
theorem zl27_4 : zlf 27 [(2, 2), (-2147483648, -1), (0, 2147483647), (-2147483648, 2147483647), (-2147483648, 2147483647)] := zlf_of (sc := [7, 16, 12, 20, 28, 36]) (by decide +kernel) (by decide +kernel)
theorem zl27_5 : zlf 27 [(3, 3), (-2147483648, -1), (0, 2147483647), (-2147483648, 2147483647), (-2147483648, 2147483647)] := zlf_of (sc := [7, 24, 12, 20, 28, 36]) (by decide +kernel) (by decide +kernel)
theorem zl27_6 : zlf 27 [(4, 4), (-2147483648, -1), (0, 2147483647), (-2147483648, 2147483647), (-2147483648, 2147483647)] := zlf_of (sc := [7, 32, 12, 20, 28, 36]) (by decide +kernel) (by decide +kernel)
theorem zl27_7 : zlf 27 [(0, 0), (0, 2147483647), (-2147483648, -1), (-2147483648, 2147483647), (-2147483648, 2147483647)] := zlf_of (sc := [7, 0, 12, 20, 28, 36]) (by decide +kernel) (by decide +kernel)
theorem zl27_8 : zlf 27 [(0, 0), (0, 2147483647), (0, 2147483647), (-2147483648, 2147483647), (-2147483648, 2147483647)] := zlf_of (sc := [7, 0, 12, 20, 28, 36]) (by decide +kernel) (by decide +kernel)
theorem zl27_9 : zlf 27 [(1, 1), (0, 2147483647), (-2147483648, -1), (-2147483648, 2147483647), (-2147483648, 2147483647)] := zlf_of (sc := [7, 8, 12, 20, 28, 36]) (by decide +kernel) (by decide +kernel)
theorem zl27_10 : zlf 27 [(1, 1), (0, 2147483647), (0, 2147483647), (-2147483648, 2147483647), (-2147483648, 2147483647)] := zlf_of (sc := [7, 8, 12, 20, 28, 36]) (by decide +kernel) (by decide +kernel)
theorem zl27_11 : zlf 27 [(2, 2), (0, 2147483647), (-2147483648, -1), (-2147483648, 2147483647), (-2147483648, 2147483647)] := zlf_of (sc := [7, 16, 12, 20, 28, 36]) (by decide +kernel) (by decide +kernel)
theorem zl27_12 : zlf 27 [(2, 2), (0, 2147483647), (0, 2147483647), (-2147483648, 2147483647), (-2147483648, 2147483647)] := zlf_of (sc := [7, 16, 12, 20, 28, 36]) (by decide +kernel) (by decide +kernel)
theorem zl27_13 : zlf 27 [(3, 3), (0, 2147483647), (-2147483648, -1), (-2147483648, 2147483647), (-2147483648, 2147483647)] := zlf_of (sc := [7, 24, 12, 20, 28, 36]) (by decide +kernel) (by decide +kernel)
theorem zl27_14 : zlf 27 [(3, 3), (0, 2147483647), (0, 2147483647), (-2147483648, 2147483647), (-2147483648, 2147483647)] := zlf_of (sc := [7, 24, 12, 20, 28, 36]) (by decide +kernel) (by decide +kernel)
theorem zl27_15 : zlf 27 [(4, 4), (0, 2147483647), (-2147483648, -1), (-2147483648, 2147483647), (-2147483648, 2147483647)] := zlf_of (sc := [7, 32, 12, 20, 28, 36]) (by decide +kernel) (by decide +kernel)
theorem zl27_16 : zlf 27 [(4, 4), (0, 2147483647), (0, 2147483647), (-2147483648, 2147483647), (-2147483648, 2147483647)] := zlf_of (sc := [7, 32, 12, 20, 28, 36]) (by decide +kernel) (by decide +kernel)
theorem zl27_17 : zlf 27 [(5, 2147483647), (-2147483648, 2147483647), (-2147483648, 2147483647), (-2147483648, 2147483647), (-2147483648, 2147483647)] := zlf_of (sc := [7, 4, 12, 20, 28, 36]) (by decide +kernel) (by decide +kernel)
theorem zc27 : zcov 27 := by
  intro P x hx h
  obtain ⟨a0, b0⟩ := hx 0
  obtain ⟨a1, b1⟩ := hx 1
  obtain ⟨a2, b2⟩ := hx 2
  obtain ⟨a3, b3⟩ := hx 3
  obtain ⟨a4, b4⟩ := hx 4
  by_cases q1_0 : x 0 ≤ -1
  · exact h _ zl27_0 (zbox5 ⟨by omega, by omega⟩ ⟨by omega, by omega⟩ ⟨by omega, by omega⟩ ⟨by omega, by omega⟩ ⟨by omega, by omega⟩)
  by_cases q1_0 : x 0 ≤ 4
  · by_cases q2_0 : x 1 ≤ -1
    · by_cases q3_0 : x 2 ≤ -1
      · exact h _ zl27_1 (zbox5 ⟨by omega, by omega⟩ ⟨by omega, by omega⟩ ⟨by omega, by omega⟩ ⟨by omega, by omega⟩ ⟨by omega, by omega⟩)
      by_cases q3_0 : x 0 ≤ 0
      · exact h _ zl27_2 (zbox5 ⟨by omega, by omega⟩ ⟨by omega, by omega⟩ ⟨by omega, by omega⟩ ⟨by omega, by omega⟩ ⟨by omega, by omega⟩)
      by_cases q3_1 : x 0 ≤ 1
      · exact h _ zl27_3 (zbox5 ⟨by omega, by omega⟩ ⟨by omega, by omega⟩ ⟨by omega, by omega⟩ ⟨by omega, by omega⟩ ⟨by omega, by omega⟩)
      by_cases q3_2 : x 0 ≤ 2
      · exact h _ zl27_4 (zbox5 ⟨by omega, by omega⟩ ⟨by omega, by omega⟩ ⟨by omega, by omega⟩ ⟨by omega, by omega⟩ ⟨by omega, by omega⟩)
      by_cases q3_3 : x 0 ≤ 3
      · exact h _ zl27_5 (zbox5 ⟨by omega, by omega⟩ ⟨by omega, by omega⟩ ⟨by omega, by omega⟩ ⟨by omega, by omega⟩ ⟨by omega, by omega⟩)
      exact h _ zl27_6 (zbox5 ⟨by omega, by omega⟩ ⟨by omega, by omega⟩ ⟨by omega, by omega⟩ ⟨by omega, by omega⟩ ⟨by omega, by omega⟩)
    by_cases q2_0 : x 0 ≤ 0
    · by_cases q3_0 : x 2 ≤ -1
      · exact h _ zl27_7 (zbox5 ⟨by omega, by omega⟩ ⟨by omega, by omega⟩ ⟨by omega, by omega⟩ ⟨by omega, by omega⟩ ⟨by omega, by omega⟩)
      exact h _ zl27_8 (zbox5 ⟨by omega, by omega⟩ ⟨by omega, by omega⟩ ⟨by omega, by omega⟩ ⟨by omega, by omega⟩ ⟨by omega, by omega⟩)
    by_cases q2_1 : x 0 ≤ 1
    · by_cases q3_0 : x 2 ≤ -1
      · exact h _ zl27_9 (zbox5 ⟨by omega, by omega⟩ ⟨by omega, by omega⟩ ⟨by omega, by omega⟩ ⟨by omega, by omega⟩ ⟨by omega, by omega⟩)
      exact h _ zl27_10 (zbox5 ⟨by omega, by omega⟩ ⟨by omega, by omega⟩ ⟨by omega, by omega⟩ ⟨by omega, by omega⟩ ⟨by omega, by omega⟩)
    by_cases q2_2 : x 0 ≤ 2
    · by_cases q3_0 : x 2 ≤ -1
      · exact h _ zl27_11 (zbox5 ⟨by omega, by omega⟩ ⟨by omega, by omega⟩ ⟨by omega, by omega⟩ ⟨by omega, by omega⟩ ⟨by omega, by omega⟩)
      exact h _ zl27_12 (zbox5 ⟨by omega, by omega⟩ ⟨by omega, by omega⟩ ⟨by omega, by omega⟩ ⟨by omega, by omega⟩ ⟨by omega, by omega⟩)
    by_cases q2_3 : x 0 ≤ 3
    · by_cases q3_0 : x 2 ≤ -1
      · exact h _ zl27_13 (zbox5 ⟨by omega, by omega⟩ ⟨by omega, by omega⟩ ⟨by omega, by omega⟩ ⟨by omega, by omega⟩ ⟨by omega, by omega⟩)
      exact h _ zl27_14 (zbox5 ⟨by omega, by omega⟩ ⟨by omega, by omega⟩ ⟨by omega, by omega⟩ ⟨by omega, by omega⟩ ⟨by omega, by omega⟩)
    by_cases q2_0 : x 2 ≤ -1
    · exact h _ zl27_15 (zbox5 ⟨by omega, by omega⟩ ⟨by omega, by omega⟩ ⟨by omega, by omega⟩ ⟨by omega, by omega⟩ ⟨by omega, by omega⟩)
    exact h _ zl27_16 (zbox5 ⟨by omega, by omega⟩ ⟨by omega, by omega⟩ ⟨by omega, by omega⟩ ⟨by omega, by omega⟩ ⟨by omega, by omega⟩)
  exact h _ zl27_17 (zbox5 ⟨by omega, by omega⟩ ⟨by omega, by omega⟩ ⟨by omega, by omega⟩ ⟨by omega, by omega⟩ ⟨by omega, by omega⟩)
