theorem zl10_0 : zlf 10 [(-2147483648, -1), (-2147483648, 2147483647), (-2147483648, 2147483647), (-2147483648, 2147483647), (-2147483648, 2147483647)] := zlf_of (sc := [7, 4, 12, 20, 28, 36]) (by decide +kernel) (by decide +kernel)
theorem zl10_1 : zlf 10 [(0, 0), (-2147483648, 2147483647), (-2147483648, 2147483647), (-2147483648, 2147483647), (-2147483648, 2147483647)] := zlf_of (sc := [7, 0, 12, 20, 28, 36]) (by decide +kernel) (by decide +kernel)
theorem zl10_2 : zlf 10 [(1, 1), (-2147483648, 2147483647), (-2147483648, 2147483647), (-2147483648, 2147483647), (-2147483648, 2147483647)] := zlf_of (sc := [7, 8, 12, 20, 28, 36]) (by decide +kernel) (by decide +kernel)
theorem zl10_3 : zlf 10 [(2, 2), (-2147483648, 2147483647), (-2147483648, 2147483647), (-2147483648, 2147483647), (-2147483648, 2147483647)] := zlf_of (sc := [7, 16, 12, 20, 28, 36]) (by decide +kernel) (by decide +kernel)
theorem zl10_4 : zlf 10 [(3, 3), (-2147483648, 2147483647), (-2147483648, 2147483647), (-2147483648, 2147483647), (-2147483648, 2147483647)] := zlf_of (sc := [7, 24, 12, 20, 28, 36]) (by decide +kernel) (by decide +kernel)
theorem zl10_5 : zlf 10 [(4, 4), (-2147483648, 2147483647), (-2147483648, 2147483647), (-2147483648, 2147483647), (-2147483648, 2147483647)] := zlf_of (sc := [7, 32, 12, 20, 28, 36]) (by decide +kernel) (by decide +kernel)
theorem zl10_6 : zlf 10 [(5, 2147483647), (-2147483648, 2147483647), (-2147483648, 2147483647), (-2147483648, 2147483647), (-2147483648, 2147483647)] := zlf_of (sc := [7, 4, 12, 20, 28, 36]) (by decide +kernel) (by decide +kernel)
theorem zc10 : zcov 10 := by
  intro P x hx h
  obtain ⟨a0, b0⟩ := hx 0
  obtain ⟨a1, b1⟩ := hx 1
  obtain ⟨a2, b2⟩ := hx 2
  obtain ⟨a3, b3⟩ := hx 3
  obtain ⟨a4, b4⟩ := hx 4
  by_cases q1_0 : x 0 ≤ -1
  · exact h _ zl10_0 (zbox5 ⟨by omega, by omega⟩ ⟨by omega, by omega⟩ ⟨by omega, by omega⟩ ⟨by omega, by omega⟩ ⟨by omega, by omega⟩)
  by_cases q1_0 : x 0 ≤ 4
  · by_cases q2_0 : x 0 ≤ 0
    · exact h _ zl10_1 (zbox5 ⟨by omega, by omega⟩ ⟨by omega, by omega⟩ ⟨by omega, by omega⟩ ⟨by omega, by omega⟩ ⟨by omega, by omega⟩)
    by_cases q2_1 : x 0 ≤ 1
    · exact h _ zl10_2 (zbox5 ⟨by omega, by omega⟩ ⟨by omega, by omega⟩ ⟨by omega, by omega⟩ ⟨by omega, by omega⟩ ⟨by omega, by omega⟩)
    by_cases q2_2 : x 0 ≤ 2
    · exact h _ zl10_3 (zbox5 ⟨by omega, by omega⟩ ⟨by omega, by omega⟩ ⟨by omega, by omega⟩ ⟨by omega, by omega⟩ ⟨by omega, by omega⟩)
    by_cases q2_3 : x 0 ≤ 3
    · exact h _ zl10_4 (zbox5 ⟨by omega, by omega⟩ ⟨by omega, by omega⟩ ⟨by omega, by omega⟩ ⟨by omega, by omega⟩ ⟨by omega, by omega⟩)
    exact h _ zl10_5 (zbox5 ⟨by omega, by omega⟩ ⟨by omega, by omega⟩ ⟨by omega, by omega⟩ ⟨by omega, by omega⟩ ⟨by omega, by omega⟩)
  exact h _ zl10_6 (zbox5 ⟨by omega, by omega⟩ ⟨by omega, by omega⟩ ⟨by omega, by omega⟩ ⟨by omega, by omega⟩ ⟨by omega, by omega⟩)
theorem zl11_0 : zlf 11 [(-2147483648, -1), (-2147483648, 2147483647), (-2147483648, 2147483647), (-2147483648, 2147483647), (-2147483648, 2147483647)] := zlf_of (sc := [7, 4, 12, 20, 28, 36]) (by decide +kernel) (by decide +kernel)
theorem zl11_1 : zlf 11 [(0, 4), (-2147483648, -1), (-2147483648, 2147483647), (-2147483648, 2147483647), (-2147483648, 2147483647)] := zlf_of (sc := [7, 4, 12, 20, 28, 36]) (by decide +kernel) (by decide +kernel)
theorem zl11_2 : zlf 11 [(0, 0), (0, 2147483647), (-2147483648, 2147483647), (-2147483648, 2147483647), (-2147483648, 2147483647)] := zlf_of (sc := [7, 0, 12, 20, 28, 36]) (by decide +kernel) (by decide +kernel)
theorem zl11_3 : zlf 11 [(1, 1), (0, 2147483647), (-2147483648, 2147483647), (-2147483648, 2147483647), (-2147483648, 2147483647)] := zlf_of (sc := [7, 8, 12, 20, 28, 36]) (by decide +kernel) (by decide +kernel)
theorem zl11_4 : zlf 11 [(2, 2), (0, 2147483647), (-2147483648, 2147483647), (-2147483648, 2147483647), (-2147483648, 2147483647)] := zlf_of (sc := [7, 16, 12, 20, 28, 36]) (by decide +kernel) (by decide +kernel)
theorem zl11_5 : zlf 11 [(3, 3), (0, 2147483647), (-2147483648, 2147483647), (-2147483648, 2147483647), (-2147483648, 2147483647)] := zlf_of (sc := [7, 24, 12, 20, 28, 36]) (by decide +kernel) (by decide +kernel)
theorem zl11_6 : zlf 11 [(4, 4), (0, 2147483647), (-2147483648, 2147483647), (-2147483648, 2147483647), (-2147483648, 2147483647)] := zlf_of (sc := [7, 32, 12, 20, 28, 36]) (by decide +kernel) (by decide +kernel)
theorem zl11_7 : zlf 11 [(5, 2147483647), (-2147483648, 2147483647), (-2147483648, 2147483647), (-2147483648, 2147483647), (-2147483648, 2147483647)] := zlf_of (sc := [7, 4, 12, 20, 28, 36]) (by decide +kernel) (by decide +kernel)
theorem zc11 : zcov 11 := by
  intro P x hx h
  obtain ⟨a0, b0⟩ := hx 0
  obtain ⟨a1, b1⟩ := hx 1
  obtain ⟨a2, b2⟩ := hx 2
  obtain ⟨a3, b3⟩ := hx 3
  obtain ⟨a4, b4⟩ := hx 4
  by_cases q1_0 : x 0 ≤ -1
  · exact h _ zl11_0 (zbox5 ⟨by omega, by omega⟩ ⟨by omega, by omega⟩ ⟨by omega, by omega⟩ ⟨by omega, by omega⟩ ⟨by omega, by omega⟩)
  by_cases q1_0 : x 0 ≤ 4
  · by_cases q2_0 : x 1 ≤ -1
    · exact h _ zl11_1 (zbox5 ⟨by omega, by omega⟩ ⟨by omega, by omega⟩ ⟨by omega, by omega⟩ ⟨by omega, by omega⟩ ⟨by omega, by omega⟩)
    by_cases q2_0 : x 0 ≤ 0
    · exact h _ zl11_2 (zbox5 ⟨by omega, by omega⟩ ⟨by omega, by omega⟩ ⟨by omega, by omega⟩ ⟨by omega, by omega⟩ ⟨by omega, by omega⟩)
    by_cases q2_1 : x 0 ≤ 1
    · exact h _ zl11_3 (zbox5 ⟨by omega, by omega⟩ ⟨by omega, by omega⟩ ⟨by omega, by omega⟩ ⟨by omega, by omega⟩ ⟨by omega, by omega⟩)
    by_cases q2_2 : x 0 ≤ 2
    · exact h _ zl11_4 (zbox5 ⟨by omega, by omega⟩ ⟨by omega, by omega⟩ ⟨by omega, by omega⟩ ⟨by omega, by omega⟩ ⟨by omega, by omega⟩)
    by_cases q2_3 : x 0 ≤ 3
    · exact h _ zl11_5 (zbox5 ⟨by omega, by omega⟩ ⟨by omega, by omega⟩ ⟨by omega, by omega⟩ ⟨by omega, by omega⟩ ⟨by omega, by omega⟩)
    exact h _ zl11_6 (zbox5 ⟨by omega, by omega⟩ ⟨by omega, by omega⟩ ⟨by omega, by omega⟩ ⟨by omega, by omega⟩ ⟨by omega, by omega⟩)
  exact h _ zl11_7 (zbox5 ⟨by omega, by omega⟩ ⟨by omega, by omega⟩ ⟨by omega, by omega⟩ ⟨by omega, by omega⟩ ⟨by omega, by omega⟩)
theorem zl12_0 : zlf 12 [(-2147483648, -1), (-2147483648, 2147483647), (-2147483648, 2147483647), (-2147483648, 2147483647), (-2147483648, 2147483647)] := zlf_of (sc := [7, 4, 12, 20, 28, 36]) (by decide +kernel) (by decide +kernel)
theorem zl12_1 : zlf 12 [(0, 4), (-2147483648, -1), (-2147483648, 2147483647), (-2147483648, 2147483647), (-2147483648, 2147483647)] := zlf_of (sc := [7, 4, 12, 20, 28, 36]) (by decide +kernel) (by decide +kernel)
theorem zl12_2 : zlf 12 [(0, 0), (0, 2147483647), (-2147483648, 2147483647), (-2147483648, 2147483647), (-2147483648, 2147483647)] := zlf_of (sc := [7, 0, 12, 20, 28, 36]) (by decide +kernel) (by decide +kernel)
theorem zl12_3 : zlf 12 [(1, 1), (0, 2147483647), (-2147483648, 2147483647), (-2147483648, 2147483647), (-2147483648, 2147483647)] := zlf_of (sc := [7, 8, 12, 20, 28, 36]) (by decide +kernel) (by decide +kernel)
theorem zl12_4 : zlf 12 [(2, 2), (0, 2147483647), (-2147483648, 2147483647), (-2147483648, 2147483647), (-2147483648, 2147483647)] := zlf_of (sc := [7, 16, 12, 20, 28, 36]) (by decide +kernel) (by decide +kernel)
theorem zl12_5 : zlf 12 [(3, 3), (0, 2147483647), (-2147483648, 2147483647), (-2147483648, 2147483647), (-2147483648, 2147483647)] := zlf_of (sc := [7, 24, 12, 20, 28, 36]) (by decide +kernel) (by decide +kernel)
theorem zl12_6 : zlf 12 [(4, 4), (0, 2147483647), (-2147483648, 2147483647), (-2147483648, 2147483647), (-2147483648, 2147483647)] := zlf_of (sc := [7, 32, 12, 20, 28, 36]) (by decide +kernel) (by decide +kernel)
theorem zl12_7 : zlf 12 [(5, 2147483647), (-2147483648, 2147483647), (-2147483648, 2147483647), (-2147483648, 2147483647), (-2147483648, 2147483647)] := zlf_of (sc := [7, 4, 12, 20, 28, 36]) (by decide +kernel) (by decide +kernel)
theorem zc12 : zcov 12 := by
  intro P x hx h
  obtain ⟨a0, b0⟩ := hx 0
  obtain ⟨a1, b1⟩ := hx 1
  obtain ⟨a2, b2⟩ := hx 2
  obtain ⟨a3, b3⟩ := hx 3
  obtain ⟨a4, b4⟩ := hx 4
  by_cases q1_0 : x 0 ≤ -1
  · exact h _ zl12_0 (zbox5 ⟨by omega, by omega⟩ ⟨by omega, by omega⟩ ⟨by omega, by omega⟩ ⟨by omega, by omega⟩ ⟨by omega, by omega⟩)
  by_cases q1_0 : x 0 ≤ 4
  · by_cases q2_0 : x 1 ≤ -1
    · exact h _ zl12_1 (zbox5 ⟨by omega, by omega⟩ ⟨by omega, by omega⟩ ⟨by omega, by omega⟩ ⟨by omega, by omega⟩ ⟨by omega, by omega⟩)
    by_cases q2_0 : x 0 ≤ 0
    · exact h _ zl12_2 (zbox5 ⟨by omega, by omega⟩ ⟨by omega, by omega⟩ ⟨by omega, by omega⟩ ⟨by omega, by omega⟩ ⟨by omega, by omega⟩)
    by_cases q2_1 : x 0 ≤ 1
    · exact h _ zl12_3 (zbox5 ⟨by omega, by omega⟩ ⟨by omega, by omega⟩ ⟨by omega, by omega⟩ ⟨by omega, by omega⟩ ⟨by omega, by omega⟩)
    by_cases q2_2 : x 0 ≤ 2
    · exact h _ zl12_4 (zbox5 ⟨by omega, by omega⟩ ⟨by omega, by omega⟩ ⟨by omega, by omega⟩ ⟨by omega, by omega⟩ ⟨by omega, by omega⟩)
    by_cases q2_3 : x 0 ≤ 3
    · exact h _ zl12_5 (zbox5 ⟨by omega, by omega⟩ ⟨by omega, by omega⟩ ⟨by omega, by omega⟩ ⟨by omega, by omega⟩ ⟨by omega, by omega⟩)
    exact h _ zl12_6 (zbox5 ⟨by omega, by omega⟩ ⟨by omega, by omega⟩ ⟨by omega, by omega⟩ ⟨by omega, by omega⟩ ⟨by omega, by omega⟩)
  exact h _ zl12_7 (zbox5 ⟨by omega, by omega⟩ ⟨by omega, by omega⟩ ⟨by omega, by omega⟩ ⟨by omega, by omega⟩ ⟨by omega, by omega⟩)
theorem zl13_0 : zlf 13 [(-2147483648, -1), (-2147483648, 2147483647), (-2147483648, 2147483647), (-2147483648, 2147483647), (-2147483648, 2147483647)] := zlf_of (sc := [7, 4, 12, 20, 28, 36]) (by decide +kernel) (by decide +kernel)
theorem zl13_1 : zlf 13 [(0, 4), (-2147483648, -1), (-2147483648, 2147483647), (-2147483648, 2147483647), (-2147483648, 2147483647)] := zlf_of (sc := [7, 4, 12, 20, 28, 36]) (by decide +kernel) (by decide +kernel)
theorem zl13_2 : zlf 13 [(0, 0), (0, 2147483647), (-2147483648, 2147483647), (-2147483648, 2147483647), (-2147483648, 2147483647)] := zlf_of (sc := [7, 0, 12, 20, 28, 36]) (by decide +kernel) (by decide +kernel)
theorem zl13_3 : zlf 13 [(1, 1), (0, 2147483647), (-2147483648, 2147483647), (-2147483648, 2147483647), (-2147483648, 2147483647)] := zlf_of (sc := [7, 8, 12, 20, 28, 36]) (by decide +kernel) (by decide +kernel)
theorem zl13_4 : zlf 13 [(2, 2), (0, 2147483647), (-2147483648, 2147483647), (-2147483648, 2147483647), (-2147483648, 2147483647)] := zlf_of (sc := [7, 16, 12, 20, 28, 36]) (by decide +kernel) (by decide +kernel)
theorem zl13_5 : zlf 13 [(3, 3), (0, 2147483647), (-2147483648, 2147483647), (-2147483648, 2147483647), (-2147483648, 2147483647)] := zlf_of (sc := [7, 24, 12, 20, 28, 36]) (by decide +kernel) (by decide +kernel)
theorem zl13_6 : zlf 13 [(4, 4), (0, 2147483647), (-2147483648, 2147483647), (-2147483648, 2147483647), (-2147483648, 2147483647)] := zlf_of (sc := [7, 32, 12, 20, 28, 36]) (by decide +kernel) (by decide +kernel)
theorem zl13_7 : zlf 13 [(5, 2147483647), (-2147483648, 2147483647), (-2147483648, 2147483647), (-2147483648, 2147483647), (-2147483648, 2147483647)] := zlf_of (sc := [7, 4, 12, 20, 28, 36]) (by decide +kernel) (by decide +kernel)
theorem zc13 : zcov 13 := by
  intro P x hx h
  obtain ⟨a0, b0⟩ := hx 0
  obtain ⟨a1, b1⟩ := hx 1
  obtain ⟨a2, b2⟩ := hx 2
  obtain ⟨a3, b3⟩ := hx 3
  obtain ⟨a4, b4⟩ := hx 4
  by_cases q1_0 : x 0 ≤ -1
  · exact h _ zl13_0 (zbox5 ⟨by omega, by omega⟩ ⟨by omega, by omega⟩ ⟨by omega, by omega⟩ ⟨by omega, by omega⟩ ⟨by omega, by omega⟩)
  by_cases q1_0 : x 0 ≤ 4
  · by_cases q2_0 : x 1 ≤ -1
    · exact h _ zl13_1 (zbox5 ⟨by omega, by omega⟩ ⟨by omega, by omega⟩ ⟨by omega, by omega⟩ ⟨by omega, by omega⟩ ⟨by omega, by omega⟩)
    by_cases q2_0 : x 0 ≤ 0
    · exact h _ zl13_2 (zbox5 ⟨by omega, by omega⟩ ⟨by omega, by omega⟩ ⟨by omega, by omega⟩ ⟨by omega, by omega⟩ ⟨by omega, by omega⟩)
    by_cases q2_1 : x 0 ≤ 1
    · exact h _ zl13_3 (zbox5 ⟨by omega, by omega⟩ ⟨by omega, by omega⟩ ⟨by omega, by omega⟩ ⟨by omega, by omega⟩ ⟨by omega, by omega⟩)
    by_cases q2_2 : x 0 ≤ 2
    · exact h _ zl13_4 (zbox5 ⟨by omega, by omega⟩ ⟨by omega, by omega⟩ ⟨by omega, by omega⟩ ⟨by omega, by omega⟩ ⟨by omega, by omega⟩)
    by_cases q2_3 : x 0 ≤ 3
    · exact h _ zl13_5 (zbox5 ⟨by omega, by omega⟩ ⟨by omega, by omega⟩ ⟨by omega, by omega⟩ ⟨by omega, by omega⟩ ⟨by omega, by omega⟩)
    exact h _ zl13_6 (zbox5 ⟨by omega, by omega⟩ ⟨by omega, by omega⟩ ⟨by omega, by omega⟩ ⟨by omega, by omega⟩ ⟨by omega, by omega⟩)
  exact h _ zl13_7 (zbox5 ⟨by omega, by omega⟩ ⟨by omega, by omega⟩ ⟨by omega, by omega⟩ ⟨by omega, by omega⟩ ⟨by omega, by omega⟩)
theorem zl14_0 : zlf 14 [(-2147483648, -1), (-2147483648, 2147483647), (-2147483648, 2147483647), (-2147483648, 2147483647), (-2147483648, 2147483647)] := zlf_of (sc := [7, 4, 12, 20, 28, 36]) (by decide +kernel) (by decide +kernel)
theorem zl14_1 : zlf 14 [(0, 4), (-2147483648, -1), (-2147483648, 2147483647), (-2147483648, 2147483647), (-2147483648, 2147483647)] := zlf_of (sc := [7, 4, 12, 20, 28, 36]) (by decide +kernel) (by decide +kernel)
theorem zl14_2 : zlf 14 [(0, 0), (0, 2147483647), (-2147483648, 2147483647), (-2147483648, 2147483647), (-2147483648, 2147483647)] := zlf_of (sc := [7, 0, 12, 20, 28, 36]) (by decide +kernel) (by decide +kernel)
theorem zl14_3 : zlf 14 [(1, 1), (0, 2147483647), (-2147483648, 2147483647), (-2147483648, 2147483647), (-2147483648, 2147483647)] := zlf_of (sc := [7, 8, 12, 20, 28, 36]) (by decide +kernel) (by decide +kernel)
theorem zl14_4 : zlf 14 [(2, 2), (0, 2147483647), (-2147483648, 2147483647), (-2147483648, 2147483647), (-2147483648, 2147483647)] := zlf_of (sc := [7, 16, 12, 20, 28, 36]) (by decide +kernel) (by decide +kernel)
theorem zl14_5 : zlf 14 [(3, 3), (0, 2147483647), (-2147483648, 2147483647), (-2147483648, 2147483647), (-2147483648, 2147483647)] := zlf_of (sc := [7, 24, 12, 20, 28, 36]) (by decide +kernel) (by decide +kernel)
theorem zl14_6 : zlf 14 [(4, 4), (0, 2147483647), (-2147483648, 2147483647), (-2147483648, 2147483647), (-2147483648, 2147483647)] := zlf_of (sc := [7, 32, 12, 20, 28, 36]) (by decide +kernel) (by decide +kernel)
theorem zl14_7 : zlf 14 [(5, 2147483647), (-2147483648, 2147483647), (-2147483648, 2147483647), (-2147483648, 2147483647), (-2147483648, 2147483647)] := zlf_of (sc := [7, 4, 12, 20, 28, 36]) (by decide +kernel) (by decide +kernel)
theorem zc14 : zcov 14 := by
  intro P x hx h
  obtain ⟨a0, b0⟩ := hx 0
  obtain ⟨a1, b1⟩ := hx 1
  obtain ⟨a2, b2⟩ := hx 2
  obtain ⟨a3, b3⟩ := hx 3
  obtain ⟨a4, b4⟩ := hx 4
  by_cases q1_0 : x 0 ≤ -1
  · exact h _ zl14_0 (zbox5 ⟨by omega, by omega⟩ ⟨by omega, by omega⟩ ⟨by omega, by omega⟩ ⟨by omega, by omega⟩ ⟨by omega, by omega⟩)
  by_cases q1_0 : x 0 ≤ 4
  · by_cases q2_0 : x 1 ≤ -1
    · exact h _ zl14_1 (zbox5 ⟨by omega, by omega⟩ ⟨by omega, by omega⟩ ⟨by omega, by omega⟩ ⟨by omega, by omega⟩ ⟨by omega, by omega⟩)
    by_cases q2_0 : x 0 ≤ 0
    · exact h _ zl14_2 (zbox5 ⟨by omega, by omega⟩ ⟨by omega, by omega⟩ ⟨by omega, by omega⟩ ⟨by omega, by omega⟩ ⟨by omega, by omega⟩)
    by_cases q2_1 : x 0 ≤ 1
    · exact h _ zl14_3 (zbox5 ⟨by omega, by omega⟩ ⟨by omega, by omega⟩ ⟨by omega, by omega⟩ ⟨by omega, by omega⟩ ⟨by omega, by omega⟩)
    by_cases q2_2 : x 0 ≤ 2
    · exact h _ zl14_4 (zbox5 ⟨by omega, by omega⟩ ⟨by omega, by omega⟩ ⟨by omega, by omega⟩ ⟨by omega, by omega⟩ ⟨by omega, by omega⟩)
    by_cases q2_3 : x 0 ≤ 3
    · exact h _ zl14_5 (zbox5 ⟨by omega, by omega⟩ ⟨by omega, by omega⟩ ⟨by omega, by omega⟩ ⟨by omega, by omega⟩ ⟨by omega, by omega⟩)
    exact h _ zl14_6 (zbox5 ⟨by omega, by omega⟩ ⟨by omega, by omega⟩ ⟨by omega, by omega⟩ ⟨by omega, by omega⟩ ⟨by omega, by omega⟩)
  exact h _ zl14_7 (zbox5 ⟨by omega, by omega⟩ ⟨by omega, by omega⟩ ⟨by omega, by omega⟩ ⟨by omega, by omega⟩ ⟨by omega, by omega⟩)
theorem zl15_0 : zlf 15 [(-2147483648, -1), (-2147483648, 2147483647), (-2147483648, 2147483647), (-2147483648, 2147483647), (-2147483648, 2147483647)] := zlf_of (sc := [7, 4, 12, 20, 28, 36]) (by decide +kernel) (by decide +kernel)
theorem zl15_1 : zlf 15 [(0, 4), (-2147483648, -1), (-2147483648, 2147483647), (-2147483648, 2147483647), (-2147483648, 2147483647)] := zlf_of (sc := [7, 4, 12, 20, 28, 36]) (by decide +kernel) (by decide +kernel)
theorem zl15_2 : zlf 15 [(0, 0), (0, 2147483647), (-2147483648, 2147483647), (-2147483648, 2147483647), (-2147483648, 2147483647)] := zlf_of (sc := [7, 0, 12, 20, 28, 36]) (by decide +kernel) (by decide +kernel)
theorem zl15_3 : zlf 15 [(1, 1), (0, 2147483647), (-2147483648, 2147483647), (-2147483648, 2147483647), (-2147483648, 2147483647)] := zlf_of (sc := [7, 8, 12, 20, 28, 36]) (by decide +kernel) (by decide +kernel)
theorem zl15_4 : zlf 15 [(2, 2), (0, 2147483647), (-2147483648, 2147483647), (-2147483648, 2147483647), (-2147483648, 2147483647)] := zlf_of (sc := [7, 16, 12, 20, 28, 36]) (by decide +kernel) (by decide +kernel)
theorem zl15_5 : zlf 15 [(3, 3), (0, 2147483647), (-2147483648, 2147483647), (-2147483648, 2147483647), (-2147483648, 2147483647)] := zlf_of (sc := [7, 24, 12, 20, 28, 36]) (by decide +kernel) (by decide +kernel)
theorem zl15_6 : zlf 15 [(4, 4), (0, 2147483647), (-2147483648, 2147483647), (-2147483648, 2147483647), (-2147483648, 2147483647)] := zlf_of (sc := [7, 32, 12, 20, 28, 36]) (by decide +kernel) (by decide +kernel)
theorem zl15_7 : zlf 15 [(5, 2147483647), (-2147483648, 2147483647), (-2147483648, 2147483647), (-2147483648, 2147483647), (-2147483648, 2147483647)] := zlf_of (sc := [7, 4, 12, 20, 28, 36]) (by decide +kernel) (by decide +kernel)
theorem zc15 : zcov 15 := by
  intro P x hx h
  obtain ⟨a0, b0⟩ := hx 0
  obtain ⟨a1, b1⟩ := hx 1
  obtain ⟨a2, b2⟩ := hx 2
  obtain ⟨a3, b3⟩ := hx 3
  obtain ⟨a4, b4⟩ := hx 4
  by_cases q1_0 : x 0 ≤ -1
  · exact h _ zl15_0 (zbox5 ⟨by omega, by omega⟩ ⟨by omega, by omega⟩ ⟨by omega, by omega⟩ ⟨by omega, by omega⟩ ⟨by omega, by omega⟩)
  by_cases q1_0 : x 0 ≤ 4
  · by_cases q2_0 : x 1 ≤ -1
    · exact h _ zl15_1 (zbox5 ⟨by omega, by omega⟩ ⟨by omega, by omega⟩ ⟨by omega, by omega⟩ ⟨by omega, by omega⟩ ⟨by omega, by omega⟩)
    by_cases q2_0 : x 0 ≤ 0
    · exact h _ zl15_2 (zbox5 ⟨by omega, by omega⟩ ⟨by omega, by omega⟩ ⟨by omega, by omega⟩ ⟨by omega, by omega⟩ ⟨by omega, by omega⟩)
    by_cases q2_1 : x 0 ≤ 1
    · exact h _ zl15_3 (zbox5 ⟨by omega, by omega⟩ ⟨by omega, by omega⟩ ⟨by omega, by omega⟩ ⟨by omega, by omega⟩ ⟨by omega, by omega⟩)
    by_cases q2_2 : x 0 ≤ 2
    · exact h _ zl15_4 (zbox5 ⟨by omega, by omega⟩ ⟨by omega, by omega⟩ ⟨by omega, by omega⟩ ⟨by omega, by omega⟩ ⟨by omega, by omega⟩)
    by_cases q2_3 : x 0 ≤ 3
    · exact h _ zl15_5 (zbox5 ⟨by omega, by omega⟩ ⟨by omega, by omega⟩ ⟨by omega, by omega⟩ ⟨by omega, by omega⟩ ⟨by omega, by omega⟩)
    exact h _ zl15_6 (zbox5 ⟨by omega, by omega⟩ ⟨by omega, by omega⟩ ⟨by omega, by omega⟩ ⟨by omega, by omega⟩ ⟨by omega, by omega⟩)
  exact h _ zl15_7 (zbox5 ⟨by omega, by omega⟩ ⟨by omega, by omega⟩ ⟨by omega, by omega⟩ ⟨by omega, by omega⟩ ⟨by omega, by omega⟩)
theorem zl16_0 : zlf 16 [(-2147483648, -1), (-2147483648, 2147483647), (-2147483648, 2147483647), (-2147483648, 2147483647), (-2147483648, 2147483647)] := zlf_of (sc := [7, 4, 12, 20, 28, 36]) (by decide +kernel) (by decide +kernel)
theorem zl16_1 : zlf 16 [(0, 4), (-2147483648, -1), (-2147483648, 2147483647), (-2147483648, 2147483647), (-2147483648, 2147483647)] := zlf_of (sc := [7, 4, 12, 20, 28, 36]) (by decide +kernel) (by decide +kernel)
theorem zl16_2 : zlf 16 [(0, 0), (0, 2147483647), (-2147483648, 2147483647), (-2147483648, 2147483647), (-2147483648, 2147483647)] := zlf_of (sc := [7, 0, 12, 20, 28, 36]) (by decide +kernel) (by decide +kernel)
theorem zl16_3 : zlf 16 [(1, 1), (0, 2147483647), (-2147483648, 2147483647), (-2147483648, 2147483647), (-2147483648, 2147483647)] := zlf_of (sc := [7, 8, 12, 20, 28, 36]) (by decide +kernel) (by decide +kernel)
theorem zl16_4 : zlf 16 [(2, 2), (0, 2147483647), (-2147483648, 2147483647), (-2147483648, 2147483647), (-2147483648, 2147483647)] := zlf_of (sc := [7, 16, 12, 20, 28, 36]) (by decide +kernel) (by decide +kernel)
theorem zl16_5 : zlf 16 [(3, 3), (0, 2147483647), (-2147483648, 2147483647), (-2147483648, 2147483647), (-2147483648, 2147483647)] := zlf_of (sc := [7, 24, 12, 20, 28, 36]) (by decide +kernel) (by decide +kernel)
theorem zl16_6 : zlf 16 [(4, 4), (0, 2147483647), (-2147483648, 2147483647), (-2147483648, 2147483647), (-2147483648, 2147483647)] := zlf_of (sc := [7, 32, 12, 20, 28, 36]) (by decide +kernel) (by decide +kernel)
theorem zl16_7 : zlf 16 [(5, 2147483647), (-2147483648, 2147483647), (-2147483648, 2147483647), (-2147483648, 2147483647), (-2147483648, 2147483647)] := zlf_of (sc := [7, 4, 12, 20, 28, 36]) (by decide +kernel) (by decide +kernel)
theorem zc16 : zcov 16 := by
  intro P x hx h
  obtain ⟨a0, b0⟩ := hx 0
  obtain ⟨a1, b1⟩ := hx 1
  obtain ⟨a2, b2⟩ := hx 2
  obtain ⟨a3, b3⟩ := hx 3
  obtain ⟨a4, b4⟩ := hx 4
  by_cases q1_0 : x 0 ≤ -1
  · exact h _ zl16_0 (zbox5 ⟨by omega, by omega⟩ ⟨by omega, by omega⟩ ⟨by omega, by omega⟩ ⟨by omega, by omega⟩ ⟨by omega, by omega⟩)
  by_cases q1_0 : x 0 ≤ 4
  · by_cases q2_0 : x 1 ≤ -1
    · exact h _ zl16_1 (zbox5 ⟨by omega, by omega⟩ ⟨by omega, by omega⟩ ⟨by omega, by omega⟩ ⟨by omega, by omega⟩ ⟨by omega, by omega⟩)
    by_cases q2_0 : x 0 ≤ 0
    · exact h _ zl16_2 (zbox5 ⟨by omega, by omega⟩ ⟨by omega, by omega⟩ ⟨by omega, by omega⟩ ⟨by omega, by omega⟩ ⟨by omega, by omega⟩)
    by_cases q2_1 : x 0 ≤ 1
    · exact h _ zl16_3 (zbox5 ⟨by omega, by omega⟩ ⟨by omega, by omega⟩ ⟨by omega, by omega⟩ ⟨by omega, by omega⟩ ⟨by omega, by omega⟩)
    by_cases q2_2 : x 0 ≤ 2
    · exact h _ zl16_4 (zbox5 ⟨by omega, by omega⟩ ⟨by omega, by omega⟩ ⟨by omega, by omega⟩ ⟨by omega, by omega⟩ ⟨by omega, by omega⟩)
    by_cases q2_3 : x 0 ≤ 3
    · exact h _ zl16_5 (zbox5 ⟨by omega, by omega⟩ ⟨by omega, by omega⟩ ⟨by omega, by omega⟩ ⟨by omega, by omega⟩ ⟨by omega, by omega⟩)
    exact h _ zl16_6 (zbox5 ⟨by omega, by omega⟩ ⟨by omega, by omega⟩ ⟨by omega, by omega⟩ ⟨by omega, by omega⟩ ⟨by omega, by omega⟩)
  exact h _ zl16_7 (zbox5 ⟨by omega, by omega⟩ ⟨by omega, by omega⟩ ⟨by omega, by omega⟩ ⟨by omega, by omega⟩ ⟨by omega, by omega⟩)
theorem zl17_0 : zlf 17 [(-2147483648, -1), (-2147483648, 2147483647), (-2147483648, 2147483647), (-2147483648, 2147483647), (-2147483648, 2147483647)] := zlf_of (sc := [7, 4, 12, 20, 28, 36]) (by decide +kernel) (by decide +kernel)
theorem zl17_1 : zlf 17 [(0, 4), (-2147483648, -1), (-2147483648, 2147483647), (-2147483648, 2147483647), (-2147483648, 2147483647)] := zlf_of (sc := [7, 4, 12, 20, 28, 36]) (by decide +kernel) (by decide +kernel)
theorem zl17_2 : zlf 17 [(0, 0), (0, 2147483647), (-2147483648, 2147483647), (-2147483648, 2147483647), (-2147483648, 2147483647)] := zlf_of (sc := [7, 0, 12, 20, 28, 36]) (by decide +kernel) (by decide +kernel)
theorem zl17_3 : zlf 17 [(1, 1), (0, 2147483647), (-2147483648, 2147483647), (-2147483648, 2147483647), (-2147483648, 2147483647)] := zlf_of (sc := [7, 8, 12, 20, 28, 36]) (by decide +kernel) (by decide +kernel)
theorem zl17_4 : zlf 17 [(2, 2), (0, 2147483647), (-2147483648, 2147483647), (-2147483648, 2147483647), (-2147483648, 2147483647)] := zlf_of (sc := [7, 16, 12, 20, 28, 36]) (by decide +kernel) (by decide +kernel)
theorem zl17_5 : zlf 17 [(3, 3), (0, 2147483647), (-2147483648, 2147483647), (-2147483648, 2147483647), (-2147483648, 2147483647)] := zlf_of (sc := [7, 24, 12, 20, 28, 36]) (by decide +kernel) (by decide +kernel)
theorem zl17_6 : zlf 17 [(4, 4), (0, 2147483647), (-2147483648, 2147483647), (-2147483648, 2147483647), (-2147483648, 2147483647)] := zlf_of (sc := [7, 32, 12, 20, 28, 36]) (by decide +kernel) (by decide +kernel)
theorem zl17_7 : zlf 17 [(5, 2147483647), (-2147483648, 2147483647), (-2147483648, 2147483647), (-2147483648, 2147483647), (-2147483648, 2147483647)] := zlf_of (sc := [7, 4, 12, 20, 28, 36]) (by decide +kernel) (by decide +kernel)
theorem zc17 : zcov 17 := by
  intro P x hx h
  obtain ⟨a0, b0⟩ := hx 0
  obtain ⟨a1, b1⟩ := hx 1
  obtain ⟨a2, b2⟩ := hx 2
  obtain ⟨a3, b3⟩ := hx 3
  obtain ⟨a4, b4⟩ := hx 4
  by_cases q1_0 : x 0 ≤ -1
  · exact h _ zl17_0 (zbox5 ⟨by omega, by omega⟩ ⟨by omega, by omega⟩ ⟨by omega, by omega⟩ ⟨by omega, by omega⟩ ⟨by omega, by omega⟩)
  by_cases q1_0 : x 0 ≤ 4
  · by_cases q2_0 : x 1 ≤ -1
    · exact h _ zl17_1 (zbox5 ⟨by omega, by omega⟩ ⟨by omega, by omega⟩ ⟨by omega, by omega⟩ ⟨by omega, by omega⟩ ⟨by omega, by omega⟩)
    by_cases q2_0 : x 0 ≤ 0
    · exact h _ zl17_2 (zbox5 ⟨by omega, by omega⟩ ⟨by omega, by omega⟩ ⟨by omega, by omega⟩ ⟨by omega, by omega⟩ ⟨by omega, by omega⟩)
    by_cases q2_1 : x 0 ≤ 1
    · exact h _ zl17_3 (zbox5 ⟨by omega, by omega⟩ ⟨by omega, by omega⟩ ⟨by omega, by omega⟩ ⟨by omega, by omega⟩ ⟨by omega, by omega⟩)
    by_cases q2_2 : x 0 ≤ 2
    · exact h _ zl17_4 (zbox5 ⟨by omega, by omega⟩ ⟨by omega, by omega⟩ ⟨by omega, by omega⟩ ⟨by omega, by omega⟩ ⟨by omega, by omega⟩)
    by_cases q2_3 : x 0 ≤ 3
    · exact h _ zl17_5 (zbox5 ⟨by omega, by omega⟩ ⟨by omega, by omega⟩ ⟨by omega, by omega⟩ ⟨by omega, by omega⟩ ⟨by omega, by omega⟩)
    exact h _ zl17_6 (zbox5 ⟨by omega, by omega⟩ ⟨by omega, by omega⟩ ⟨by omega, by omega⟩ ⟨by omega, by omega⟩ ⟨by omega, by omega⟩)
  exact h _ zl17_7 (zbox5 ⟨by omega, by omega⟩ ⟨by omega, by omega⟩ ⟨by omega, by omega⟩ ⟨by omega, by omega⟩ ⟨by omega, by omega⟩)
theorem zl18_0 : zlf 18 [(-2147483648, 2147483647), (-2147483648, 2147483647), (-2147483648, 2147483647), (-2147483648, 2147483647), (-2147483648, 2147483647)] := zlf_of (sc := [7, 4, 12, 20, 28, 36]) (by decide +kernel) (by decide +kernel)
theorem zc18 : zcov 18 := by
  intro P x hx h
  obtain ⟨a0, b0⟩ := hx 0
  obtain ⟨a1, b1⟩ := hx 1
  obtain ⟨a2, b2⟩ := hx 2
  obtain ⟨a3, b3⟩ := hx 3
  obtain ⟨a4, b4⟩ := hx 4
  exact h _ zl18_0 (zbox5 ⟨by omega, by omega⟩ ⟨by omega, by omega⟩ ⟨by omega, by omega⟩ ⟨by omega, by omega⟩ ⟨by omega, by omega⟩)
theorem zl19_0 : zlf 19 [(-2147483648, -1), (-2147483648, 2147483647), (-2147483648, 2147483647), (-2147483648, 2147483647), (-2147483648, 2147483647)] := zlf_of (sc := [7, 4, 12, 20, 28, 36]) (by decide +kernel) (by decide +kernel)
theorem zl19_1 : zlf 19 [(0, 2147483647), (-2147483648, 2147483647), (-2147483648, 2147483647), (-2147483648, 2147483647), (-2147483648, 2147483647)] := zlf_of (sc := [7, 4, 12, 20, 28, 36]) (by decide +kernel) (by decide +kernel)
theorem zc19 : zcov 19 := by
  intro P x hx h
  obtain ⟨a0, b0⟩ := hx 0
  obtain ⟨a1, b1⟩ := hx 1
  obtain ⟨a2, b2⟩ := hx 2
  obtain ⟨a3, b3⟩ := hx 3
  obtain ⟨a4, b4⟩ := hx 4
  by_cases q1_0 : x 0 ≤ -1
  · exact h _ zl19_0 (zbox5 ⟨by omega, by omega⟩ ⟨by omega, by omega⟩ ⟨by omega, by omega⟩ ⟨by omega, by omega⟩ ⟨by omega, by omega⟩)
  exact h _ zl19_1 (zbox5 ⟨by omega, by omega⟩ ⟨by omega, by omega⟩ ⟨by omega, by omega⟩ ⟨by omega, by omega⟩ ⟨by omega, by omega⟩)
theorem zl20_0 : zlf 20 [(-2147483648, 2147483647), (-2147483648, 2147483647), (-2147483648, 2147483647), (-2147483648, 2147483647), (-2147483648, 2147483647)] := zlf_of (sc := [7, 4, 12, 20, 28, 36]) (by decide +kernel) (by decide +kernel)
theorem zc20 : zcov 20 := by
  intro P x hx h
  obtain ⟨a0, b0⟩ := hx 0
  obtain ⟨a1, b1⟩ := hx 1
  obtain ⟨a2, b2⟩ := hx 2
  obtain ⟨a3, b3⟩ := hx 3
  obtain ⟨a4, b4⟩ := hx 4
  exact h _ zl20_0 (zbox5 ⟨by omega, by omega⟩ ⟨by omega, by omega⟩ ⟨by omega, by omega⟩ ⟨by omega, by omega⟩ ⟨by omega, by omega⟩)
theorem zl21_0 : zlf 21 [(-2147483648, -1), (-2147483648, 2147483647), (-2147483648, 2147483647), (-2147483648, 2147483647), (-2147483648, 2147483647)] := zlf_of (sc := [7, 4, 12, 20, 28, 36]) (by decide +kernel) (by decide +kernel)
theorem zl21_1 : zlf 21 [(0, 2147483647), (-2147483648, 2147483647), (-2147483648, 2147483647), (-2147483648, 2147483647), (-2147483648, 2147483647)] := zlf_of (sc := [7, 4, 12, 20, 28, 36]) (by decide +kernel) (by decide +kernel)
theorem zc21 : zcov 21 := by
  intro P x hx h
  obtain ⟨a0, b0⟩ := hx 0
  obtain ⟨a1, b1⟩ := hx 1
  obtain ⟨a2, b2⟩ := hx 2
  obtain ⟨a3, b3⟩ := hx 3
  obtain ⟨a4, b4⟩ := hx 4
  by_cases q1_0 : x 0 ≤ -1
  · exact h _ zl21_0 (zbox5 ⟨by omega, by omega⟩ ⟨by omega, by omega⟩ ⟨by omega, by omega⟩ ⟨by omega, by omega⟩ ⟨by omega, by omega⟩)
  exact h _ zl21_1 (zbox5 ⟨by omega, by omega⟩ ⟨by omega, by omega⟩ ⟨by omega, by omega⟩ ⟨by omega, by omega⟩ ⟨by omega, by omega⟩)
theorem zl22_0 : zlf 22 [(-2147483648, 2147483647), (-2147483648, 2147483647), (-2147483648, 2147483647), (-2147483648, 2147483647), (-2147483648, 2147483647)] := zlf_of (sc := [7, 4, 12, 20, 28, 36]) (by decide +kernel) (by decide +kernel)
theorem zc22 : zcov 22 := by
  intro P x hx h
  obtain ⟨a0, b0⟩ := hx 0
  obtain ⟨a1, b1⟩ := hx 1
  obtain ⟨a2, b2⟩ := hx 2
  obtain ⟨a3, b3⟩ := hx 3
  obtain ⟨a4, b4⟩ := hx 4
  exact h _ zl22_0 (zbox5 ⟨by omega, by omega⟩ ⟨by omega, by omega⟩ ⟨by omega, by omega⟩ ⟨by omega, by omega⟩ ⟨by omega, by omega⟩)
