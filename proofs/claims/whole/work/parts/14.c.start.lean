theorem sq_inj {q1 q2 q3 q4 q5 q6 q7 q8 q9 q10 q11 q12 q13 q14 : Nat} (n1_2 : q1 ≠ q2) (n1_3 : q1 ≠ q3) (n2_3 : q2 ≠ q3) (n1_4 : q1 ≠ q4) (n2_4 : q2 ≠ q4) (n3_4 : q3 ≠ q4) (n1_5 : q1 ≠ q5) (n2_5 : q2 ≠ q5) (n3_5 : q3 ≠ q5) (n4_5 : q4 ≠ q5) (n1_6 : q1 ≠ q6) (n2_6 : q2 ≠ q6) (n3_6 : q3 ≠ q6) (n4_6 : q4 ≠ q6) (n5_6 : q5 ≠ q6) (n1_7 : q1 ≠ q7) (n2_7 : q2 ≠ q7) (n3_7 : q3 ≠ q7) (n4_7 : q4 ≠ q7) (n5_7 : q5 ≠ q7) (n6_7 : q6 ≠ q7) (n1_8 : q1 ≠ q8) (n2_8 : q2 ≠ q8) (n3_8 : q3 ≠ q8) (n4_8 : q4 ≠ q8) (n5_8 : q5 ≠ q8) (n6_8 : q6 ≠ q8) (n7_8 : q7 ≠ q8) (n1_9 : q1 ≠ q9) (n2_9 : q2 ≠ q9) (n3_9 : q3 ≠ q9) (n4_9 : q4 ≠ q9) (n5_9 : q5 ≠ q9) (n6_9 : q6 ≠ q9) (n7_9 : q7 ≠ q9) (n8_9 : q8 ≠ q9) (n1_10 : q1 ≠ q10) (n2_10 : q2 ≠ q10) (n3_10 : q3 ≠ q10) (n4_10 : q4 ≠ q10) (n5_10 : q5 ≠ q10) (n6_10 : q6 ≠ q10) (n7_10 : q7 ≠ q10) (n8_10 : q8 ≠ q10) (n9_10 : q9 ≠ q10) (n1_11 : q1 ≠ q11) (n2_11 : q2 ≠ q11) (n3_11 : q3 ≠ q11) (n4_11 : q4 ≠ q11) (n5_11 : q5 ≠ q11) (n6_11 : q6 ≠ q11) (n7_11 : q7 ≠ q11) (n8_11 : q8 ≠ q11) (n9_11 : q9 ≠ q11) (n10_11 : q10 ≠ q11) (n1_12 : q1 ≠ q12) (n2_12 : q2 ≠ q12) (n3_12 : q3 ≠ q12) (n4_12 : q4 ≠ q12) (n5_12 : q5 ≠ q12) (n6_12 : q6 ≠ q12) (n7_12 : q7 ≠ q12) (n8_12 : q8 ≠ q12) (n9_12 : q9 ≠ q12) (n10_12 : q10 ≠ q12) (n11_12 : q11 ≠ q12) (n1_13 : q1 ≠ q13) (n2_13 : q2 ≠ q13) (n3_13 : q3 ≠ q13) (n4_13 : q4 ≠ q13) (n5_13 : q5 ≠ q13) (n6_13 : q6 ≠ q13) (n7_13 : q7 ≠ q13) (n8_13 : q8 ≠ q13) (n9_13 : q9 ≠ q13) (n10_13 : q10 ≠ q13) (n11_13 : q11 ≠ q13) (n12_13 : q12 ≠ q13) (n1_14 : q1 ≠ q14) (n2_14 : q2 ≠ q14) (n3_14 : q3 ≠ q14) (n4_14 : q4 ≠ q14) (n5_14 : q5 ≠ q14) (n6_14 : q6 ≠ q14) (n7_14 : q7 ≠ q14) (n8_14 : q8 ≠ q14) (n9_14 : q9 ≠ q14) (n10_14 : q10 ≠ q14) (n11_14 : q11 ≠ q14) (n12_14 : q12 ≠ q14) (n13_14 : q13 ≠ q14) : ∀ i j : Nat, 3 ≤ i → i < 17 → 3 ≤ j → j < 17 → sq q1 q2 q3 q4 q5 q6 q7 q8 q9 q10 q11 q12 q13 q14 i = sq q1 q2 q3 q4 q5 q6 q7 q8 q9 q10 q11 q12 q13 q14 j → i = j := by
  intro i j h1 h2 h3 h4 e
  rcases (show i = 3 ∨ i = 4 ∨ i = 5 ∨ i = 6 ∨ i = 7 ∨ i = 8 ∨ i = 9 ∨ i = 10 ∨ i = 11 ∨ i = 12 ∨ i = 13 ∨ i = 14 ∨ i = 15 ∨ i = 16 by omega) with rfl | rfl | rfl | rfl | rfl | rfl | rfl | rfl | rfl | rfl | rfl | rfl | rfl | rfl
  · rcases (show j = 3 ∨ j = 4 ∨ j = 5 ∨ j = 6 ∨ j = 7 ∨ j = 8 ∨ j = 9 ∨ j = 10 ∨ j = 11 ∨ j = 12 ∨ j = 13 ∨ j = 14 ∨ j = 15 ∨ j = 16 by omega) with rfl | rfl | rfl | rfl | rfl | rfl | rfl | rfl | rfl | rfl | rfl | rfl | rfl | rfl
    · rfl
    · exact absurd (show q1 = q2 from e) n1_2
    · exact absurd (show q1 = q3 from e) n1_3
    · exact absurd (show q1 = q4 from e) n1_4
    · exact absurd (show q1 = q5 from e) n1_5
    · exact absurd (show q1 = q6 from e) n1_6
    · exact absurd (show q1 = q7 from e) n1_7
    · exact absurd (show q1 = q8 from e) n1_8
    · exact absurd (show q1 = q9 from e) n1_9
    · exact absurd (show q1 = q10 from e) n1_10
    · exact absurd (show q1 = q11 from e) n1_11
    · exact absurd (show q1 = q12 from e) n1_12
    · exact absurd (show q1 = q13 from e) n1_13
    · exact absurd (show q1 = q14 from e) n1_14
  · rcases (show j = 3 ∨ j = 4 ∨ j = 5 ∨ j = 6 ∨ j = 7 ∨ j = 8 ∨ j = 9 ∨ j = 10 ∨ j = 11 ∨ j = 12 ∨ j = 13 ∨ j = 14 ∨ j = 15 ∨ j = 16 by omega) with rfl | rfl | rfl | rfl | rfl | rfl | rfl | rfl | rfl | rfl | rfl | rfl | rfl | rfl
    · exact absurd (show q1 = q2 from e.symm) n1_2
    · rfl
    · exact absurd (show q2 = q3 from e) n2_3
    · exact absurd (show q2 = q4 from e) n2_4
    · exact absurd (show q2 = q5 from e) n2_5
    · exact absurd (show q2 = q6 from e) n2_6
    · exact absurd (show q2 = q7 from e) n2_7
    · exact absurd (show q2 = q8 from e) n2_8
    · exact absurd (show q2 = q9 from e) n2_9
    · exact absurd (show q2 = q10 from e) n2_10
    · exact absurd (show q2 = q11 from e) n2_11
    · exact absurd (show q2 = q12 from e) n2_12
    · exact absurd (show q2 = q13 from e) n2_13
    · exact absurd (show q2 = q14 from e) n2_14
  · rcases (show j = 3 ∨ j = 4 ∨ j = 5 ∨ j = 6 ∨ j = 7 ∨ j = 8 ∨ j = 9 ∨ j = 10 ∨ j = 11 ∨ j = 12 ∨ j = 13 ∨ j = 14 ∨ j = 15 ∨ j = 16 by omega) with rfl | rfl | rfl | rfl | rfl | rfl | rfl | rfl | rfl | rfl | rfl | rfl | rfl | rfl
    · exact absurd (show q1 = q3 from e.symm) n1_3
    · exact absurd (show q2 = q3 from e.symm) n2_3
    · rfl
    · exact absurd (show q3 = q4 from e) n3_4
    · exact absurd (show q3 = q5 from e) n3_5
    · exact absurd (show q3 = q6 from e) n3_6
    · exact absurd (show q3 = q7 from e) n3_7
    · exact absurd (show q3 = q8 from e) n3_8
    · exact absurd (show q3 = q9 from e) n3_9
    · exact absurd (show q3 = q10 from e) n3_10
    · exact absurd (show q3 = q11 from e) n3_11
    · exact absurd (show q3 = q12 from e) n3_12
    · exact absurd (show q3 = q13 from e) n3_13
    · exact absurd (show q3 = q14 from e) n3_14
  · rcases (show j = 3 ∨ j = 4 ∨ j = 5 ∨ j = 6 ∨ j = 7 ∨ j = 8 ∨ j = 9 ∨ j = 10 ∨ j = 11 ∨ j = 12 ∨ j = 13 ∨ j = 14 ∨ j = 15 ∨ j = 16 by omega) with rfl | rfl | rfl | rfl | rfl | rfl | rfl | rfl | rfl | rfl | rfl | rfl | rfl | rfl
    · exact absurd (show q1 = q4 from e.symm) n1_4
    · exact absurd (show q2 = q4 from e.symm) n2_4
    · exact absurd (show q3 = q4 from e.symm) n3_4
    · rfl
    · exact absurd (show q4 = q5 from e) n4_5
    · exact absurd (show q4 = q6 from e) n4_6
    · exact absurd (show q4 = q7 from e) n4_7
    · exact absurd (show q4 = q8 from e) n4_8
    · exact absurd (show q4 = q9 from e) n4_9
    · exact absurd (show q4 = q10 from e) n4_10
    · exact absurd (show q4 = q11 from e) n4_11
    · exact absurd (show q4 = q12 from e) n4_12
    · exact absurd (show q4 = q13 from e) n4_13
    · exact absurd (show q4 = q14 from e) n4_14
  · rcases (show j = 3 ∨ j = 4 ∨ j = 5 ∨ j = 6 ∨ j = 7 ∨ j = 8 ∨ j = 9 ∨ j = 10 ∨ j = 11 ∨ j = 12 ∨ j = 13 ∨ j = 14 ∨ j = 15 ∨ j = 16 by omega) with rfl | rfl | rfl | rfl | rfl | rfl | rfl | rfl | rfl | rfl | rfl | rfl | rfl | rfl
    · exact absurd (show q1 = q5 from e.symm) n1_5
    · exact absurd (show q2 = q5 from e.symm) n2_5
    · exact absurd (show q3 = q5 from e.symm) n3_5
    · exact absurd (show q4 = q5 from e.symm) n4_5
    · rfl
    · exact absurd (show q5 = q6 from e) n5_6
    · exact absurd (show q5 = q7 from e) n5_7
    · exact absurd (show q5 = q8 from e) n5_8
    · exact absurd (show q5 = q9 from e) n5_9
    · exact absurd (show q5 = q10 from e) n5_10
    · exact absurd (show q5 = q11 from e) n5_11
    · exact absurd (show q5 = q12 from e) n5_12
    · exact absurd (show q5 = q13 from e) n5_13
    · exact absurd (show q5 = q14 from e) n5_14
  · rcases (show j = 3 ∨ j = 4 ∨ j = 5 ∨ j = 6 ∨ j = 7 ∨ j = 8 ∨ j = 9 ∨ j = 10 ∨ j = 11 ∨ j = 12 ∨ j = 13 ∨ j = 14 ∨ j = 15 ∨ j = 16 by omega) with rfl | rfl | rfl | rfl | rfl | rfl | rfl | rfl | rfl | rfl | rfl | rfl | rfl | rfl
    · exact absurd (show q1 = q6 from e.symm) n1_6
    · exact absurd (show q2 = q6 from e.symm) n2_6
    · exact absurd (show q3 = q6 from e.symm) n3_6
    · exact absurd (show q4 = q6 from e.symm) n4_6
    · exact absurd (show q5 = q6 from e.symm) n5_6
    · rfl
    · exact absurd (show q6 = q7 from e) n6_7
    · exact absurd (show q6 = q8 from e) n6_8
    · exact absurd (show q6 = q9 from e) n6_9
    · exact absurd (show q6 = q10 from e) n6_10
    · exact absurd (show q6 = q11 from e) n6_11
    · exact absurd (show q6 = q12 from e) n6_12
    · exact absurd (show q6 = q13 from e) n6_13
    · exact absurd (show q6 = q14 from e) n6_14
  · rcases (show j = 3 ∨ j = 4 ∨ j = 5 ∨ j = 6 ∨ j = 7 ∨ j = 8 ∨ j = 9 ∨ j = 10 ∨ j = 11 ∨ j = 12 ∨ j = 13 ∨ j = 14 ∨ j = 15 ∨ j = 16 by omega) with rfl | rfl | rfl | rfl | rfl | rfl | rfl | rfl | rfl | rfl | rfl | rfl | rfl | rfl
    · exact absurd (show q1 = q7 from e.symm) n1_7
    · exact absurd (show q2 = q7 from e.symm) n2_7
    · exact absurd (show q3 = q7 from e.symm) n3_7
    · exact absurd (show q4 = q7 from e.symm) n4_7
    · exact absurd (show q5 = q7 from e.symm) n5_7
    · exact absurd (show q6 = q7 from e.symm) n6_7
    · rfl
    · exact absurd (show q7 = q8 from e) n7_8
    · exact absurd (show q7 = q9 from e) n7_9
    · exact absurd (show q7 = q10 from e) n7_10
    · exact absurd (show q7 = q11 from e) n7_11
    · exact absurd (show q7 = q12 from e) n7_12
    · exact absurd (show q7 = q13 from e) n7_13
    · exact absurd (show q7 = q14 from e) n7_14
  · rcases (show j = 3 ∨ j = 4 ∨ j = 5 ∨ j = 6 ∨ j = 7 ∨ j = 8 ∨ j = 9 ∨ j = 10 ∨ j = 11 ∨ j = 12 ∨ j = 13 ∨ j = 14 ∨ j = 15 ∨ j = 16 by omega) with rfl | rfl | rfl | rfl | rfl | rfl | rfl | rfl | rfl | rfl | rfl | rfl | rfl | rfl
    · exact absurd (show q1 = q8 from e.symm) n1_8
    · exact absurd (show q2 = q8 from e.symm) n2_8
    · exact absurd (show q3 = q8 from e.symm) n3_8
    · exact absurd (show q4 = q8 from e.symm) n4_8
    · exact absurd (show q5 = q8 from e.symm) n5_8
    · exact absurd (show q6 = q8 from e.symm) n6_8
    · exact absurd (show q7 = q8 from e.symm) n7_8
    · rfl
    · exact absurd (show q8 = q9 from e) n8_9
    · exact absurd (show q8 = q10 from e) n8_10
    · exact absurd (show q8 = q11 from e) n8_11
    · exact absurd (show q8 = q12 from e) n8_12
    · exact absurd (show q8 = q13 from e) n8_13
    · exact absurd (show q8 = q14 from e) n8_14
  · rcases (show j = 3 ∨ j = 4 ∨ j = 5 ∨ j = 6 ∨ j = 7 ∨ j = 8 ∨ j = 9 ∨ j = 10 ∨ j = 11 ∨ j = 12 ∨ j = 13 ∨ j = 14 ∨ j = 15 ∨ j = 16 by omega) with rfl | rfl | rfl | rfl | rfl | rfl | rfl | rfl | rfl | rfl | rfl | rfl | rfl | rfl
    · exact absurd (show q1 = q9 from e.symm) n1_9
    · exact absurd (show q2 = q9 from e.symm) n2_9
    · exact absurd (show q3 = q9 from e.symm) n3_9
    · exact absurd (show q4 = q9 from e.symm) n4_9
    · exact absurd (show q5 = q9 from e.symm) n5_9
    · exact absurd (show q6 = q9 from e.symm) n6_9
    · exact absurd (show q7 = q9 from e.symm) n7_9
    · exact absurd (show q8 = q9 from e.symm) n8_9
    · rfl
    · exact absurd (show q9 = q10 from e) n9_10
    · exact absurd (show q9 = q11 from e) n9_11
    · exact absurd (show q9 = q12 from e) n9_12
    · exact absurd (show q9 = q13 from e) n9_13
    · exact absurd (show q9 = q14 from e) n9_14
  · rcases (show j = 3 ∨ j = 4 ∨ j = 5 ∨ j = 6 ∨ j = 7 ∨ j = 8 ∨ j = 9 ∨ j = 10 ∨ j = 11 ∨ j = 12 ∨ j = 13 ∨ j = 14 ∨ j = 15 ∨ j = 16 by omega) with rfl | rfl | rfl | rfl | rfl | rfl | rfl | rfl | rfl | rfl | rfl | rfl | rfl | rfl
    · exact absurd (show q1 = q10 from e.symm) n1_10
    · exact absurd (show q2 = q10 from e.symm) n2_10
    · exact absurd (show q3 = q10 from e.symm) n3_10
    · exact absurd (show q4 = q10 from e.symm) n4_10
    · exact absurd (show q5 = q10 from e.symm) n5_10
    · exact absurd (show q6 = q10 from e.symm) n6_10
    · exact absurd (show q7 = q10 from e.symm) n7_10
    · exact absurd (show q8 = q10 from e.symm) n8_10
    · exact absurd (show q9 = q10 from e.symm) n9_10
    · rfl
    · exact absurd (show q10 = q11 from e) n10_11
    · exact absurd (show q10 = q12 from e) n10_12
    · exact absurd (show q10 = q13 from e) n10_13
    · exact absurd (show q10 = q14 from e) n10_14
  · rcases (show j = 3 ∨ j = 4 ∨ j = 5 ∨ j = 6 ∨ j = 7 ∨ j = 8 ∨ j = 9 ∨ j = 10 ∨ j = 11 ∨ j = 12 ∨ j = 13 ∨ j = 14 ∨ j = 15 ∨ j = 16 by omega) with rfl | rfl | rfl | rfl | rfl | rfl | rfl | rfl | rfl | rfl | rfl | rfl | rfl | rfl
    · exact absurd (show q1 = q11 from e.symm) n1_11
    · exact absurd (show q2 = q11 from e.symm) n2_11
    · exact absurd (show q3 = q11 from e.symm) n3_11
    · exact absurd (show q4 = q11 from e.symm) n4_11
    · exact absurd (show q5 = q11 from e.symm) n5_11
    · exact absurd (show q6 = q11 from e.symm) n6_11
    · exact absurd (show q7 = q11 from e.symm) n7_11
    · exact absurd (show q8 = q11 from e.symm) n8_11
    · exact absurd (show q9 = q11 from e.symm) n9_11
    · exact absurd (show q10 = q11 from e.symm) n10_11
    · rfl
    · exact absurd (show q11 = q12 from e) n11_12
    · exact absurd (show q11 = q13 from e) n11_13
    · exact absurd (show q11 = q14 from e) n11_14
  · rcases (show j = 3 ∨ j = 4 ∨ j = 5 ∨ j = 6 ∨ j = 7 ∨ j = 8 ∨ j = 9 ∨ j = 10 ∨ j = 11 ∨ j = 12 ∨ j = 13 ∨ j = 14 ∨ j = 15 ∨ j = 16 by omega) with rfl | rfl | rfl | rfl | rfl | rfl | rfl | rfl | rfl | rfl | rfl | rfl | rfl | rfl
    · exact absurd (show q1 = q12 from e.symm) n1_12
    · exact absurd (show q2 = q12 from e.symm) n2_12
    · exact absurd (show q3 = q12 from e.symm) n3_12
    · exact absurd (show q4 = q12 from e.symm) n4_12
    · exact absurd (show q5 = q12 from e.symm) n5_12
    · exact absurd (show q6 = q12 from e.symm) n6_12
    · exact absurd (show q7 = q12 from e.symm) n7_12
    · exact absurd (show q8 = q12 from e.symm) n8_12
    · exact absurd (show q9 = q12 from e.symm) n9_12
    · exact absurd (show q10 = q12 from e.symm) n10_12
    · exact absurd (show q11 = q12 from e.symm) n11_12
    · rfl
    · exact absurd (show q12 = q13 from e) n12_13
    · exact absurd (show q12 = q14 from e) n12_14
  · rcases (show j = 3 ∨ j = 4 ∨ j = 5 ∨ j = 6 ∨ j = 7 ∨ j = 8 ∨ j = 9 ∨ j = 10 ∨ j = 11 ∨ j = 12 ∨ j = 13 ∨ j = 14 ∨ j = 15 ∨ j = 16 by omega) with rfl | rfl | rfl | rfl | rfl | rfl | rfl | rfl | rfl | rfl | rfl | rfl | rfl | rfl
    · exact absurd (show q1 = q13 from e.symm) n1_13
    · exact absurd (show q2 = q13 from e.symm) n2_13
    · exact absurd (show q3 = q13 from e.symm) n3_13
    · exact absurd (show q4 = q13 from e.symm) n4_13
    · exact absurd (show q5 = q13 from e.symm) n5_13
    · exact absurd (show q6 = q13 from e.symm) n6_13
    · exact absurd (show q7 = q13 from e.symm) n7_13
    · exact absurd (show q8 = q13 from e.symm) n8_13
    · exact absurd (show q9 = q13 from e.symm) n9_13
    · exact absurd (show q10 = q13 from e.symm) n10_13
    · exact absurd (show q11 = q13 from e.symm) n11_13
    · exact absurd (show q12 = q13 from e.symm) n12_13
    · rfl
    · exact absurd (show q13 = q14 from e) n13_14
  · rcases (show j = 3 ∨ j = 4 ∨ j = 5 ∨ j = 6 ∨ j = 7 ∨ j = 8 ∨ j = 9 ∨ j = 10 ∨ j = 11 ∨ j = 12 ∨ j = 13 ∨ j = 14 ∨ j = 15 ∨ j = 16 by omega) with rfl | rfl | rfl | rfl | rfl | rfl | rfl | rfl | rfl | rfl | rfl | rfl | rfl | rfl
    · exact absurd (show q1 = q14 from e.symm) n1_14
    · exact absurd (show q2 = q14 from e.symm) n2_14
    · exact absurd (show q3 = q14 from e.symm) n3_14
    · exact absurd (show q4 = q14 from e.symm) n4_14
    · exact absurd (show q5 = q14 from e.symm) n5_14
    · exact absurd (show q6 = q14 from e.symm) n6_14
    · exact absurd (show q7 = q14 from e.symm) n7_14
    · exact absurd (show q8 = q14 from e.symm) n8_14
    · exact absurd (show q9 = q14 from e.symm) n9_14
    · exact absurd (show q10 = q14 from e.symm) n10_14
    · exact absurd (show q11 = q14 from e.symm) n11_14
    · exact absurd (show q12 = q14 from e.symm) n12_14
    · exact absurd (show q13 = q14 from e.symm) n13_14
    · rfl
set_option maxRecDepth 100000 in
set_option maxHeartbeats 4000000 in
theorem whole_start {p : Program} {e : Env} {s : State} {m : MethodId} {below : List Frame} {meth : Method} {c : Code} (l : Launch) (hflags : l.flags = flags0) {b L : Nat} {xs : Nat → Int32} (hL : L ≤ 3072) (C0 : lw_At p s m meth c b L xs) : W p l e room_1 s m #[Value.ref b] below meth c s.heap [] 0 0 (lw_Z below #[Value.ref b] s) (entryFrame m ([Value.ref b] : List Value).toArray 9) := by
  obtain ⟨hx, hb, hr, hml, hown, hts, hX, hbl, hlk, hgv⟩ := id C0
  have hs := flat_of_before _ hgv
  have hfl : l.stackTraces = false := by
    show (!l.flags.contains noTraceFlag) = false
    rw [hflags]
    decide +kernel
  obtain ⟨G, Z⟩ := mZ_of hfl hts (hs _ (by decide +kernel)) (hs _ (by decide +kernel))
  have No : mNo s := by
    intro q hq
    simp only [noP, List.mem_cons, List.not_mem_nil, or_false] at hq
    rcases hq with rfl | rfl | rfl | rfl | rfl | rfl
    · exact va_Nc.of (hs _ (by decide +kernel))
    · exact va_Nc.of (hs _ (by decide +kernel))
    · exact va_Nc.of (hs _ (by decide +kernel))
    · exact va_Nc.of (hs _ (by decide +kernel))
    · exact va_Nc.of (hs _ (by decide +kernel))
    · exact va_Nc.of (hs _ (by decide +kernel))
  have C : mC s p s m meth c cL_law 9 RL (some .boolean) meth.name := ⟨hx, hb, hml, hown, hlk, hr, ⟨State.WarmedH.refl s, Nat.le_refl _, fun _ _ => rfl⟩, rfl⟩
  have hS : va_S (fun q : Nat => s.heap.size ≤ q) s.heap s.heap [] := va_S.rf
  obtain ⟨h0, e0⟩ : ∃ z : Hp, z = ([], fun _ => .inr (0, [])) := ⟨_, rfl⟩
  have hM : MW G s.heap.size h0 s.heap := by
    rw [e0]
    exact ⟨fun k q h => by simp [va_pl] at h, ⟨fun i j p q h => by simp [va_pl] at h, fun k q h => by simp [va_pl] at h⟩⟩
  have hl := lv_entry ([.ref b]) (n := 9) (Nat.le_of_ble_eq_true rfl)
  rw [lg_entry_eq]
  generalize (lg_sl ([.ref b]) ++ List.replicate (9 - (lg_sl ([.ref b])).length) Slot.unset).toArray = ls at hl ⊢
  have hl : lv_has ls 9 [(0, .ref b)] := hl
  refine m_new Z C hM hS K_X5 cl_L_8 ci_X5 cn_X5 (fs := [.null, .null, .int 0, .long 0]) (fun j hj => match j, hj with | 0, _ => rfl | 1, _ => rfl | 2, _ => rfl | 3, _ => rfl | n + 4, z => absurd z (by omega)) (Nat.le_of_ble_eq_true rfl) (Nat.le_of_ble_eq_true rfl) dL_law_0 (fun x H hqx hM hS => ?_)
  refine lv_dup hx hb dL_law_3 rfl ?_
  refine m_callI Z C hM hS (As := []) (rest := [.ref x]) (c_X5_init Z _ x hat_new) yi_X5_init ml_L_126 ⟨(Nat.le_of_ble_eq_true rfl), (Nat.le_of_ble_eq_true rfl)⟩ (Nat.le_of_ble_eq_true rfl) hl.1 rfl rfl dL_law_4 ⟨(Nat.le_of_ble_eq_true rfl), (Nat.le_of_ble_eq_true rfl)⟩ (fun v h1 H locs hv hM hS => ?_)
  obtain ⟨hv, r, t, x5, xr, xt, -, -, -⟩ := hv
  subst hv
  refine W.eq (g2 := F0 m 7 ls [.ref x]) rfl ?_
  refine lv_astore_n (lv' := [(1, .ref x), (0, .ref b)]) hx hb dL_law_7 rfl hl (by decide) rfl (fun ls hl => ?_)
  refine m_new Z C hM hS K_X6 cl_L_127 ci_X6 cn_X6 (fs := [.int 0, .int 0, .long 0, .null, .null, .null, .null, .null, .null, .null, .null, .null, .null, .null, .null, .null, .null]) (fun j hj => match j, hj with | 0, _ => rfl | 1, _ => rfl | 2, _ => rfl | 3, _ => rfl | 4, _ => rfl | 5, _ => rfl | 6, _ => rfl | 7, _ => rfl | 8, _ => rfl | 9, _ => rfl | 10, _ => rfl | 11, _ => rfl | 12, _ => rfl | 13, _ => rfl | 14, _ => rfl | 15, _ => rfl | 16, _ => rfl | n + 17, z => absurd z (by omega)) (Nat.le_of_ble_eq_true rfl) (Nat.le_of_ble_eq_true rfl) dL_law_8 (fun mm H hqm hM hS => ?_)
  obtain ⟨hn, en⟩ : ∃ z, z = hnew h1 mm (eO 6 [.int 0, .int 0, .long 0, .null, .null, .null, .null, .null, .null, .null, .null, .null, .null, .null, .null, .null, .null]) := ⟨_, rfl⟩
  have hmn : hat hn mm (eO 6 [.int 0, .int 0, .long 0, .null, .null, .null, .null, .null, .null, .null, .null, .null, .null, .null, .null, .null, .null]) := by rw [en]; exact hat_new
  have kn : ∀ (a : Nat) (e9 : va_E), hat h1 a e9 → hat hn a e9 := fun a e9 w => by rw [en]; exact hat_new_ne w hqm
  replace hM : MW G s.heap.size hn H := by rw [en]; exact hM
  refine lv_dup hx hb dL_law_11 rfl ?_
  refine m_callI Z C hM hS (As := []) (rest := [.ref mm]) (c_X6_init Z hn mm hmn) yi_X6_init ml_L_129 ⟨(Nat.le_of_ble_eq_true rfl), (Nat.le_of_ble_eq_true rfl)⟩ (Nat.le_of_ble_eq_true rfl) hl.1 rfl rfl dL_law_12 ⟨(Nat.le_of_ble_eq_true rfl), (Nat.le_of_ble_eq_true rfl)⟩ (fun v h2 H locs hv hM hS => ?_)
  obtain ⟨hv, q1, q2, q3, q4, q5, q6, q7, q8, q9, q10, q11, q12, q13, q14, w0, w1, w2, w3, w4, w5, w6, w7, w8, w9, w10, w11, w12, w13, w14, k1, k2, k3, k4, k5, k6, k7, k8, k9, k10, k11, k12, k13, k14, n1_2, n1_3, n2_3, n1_4, n2_4, n3_4, n1_5, n2_5, n3_5, n4_5, n1_6, n2_6, n3_6, n4_6, n5_6, n1_7, n2_7, n3_7, n4_7, n5_7, n6_7, n1_8, n2_8, n3_8, n4_8, n5_8, n6_8, n7_8, n1_9, n2_9, n3_9, n4_9, n5_9, n6_9, n7_9, n8_9, n1_10, n2_10, n3_10, n4_10, n5_10, n6_10, n7_10, n8_10, n9_10, n1_11, n2_11, n3_11, n4_11, n5_11, n6_11, n7_11, n8_11, n9_11, n10_11, n1_12, n2_12, n3_12, n4_12, n5_12, n6_12, n7_12, n8_12, n9_12, n10_12, n11_12, n1_13, n2_13, n3_13, n4_13, n5_13, n6_13, n7_13, n8_13, n9_13, n10_13, n11_13, n12_13, n1_14, n2_14, n3_14, n4_14, n5_14, n6_14, n7_14, n8_14, n9_14, n10_14, n11_14, n12_14, n13_14, f2⟩ := hv
  subst hv
  refine W.eq (g2 := F0 m 15 ls [.ref mm]) rfl ?_
  refine lv_astore_n (lv' := [(2, .ref mm), (1, .ref x), (0, .ref b)]) hx hb dL_law_15 rfl hl (by decide) rfl (fun ls hl => ?_)
  refine lv_iconst (v := 1) hx hb dL_law_16 (by decide) ?_
  refine m_newL Z C hM hS 1 (by decide) (by decide) (by decide) (Nat.le_of_ble_eq_true rfl) (Nat.le_of_ble_eq_true rfl) dL_law_17 (fun o H hqo hM hS => ?_)
  obtain ⟨h3, e3⟩ : ∃ z, z = hnew h2 o (eL G 1 (fun _ => 0)) := ⟨_, rfl⟩
  have ho3 : hat h3 o (eL G 1 (fun _ => 0)) := by rw [e3]; exact hat_new
  have kn3 : ∀ (a : Nat) (e9 : va_E), hat h2 a e9 → hat h3 a e9 := fun a e9 w => by rw [e3]; exact hat_new_ne w hqo
  replace hM : MW G s.heap.size h3 H := by rw [e3]; exact hM
  refine lv_astore_n (lv' := [(3, .ref o), (2, .ref mm), (1, .ref x), (0, .ref b)]) hx hb dL_law_19 rfl hl (by decide) rfl (fun ls hl => ?_)
  refine lv_iconst (v := 1) hx hb dL_law_20 (by decide) ?_
  refine m_newa (atype := .double) (ty := .double) (av := (1, .inr (.inr (.inr (.inl (fun _ => 0)))))) Z C hM hS rfl wa_double 5 rfl rfl 1 (fun _ => rfl) (by decide) (by decide) (by decide) (Nat.le_of_ble_eq_true rfl) (Nat.le_of_ble_eq_true rfl) dL_law_21 (fun o2 H hqo2 hM hS => ?_)
  obtain ⟨h4, e4⟩ : ∃ z, z = hnew h3 o2 (eD G 1 (fun _ => 0)) := ⟨_, rfl⟩
  have ho4 : hat h4 o2 (eD G 1 (fun _ => 0)) := by rw [e4]; exact hat_new
  have kn4 : ∀ (a : Nat) (e9 : va_E), hat h3 a e9 → hat h4 a e9 := fun a e9 w => by rw [e4]; exact hat_new_ne w hqo2
  replace hM : MW G s.heap.size h4 H := by rw [e4]; exact hM
  refine lv_astore (lv' := [(4, .ref o2), (3, .ref o), (2, .ref mm), (1, .ref x), (0, .ref b)]) hx hb dL_law_23 hl (by decide) rfl (fun ls hl => ?_)
  refine lv_iconst (v := nI 0) hx hb dL_law_25 (by decide) ?_
  refine lv_istore (lv' := [(5, .int (nI 0)), (4, .ref o2), (3, .ref o), (2, .ref mm), (1, .ref x), (0, .ref b)]) hx hb dL_law_26 hl (by decide) rfl (fun ls hl => ?_)
  have kp2 : ∀ (a : Nat) (e9 : va_E), hat h1 a e9 → hat h2 a e9 := fun a e9 w => f2 a e9 (fun z => hqm (by rw [← z]; exact w.1)) (kn a e9 w)
  have kp4 : ∀ (a : Nat) (e9 : va_E), hat h2 a e9 → hat h4 a e9 := fun a e9 w => kn4 a e9 (kn3 a e9 w)
  obtain ⟨A, tg, hA, hC, htg⟩ := CW_start (X := fun _ => X_new 0 0) (kp4 _ _ (kp2 _ _ x5)) (kp4 _ _ (kp2 _ _ xr)) (kp4 _ _ (kp2 _ _ xt))
  have hq9 : ∀ i : Nat, 3 ≤ i → i < 17 → sq q1 q2 q3 q4 q5 q6 q7 q8 q9 q10 q11 q12 q13 q14 i ∉ hn.1 ∧ sq q1 q2 q3 q4 q5 q6 q7 q8 q9 q10 q11 q12 q13 q14 i ∈ h2.1 := by
    intro i i1 i2
    rcases (show i = 3 ∨ i = 4 ∨ i = 5 ∨ i = 6 ∨ i = 7 ∨ i = 8 ∨ i = 9 ∨ i = 10 ∨ i = 11 ∨ i = 12 ∨ i = 13 ∨ i = 14 ∨ i = 15 ∨ i = 16 by omega) with rfl | rfl | rfl | rfl | rfl | rfl | rfl | rfl | rfl | rfl | rfl | rfl | rfl | rfl
    · exact ⟨k1, w1.1⟩
    · exact ⟨k2, w2.1⟩
    · exact ⟨k3, w3.1⟩
    · exact ⟨k4, w4.1⟩
    · exact ⟨k5, w5.1⟩
    · exact ⟨k6, w6.1⟩
    · exact ⟨k7, w7.1⟩
    · exact ⟨k8, w8.1⟩
    · exact ⟨k9, w9.1⟩
    · exact ⟨k10, w10.1⟩
    · exact ⟨k11, w11.1⟩
    · exact ⟨k12, w12.1⟩
    · exact ⟨k13, w13.1⟩
    · exact ⟨k14, w14.1⟩
  have hin : ∀ a : Nat, a ∈ h1.1 → a ∈ hn.1 := fun a ha => by
    rw [en]
    exact List.mem_append_left _ ha
  have in3 : ∀ a : Nat, a ∈ h2.1 → a ∈ h3.1 := fun a ha => by
    rw [e3]
    exact List.mem_append_left _ ha
  have m3 : mm ∈ h2.1 := w0.1
  have hmA : ∀ a : Nat, a ∈ h1.1 → mm ≠ a := fun a ha z => hqm (by rw [z]; exact ha)
  have hoA : ∀ a : Nat, a ∈ h2.1 → o ≠ a := fun a ha z => hqo (by rw [z]; exact ha)
  have hoB : ∀ a : Nat, a ∈ h3.1 → o2 ≠ a := fun a ha z => hqo2 (by rw [z]; exact ha)
  have hqA : ∀ i : Nat, 3 ≤ i → i < 17 → ∀ a : Nat, a ∈ h1.1 → sq q1 q2 q3 q4 q5 q6 q7 q8 q9 q10 q11 q12 q13 q14 i ≠ a := fun i i1 i2 a ha z => (hq9 i i1 i2).1 (by rw [z]; exact hin a ha)
  have hW : MdlW G h4 mm (sq q1 q2 q3 q4 q5 q6 q7 q8 q9 q10 q11 q12 q13 q14) s_st := ⟨kp4 _ _ w0, kp4 _ _ w1, kp4 _ _ w2, kp4 _ _ w3, kp4 _ _ w4, kp4 _ _ w5, kp4 _ _ w6, kp4 _ _ w7, kp4 _ _ w8, kp4 _ _ w9, kp4 _ _ w10, kp4 _ _ w11, kp4 _ _ w12, kp4 _ _ w13, kp4 _ _ w14, sq_inj n1_2 n1_3 n2_3 n1_4 n2_4 n3_4 n1_5 n2_5 n3_5 n4_5 n1_6 n2_6 n3_6 n4_6 n5_6 n1_7 n2_7 n3_7 n4_7 n5_7 n6_7 n1_8 n2_8 n3_8 n4_8 n5_8 n6_8 n7_8 n1_9 n2_9 n3_9 n4_9 n5_9 n6_9 n7_9 n8_9 n1_10 n2_10 n3_10 n4_10 n5_10 n6_10 n7_10 n8_10 n9_10 n1_11 n2_11 n3_11 n4_11 n5_11 n6_11 n7_11 n8_11 n9_11 n10_11 n1_12 n2_12 n3_12 n4_12 n5_12 n6_12 n7_12 n8_12 n9_12 n10_12 n11_12 n1_13 n2_13 n3_13 n4_13 n5_13 n6_13 n7_13 n8_13 n9_13 n10_13 n11_13 n12_13 n1_14 n2_14 n3_14 n4_14 n5_14 n6_14 n7_14 n8_14 n9_14 n10_14 n11_14 n12_14 n13_14⟩
  have hJ : LJ G h4 x mm (sq q1 q2 q3 q4 q5 q6 q7 q8 q9 q10 q11 q12 q13 q14) o o2 (fun _ => 0) (fun _ => 0) s_st s_st := ⟨A, tg, fun _ => X_new 0 0, 0, lN 0, nI 0, hA, hC, fun k hk => absurd hk (Nat.not_lt_zero k), hW, kn4 _ _ ho3, ho4, htg mm (hmA _ x5.1) (hmA _ xr.1) (hmA _ xt.1), fun i i1 i2 => htg _ (hqA i i1 i2 _ x5.1) (hqA i i1 i2 _ xr.1) (hqA i i1 i2 _ xt.1), htg o (hoA _ (kp2 _ _ x5).1) (hoA _ (kp2 _ _ xr).1) (hoA _ (kp2 _ _ xt).1), htg o2 (hoB _ (in3 _ (kp2 _ _ x5).1)) (hoB _ (in3 _ (kp2 _ _ xr).1)) (hoB _ (in3 _ (kp2 _ _ xt).1)), hoA _ m3, fun i i1 i2 => hoA _ (hq9 i i1 i2).2, hoB _ (in3 _ m3), fun i i1 i2 => hoB _ (in3 _ (hq9 i i1 i2).2), (hoB _ ho3.1).symm⟩
  refine W.widen (k := 20) (n := 4000) (Nat.le_of_ble_eq_true rfl) (Nat.le_of_ble_eq_true rfl) ?_
  exact law_loop Z No C hX hbl hL x mm (sq q1 q2 q3 q4 q5 q6 q7 q8 q9 q10 q11 q12 q13 q14) o o2 513 0 0 rfl rfl (Nat.zero_le _) 20 4000 (by decide) (by decide) s_st (fun _ => 0) (fun _ => 0) h4 H _ ls hJ Iv_st (Nat.zero_le _) hM hS hl
