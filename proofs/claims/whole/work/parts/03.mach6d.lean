theorem st_1_0 {a0 : Option Value} {v : Value} : m_st [a0] 0 v = [some v] := rfl
theorem st_2_0 {a0 a1 : Option Value} {v : Value} : m_st [a0, a1] 0 v = [some v, a1] := rfl
theorem st2_2_0 {a0 a1 : Option Value} {v : Value} : m_no (m_st [a0, a1] 0 v) 1 = [some v, none] := rfl
theorem st_2_1 {a0 a1 : Option Value} {v : Value} (q : m_c2 a0 = false) : m_st [a0, a1] 1 v = [a0, some v] := by simp [m_st, q]
theorem stL_2_1 {a1 : Option Value} {v : Value} {w : Int64} : m_st [some (.long w), a1] 1 v = [none, some v] := rfl
theorem st_3_0 {a0 a1 a2 : Option Value} {v : Value} : m_st [a0, a1, a2] 0 v = [some v, a1, a2] := rfl
theorem st2_3_0 {a0 a1 a2 : Option Value} {v : Value} : m_no (m_st [a0, a1, a2] 0 v) 1 = [some v, none, a2] := rfl
theorem st_3_1 {a0 a1 a2 : Option Value} {v : Value} (q : m_c2 a0 = false) : m_st [a0, a1, a2] 1 v = [a0, some v, a2] := by simp [m_st, q]
theorem stL_3_1 {a1 a2 : Option Value} {v : Value} {w : Int64} : m_st [some (.long w), a1, a2] 1 v = [none, some v, a2] := rfl
theorem st2_3_1 {a0 a1 a2 : Option Value} {v : Value} (q : m_c2 a0 = false) : m_no (m_st [a0, a1, a2] 1 v) 2 = [a0, some v, none] := by simp [m_st, m_no, q]
theorem st_3_2 {a0 a1 a2 : Option Value} {v : Value} (q : m_c2 a1 = false) : m_st [a0, a1, a2] 2 v = [a0, a1, some v] := by simp [m_st, q]
theorem stL_3_2 {a0 a2 : Option Value} {v : Value} {w : Int64} : m_st [a0, some (.long w), a2] 2 v = [a0, none, some v] := rfl
theorem st_4_0 {a0 a1 a2 a3 : Option Value} {v : Value} : m_st [a0, a1, a2, a3] 0 v = [some v, a1, a2, a3] := rfl
theorem st2_4_0 {a0 a1 a2 a3 : Option Value} {v : Value} : m_no (m_st [a0, a1, a2, a3] 0 v) 1 = [some v, none, a2, a3] := rfl
theorem st_4_1 {a0 a1 a2 a3 : Option Value} {v : Value} (q : m_c2 a0 = false) : m_st [a0, a1, a2, a3] 1 v = [a0, some v, a2, a3] := by simp [m_st, q]
theorem stL_4_1 {a1 a2 a3 : Option Value} {v : Value} {w : Int64} : m_st [some (.long w), a1, a2, a3] 1 v = [none, some v, a2, a3] := rfl
theorem st2_4_1 {a0 a1 a2 a3 : Option Value} {v : Value} (q : m_c2 a0 = false) : m_no (m_st [a0, a1, a2, a3] 1 v) 2 = [a0, some v, none, a3] := by simp [m_st, m_no, q]
theorem st_4_2 {a0 a1 a2 a3 : Option Value} {v : Value} (q : m_c2 a1 = false) : m_st [a0, a1, a2, a3] 2 v = [a0, a1, some v, a3] := by simp [m_st, q]
theorem stL_4_2 {a0 a2 a3 : Option Value} {v : Value} {w : Int64} : m_st [a0, some (.long w), a2, a3] 2 v = [a0, none, some v, a3] := rfl
theorem st2_4_2 {a0 a1 a2 a3 : Option Value} {v : Value} (q : m_c2 a1 = false) : m_no (m_st [a0, a1, a2, a3] 2 v) 3 = [a0, a1, some v, none] := by simp [m_st, m_no, q]
theorem st_4_3 {a0 a1 a2 a3 : Option Value} {v : Value} (q : m_c2 a2 = false) : m_st [a0, a1, a2, a3] 3 v = [a0, a1, a2, some v] := by simp [m_st, q]
theorem stL_4_3 {a0 a1 a3 : Option Value} {v : Value} {w : Int64} : m_st [a0, a1, some (.long w), a3] 3 v = [a0, a1, none, some v] := rfl
theorem st_5_0 {a0 a1 a2 a3 a4 : Option Value} {v : Value} : m_st [a0, a1, a2, a3, a4] 0 v = [some v, a1, a2, a3, a4] := rfl
theorem st2_5_0 {a0 a1 a2 a3 a4 : Option Value} {v : Value} : m_no (m_st [a0, a1, a2, a3, a4] 0 v) 1 = [some v, none, a2, a3, a4] := rfl
theorem st_5_1 {a0 a1 a2 a3 a4 : Option Value} {v : Value} (q : m_c2 a0 = false) : m_st [a0, a1, a2, a3, a4] 1 v = [a0, some v, a2, a3, a4] := by simp [m_st, q]
theorem stL_5_1 {a1 a2 a3 a4 : Option Value} {v : Value} {w : Int64} : m_st [some (.long w), a1, a2, a3, a4] 1 v = [none, some v, a2, a3, a4] := rfl
theorem st2_5_1 {a0 a1 a2 a3 a4 : Option Value} {v : Value} (q : m_c2 a0 = false) : m_no (m_st [a0, a1, a2, a3, a4] 1 v) 2 = [a0, some v, none, a3, a4] := by simp [m_st, m_no, q]
theorem st_5_2 {a0 a1 a2 a3 a4 : Option Value} {v : Value} (q : m_c2 a1 = false) : m_st [a0, a1, a2, a3, a4] 2 v = [a0, a1, some v, a3, a4] := by simp [m_st, q]
theorem stL_5_2 {a0 a2 a3 a4 : Option Value} {v : Value} {w : Int64} : m_st [a0, some (.long w), a2, a3, a4] 2 v = [a0, none, some v, a3, a4] := rfl
theorem st2_5_2 {a0 a1 a2 a3 a4 : Option Value} {v : Value} (q : m_c2 a1 = false) : m_no (m_st [a0, a1, a2, a3, a4] 2 v) 3 = [a0, a1, some v, none, a4] := by simp [m_st, m_no, q]
theorem st_5_3 {a0 a1 a2 a3 a4 : Option Value} {v : Value} (q : m_c2 a2 = false) : m_st [a0, a1, a2, a3, a4] 3 v = [a0, a1, a2, some v, a4] := by simp [m_st, q]
theorem stL_5_3 {a0 a1 a3 a4 : Option Value} {v : Value} {w : Int64} : m_st [a0, a1, some (.long w), a3, a4] 3 v = [a0, a1, none, some v, a4] := rfl
theorem st2_5_3 {a0 a1 a2 a3 a4 : Option Value} {v : Value} (q : m_c2 a2 = false) : m_no (m_st [a0, a1, a2, a3, a4] 3 v) 4 = [a0, a1, a2, some v, none] := by simp [m_st, m_no, q]
theorem st_5_4 {a0 a1 a2 a3 a4 : Option Value} {v : Value} (q : m_c2 a3 = false) : m_st [a0, a1, a2, a3, a4] 4 v = [a0, a1, a2, a3, some v] := by simp [m_st, q]
theorem stL_5_4 {a0 a1 a2 a4 : Option Value} {v : Value} {w : Int64} : m_st [a0, a1, a2, some (.long w), a4] 4 v = [a0, a1, a2, none, some v] := rfl
theorem st_6_0 {a0 a1 a2 a3 a4 a5 : Option Value} {v : Value} : m_st [a0, a1, a2, a3, a4, a5] 0 v = [some v, a1, a2, a3, a4, a5] := rfl
theorem st2_6_0 {a0 a1 a2 a3 a4 a5 : Option Value} {v : Value} : m_no (m_st [a0, a1, a2, a3, a4, a5] 0 v) 1 = [some v, none, a2, a3, a4, a5] := rfl
theorem st_6_1 {a0 a1 a2 a3 a4 a5 : Option Value} {v : Value} (q : m_c2 a0 = false) : m_st [a0, a1, a2, a3, a4, a5] 1 v = [a0, some v, a2, a3, a4, a5] := by simp [m_st, q]
theorem stL_6_1 {a1 a2 a3 a4 a5 : Option Value} {v : Value} {w : Int64} : m_st [some (.long w), a1, a2, a3, a4, a5] 1 v = [none, some v, a2, a3, a4, a5] := rfl
theorem st2_6_1 {a0 a1 a2 a3 a4 a5 : Option Value} {v : Value} (q : m_c2 a0 = false) : m_no (m_st [a0, a1, a2, a3, a4, a5] 1 v) 2 = [a0, some v, none, a3, a4, a5] := by simp [m_st, m_no, q]
theorem st_6_2 {a0 a1 a2 a3 a4 a5 : Option Value} {v : Value} (q : m_c2 a1 = false) : m_st [a0, a1, a2, a3, a4, a5] 2 v = [a0, a1, some v, a3, a4, a5] := by simp [m_st, q]
theorem stL_6_2 {a0 a2 a3 a4 a5 : Option Value} {v : Value} {w : Int64} : m_st [a0, some (.long w), a2, a3, a4, a5] 2 v = [a0, none, some v, a3, a4, a5] := rfl
theorem st2_6_2 {a0 a1 a2 a3 a4 a5 : Option Value} {v : Value} (q : m_c2 a1 = false) : m_no (m_st [a0, a1, a2, a3, a4, a5] 2 v) 3 = [a0, a1, some v, none, a4, a5] := by simp [m_st, m_no, q]
theorem st_6_3 {a0 a1 a2 a3 a4 a5 : Option Value} {v : Value} (q : m_c2 a2 = false) : m_st [a0, a1, a2, a3, a4, a5] 3 v = [a0, a1, a2, some v, a4, a5] := by simp [m_st, q]
theorem stL_6_3 {a0 a1 a3 a4 a5 : Option Value} {v : Value} {w : Int64} : m_st [a0, a1, some (.long w), a3, a4, a5] 3 v = [a0, a1, none, some v, a4, a5] := rfl
theorem st2_6_3 {a0 a1 a2 a3 a4 a5 : Option Value} {v : Value} (q : m_c2 a2 = false) : m_no (m_st [a0, a1, a2, a3, a4, a5] 3 v) 4 = [a0, a1, a2, some v, none, a5] := by simp [m_st, m_no, q]
theorem st_6_4 {a0 a1 a2 a3 a4 a5 : Option Value} {v : Value} (q : m_c2 a3 = false) : m_st [a0, a1, a2, a3, a4, a5] 4 v = [a0, a1, a2, a3, some v, a5] := by simp [m_st, q]
theorem stL_6_4 {a0 a1 a2 a4 a5 : Option Value} {v : Value} {w : Int64} : m_st [a0, a1, a2, some (.long w), a4, a5] 4 v = [a0, a1, a2, none, some v, a5] := rfl
theorem st2_6_4 {a0 a1 a2 a3 a4 a5 : Option Value} {v : Value} (q : m_c2 a3 = false) : m_no (m_st [a0, a1, a2, a3, a4, a5] 4 v) 5 = [a0, a1, a2, a3, some v, none] := by simp [m_st, m_no, q]
theorem st_6_5 {a0 a1 a2 a3 a4 a5 : Option Value} {v : Value} (q : m_c2 a4 = false) : m_st [a0, a1, a2, a3, a4, a5] 5 v = [a0, a1, a2, a3, a4, some v] := by simp [m_st, q]
theorem stL_6_5 {a0 a1 a2 a3 a5 : Option Value} {v : Value} {w : Int64} : m_st [a0, a1, a2, a3, some (.long w), a5] 5 v = [a0, a1, a2, a3, none, some v] := rfl
theorem st_7_0 {a0 a1 a2 a3 a4 a5 a6 : Option Value} {v : Value} : m_st [a0, a1, a2, a3, a4, a5, a6] 0 v = [some v, a1, a2, a3, a4, a5, a6] := rfl
theorem st2_7_0 {a0 a1 a2 a3 a4 a5 a6 : Option Value} {v : Value} : m_no (m_st [a0, a1, a2, a3, a4, a5, a6] 0 v) 1 = [some v, none, a2, a3, a4, a5, a6] := rfl
theorem st_7_1 {a0 a1 a2 a3 a4 a5 a6 : Option Value} {v : Value} (q : m_c2 a0 = false) : m_st [a0, a1, a2, a3, a4, a5, a6] 1 v = [a0, some v, a2, a3, a4, a5, a6] := by simp [m_st, q]
theorem stL_7_1 {a1 a2 a3 a4 a5 a6 : Option Value} {v : Value} {w : Int64} : m_st [some (.long w), a1, a2, a3, a4, a5, a6] 1 v = [none, some v, a2, a3, a4, a5, a6] := rfl
theorem st2_7_1 {a0 a1 a2 a3 a4 a5 a6 : Option Value} {v : Value} (q : m_c2 a0 = false) : m_no (m_st [a0, a1, a2, a3, a4, a5, a6] 1 v) 2 = [a0, some v, none, a3, a4, a5, a6] := by simp [m_st, m_no, q]
theorem st_7_2 {a0 a1 a2 a3 a4 a5 a6 : Option Value} {v : Value} (q : m_c2 a1 = false) : m_st [a0, a1, a2, a3, a4, a5, a6] 2 v = [a0, a1, some v, a3, a4, a5, a6] := by simp [m_st, q]
theorem stL_7_2 {a0 a2 a3 a4 a5 a6 : Option Value} {v : Value} {w : Int64} : m_st [a0, some (.long w), a2, a3, a4, a5, a6] 2 v = [a0, none, some v, a3, a4, a5, a6] := rfl
theorem st2_7_2 {a0 a1 a2 a3 a4 a5 a6 : Option Value} {v : Value} (q : m_c2 a1 = false) : m_no (m_st [a0, a1, a2, a3, a4, a5, a6] 2 v) 3 = [a0, a1, some v, none, a4, a5, a6] := by simp [m_st, m_no, q]
theorem st_7_3 {a0 a1 a2 a3 a4 a5 a6 : Option Value} {v : Value} (q : m_c2 a2 = false) : m_st [a0, a1, a2, a3, a4, a5, a6] 3 v = [a0, a1, a2, some v, a4, a5, a6] := by simp [m_st, q]
theorem stL_7_3 {a0 a1 a3 a4 a5 a6 : Option Value} {v : Value} {w : Int64} : m_st [a0, a1, some (.long w), a3, a4, a5, a6] 3 v = [a0, a1, none, some v, a4, a5, a6] := rfl
theorem st2_7_3 {a0 a1 a2 a3 a4 a5 a6 : Option Value} {v : Value} (q : m_c2 a2 = false) : m_no (m_st [a0, a1, a2, a3, a4, a5, a6] 3 v) 4 = [a0, a1, a2, some v, none, a5, a6] := by simp [m_st, m_no, q]
theorem st_7_4 {a0 a1 a2 a3 a4 a5 a6 : Option Value} {v : Value} (q : m_c2 a3 = false) : m_st [a0, a1, a2, a3, a4, a5, a6] 4 v = [a0, a1, a2, a3, some v, a5, a6] := by simp [m_st, q]
theorem stL_7_4 {a0 a1 a2 a4 a5 a6 : Option Value} {v : Value} {w : Int64} : m_st [a0, a1, a2, some (.long w), a4, a5, a6] 4 v = [a0, a1, a2, none, some v, a5, a6] := rfl
theorem st2_7_4 {a0 a1 a2 a3 a4 a5 a6 : Option Value} {v : Value} (q : m_c2 a3 = false) : m_no (m_st [a0, a1, a2, a3, a4, a5, a6] 4 v) 5 = [a0, a1, a2, a3, some v, none, a6] := by simp [m_st, m_no, q]
theorem st_7_5 {a0 a1 a2 a3 a4 a5 a6 : Option Value} {v : Value} (q : m_c2 a4 = false) : m_st [a0, a1, a2, a3, a4, a5, a6] 5 v = [a0, a1, a2, a3, a4, some v, a6] := by simp [m_st, q]
theorem stL_7_5 {a0 a1 a2 a3 a5 a6 : Option Value} {v : Value} {w : Int64} : m_st [a0, a1, a2, a3, some (.long w), a5, a6] 5 v = [a0, a1, a2, a3, none, some v, a6] := rfl
theorem st2_7_5 {a0 a1 a2 a3 a4 a5 a6 : Option Value} {v : Value} (q : m_c2 a4 = false) : m_no (m_st [a0, a1, a2, a3, a4, a5, a6] 5 v) 6 = [a0, a1, a2, a3, a4, some v, none] := by simp [m_st, m_no, q]
theorem st_7_6 {a0 a1 a2 a3 a4 a5 a6 : Option Value} {v : Value} (q : m_c2 a5 = false) : m_st [a0, a1, a2, a3, a4, a5, a6] 6 v = [a0, a1, a2, a3, a4, a5, some v] := by simp [m_st, q]
theorem stL_7_6 {a0 a1 a2 a3 a4 a6 : Option Value} {v : Value} {w : Int64} : m_st [a0, a1, a2, a3, a4, some (.long w), a6] 6 v = [a0, a1, a2, a3, a4, none, some v] := rfl
theorem st_8_0 {a0 a1 a2 a3 a4 a5 a6 a7 : Option Value} {v : Value} : m_st [a0, a1, a2, a3, a4, a5, a6, a7] 0 v = [some v, a1, a2, a3, a4, a5, a6, a7] := rfl
theorem st2_8_0 {a0 a1 a2 a3 a4 a5 a6 a7 : Option Value} {v : Value} : m_no (m_st [a0, a1, a2, a3, a4, a5, a6, a7] 0 v) 1 = [some v, none, a2, a3, a4, a5, a6, a7] := rfl
theorem st_8_1 {a0 a1 a2 a3 a4 a5 a6 a7 : Option Value} {v : Value} (q : m_c2 a0 = false) : m_st [a0, a1, a2, a3, a4, a5, a6, a7] 1 v = [a0, some v, a2, a3, a4, a5, a6, a7] := by simp [m_st, q]
theorem stL_8_1 {a1 a2 a3 a4 a5 a6 a7 : Option Value} {v : Value} {w : Int64} : m_st [some (.long w), a1, a2, a3, a4, a5, a6, a7] 1 v = [none, some v, a2, a3, a4, a5, a6, a7] := rfl
theorem st2_8_1 {a0 a1 a2 a3 a4 a5 a6 a7 : Option Value} {v : Value} (q : m_c2 a0 = false) : m_no (m_st [a0, a1, a2, a3, a4, a5, a6, a7] 1 v) 2 = [a0, some v, none, a3, a4, a5, a6, a7] := by simp [m_st, m_no, q]
theorem st_8_2 {a0 a1 a2 a3 a4 a5 a6 a7 : Option Value} {v : Value} (q : m_c2 a1 = false) : m_st [a0, a1, a2, a3, a4, a5, a6, a7] 2 v = [a0, a1, some v, a3, a4, a5, a6, a7] := by simp [m_st, q]
theorem stL_8_2 {a0 a2 a3 a4 a5 a6 a7 : Option Value} {v : Value} {w : Int64} : m_st [a0, some (.long w), a2, a3, a4, a5, a6, a7] 2 v = [a0, none, some v, a3, a4, a5, a6, a7] := rfl
theorem st2_8_2 {a0 a1 a2 a3 a4 a5 a6 a7 : Option Value} {v : Value} (q : m_c2 a1 = false) : m_no (m_st [a0, a1, a2, a3, a4, a5, a6, a7] 2 v) 3 = [a0, a1, some v, none, a4, a5, a6, a7] := by simp [m_st, m_no, q]
theorem st_8_3 {a0 a1 a2 a3 a4 a5 a6 a7 : Option Value} {v : Value} (q : m_c2 a2 = false) : m_st [a0, a1, a2, a3, a4, a5, a6, a7] 3 v = [a0, a1, a2, some v, a4, a5, a6, a7] := by simp [m_st, q]
theorem stL_8_3 {a0 a1 a3 a4 a5 a6 a7 : Option Value} {v : Value} {w : Int64} : m_st [a0, a1, some (.long w), a3, a4, a5, a6, a7] 3 v = [a0, a1, none, some v, a4, a5, a6, a7] := rfl
theorem st2_8_3 {a0 a1 a2 a3 a4 a5 a6 a7 : Option Value} {v : Value} (q : m_c2 a2 = false) : m_no (m_st [a0, a1, a2, a3, a4, a5, a6, a7] 3 v) 4 = [a0, a1, a2, some v, none, a5, a6, a7] := by simp [m_st, m_no, q]
theorem st_8_4 {a0 a1 a2 a3 a4 a5 a6 a7 : Option Value} {v : Value} (q : m_c2 a3 = false) : m_st [a0, a1, a2, a3, a4, a5, a6, a7] 4 v = [a0, a1, a2, a3, some v, a5, a6, a7] := by simp [m_st, q]
theorem stL_8_4 {a0 a1 a2 a4 a5 a6 a7 : Option Value} {v : Value} {w : Int64} : m_st [a0, a1, a2, some (.long w), a4, a5, a6, a7] 4 v = [a0, a1, a2, none, some v, a5, a6, a7] := rfl
theorem st2_8_4 {a0 a1 a2 a3 a4 a5 a6 a7 : Option Value} {v : Value} (q : m_c2 a3 = false) : m_no (m_st [a0, a1, a2, a3, a4, a5, a6, a7] 4 v) 5 = [a0, a1, a2, a3, some v, none, a6, a7] := by simp [m_st, m_no, q]
theorem st_8_5 {a0 a1 a2 a3 a4 a5 a6 a7 : Option Value} {v : Value} (q : m_c2 a4 = false) : m_st [a0, a1, a2, a3, a4, a5, a6, a7] 5 v = [a0, a1, a2, a3, a4, some v, a6, a7] := by simp [m_st, q]
theorem stL_8_5 {a0 a1 a2 a3 a5 a6 a7 : Option Value} {v : Value} {w : Int64} : m_st [a0, a1, a2, a3, some (.long w), a5, a6, a7] 5 v = [a0, a1, a2, a3, none, some v, a6, a7] := rfl
theorem st2_8_5 {a0 a1 a2 a3 a4 a5 a6 a7 : Option Value} {v : Value} (q : m_c2 a4 = false) : m_no (m_st [a0, a1, a2, a3, a4, a5, a6, a7] 5 v) 6 = [a0, a1, a2, a3, a4, some v, none, a7] := by simp [m_st, m_no, q]
theorem st_8_6 {a0 a1 a2 a3 a4 a5 a6 a7 : Option Value} {v : Value} (q : m_c2 a5 = false) : m_st [a0, a1, a2, a3, a4, a5, a6, a7] 6 v = [a0, a1, a2, a3, a4, a5, some v, a7] := by simp [m_st, q]
theorem stL_8_6 {a0 a1 a2 a3 a4 a6 a7 : Option Value} {v : Value} {w : Int64} : m_st [a0, a1, a2, a3, a4, some (.long w), a6, a7] 6 v = [a0, a1, a2, a3, a4, none, some v, a7] := rfl
theorem st2_8_6 {a0 a1 a2 a3 a4 a5 a6 a7 : Option Value} {v : Value} (q : m_c2 a5 = false) : m_no (m_st [a0, a1, a2, a3, a4, a5, a6, a7] 6 v) 7 = [a0, a1, a2, a3, a4, a5, some v, none] := by simp [m_st, m_no, q]
theorem st_8_7 {a0 a1 a2 a3 a4 a5 a6 a7 : Option Value} {v : Value} (q : m_c2 a6 = false) : m_st [a0, a1, a2, a3, a4, a5, a6, a7] 7 v = [a0, a1, a2, a3, a4, a5, a6, some v] := by simp [m_st, q]
theorem stL_8_7 {a0 a1 a2 a3 a4 a5 a7 : Option Value} {v : Value} {w : Int64} : m_st [a0, a1, a2, a3, a4, a5, some (.long w), a7] 7 v = [a0, a1, a2, a3, a4, a5, none, some v] := rfl
theorem st_9_0 {a0 a1 a2 a3 a4 a5 a6 a7 a8 : Option Value} {v : Value} : m_st [a0, a1, a2, a3, a4, a5, a6, a7, a8] 0 v = [some v, a1, a2, a3, a4, a5, a6, a7, a8] := rfl
theorem st2_9_0 {a0 a1 a2 a3 a4 a5 a6 a7 a8 : Option Value} {v : Value} : m_no (m_st [a0, a1, a2, a3, a4, a5, a6, a7, a8] 0 v) 1 = [some v, none, a2, a3, a4, a5, a6, a7, a8] := rfl
theorem st_9_1 {a0 a1 a2 a3 a4 a5 a6 a7 a8 : Option Value} {v : Value} (q : m_c2 a0 = false) : m_st [a0, a1, a2, a3, a4, a5, a6, a7, a8] 1 v = [a0, some v, a2, a3, a4, a5, a6, a7, a8] := by simp [m_st, q]
theorem stL_9_1 {a1 a2 a3 a4 a5 a6 a7 a8 : Option Value} {v : Value} {w : Int64} : m_st [some (.long w), a1, a2, a3, a4, a5, a6, a7, a8] 1 v = [none, some v, a2, a3, a4, a5, a6, a7, a8] := rfl
theorem st2_9_1 {a0 a1 a2 a3 a4 a5 a6 a7 a8 : Option Value} {v : Value} (q : m_c2 a0 = false) : m_no (m_st [a0, a1, a2, a3, a4, a5, a6, a7, a8] 1 v) 2 = [a0, some v, none, a3, a4, a5, a6, a7, a8] := by simp [m_st, m_no, q]
theorem st_9_2 {a0 a1 a2 a3 a4 a5 a6 a7 a8 : Option Value} {v : Value} (q : m_c2 a1 = false) : m_st [a0, a1, a2, a3, a4, a5, a6, a7, a8] 2 v = [a0, a1, some v, a3, a4, a5, a6, a7, a8] := by simp [m_st, q]
theorem stL_9_2 {a0 a2 a3 a4 a5 a6 a7 a8 : Option Value} {v : Value} {w : Int64} : m_st [a0, some (.long w), a2, a3, a4, a5, a6, a7, a8] 2 v = [a0, none, some v, a3, a4, a5, a6, a7, a8] := rfl
theorem st2_9_2 {a0 a1 a2 a3 a4 a5 a6 a7 a8 : Option Value} {v : Value} (q : m_c2 a1 = false) : m_no (m_st [a0, a1, a2, a3, a4, a5, a6, a7, a8] 2 v) 3 = [a0, a1, some v, none, a4, a5, a6, a7, a8] := by simp [m_st, m_no, q]
theorem st_9_3 {a0 a1 a2 a3 a4 a5 a6 a7 a8 : Option Value} {v : Value} (q : m_c2 a2 = false) : m_st [a0, a1, a2, a3, a4, a5, a6, a7, a8] 3 v = [a0, a1, a2, some v, a4, a5, a6, a7, a8] := by simp [m_st, q]
theorem stL_9_3 {a0 a1 a3 a4 a5 a6 a7 a8 : Option Value} {v : Value} {w : Int64} : m_st [a0, a1, some (.long w), a3, a4, a5, a6, a7, a8] 3 v = [a0, a1, none, some v, a4, a5, a6, a7, a8] := rfl
theorem st2_9_3 {a0 a1 a2 a3 a4 a5 a6 a7 a8 : Option Value} {v : Value} (q : m_c2 a2 = false) : m_no (m_st [a0, a1, a2, a3, a4, a5, a6, a7, a8] 3 v) 4 = [a0, a1, a2, some v, none, a5, a6, a7, a8] := by simp [m_st, m_no, q]
theorem st_9_4 {a0 a1 a2 a3 a4 a5 a6 a7 a8 : Option Value} {v : Value} (q : m_c2 a3 = false) : m_st [a0, a1, a2, a3, a4, a5, a6, a7, a8] 4 v = [a0, a1, a2, a3, some v, a5, a6, a7, a8] := by simp [m_st, q]
theorem stL_9_4 {a0 a1 a2 a4 a5 a6 a7 a8 : Option Value} {v : Value} {w : Int64} : m_st [a0, a1, a2, some (.long w), a4, a5, a6, a7, a8] 4 v = [a0, a1, a2, none, some v, a5, a6, a7, a8] := rfl
theorem st2_9_4 {a0 a1 a2 a3 a4 a5 a6 a7 a8 : Option Value} {v : Value} (q : m_c2 a3 = false) : m_no (m_st [a0, a1, a2, a3, a4, a5, a6, a7, a8] 4 v) 5 = [a0, a1, a2, a3, some v, none, a6, a7, a8] := by simp [m_st, m_no, q]
theorem st_9_5 {a0 a1 a2 a3 a4 a5 a6 a7 a8 : Option Value} {v : Value} (q : m_c2 a4 = false) : m_st [a0, a1, a2, a3, a4, a5, a6, a7, a8] 5 v = [a0, a1, a2, a3, a4, some v, a6, a7, a8] := by simp [m_st, q]
theorem stL_9_5 {a0 a1 a2 a3 a5 a6 a7 a8 : Option Value} {v : Value} {w : Int64} : m_st [a0, a1, a2, a3, some (.long w), a5, a6, a7, a8] 5 v = [a0, a1, a2, a3, none, some v, a6, a7, a8] := rfl
theorem st2_9_5 {a0 a1 a2 a3 a4 a5 a6 a7 a8 : Option Value} {v : Value} (q : m_c2 a4 = false) : m_no (m_st [a0, a1, a2, a3, a4, a5, a6, a7, a8] 5 v) 6 = [a0, a1, a2, a3, a4, some v, none, a7, a8] := by simp [m_st, m_no, q]
theorem st_9_6 {a0 a1 a2 a3 a4 a5 a6 a7 a8 : Option Value} {v : Value} (q : m_c2 a5 = false) : m_st [a0, a1, a2, a3, a4, a5, a6, a7, a8] 6 v = [a0, a1, a2, a3, a4, a5, some v, a7, a8] := by simp [m_st, q]
theorem stL_9_6 {a0 a1 a2 a3 a4 a6 a7 a8 : Option Value} {v : Value} {w : Int64} : m_st [a0, a1, a2, a3, a4, some (.long w), a6, a7, a8] 6 v = [a0, a1, a2, a3, a4, none, some v, a7, a8] := rfl
theorem st2_9_6 {a0 a1 a2 a3 a4 a5 a6 a7 a8 : Option Value} {v : Value} (q : m_c2 a5 = false) : m_no (m_st [a0, a1, a2, a3, a4, a5, a6, a7, a8] 6 v) 7 = [a0, a1, a2, a3, a4, a5, some v, none, a8] := by simp [m_st, m_no, q]
theorem st_9_7 {a0 a1 a2 a3 a4 a5 a6 a7 a8 : Option Value} {v : Value} (q : m_c2 a6 = false) : m_st [a0, a1, a2, a3, a4, a5, a6, a7, a8] 7 v = [a0, a1, a2, a3, a4, a5, a6, some v, a8] := by simp [m_st, q]
theorem stL_9_7 {a0 a1 a2 a3 a4 a5 a7 a8 : Option Value} {v : Value} {w : Int64} : m_st [a0, a1, a2, a3, a4, a5, some (.long w), a7, a8] 7 v = [a0, a1, a2, a3, a4, a5, none, some v, a8] := rfl
theorem st2_9_7 {a0 a1 a2 a3 a4 a5 a6 a7 a8 : Option Value} {v : Value} (q : m_c2 a6 = false) : m_no (m_st [a0, a1, a2, a3, a4, a5, a6, a7, a8] 7 v) 8 = [a0, a1, a2, a3, a4, a5, a6, some v, none] := by simp [m_st, m_no, q]
theorem st_9_8 {a0 a1 a2 a3 a4 a5 a6 a7 a8 : Option Value} {v : Value} (q : m_c2 a7 = false) : m_st [a0, a1, a2, a3, a4, a5, a6, a7, a8] 8 v = [a0, a1, a2, a3, a4, a5, a6, a7, some v] := by simp [m_st, q]
theorem stL_9_8 {a0 a1 a2 a3 a4 a5 a6 a8 : Option Value} {v : Value} {w : Int64} : m_st [a0, a1, a2, a3, a4, a5, a6, some (.long w), a8] 8 v = [a0, a1, a2, a3, a4, a5, a6, none, some v] := rfl
theorem st_10_0 {a0 a1 a2 a3 a4 a5 a6 a7 a8 a9 : Option Value} {v : Value} : m_st [a0, a1, a2, a3, a4, a5, a6, a7, a8, a9] 0 v = [some v, a1, a2, a3, a4, a5, a6, a7, a8, a9] := rfl
theorem st2_10_0 {a0 a1 a2 a3 a4 a5 a6 a7 a8 a9 : Option Value} {v : Value} : m_no (m_st [a0, a1, a2, a3, a4, a5, a6, a7, a8, a9] 0 v) 1 = [some v, none, a2, a3, a4, a5, a6, a7, a8, a9] := rfl
theorem st_10_1 {a0 a1 a2 a3 a4 a5 a6 a7 a8 a9 : Option Value} {v : Value} (q : m_c2 a0 = false) : m_st [a0, a1, a2, a3, a4, a5, a6, a7, a8, a9] 1 v = [a0, some v, a2, a3, a4, a5, a6, a7, a8, a9] := by simp [m_st, q]
theorem stL_10_1 {a1 a2 a3 a4 a5 a6 a7 a8 a9 : Option Value} {v : Value} {w : Int64} : m_st [some (.long w), a1, a2, a3, a4, a5, a6, a7, a8, a9] 1 v = [none, some v, a2, a3, a4, a5, a6, a7, a8, a9] := rfl
theorem st2_10_1 {a0 a1 a2 a3 a4 a5 a6 a7 a8 a9 : Option Value} {v : Value} (q : m_c2 a0 = false) : m_no (m_st [a0, a1, a2, a3, a4, a5, a6, a7, a8, a9] 1 v) 2 = [a0, some v, none, a3, a4, a5, a6, a7, a8, a9] := by simp [m_st, m_no, q]
theorem st_10_2 {a0 a1 a2 a3 a4 a5 a6 a7 a8 a9 : Option Value} {v : Value} (q : m_c2 a1 = false) : m_st [a0, a1, a2, a3, a4, a5, a6, a7, a8, a9] 2 v = [a0, a1, some v, a3, a4, a5, a6, a7, a8, a9] := by simp [m_st, q]
theorem stL_10_2 {a0 a2 a3 a4 a5 a6 a7 a8 a9 : Option Value} {v : Value} {w : Int64} : m_st [a0, some (.long w), a2, a3, a4, a5, a6, a7, a8, a9] 2 v = [a0, none, some v, a3, a4, a5, a6, a7, a8, a9] := rfl
theorem st2_10_2 {a0 a1 a2 a3 a4 a5 a6 a7 a8 a9 : Option Value} {v : Value} (q : m_c2 a1 = false) : m_no (m_st [a0, a1, a2, a3, a4, a5, a6, a7, a8, a9] 2 v) 3 = [a0, a1, some v, none, a4, a5, a6, a7, a8, a9] := by simp [m_st, m_no, q]
theorem st_10_3 {a0 a1 a2 a3 a4 a5 a6 a7 a8 a9 : Option Value} {v : Value} (q : m_c2 a2 = false) : m_st [a0, a1, a2, a3, a4, a5, a6, a7, a8, a9] 3 v = [a0, a1, a2, some v, a4, a5, a6, a7, a8, a9] := by simp [m_st, q]
theorem stL_10_3 {a0 a1 a3 a4 a5 a6 a7 a8 a9 : Option Value} {v : Value} {w : Int64} : m_st [a0, a1, some (.long w), a3, a4, a5, a6, a7, a8, a9] 3 v = [a0, a1, none, some v, a4, a5, a6, a7, a8, a9] := rfl
theorem st2_10_3 {a0 a1 a2 a3 a4 a5 a6 a7 a8 a9 : Option Value} {v : Value} (q : m_c2 a2 = false) : m_no (m_st [a0, a1, a2, a3, a4, a5, a6, a7, a8, a9] 3 v) 4 = [a0, a1, a2, some v, none, a5, a6, a7, a8, a9] := by simp [m_st, m_no, q]
theorem st_10_4 {a0 a1 a2 a3 a4 a5 a6 a7 a8 a9 : Option Value} {v : Value} (q : m_c2 a3 = false) : m_st [a0, a1, a2, a3, a4, a5, a6, a7, a8, a9] 4 v = [a0, a1, a2, a3, some v, a5, a6, a7, a8, a9] := by simp [m_st, q]
theorem stL_10_4 {a0 a1 a2 a4 a5 a6 a7 a8 a9 : Option Value} {v : Value} {w : Int64} : m_st [a0, a1, a2, some (.long w), a4, a5, a6, a7, a8, a9] 4 v = [a0, a1, a2, none, some v, a5, a6, a7, a8, a9] := rfl
theorem st2_10_4 {a0 a1 a2 a3 a4 a5 a6 a7 a8 a9 : Option Value} {v : Value} (q : m_c2 a3 = false) : m_no (m_st [a0, a1, a2, a3, a4, a5, a6, a7, a8, a9] 4 v) 5 = [a0, a1, a2, a3, some v, none, a6, a7, a8, a9] := by simp [m_st, m_no, q]
theorem st_10_5 {a0 a1 a2 a3 a4 a5 a6 a7 a8 a9 : Option Value} {v : Value} (q : m_c2 a4 = false) : m_st [a0, a1, a2, a3, a4, a5, a6, a7, a8, a9] 5 v = [a0, a1, a2, a3, a4, some v, a6, a7, a8, a9] := by simp [m_st, q]
theorem stL_10_5 {a0 a1 a2 a3 a5 a6 a7 a8 a9 : Option Value} {v : Value} {w : Int64} : m_st [a0, a1, a2, a3, some (.long w), a5, a6, a7, a8, a9] 5 v = [a0, a1, a2, a3, none, some v, a6, a7, a8, a9] := rfl
theorem st2_10_5 {a0 a1 a2 a3 a4 a5 a6 a7 a8 a9 : Option Value} {v : Value} (q : m_c2 a4 = false) : m_no (m_st [a0, a1, a2, a3, a4, a5, a6, a7, a8, a9] 5 v) 6 = [a0, a1, a2, a3, a4, some v, none, a7, a8, a9] := by simp [m_st, m_no, q]
theorem st_10_6 {a0 a1 a2 a3 a4 a5 a6 a7 a8 a9 : Option Value} {v : Value} (q : m_c2 a5 = false) : m_st [a0, a1, a2, a3, a4, a5, a6, a7, a8, a9] 6 v = [a0, a1, a2, a3, a4, a5, some v, a7, a8, a9] := by simp [m_st, q]
theorem stL_10_6 {a0 a1 a2 a3 a4 a6 a7 a8 a9 : Option Value} {v : Value} {w : Int64} : m_st [a0, a1, a2, a3, a4, some (.long w), a6, a7, a8, a9] 6 v = [a0, a1, a2, a3, a4, none, some v, a7, a8, a9] := rfl
theorem st2_10_6 {a0 a1 a2 a3 a4 a5 a6 a7 a8 a9 : Option Value} {v : Value} (q : m_c2 a5 = false) : m_no (m_st [a0, a1, a2, a3, a4, a5, a6, a7, a8, a9] 6 v) 7 = [a0, a1, a2, a3, a4, a5, some v, none, a8, a9] := by simp [m_st, m_no, q]
theorem st_10_7 {a0 a1 a2 a3 a4 a5 a6 a7 a8 a9 : Option Value} {v : Value} (q : m_c2 a6 = false) : m_st [a0, a1, a2, a3, a4, a5, a6, a7, a8, a9] 7 v = [a0, a1, a2, a3, a4, a5, a6, some v, a8, a9] := by simp [m_st, q]
theorem stL_10_7 {a0 a1 a2 a3 a4 a5 a7 a8 a9 : Option Value} {v : Value} {w : Int64} : m_st [a0, a1, a2, a3, a4, a5, some (.long w), a7, a8, a9] 7 v = [a0, a1, a2, a3, a4, a5, none, some v, a8, a9] := rfl
theorem st2_10_7 {a0 a1 a2 a3 a4 a5 a6 a7 a8 a9 : Option Value} {v : Value} (q : m_c2 a6 = false) : m_no (m_st [a0, a1, a2, a3, a4, a5, a6, a7, a8, a9] 7 v) 8 = [a0, a1, a2, a3, a4, a5, a6, some v, none, a9] := by simp [m_st, m_no, q]
theorem st_10_8 {a0 a1 a2 a3 a4 a5 a6 a7 a8 a9 : Option Value} {v : Value} (q : m_c2 a7 = false) : m_st [a0, a1, a2, a3, a4, a5, a6, a7, a8, a9] 8 v = [a0, a1, a2, a3, a4, a5, a6, a7, some v, a9] := by simp [m_st, q]
theorem stL_10_8 {a0 a1 a2 a3 a4 a5 a6 a8 a9 : Option Value} {v : Value} {w : Int64} : m_st [a0, a1, a2, a3, a4, a5, a6, some (.long w), a8, a9] 8 v = [a0, a1, a2, a3, a4, a5, a6, none, some v, a9] := rfl
theorem st2_10_8 {a0 a1 a2 a3 a4 a5 a6 a7 a8 a9 : Option Value} {v : Value} (q : m_c2 a7 = false) : m_no (m_st [a0, a1, a2, a3, a4, a5, a6, a7, a8, a9] 8 v) 9 = [a0, a1, a2, a3, a4, a5, a6, a7, some v, none] := by simp [m_st, m_no, q]
theorem st_10_9 {a0 a1 a2 a3 a4 a5 a6 a7 a8 a9 : Option Value} {v : Value} (q : m_c2 a8 = false) : m_st [a0, a1, a2, a3, a4, a5, a6, a7, a8, a9] 9 v = [a0, a1, a2, a3, a4, a5, a6, a7, a8, some v] := by simp [m_st, q]
theorem stL_10_9 {a0 a1 a2 a3 a4 a5 a6 a7 a9 : Option Value} {v : Value} {w : Int64} : m_st [a0, a1, a2, a3, a4, a5, a6, a7, some (.long w), a9] 9 v = [a0, a1, a2, a3, a4, a5, a6, a7, none, some v] := rfl
theorem st_11_0 {a0 a1 a2 a3 a4 a5 a6 a7 a8 a9 a10 : Option Value} {v : Value} : m_st [a0, a1, a2, a3, a4, a5, a6, a7, a8, a9, a10] 0 v = [some v, a1, a2, a3, a4, a5, a6, a7, a8, a9, a10] := rfl
theorem st2_11_0 {a0 a1 a2 a3 a4 a5 a6 a7 a8 a9 a10 : Option Value} {v : Value} : m_no (m_st [a0, a1, a2, a3, a4, a5, a6, a7, a8, a9, a10] 0 v) 1 = [some v, none, a2, a3, a4, a5, a6, a7, a8, a9, a10] := rfl
theorem st_11_1 {a0 a1 a2 a3 a4 a5 a6 a7 a8 a9 a10 : Option Value} {v : Value} (q : m_c2 a0 = false) : m_st [a0, a1, a2, a3, a4, a5, a6, a7, a8, a9, a10] 1 v = [a0, some v, a2, a3, a4, a5, a6, a7, a8, a9, a10] := by simp [m_st, q]
theorem stL_11_1 {a1 a2 a3 a4 a5 a6 a7 a8 a9 a10 : Option Value} {v : Value} {w : Int64} : m_st [some (.long w), a1, a2, a3, a4, a5, a6, a7, a8, a9, a10] 1 v = [none, some v, a2, a3, a4, a5, a6, a7, a8, a9, a10] := rfl
theorem st2_11_1 {a0 a1 a2 a3 a4 a5 a6 a7 a8 a9 a10 : Option Value} {v : Value} (q : m_c2 a0 = false) : m_no (m_st [a0, a1, a2, a3, a4, a5, a6, a7, a8, a9, a10] 1 v) 2 = [a0, some v, none, a3, a4, a5, a6, a7, a8, a9, a10] := by simp [m_st, m_no, q]
theorem st_11_2 {a0 a1 a2 a3 a4 a5 a6 a7 a8 a9 a10 : Option Value} {v : Value} (q : m_c2 a1 = false) : m_st [a0, a1, a2, a3, a4, a5, a6, a7, a8, a9, a10] 2 v = [a0, a1, some v, a3, a4, a5, a6, a7, a8, a9, a10] := by simp [m_st, q]
theorem stL_11_2 {a0 a2 a3 a4 a5 a6 a7 a8 a9 a10 : Option Value} {v : Value} {w : Int64} : m_st [a0, some (.long w), a2, a3, a4, a5, a6, a7, a8, a9, a10] 2 v = [a0, none, some v, a3, a4, a5, a6, a7, a8, a9, a10] := rfl
theorem st2_11_2 {a0 a1 a2 a3 a4 a5 a6 a7 a8 a9 a10 : Option Value} {v : Value} (q : m_c2 a1 = false) : m_no (m_st [a0, a1, a2, a3, a4, a5, a6, a7, a8, a9, a10] 2 v) 3 = [a0, a1, some v, none, a4, a5, a6, a7, a8, a9, a10] := by simp [m_st, m_no, q]
theorem st_11_3 {a0 a1 a2 a3 a4 a5 a6 a7 a8 a9 a10 : Option Value} {v : Value} (q : m_c2 a2 = false) : m_st [a0, a1, a2, a3, a4, a5, a6, a7, a8, a9, a10] 3 v = [a0, a1, a2, some v, a4, a5, a6, a7, a8, a9, a10] := by simp [m_st, q]
theorem stL_11_3 {a0 a1 a3 a4 a5 a6 a7 a8 a9 a10 : Option Value} {v : Value} {w : Int64} : m_st [a0, a1, some (.long w), a3, a4, a5, a6, a7, a8, a9, a10] 3 v = [a0, a1, none, some v, a4, a5, a6, a7, a8, a9, a10] := rfl
theorem st2_11_3 {a0 a1 a2 a3 a4 a5 a6 a7 a8 a9 a10 : Option Value} {v : Value} (q : m_c2 a2 = false) : m_no (m_st [a0, a1, a2, a3, a4, a5, a6, a7, a8, a9, a10] 3 v) 4 = [a0, a1, a2, some v, none, a5, a6, a7, a8, a9, a10] := by simp [m_st, m_no, q]
theorem st_11_4 {a0 a1 a2 a3 a4 a5 a6 a7 a8 a9 a10 : Option Value} {v : Value} (q : m_c2 a3 = false) : m_st [a0, a1, a2, a3, a4, a5, a6, a7, a8, a9, a10] 4 v = [a0, a1, a2, a3, some v, a5, a6, a7, a8, a9, a10] := by simp [m_st, q]
theorem stL_11_4 {a0 a1 a2 a4 a5 a6 a7 a8 a9 a10 : Option Value} {v : Value} {w : Int64} : m_st [a0, a1, a2, some (.long w), a4, a5, a6, a7, a8, a9, a10] 4 v = [a0, a1, a2, none, some v, a5, a6, a7, a8, a9, a10] := rfl
theorem st2_11_4 {a0 a1 a2 a3 a4 a5 a6 a7 a8 a9 a10 : Option Value} {v : Value} (q : m_c2 a3 = false) : m_no (m_st [a0, a1, a2, a3, a4, a5, a6, a7, a8, a9, a10] 4 v) 5 = [a0, a1, a2, a3, some v, none, a6, a7, a8, a9, a10] := by simp [m_st, m_no, q]
theorem st_11_5 {a0 a1 a2 a3 a4 a5 a6 a7 a8 a9 a10 : Option Value} {v : Value} (q : m_c2 a4 = false) : m_st [a0, a1, a2, a3, a4, a5, a6, a7, a8, a9, a10] 5 v = [a0, a1, a2, a3, a4, some v, a6, a7, a8, a9, a10] := by simp [m_st, q]
theorem stL_11_5 {a0 a1 a2 a3 a5 a6 a7 a8 a9 a10 : Option Value} {v : Value} {w : Int64} : m_st [a0, a1, a2, a3, some (.long w), a5, a6, a7, a8, a9, a10] 5 v = [a0, a1, a2, a3, none, some v, a6, a7, a8, a9, a10] := rfl
theorem st2_11_5 {a0 a1 a2 a3 a4 a5 a6 a7 a8 a9 a10 : Option Value} {v : Value} (q : m_c2 a4 = false) : m_no (m_st [a0, a1, a2, a3, a4, a5, a6, a7, a8, a9, a10] 5 v) 6 = [a0, a1, a2, a3, a4, some v, none, a7, a8, a9, a10] := by simp [m_st, m_no, q]
theorem st_11_6 {a0 a1 a2 a3 a4 a5 a6 a7 a8 a9 a10 : Option Value} {v : Value} (q : m_c2 a5 = false) : m_st [a0, a1, a2, a3, a4, a5, a6, a7, a8, a9, a10] 6 v = [a0, a1, a2, a3, a4, a5, some v, a7, a8, a9, a10] := by simp [m_st, q]
theorem stL_11_6 {a0 a1 a2 a3 a4 a6 a7 a8 a9 a10 : Option Value} {v : Value} {w : Int64} : m_st [a0, a1, a2, a3, a4, some (.long w), a6, a7, a8, a9, a10] 6 v = [a0, a1, a2, a3, a4, none, some v, a7, a8, a9, a10] := rfl
theorem st2_11_6 {a0 a1 a2 a3 a4 a5 a6 a7 a8 a9 a10 : Option Value} {v : Value} (q : m_c2 a5 = false) : m_no (m_st [a0, a1, a2, a3, a4, a5, a6, a7, a8, a9, a10] 6 v) 7 = [a0, a1, a2, a3, a4, a5, some v, none, a8, a9, a10] := by simp [m_st, m_no, q]
theorem st_11_7 {a0 a1 a2 a3 a4 a5 a6 a7 a8 a9 a10 : Option Value} {v : Value} (q : m_c2 a6 = false) : m_st [a0, a1, a2, a3, a4, a5, a6, a7, a8, a9, a10] 7 v = [a0, a1, a2, a3, a4, a5, a6, some v, a8, a9, a10] := by simp [m_st, q]
theorem stL_11_7 {a0 a1 a2 a3 a4 a5 a7 a8 a9 a10 : Option Value} {v : Value} {w : Int64} : m_st [a0, a1, a2, a3, a4, a5, some (.long w), a7, a8, a9, a10] 7 v = [a0, a1, a2, a3, a4, a5, none, some v, a8, a9, a10] := rfl
theorem st2_11_7 {a0 a1 a2 a3 a4 a5 a6 a7 a8 a9 a10 : Option Value} {v : Value} (q : m_c2 a6 = false) : m_no (m_st [a0, a1, a2, a3, a4, a5, a6, a7, a8, a9, a10] 7 v) 8 = [a0, a1, a2, a3, a4, a5, a6, some v, none, a9, a10] := by simp [m_st, m_no, q]
theorem st_11_8 {a0 a1 a2 a3 a4 a5 a6 a7 a8 a9 a10 : Option Value} {v : Value} (q : m_c2 a7 = false) : m_st [a0, a1, a2, a3, a4, a5, a6, a7, a8, a9, a10] 8 v = [a0, a1, a2, a3, a4, a5, a6, a7, some v, a9, a10] := by simp [m_st, q]
theorem stL_11_8 {a0 a1 a2 a3 a4 a5 a6 a8 a9 a10 : Option Value} {v : Value} {w : Int64} : m_st [a0, a1, a2, a3, a4, a5, a6, some (.long w), a8, a9, a10] 8 v = [a0, a1, a2, a3, a4, a5, a6, none, some v, a9, a10] := rfl
theorem st2_11_8 {a0 a1 a2 a3 a4 a5 a6 a7 a8 a9 a10 : Option Value} {v : Value} (q : m_c2 a7 = false) : m_no (m_st [a0, a1, a2, a3, a4, a5, a6, a7, a8, a9, a10] 8 v) 9 = [a0, a1, a2, a3, a4, a5, a6, a7, some v, none, a10] := by simp [m_st, m_no, q]
theorem st_11_9 {a0 a1 a2 a3 a4 a5 a6 a7 a8 a9 a10 : Option Value} {v : Value} (q : m_c2 a8 = false) : m_st [a0, a1, a2, a3, a4, a5, a6, a7, a8, a9, a10] 9 v = [a0, a1, a2, a3, a4, a5, a6, a7, a8, some v, a10] := by simp [m_st, q]
theorem stL_11_9 {a0 a1 a2 a3 a4 a5 a6 a7 a9 a10 : Option Value} {v : Value} {w : Int64} : m_st [a0, a1, a2, a3, a4, a5, a6, a7, some (.long w), a9, a10] 9 v = [a0, a1, a2, a3, a4, a5, a6, a7, none, some v, a10] := rfl
theorem st2_11_9 {a0 a1 a2 a3 a4 a5 a6 a7 a8 a9 a10 : Option Value} {v : Value} (q : m_c2 a8 = false) : m_no (m_st [a0, a1, a2, a3, a4, a5, a6, a7, a8, a9, a10] 9 v) 10 = [a0, a1, a2, a3, a4, a5, a6, a7, a8, some v, none] := by simp [m_st, m_no, q]
theorem st_11_10 {a0 a1 a2 a3 a4 a5 a6 a7 a8 a9 a10 : Option Value} {v : Value} (q : m_c2 a9 = false) : m_st [a0, a1, a2, a3, a4, a5, a6, a7, a8, a9, a10] 10 v = [a0, a1, a2, a3, a4, a5, a6, a7, a8, a9, some v] := by simp [m_st, q]
theorem stL_11_10 {a0 a1 a2 a3 a4 a5 a6 a7 a8 a10 : Option Value} {v : Value} {w : Int64} : m_st [a0, a1, a2, a3, a4, a5, a6, a7, a8, some (.long w), a10] 10 v = [a0, a1, a2, a3, a4, a5, a6, a7, a8, none, some v] := rfl
theorem st_12_0 {a0 a1 a2 a3 a4 a5 a6 a7 a8 a9 a10 a11 : Option Value} {v : Value} : m_st [a0, a1, a2, a3, a4, a5, a6, a7, a8, a9, a10, a11] 0 v = [some v, a1, a2, a3, a4, a5, a6, a7, a8, a9, a10, a11] := rfl
theorem st2_12_0 {a0 a1 a2 a3 a4 a5 a6 a7 a8 a9 a10 a11 : Option Value} {v : Value} : m_no (m_st [a0, a1, a2, a3, a4, a5, a6, a7, a8, a9, a10, a11] 0 v) 1 = [some v, none, a2, a3, a4, a5, a6, a7, a8, a9, a10, a11] := rfl
theorem st_12_1 {a0 a1 a2 a3 a4 a5 a6 a7 a8 a9 a10 a11 : Option Value} {v : Value} (q : m_c2 a0 = false) : m_st [a0, a1, a2, a3, a4, a5, a6, a7, a8, a9, a10, a11] 1 v = [a0, some v, a2, a3, a4, a5, a6, a7, a8, a9, a10, a11] := by simp [m_st, q]
theorem stL_12_1 {a1 a2 a3 a4 a5 a6 a7 a8 a9 a10 a11 : Option Value} {v : Value} {w : Int64} : m_st [some (.long w), a1, a2, a3, a4, a5, a6, a7, a8, a9, a10, a11] 1 v = [none, some v, a2, a3, a4, a5, a6, a7, a8, a9, a10, a11] := rfl
theorem st2_12_1 {a0 a1 a2 a3 a4 a5 a6 a7 a8 a9 a10 a11 : Option Value} {v : Value} (q : m_c2 a0 = false) : m_no (m_st [a0, a1, a2, a3, a4, a5, a6, a7, a8, a9, a10, a11] 1 v) 2 = [a0, some v, none, a3, a4, a5, a6, a7, a8, a9, a10, a11] := by simp [m_st, m_no, q]
theorem st_12_2 {a0 a1 a2 a3 a4 a5 a6 a7 a8 a9 a10 a11 : Option Value} {v : Value} (q : m_c2 a1 = false) : m_st [a0, a1, a2, a3, a4, a5, a6, a7, a8, a9, a10, a11] 2 v = [a0, a1, some v, a3, a4, a5, a6, a7, a8, a9, a10, a11] := by simp [m_st, q]
theorem stL_12_2 {a0 a2 a3 a4 a5 a6 a7 a8 a9 a10 a11 : Option Value} {v : Value} {w : Int64} : m_st [a0, some (.long w), a2, a3, a4, a5, a6, a7, a8, a9, a10, a11] 2 v = [a0, none, some v, a3, a4, a5, a6, a7, a8, a9, a10, a11] := rfl
theorem st2_12_2 {a0 a1 a2 a3 a4 a5 a6 a7 a8 a9 a10 a11 : Option Value} {v : Value} (q : m_c2 a1 = false) : m_no (m_st [a0, a1, a2, a3, a4, a5, a6, a7, a8, a9, a10, a11] 2 v) 3 = [a0, a1, some v, none, a4, a5, a6, a7, a8, a9, a10, a11] := by simp [m_st, m_no, q]
theorem st_12_3 {a0 a1 a2 a3 a4 a5 a6 a7 a8 a9 a10 a11 : Option Value} {v : Value} (q : m_c2 a2 = false) : m_st [a0, a1, a2, a3, a4, a5, a6, a7, a8, a9, a10, a11] 3 v = [a0, a1, a2, some v, a4, a5, a6, a7, a8, a9, a10, a11] := by simp [m_st, q]
theorem stL_12_3 {a0 a1 a3 a4 a5 a6 a7 a8 a9 a10 a11 : Option Value} {v : Value} {w : Int64} : m_st [a0, a1, some (.long w), a3, a4, a5, a6, a7, a8, a9, a10, a11] 3 v = [a0, a1, none, some v, a4, a5, a6, a7, a8, a9, a10, a11] := rfl
theorem st2_12_3 {a0 a1 a2 a3 a4 a5 a6 a7 a8 a9 a10 a11 : Option Value} {v : Value} (q : m_c2 a2 = false) : m_no (m_st [a0, a1, a2, a3, a4, a5, a6, a7, a8, a9, a10, a11] 3 v) 4 = [a0, a1, a2, some v, none, a5, a6, a7, a8, a9, a10, a11] := by simp [m_st, m_no, q]
theorem st_12_4 {a0 a1 a2 a3 a4 a5 a6 a7 a8 a9 a10 a11 : Option Value} {v : Value} (q : m_c2 a3 = false) : m_st [a0, a1, a2, a3, a4, a5, a6, a7, a8, a9, a10, a11] 4 v = [a0, a1, a2, a3, some v, a5, a6, a7, a8, a9, a10, a11] := by simp [m_st, q]
theorem stL_12_4 {a0 a1 a2 a4 a5 a6 a7 a8 a9 a10 a11 : Option Value} {v : Value} {w : Int64} : m_st [a0, a1, a2, some (.long w), a4, a5, a6, a7, a8, a9, a10, a11] 4 v = [a0, a1, a2, none, some v, a5, a6, a7, a8, a9, a10, a11] := rfl
theorem st2_12_4 {a0 a1 a2 a3 a4 a5 a6 a7 a8 a9 a10 a11 : Option Value} {v : Value} (q : m_c2 a3 = false) : m_no (m_st [a0, a1, a2, a3, a4, a5, a6, a7, a8, a9, a10, a11] 4 v) 5 = [a0, a1, a2, a3, some v, none, a6, a7, a8, a9, a10, a11] := by simp [m_st, m_no, q]
theorem st_12_5 {a0 a1 a2 a3 a4 a5 a6 a7 a8 a9 a10 a11 : Option Value} {v : Value} (q : m_c2 a4 = false) : m_st [a0, a1, a2, a3, a4, a5, a6, a7, a8, a9, a10, a11] 5 v = [a0, a1, a2, a3, a4, some v, a6, a7, a8, a9, a10, a11] := by simp [m_st, q]
theorem stL_12_5 {a0 a1 a2 a3 a5 a6 a7 a8 a9 a10 a11 : Option Value} {v : Value} {w : Int64} : m_st [a0, a1, a2, a3, some (.long w), a5, a6, a7, a8, a9, a10, a11] 5 v = [a0, a1, a2, a3, none, some v, a6, a7, a8, a9, a10, a11] := rfl
theorem st2_12_5 {a0 a1 a2 a3 a4 a5 a6 a7 a8 a9 a10 a11 : Option Value} {v : Value} (q : m_c2 a4 = false) : m_no (m_st [a0, a1, a2, a3, a4, a5, a6, a7, a8, a9, a10, a11] 5 v) 6 = [a0, a1, a2, a3, a4, some v, none, a7, a8, a9, a10, a11] := by simp [m_st, m_no, q]
theorem st_12_6 {a0 a1 a2 a3 a4 a5 a6 a7 a8 a9 a10 a11 : Option Value} {v : Value} (q : m_c2 a5 = false) : m_st [a0, a1, a2, a3, a4, a5, a6, a7, a8, a9, a10, a11] 6 v = [a0, a1, a2, a3, a4, a5, some v, a7, a8, a9, a10, a11] := by simp [m_st, q]
theorem stL_12_6 {a0 a1 a2 a3 a4 a6 a7 a8 a9 a10 a11 : Option Value} {v : Value} {w : Int64} : m_st [a0, a1, a2, a3, a4, some (.long w), a6, a7, a8, a9, a10, a11] 6 v = [a0, a1, a2, a3, a4, none, some v, a7, a8, a9, a10, a11] := rfl
theorem st2_12_6 {a0 a1 a2 a3 a4 a5 a6 a7 a8 a9 a10 a11 : Option Value} {v : Value} (q : m_c2 a5 = false) : m_no (m_st [a0, a1, a2, a3, a4, a5, a6, a7, a8, a9, a10, a11] 6 v) 7 = [a0, a1, a2, a3, a4, a5, some v, none, a8, a9, a10, a11] := by simp [m_st, m_no, q]
theorem st_12_7 {a0 a1 a2 a3 a4 a5 a6 a7 a8 a9 a10 a11 : Option Value} {v : Value} (q : m_c2 a6 = false) : m_st [a0, a1, a2, a3, a4, a5, a6, a7, a8, a9, a10, a11] 7 v = [a0, a1, a2, a3, a4, a5, a6, some v, a8, a9, a10, a11] := by simp [m_st, q]
theorem stL_12_7 {a0 a1 a2 a3 a4 a5 a7 a8 a9 a10 a11 : Option Value} {v : Value} {w : Int64} : m_st [a0, a1, a2, a3, a4, a5, some (.long w), a7, a8, a9, a10, a11] 7 v = [a0, a1, a2, a3, a4, a5, none, some v, a8, a9, a10, a11] := rfl
theorem st2_12_7 {a0 a1 a2 a3 a4 a5 a6 a7 a8 a9 a10 a11 : Option Value} {v : Value} (q : m_c2 a6 = false) : m_no (m_st [a0, a1, a2, a3, a4, a5, a6, a7, a8, a9, a10, a11] 7 v) 8 = [a0, a1, a2, a3, a4, a5, a6, some v, none, a9, a10, a11] := by simp [m_st, m_no, q]
theorem st_12_8 {a0 a1 a2 a3 a4 a5 a6 a7 a8 a9 a10 a11 : Option Value} {v : Value} (q : m_c2 a7 = false) : m_st [a0, a1, a2, a3, a4, a5, a6, a7, a8, a9, a10, a11] 8 v = [a0, a1, a2, a3, a4, a5, a6, a7, some v, a9, a10, a11] := by simp [m_st, q]
theorem stL_12_8 {a0 a1 a2 a3 a4 a5 a6 a8 a9 a10 a11 : Option Value} {v : Value} {w : Int64} : m_st [a0, a1, a2, a3, a4, a5, a6, some (.long w), a8, a9, a10, a11] 8 v = [a0, a1, a2, a3, a4, a5, a6, none, some v, a9, a10, a11] := rfl
theorem st2_12_8 {a0 a1 a2 a3 a4 a5 a6 a7 a8 a9 a10 a11 : Option Value} {v : Value} (q : m_c2 a7 = false) : m_no (m_st [a0, a1, a2, a3, a4, a5, a6, a7, a8, a9, a10, a11] 8 v) 9 = [a0, a1, a2, a3, a4, a5, a6, a7, some v, none, a10, a11] := by simp [m_st, m_no, q]
theorem st_12_9 {a0 a1 a2 a3 a4 a5 a6 a7 a8 a9 a10 a11 : Option Value} {v : Value} (q : m_c2 a8 = false) : m_st [a0, a1, a2, a3, a4, a5, a6, a7, a8, a9, a10, a11] 9 v = [a0, a1, a2, a3, a4, a5, a6, a7, a8, some v, a10, a11] := by simp [m_st, q]
theorem stL_12_9 {a0 a1 a2 a3 a4 a5 a6 a7 a9 a10 a11 : Option Value} {v : Value} {w : Int64} : m_st [a0, a1, a2, a3, a4, a5, a6, a7, some (.long w), a9, a10, a11] 9 v = [a0, a1, a2, a3, a4, a5, a6, a7, none, some v, a10, a11] := rfl
theorem st2_12_9 {a0 a1 a2 a3 a4 a5 a6 a7 a8 a9 a10 a11 : Option Value} {v : Value} (q : m_c2 a8 = false) : m_no (m_st [a0, a1, a2, a3, a4, a5, a6, a7, a8, a9, a10, a11] 9 v) 10 = [a0, a1, a2, a3, a4, a5, a6, a7, a8, some v, none, a11] := by simp [m_st, m_no, q]
theorem st_12_10 {a0 a1 a2 a3 a4 a5 a6 a7 a8 a9 a10 a11 : Option Value} {v : Value} (q : m_c2 a9 = false) : m_st [a0, a1, a2, a3, a4, a5, a6, a7, a8, a9, a10, a11] 10 v = [a0, a1, a2, a3, a4, a5, a6, a7, a8, a9, some v, a11] := by simp [m_st, q]
theorem stL_12_10 {a0 a1 a2 a3 a4 a5 a6 a7 a8 a10 a11 : Option Value} {v : Value} {w : Int64} : m_st [a0, a1, a2, a3, a4, a5, a6, a7, a8, some (.long w), a10, a11] 10 v = [a0, a1, a2, a3, a4, a5, a6, a7, a8, none, some v, a11] := rfl
theorem st2_12_10 {a0 a1 a2 a3 a4 a5 a6 a7 a8 a9 a10 a11 : Option Value} {v : Value} (q : m_c2 a9 = false) : m_no (m_st [a0, a1, a2, a3, a4, a5, a6, a7, a8, a9, a10, a11] 10 v) 11 = [a0, a1, a2, a3, a4, a5, a6, a7, a8, a9, some v, none] := by simp [m_st, m_no, q]
theorem st_12_11 {a0 a1 a2 a3 a4 a5 a6 a7 a8 a9 a10 a11 : Option Value} {v : Value} (q : m_c2 a10 = false) : m_st [a0, a1, a2, a3, a4, a5, a6, a7, a8, a9, a10, a11] 11 v = [a0, a1, a2, a3, a4, a5, a6, a7, a8, a9, a10, some v] := by simp [m_st, q]
theorem stL_12_11 {a0 a1 a2 a3 a4 a5 a6 a7 a8 a9 a11 : Option Value} {v : Value} {w : Int64} : m_st [a0, a1, a2, a3, a4, a5, a6, a7, a8, a9, some (.long w), a11] 11 v = [a0, a1, a2, a3, a4, a5, a6, a7, a8, a9, none, some v] := rfl
