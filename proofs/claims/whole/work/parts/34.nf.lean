def nfX0 : List Value := [.int (nI 0), .null, .null, .null, .null, .null, .int (nI 0), .int (nI 0), .int (nI 0), .int (nI 0), .int (nI 0)]
theorem nfX0_ok : ∀ j, j < 11 → defaultValue (tyX0 j) = vp_V nfX0 j := fun j hj => by
  rcases (show j = 0 ∨ j = 1 ∨ j = 2 ∨ j = 3 ∨ j = 4 ∨ j = 5 ∨ j = 6 ∨ j = 7 ∨ j = 8 ∨ j = 9 ∨ j = 10 by omega) with rfl | rfl | rfl | rfl | rfl | rfl | rfl | rfl | rfl | rfl | rfl <;> rfl
theorem nfX0_sv : ∀ b, nfX0.map (m_sv b) = nfX0 := fun _ => rfl
def nfX1 : List Value := [.null]
theorem nfX1_ok : ∀ j, j < 1 → defaultValue (tyX1 j) = vp_V nfX1 j := fun j hj => by
  have e : j = 0 := by omega
  subst e
  rfl
theorem nfX1_sv : ∀ b, nfX1.map (m_sv b) = nfX1 := fun _ => rfl
def nfX2 : List Value := [.null, .null, .null, .null, .null, .null, .null, .null]
theorem nfX2_ok : ∀ j, j < 8 → defaultValue (tyX2 j) = vp_V nfX2 j := fun j hj => by
  rcases (show j = 0 ∨ j = 1 ∨ j = 2 ∨ j = 3 ∨ j = 4 ∨ j = 5 ∨ j = 6 ∨ j = 7 by omega) with rfl | rfl | rfl | rfl | rfl | rfl | rfl | rfl <;> rfl
theorem nfX2_sv : ∀ b, nfX2.map (m_sv b) = nfX2 := fun _ => rfl
def nfX3 : List Value := [.null, .int (nI 0), .int (nI 0)]
theorem nfX3_ok : ∀ j, j < 3 → defaultValue (tyX3 j) = vp_V nfX3 j := fun j hj => by
  rcases (show j = 0 ∨ j = 1 ∨ j = 2 by omega) with rfl | rfl | rfl <;> rfl
theorem nfX3_sv : ∀ b, nfX3.map (m_sv b) = nfX3 := fun _ => rfl
def nfX4 : List Value := [.null, .null, .null, .null, .null, .null, .null, .null, .int (nI 0), .int (nI 0), .long 0]
theorem nfX4_ok : ∀ j, j < 11 → defaultValue (tyX4 j) = vp_V nfX4 j := fun j hj => by
  rcases (show j = 0 ∨ j = 1 ∨ j = 2 ∨ j = 3 ∨ j = 4 ∨ j = 5 ∨ j = 6 ∨ j = 7 ∨ j = 8 ∨ j = 9 ∨ j = 10 by omega) with rfl | rfl | rfl | rfl | rfl | rfl | rfl | rfl | rfl | rfl | rfl <;> rfl
theorem nfX4_sv : ∀ b, nfX4.map (m_sv b) = nfX4 := fun _ => rfl
def nfX5 : List Value := [.int (nI 0), .null, .long 0, .int (nI 0), .null, .null, .null, .null, .int (nI 0), .int (nI 0), .int (nI 0), .null, .null, .null, .null, .null, .null, .null, .null, .null, .null, .null, .int (nI 0), .null]
theorem nfX5_ok : ∀ j, j < 24 → defaultValue (tyX5 j) = vp_V nfX5 j := fun j hj => by
  rcases (show j = 0 ∨ j = 1 ∨ j = 2 ∨ j = 3 ∨ j = 4 ∨ j = 5 ∨ j = 6 ∨ j = 7 ∨ j = 8 ∨ j = 9 ∨ j = 10 ∨ j = 11 ∨ j = 12 ∨ j = 13 ∨ j = 14 ∨ j = 15 ∨ j = 16 ∨ j = 17 ∨ j = 18 ∨ j = 19 ∨ j = 20 ∨ j = 21 ∨ j = 22 ∨ j = 23 by omega) with rfl | rfl | rfl | rfl | rfl | rfl | rfl | rfl | rfl | rfl | rfl | rfl | rfl | rfl | rfl | rfl | rfl | rfl | rfl | rfl | rfl | rfl | rfl | rfl <;> rfl
theorem nfX5_sv : ∀ b, nfX5.map (m_sv b) = nfX5 := fun _ => rfl
