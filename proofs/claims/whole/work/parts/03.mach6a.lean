/-- field k of class ci, only to be read -/
def m_flR (own : String) (idx ci k : Nat) : Prop := ∃ (r : vw_C), m_cl[ci]? = some r ∧ k < r.2.2 ∧ m_in (u_ws r.1 r.2.1 r.2.2) ∧ Cond.fieldLink own idx (r.2.1 k).1 (r.2.1 k).2.1 (r.2.1 k).2.2.1 ∈ m_tb
theorem ok_getR {g : mG} {M : mM} {J : mJ} {pc : Nat} {L : List (Option Value)} {st : List Value} {h : mH} {uc us : Nat} {a ci k idx : Nat} {fs : List Value} {v : Value} (hd : decode M.2.1 pc = .ok (.getfield idx, 3)) (hf : m_flR M.1.cls idx ci k) (hh : hc h a = some (.inr (ci, fs))) (hv : fs[k]? = some v) (kk : Ok g M J (pc + 3) L (v :: st) h uc us) : Ok g M J pc L (.ref a :: st) h uc us := by
  intro p e R s m args below meth c F C ls H locs hl hP hS
  obtain ⟨r, h1, h2, h3, h4⟩ := hf
  exact va_get (cl := m_cl) (C := r.1) (T := r.2.1) (N := r.2.2) F.1 F.2.1 F.2.2.2.2.2.2.1 h3 F.2.2.2.2.2.1 F.2.2.2.2.2.2.2.2.2.1 hP.1 a (m_W_get hh) h1 k h2 (F.2.2.2.2.2.2.1 _ h4) (fun x q => q) (v := m_sv g.2.1 v) (by rw [List.getElem?_map, hv]; rfl) hd (kk p e R s m args below meth c F C ls H locs hl hP hS)
theorem inX0 : m_in (u_ws RX0 TX0 11) := m_in_of [271, 273, 275, 277, 279, 281, 283, 285, 287, 289, 291] (by decide +kernel) (by decide +kernel)
theorem inX1 : m_in (u_ws RX1 TX1 1) := m_in_of [63] (by decide +kernel) (by decide +kernel)
theorem inX2 : m_in (u_ws RX2 TX2 8) := m_in_of [104, 106, 108, 110, 112, 114, 116, 118] (by decide +kernel) (by decide +kernel)
theorem inX3 : m_in (u_ws RX3 TX3 3) := m_in_of [89, 91, 93] (by decide +kernel) (by decide +kernel)
theorem inX4 : m_in (u_ws RX4 TX4 11) := m_in_of [136, 138, 140, 142, 144, 146, 148, 150, 152, 154, 156] (by decide +kernel) (by decide +kernel)
theorem inX5 : m_in (u_ws RX5 TX5 24) := m_in_of [592, 594, 596, 598, 600, 602, 604, 606, 608, 610, 612, 614, 616, 618, 620, 622, 624, 626, 628, 630, 632, 634, 636, 638] (by decide +kernel) (by decide +kernel)
theorem fl_X1_9 : m_fl RX1 9 1 0 (.array .int) true := ⟨(RX1, TX1, 1), tyX1, rfl, by decide, inX1, (m_tb_of 62 (by decide +kernel) (by decide +kernel)), tyX1_ok, nmX1, rfl, rfl, (fun _ => rfl)⟩
theorem fl_X3_9 : m_fl RX3 9 3 0 (.array .int) true := ⟨(RX3, TX3, 3), tyX3, rfl, by decide, inX3, (m_tb_of 80 (by decide +kernel) (by decide +kernel)), tyX3_ok, nmX3, rfl, rfl, (fun _ => rfl)⟩
theorem fl_X3_15 : m_fl RX3 15 3 1 (.int) false := ⟨(RX3, TX3, 3), tyX3, rfl, by decide, inX3, (m_tb_of 81 (by decide +kernel) (by decide +kernel)), tyX3_ok, nmX3, rfl, rfl, (fun e => absurd e (by decide))⟩
theorem fl_X2_49 : m_fl RX2 49 3 1 (.int) false := ⟨(RX3, TX3, 3), tyX3, rfl, by decide, inX3, (m_tb_of 82 (by decide +kernel) (by decide +kernel)), tyX3_ok, nmX3, rfl, rfl, (fun e => absurd e (by decide))⟩
theorem fl_X4_73 : m_fl RX4 73 3 1 (.int) false := ⟨(RX3, TX3, 3), tyX3, rfl, by decide, inX3, (m_tb_of 83 (by decide +kernel) (by decide +kernel)), tyX3_ok, nmX3, rfl, rfl, (fun e => absurd e (by decide))⟩
theorem fl_X1_25 : m_fl RX1 25 3 1 (.int) false := ⟨(RX3, TX3, 3), tyX3, rfl, by decide, inX3, (m_tb_of 84 (by decide +kernel) (by decide +kernel)), tyX3_ok, nmX3, rfl, rfl, (fun e => absurd e (by decide))⟩
theorem fl_X3_19 : m_fl RX3 19 3 2 (.int) false := ⟨(RX3, TX3, 3), tyX3, rfl, by decide, inX3, (m_tb_of 85 (by decide +kernel) (by decide +kernel)), tyX3_ok, nmX3, rfl, rfl, (fun e => absurd e (by decide))⟩
theorem fl_X2_41 : m_fl RX2 41 3 2 (.int) false := ⟨(RX3, TX3, 3), tyX3, rfl, by decide, inX3, (m_tb_of 86 (by decide +kernel) (by decide +kernel)), tyX3_ok, nmX3, rfl, rfl, (fun e => absurd e (by decide))⟩
theorem fl_X1_19 : m_fl RX1 19 3 2 (.int) false := ⟨(RX3, TX3, 3), tyX3, rfl, by decide, inX3, (m_tb_of 87 (by decide +kernel) (by decide +kernel)), tyX3_ok, nmX3, rfl, rfl, (fun e => absurd e (by decide))⟩
theorem fl_X4_90 : m_fl RX4 90 3 2 (.int) false := ⟨(RX3, TX3, 3), tyX3, rfl, by decide, inX3, (m_tb_of 88 (by decide +kernel) (by decide +kernel)), tyX3_ok, nmX3, rfl, rfl, (fun e => absurd e (by decide))⟩
theorem fl_X2_9 : m_fl RX2 9 2 0 (.array .int) true := ⟨(RX2, TX2, 8), tyX2, rfl, by decide, inX2, (m_tb_of 96 (by decide +kernel) (by decide +kernel)), tyX2_ok, nmX2, rfl, rfl, (fun _ => rfl)⟩
theorem fl_X2_15 : m_fl RX2 15 2 1 (.array .int) true := ⟨(RX2, TX2, 8), tyX2, rfl, by decide, inX2, (m_tb_of 97 (by decide +kernel) (by decide +kernel)), tyX2_ok, nmX2, rfl, rfl, (fun _ => rfl)⟩
theorem fl_X2_18 : m_fl RX2 18 2 2 (.array .int) true := ⟨(RX2, TX2, 8), tyX2, rfl, by decide, inX2, (m_tb_of 98 (by decide +kernel) (by decide +kernel)), tyX2_ok, nmX2, rfl, rfl, (fun _ => rfl)⟩
theorem fl_X2_21 : m_fl RX2 21 2 3 (.array .int) true := ⟨(RX2, TX2, 8), tyX2, rfl, by decide, inX2, (m_tb_of 99 (by decide +kernel) (by decide +kernel)), tyX2_ok, nmX2, rfl, rfl, (fun _ => rfl)⟩
theorem fl_X2_27 : m_fl RX2 27 2 4 (.object "GivingHeaps$Row") true := ⟨(RX2, TX2, 8), tyX2, rfl, by decide, inX2, (m_tb_of 100 (by decide +kernel) (by decide +kernel)), tyX2_ok, nmX2, rfl, rfl, (fun _ => rfl)⟩
theorem fl_X2_31 : m_fl RX2 31 2 5 (.object "GivingHeaps$Row") true := ⟨(RX2, TX2, 8), tyX2, rfl, by decide, inX2, (m_tb_of 101 (by decide +kernel) (by decide +kernel)), tyX2_ok, nmX2, rfl, rfl, (fun _ => rfl)⟩
theorem fl_X2_34 : m_fl RX2 34 2 6 (.array .long) false := ⟨(RX2, TX2, 8), tyX2, rfl, by decide, inX2, (m_tb_of 102 (by decide +kernel) (by decide +kernel)), tyX2_ok, nmX2, rfl, rfl, (fun e => absurd e (by decide))⟩
theorem fl_X2_38 : m_fl RX2 38 2 7 (.array .long) false := ⟨(RX2, TX2, 8), tyX2, rfl, by decide, inX2, (m_tb_of 103 (by decide +kernel) (by decide +kernel)), tyX2_ok, nmX2, rfl, rfl, (fun e => absurd e (by decide))⟩
theorem fl_X4_11 : m_fl RX4 11 4 0 (.array (.object "GivingHeaps$Row")) true := ⟨(RX4, TX4, 11), tyX4, rfl, by decide, inX4, (m_tb_of 125 (by decide +kernel) (by decide +kernel)), tyX4_ok, nmX4, rfl, rfl, (fun _ => rfl)⟩
theorem fl_X4_15 : m_fl RX4 15 4 1 (.array .boolean) true := ⟨(RX4, TX4, 11), tyX4, rfl, by decide, inX4, (m_tb_of 126 (by decide +kernel) (by decide +kernel)), tyX4_ok, nmX4, rfl, rfl, (fun _ => rfl)⟩
theorem fl_X4_19 : m_fl RX4 19 4 2 (.array .int) true := ⟨(RX4, TX4, 11), tyX4, rfl, by decide, inX4, (m_tb_of 127 (by decide +kernel) (by decide +kernel)), tyX4_ok, nmX4, rfl, rfl, (fun _ => rfl)⟩
theorem fl_X4_26 : m_fl RX4 26 4 3 (.object "GivingHeaps$Lists") true := ⟨(RX4, TX4, 11), tyX4, rfl, by decide, inX4, (m_tb_of 128 (by decide +kernel) (by decide +kernel)), tyX4_ok, nmX4, rfl, rfl, (fun _ => rfl)⟩
theorem fl_X4_33 : m_fl RX4 33 4 4 (.object "GivingHeaps$Mixer") true := ⟨(RX4, TX4, 11), tyX4, rfl, by decide, inX4, (m_tb_of 129 (by decide +kernel) (by decide +kernel)), tyX4_ok, nmX4, rfl, rfl, (fun _ => rfl)⟩
theorem fl_X4_39 : m_fl RX4 39 4 5 (.array (.object "GivingHeaps$Chart")) true := ⟨(RX4, TX4, 11), tyX4, rfl, by decide, inX4, (m_tb_of 130 (by decide +kernel) (by decide +kernel)), tyX4_ok, nmX4, rfl, rfl, (fun _ => rfl)⟩
theorem fl_X4_44 : m_fl RX4 44 4 6 (.object "GivingHeaps$Row") true := ⟨(RX4, TX4, 11), tyX4, rfl, by decide, inX4, (m_tb_of 131 (by decide +kernel) (by decide +kernel)), tyX4_ok, nmX4, rfl, rfl, (fun _ => rfl)⟩
theorem fl_X4_48 : m_fl RX4 48 4 7 (.object "GivingHeaps$Row") true := ⟨(RX4, TX4, 11), tyX4, rfl, by decide, inX4, (m_tb_of 132 (by decide +kernel) (by decide +kernel)), tyX4_ok, nmX4, rfl, rfl, (fun _ => rfl)⟩
theorem fl_X4_93 : m_fl RX4 93 4 8 (.int) false := ⟨(RX4, TX4, 11), tyX4, rfl, by decide, inX4, (m_tb_of 133 (by decide +kernel) (by decide +kernel)), tyX4_ok, nmX4, rfl, rfl, (fun e => absurd e (by decide))⟩
theorem fl_X4_185 : m_fl RX4 185 4 9 (.int) false := ⟨(RX4, TX4, 11), tyX4, rfl, by decide, inX4, (m_tb_of 134 (by decide +kernel) (by decide +kernel)), tyX4_ok, nmX4, rfl, rfl, (fun e => absurd e (by decide))⟩
theorem fl_X4_171 : m_fl RX4 171 4 10 (.long) false := ⟨(RX4, TX4, 11), tyX4, rfl, by decide, inX4, (m_tb_of 135 (by decide +kernel) (by decide +kernel)), tyX4_ok, nmX4, rfl, rfl, (fun e => absurd e (by decide))⟩
theorem fl_X0_15 : m_fl RX0 15 0 0 (.int) true := ⟨(RX0, TX0, 11), tyX0, rfl, by decide, inX0, (m_tb_of 254 (by decide +kernel) (by decide +kernel)), tyX0_ok, nmX0, rfl, rfl, (fun _ => rfl)⟩
theorem fl_X4_198 : m_flR RX4 198 0 0 := ⟨(RX0, TX0, 11), rfl, by decide, inX0, (m_tb_of 255 (by decide +kernel) (by decide +kernel))⟩
theorem fl_X0_21 : m_fl RX0 21 0 1 (.array .int) true := ⟨(RX0, TX0, 11), tyX0, rfl, by decide, inX0, (m_tb_of 256 (by decide +kernel) (by decide +kernel)), tyX0_ok, nmX0, rfl, rfl, (fun _ => rfl)⟩
theorem fl_X0_25 : m_fl RX0 25 0 2 (.array .int) true := ⟨(RX0, TX0, 11), tyX0, rfl, by decide, inX0, (m_tb_of 257 (by decide +kernel) (by decide +kernel)), tyX0_ok, nmX0, rfl, rfl, (fun _ => rfl)⟩
theorem fl_X0_28 : m_fl RX0 28 0 3 (.array .int) true := ⟨(RX0, TX0, 11), tyX0, rfl, by decide, inX0, (m_tb_of 258 (by decide +kernel) (by decide +kernel)), tyX0_ok, nmX0, rfl, rfl, (fun _ => rfl)⟩
theorem fl_X0_31 : m_fl RX0 31 0 4 (.array .int) true := ⟨(RX0, TX0, 11), tyX0, rfl, by decide, inX0, (m_tb_of 259 (by decide +kernel) (by decide +kernel)), tyX0_ok, nmX0, rfl, rfl, (fun _ => rfl)⟩
theorem fl_X0_34 : m_fl RX0 34 0 5 (.array .int) true := ⟨(RX0, TX0, 11), tyX0, rfl, by decide, inX0, (m_tb_of 260 (by decide +kernel) (by decide +kernel)), tyX0_ok, nmX0, rfl, rfl, (fun _ => rfl)⟩
theorem fl_X0_61 : m_fl RX0 61 0 6 (.int) false := ⟨(RX0, TX0, 11), tyX0, rfl, by decide, inX0, (m_tb_of 261 (by decide +kernel) (by decide +kernel)), tyX0_ok, nmX0, rfl, rfl, (fun e => absurd e (by decide))⟩
theorem fl_X4_132 : m_fl RX4 132 0 6 (.int) false := ⟨(RX0, TX0, 11), tyX0, rfl, by decide, inX0, (m_tb_of 262 (by decide +kernel) (by decide +kernel)), tyX0_ok, nmX0, rfl, rfl, (fun e => absurd e (by decide))⟩
theorem fl_X0_64 : m_fl RX0 64 0 7 (.int) false := ⟨(RX0, TX0, 11), tyX0, rfl, by decide, inX0, (m_tb_of 263 (by decide +kernel) (by decide +kernel)), tyX0_ok, nmX0, rfl, rfl, (fun e => absurd e (by decide))⟩
theorem fl_X4_135 : m_fl RX4 135 0 7 (.int) false := ⟨(RX0, TX0, 11), tyX0, rfl, by decide, inX0, (m_tb_of 264 (by decide +kernel) (by decide +kernel)), tyX0_ok, nmX0, rfl, rfl, (fun e => absurd e (by decide))⟩
theorem fl_X0_70 : m_fl RX0 70 0 8 (.int) false := ⟨(RX0, TX0, 11), tyX0, rfl, by decide, inX0, (m_tb_of 265 (by decide +kernel) (by decide +kernel)), tyX0_ok, nmX0, rfl, rfl, (fun e => absurd e (by decide))⟩
theorem fl_X4_138 : m_fl RX4 138 0 8 (.int) false := ⟨(RX0, TX0, 11), tyX0, rfl, by decide, inX0, (m_tb_of 266 (by decide +kernel) (by decide +kernel)), tyX0_ok, nmX0, rfl, rfl, (fun e => absurd e (by decide))⟩
theorem fl_X0_50 : m_fl RX0 50 0 9 (.int) false := ⟨(RX0, TX0, 11), tyX0, rfl, by decide, inX0, (m_tb_of 267 (by decide +kernel) (by decide +kernel)), tyX0_ok, nmX0, rfl, rfl, (fun e => absurd e (by decide))⟩
theorem fl_X4_141 : m_fl RX4 141 0 9 (.int) false := ⟨(RX0, TX0, 11), tyX0, rfl, by decide, inX0, (m_tb_of 268 (by decide +kernel) (by decide +kernel)), tyX0_ok, nmX0, rfl, rfl, (fun e => absurd e (by decide))⟩
theorem fl_X0_67 : m_fl RX0 67 0 10 (.int) false := ⟨(RX0, TX0, 11), tyX0, rfl, by decide, inX0, (m_tb_of 269 (by decide +kernel) (by decide +kernel)), tyX0_ok, nmX0, rfl, rfl, (fun e => absurd e (by decide))⟩
theorem fl_X4_144 : m_fl RX4 144 0 10 (.int) false := ⟨(RX0, TX0, 11), tyX0, rfl, by decide, inX0, (m_tb_of 270 (by decide +kernel) (by decide +kernel)), tyX0_ok, nmX0, rfl, rfl, (fun e => absurd e (by decide))⟩
theorem fl_X5_66 : m_fl RX5 66 5 0 (.int) false := ⟨(RX5, TX5, 24), tyX5, rfl, by decide, inX5, (m_tb_of 568 (by decide +kernel) (by decide +kernel)), tyX5_ok, nmX5, rfl, rfl, (fun e => absurd e (by decide))⟩
theorem fl_X5_7 : m_fl RX5 7 5 1 (.array .int) true := ⟨(RX5, TX5, 24), tyX5, rfl, by decide, inX5, (m_tb_of 569 (by decide +kernel) (by decide +kernel)), tyX5_ok, nmX5, rfl, rfl, (fun _ => rfl)⟩
theorem fl_X5_163 : m_fl RX5 163 5 2 (.long) false := ⟨(RX5, TX5, 24), tyX5, rfl, by decide, inX5, (m_tb_of 570 (by decide +kernel) (by decide +kernel)), tyX5_ok, nmX5, rfl, rfl, (fun e => absurd e (by decide))⟩
theorem fl_X5_91 : m_fl RX5 91 5 3 (.int) false := ⟨(RX5, TX5, 24), tyX5, rfl, by decide, inX5, (m_tb_of 571 (by decide +kernel) (by decide +kernel)), tyX5_ok, nmX5, rfl, rfl, (fun e => absurd e (by decide))⟩
theorem fl_X5_13 : m_fl RX5 13 5 4 (.array .int) true := ⟨(RX5, TX5, 24), tyX5, rfl, by decide, inX5, (m_tb_of 572 (by decide +kernel) (by decide +kernel)), tyX5_ok, nmX5, rfl, rfl, (fun _ => rfl)⟩
theorem fl_X5_16 : m_fl RX5 16 5 5 (.array .int) true := ⟨(RX5, TX5, 24), tyX5, rfl, by decide, inX5, (m_tb_of 573 (by decide +kernel) (by decide +kernel)), tyX5_ok, nmX5, rfl, rfl, (fun _ => rfl)⟩
theorem fl_X5_19 : m_fl RX5 19 5 6 (.array .int) true := ⟨(RX5, TX5, 24), tyX5, rfl, by decide, inX5, (m_tb_of 574 (by decide +kernel) (by decide +kernel)), tyX5_ok, nmX5, rfl, rfl, (fun _ => rfl)⟩
theorem fl_X5_22 : m_fl RX5 22 5 7 (.array .int) true := ⟨(RX5, TX5, 24), tyX5, rfl, by decide, inX5, (m_tb_of 575 (by decide +kernel) (by decide +kernel)), tyX5_ok, nmX5, rfl, rfl, (fun _ => rfl)⟩
theorem fl_X5_94 : m_fl RX5 94 5 8 (.int) false := ⟨(RX5, TX5, 24), tyX5, rfl, by decide, inX5, (m_tb_of 576 (by decide +kernel) (by decide +kernel)), tyX5_ok, nmX5, rfl, rfl, (fun e => absurd e (by decide))⟩
theorem fl_X5_25 : m_fl RX5 25 5 9 (.int) false := ⟨(RX5, TX5, 24), tyX5, rfl, by decide, inX5, (m_tb_of 577 (by decide +kernel) (by decide +kernel)), tyX5_ok, nmX5, rfl, rfl, (fun e => absurd e (by decide))⟩
theorem fl_X5_104 : m_fl RX5 104 5 10 (.int) false := ⟨(RX5, TX5, 24), tyX5, rfl, by decide, inX5, (m_tb_of 578 (by decide +kernel) (by decide +kernel)), tyX5_ok, nmX5, rfl, rfl, (fun e => absurd e (by decide))⟩
theorem fl_X5_29 : m_fl RX5 29 5 11 (.array .int) true := ⟨(RX5, TX5, 24), tyX5, rfl, by decide, inX5, (m_tb_of 579 (by decide +kernel) (by decide +kernel)), tyX5_ok, nmX5, rfl, rfl, (fun _ => rfl)⟩
theorem fl_X5_32 : m_fl RX5 32 5 12 (.array .int) true := ⟨(RX5, TX5, 24), tyX5, rfl, by decide, inX5, (m_tb_of 580 (by decide +kernel) (by decide +kernel)), tyX5_ok, nmX5, rfl, rfl, (fun _ => rfl)⟩
theorem fl_X5_35 : m_fl RX5 35 5 13 (.array .int) true := ⟨(RX5, TX5, 24), tyX5, rfl, by decide, inX5, (m_tb_of 581 (by decide +kernel) (by decide +kernel)), tyX5_ok, nmX5, rfl, rfl, (fun _ => rfl)⟩
theorem fl_X5_38 : m_fl RX5 38 5 14 (.array .int) true := ⟨(RX5, TX5, 24), tyX5, rfl, by decide, inX5, (m_tb_of 582 (by decide +kernel) (by decide +kernel)), tyX5_ok, nmX5, rfl, rfl, (fun _ => rfl)⟩
theorem fl_X5_41 : m_fl RX5 41 5 15 (.array .int) true := ⟨(RX5, TX5, 24), tyX5, rfl, by decide, inX5, (m_tb_of 583 (by decide +kernel) (by decide +kernel)), tyX5_ok, nmX5, rfl, rfl, (fun _ => rfl)⟩
theorem fl_X5_44 : m_fl RX5 44 5 16 (.array .int) true := ⟨(RX5, TX5, 24), tyX5, rfl, by decide, inX5, (m_tb_of 584 (by decide +kernel) (by decide +kernel)), tyX5_ok, nmX5, rfl, rfl, (fun _ => rfl)⟩
theorem fl_X5_47 : m_fl RX5 47 5 17 (.array .int) true := ⟨(RX5, TX5, 24), tyX5, rfl, by decide, inX5, (m_tb_of 585 (by decide +kernel) (by decide +kernel)), tyX5_ok, nmX5, rfl, rfl, (fun _ => rfl)⟩
theorem fl_X5_50 : m_fl RX5 50 5 18 (.array .long) true := ⟨(RX5, TX5, 24), tyX5, rfl, by decide, inX5, (m_tb_of 586 (by decide +kernel) (by decide +kernel)), tyX5_ok, nmX5, rfl, rfl, (fun _ => rfl)⟩
theorem fl_X5_54 : m_fl RX5 54 5 19 (.array .int) true := ⟨(RX5, TX5, 24), tyX5, rfl, by decide, inX5, (m_tb_of 587 (by decide +kernel) (by decide +kernel)), tyX5_ok, nmX5, rfl, rfl, (fun _ => rfl)⟩
theorem fl_X5_57 : m_fl RX5 57 5 20 (.array .int) true := ⟨(RX5, TX5, 24), tyX5, rfl, by decide, inX5, (m_tb_of 588 (by decide +kernel) (by decide +kernel)), tyX5_ok, nmX5, rfl, rfl, (fun _ => rfl)⟩
theorem fl_X5_60 : m_fl RX5 60 5 21 (.array .int) true := ⟨(RX5, TX5, 24), tyX5, rfl, by decide, inX5, (m_tb_of 589 (by decide +kernel) (by decide +kernel)), tyX5_ok, nmX5, rfl, rfl, (fun _ => rfl)⟩
theorem fl_X5_149 : m_fl RX5 149 5 22 (.int) false := ⟨(RX5, TX5, 24), tyX5, rfl, by decide, inX5, (m_tb_of 590 (by decide +kernel) (by decide +kernel)), tyX5_ok, nmX5, rfl, rfl, (fun e => absurd e (by decide))⟩
theorem fl_X5_63 : m_fl RX5 63 5 23 (.array .long) true := ⟨(RX5, TX5, 24), tyX5, rfl, by decide, inX5, (m_tb_of 591 (by decide +kernel) (by decide +kernel)), tyX5_ok, nmX5, rfl, rfl, (fun _ => rfl)⟩
