/-! ===== the machine seen from above: cells that are made ===== -/
theorem m_nmA {g : mG} {s : State} (hK : va_K (m_D g) m_cl (m_tys g) s) {t : Nat} {ty : FieldType} (ht : m_ty5[t]? = some ty) : va_RA s (g.2.2.2.2 ty) ty := (hK.2 t _ (m_ty_at g ht)).2
section MACH4
variable {g : mG} {M : mM} {J : mJ} {pc : Nat} {L L' : List (Option Value)} {st : List Value} {h : mH} {uc us : Nat}
theorem ok_newarr {n : Int32} {N t : Nat} {at0 : ArrayType} {ty : FieldType} {x : (Nat → Int32) ⊕ (Nat → Int64) ⊕ (Nat → UInt32) ⊕ (Nat → UInt64) ⊕ (Nat → Option Nat)} (hd : decode M.2.1 pc = .ok (.newarray at0, 2)) (hty : newarray.typeOf at0 = ty) (ht : m_ty5[t]? = some ty) (hprim : ∀ (s : State) (c : ClassId), va_RA s c ty → s.vm.findClass ("[" ++ ty.toString) = some c) (hx : ∀ cA b, vp_cell cA (m_sA b (N, x)) = arrV cA N (fun _ => defaultValue ty)) (hw : Cond.arrayClass ty ∈ m_tb) (hn : ¬ n < 0) (hN : n.toNatClampNeg = N) (hb : N * componentBytes ty ≤ 536870912) (hu : uc + 1 ≤ M.2.2.2.2.2.1 ∧ us + N ≤ M.2.2.2.2.2.2)
    (k : Ok g M J (pc + 2) L (.ref h.1 :: st) (hp h (.inl (ty, N, x))) (uc + 1) (us + N)) : Ok g M J pc L (.int n :: st) h uc us := by
  intro p e R s m args below meth c F C ls H locs hl hP hS
  subst hty
  have hR : R = m_R M := F.2.2.2.2.2.2.2.2.1
  refine va_newaK F.1 F.2.1 (F.2.2.2.2.2.2.1 _ hw) rfl hd rfl hn hN hb (by rw [hR]; exact hu.1) (by rw [hR]; exact hu.2) hP.2 fun H1 cA e1 z1 o1 hAr hNm => ?_
  have hc : cA = g.2.2.2.2 (newarray.typeOf at0) := Option.some.inj (hNm.symm.trans (hprim s _ (m_nmA F.2.2.2.2.2.2.2.2.2.1 ht)))
  subst hc
  have z2 : H1.size = H.size + 1 := by rw [z1, hP.2]
  have o2 : ∀ q : Nat, q < H.size → H1[q]? = H[q]? := fun q hq => o1 q (by rw [← hP.2]; exact hq)
  refine k p e R s m args below meth c F C ls H1 locs hl (m_P_push hP ?_ z2 o2) (m_S_push hS z2 o2)
  show H1[g.2.1 + h.1]? = some (vp_cell _ (m_sA g.2.1 (N, x)))
  rw [hx]
  exact e1
theorem ok_newI {n : Int32} {N : Nat} (hd : decode M.2.1 pc = .ok (.newarray .int, 2)) (hw : Cond.arrayClass .int ∈ m_tb) (hn : ¬ n < 0) (hN : n.toNatClampNeg = N) (hb : N * 4 ≤ 536870912) (hu : uc + 1 ≤ M.2.2.2.2.2.1 ∧ us + N ≤ M.2.2.2.2.2.2)
    (k : Ok g M J (pc + 2) L (.ref h.1 :: st) (hp h (.inl (.int, N, .inl (fun _ => 0)))) (uc + 1) (us + N)) : Ok g M J pc L (.int n :: st) h uc us :=
  ok_newarr (t := 0) hd rfl rfl (fun s c h => h) (fun _ _ => rfl) hw hn hN hb hu k
theorem ok_newJ {n : Int32} {N : Nat} (hd : decode M.2.1 pc = .ok (.newarray .long, 2)) (hw : Cond.arrayClass .long ∈ m_tb) (hn : ¬ n < 0) (hN : n.toNatClampNeg = N) (hb : N * 8 ≤ 536870912) (hu : uc + 1 ≤ M.2.2.2.2.2.1 ∧ us + N ≤ M.2.2.2.2.2.2)
    (k : Ok g M J (pc + 2) L (.ref h.1 :: st) (hp h (.inl (.long, N, .inr (.inl (fun _ => 0))))) (uc + 1) (us + N)) : Ok g M J pc L (.int n :: st) h uc us :=
  ok_newarr (t := 1) hd rfl rfl (fun s c h => h) (fun _ _ => rfl) hw hn hN hb hu k
theorem ok_newZ {n : Int32} {N : Nat} (hd : decode M.2.1 pc = .ok (.newarray .boolean, 2)) (hw : Cond.arrayClass .boolean ∈ m_tb) (hn : ¬ n < 0) (hN : n.toNatClampNeg = N) (hb : N * 1 ≤ 536870912) (hu : uc + 1 ≤ M.2.2.2.2.2.1 ∧ us + N ≤ M.2.2.2.2.2.2)
    (k : Ok g M J (pc + 2) L (.ref h.1 :: st) (hp h (.inl (.boolean, N, .inl (fun _ => 0)))) (uc + 1) (us + N)) : Ok g M J pc L (.int n :: st) h uc us :=
  ok_newarr (t := 2) hd rfl rfl (fun s c h => h) (fun _ _ => rfl) hw hn hN hb hu k
theorem ok_newA {n : Int32} {N t idx : Nat} {C0 : String} (hd : decode M.2.1 pc = .ok (.anewarray idx, 3)) (ht : m_ty5[t]? = some (.object C0)) (hl : Cond.classLink M.1.cls idx C0 ∈ m_tb) (ho : ∀ U, m_X U → va_AO C0 U) (hn : ¬ n < 0) (hN : n.toNatClampNeg = N) (hb : N * 4 ≤ 536870912) (hu : uc + 1 ≤ M.2.2.2.2.2.1 ∧ us + N ≤ M.2.2.2.2.2.2)
    (k : Ok g M J (pc + 3) L (.ref h.1 :: st) (hp h (.inl (.object C0, N, .inr (.inr (.inr (.inr (fun _ => none))))))) (uc + 1) (us + N)) : Ok g M J pc L (.int n :: st) h uc us := by
  intro p e R s m args below meth c F C ls H locs hlo hP hS
  subst hN
  have hR : R = m_R M := F.2.2.2.2.2.2.2.2.1
  have hts := F.2.2.2.2.2.2.1
  refine W.anew F.1 F.2.1 F.2.2.2.2.2.1 (hts _ hl) (va_AO.use (ho s F.2.2.2.2.2.2.2.2.2.2.2)) rfl hd rfl hn hb (by rw [hR]; exact hu.1) (by rw [hR]; exact hu.2) fun cA kA comp f1 f2 f3 f4 => ?_
  obtain ⟨kA', comp', g1, g2, g3, g4⟩ := m_nmA F.2.2.2.2.2.2.2.2.2.1 ht
  have hc : cA = g.2.2.2.2 (.object C0) := Option.some.inj (f1.symm.trans g4)
  subst hc
  generalize hH1 : H.push ({ cls := g.2.2.2.2 (.object C0), slots := Array.replicate n.toNatClampNeg .null, vm := .none } : Cell) = H1
  have z1 : H1.size = H.size + 1 := by rw [← hH1, Array.size_push]
  have e1 : H1[H.size]? = some (arrV (g.2.2.2.2 (.object C0)) n.toNatClampNeg (fun _ => .null)) := by rw [← hH1, Array.getElem?_push_size, ← arrV_new]
  have o1 : ∀ q : Nat, q < H.size → H1[q]? = H[q]? := fun q hq => by rw [← hH1, Array.getElem?_push, if_neg (Nat.ne_of_lt hq)]
  have k' := k p e R s m args below meth c F C ls H1 locs hlo (m_P_push hP (by show H1[g.2.1 + h.1]? = some (vp_cell _ (n.toNatClampNeg, .inr (.inr (.inr (.inr (fun _ => none)))))); rw [vp_cell_q, ← hP.2]; exact e1) z1 o1) (m_S_push hS z1 o1)
  rw [hP.2]
  exact k'
theorem ok_new {ci idx : Nat} {r : vw_C} {fs : List Value} (ty0 : Nat → FieldType) (hd : decode M.2.1 pc = .ok (.new idx, 3)) (hr : m_cl[ci]? = some r) (hin : m_in (u_ws r.1 r.2.1 r.2.2)) (hty : ∀ k, k < r.2.2 → parseFieldDescriptor (r.2.1 k).2.2.1 = some (ty0 k)) (hl : Cond.classLink M.1.cls idx r.1 ∈ m_tb ∧ Cond.instantiable r.1 r.2.2 ∈ m_tb ∧ Cond.initialized r.1 ∈ m_tb) (hfs : ∀ j, j < r.2.2 → defaultValue (ty0 j) = vp_V fs j) (hsv : ∀ b, fs.map (m_sv b) = fs) (hu : uc + 1 ≤ M.2.2.2.2.2.1 ∧ us + r.2.2 ≤ M.2.2.2.2.2.2)
    (k : Ok g M J (pc + 3) L (.ref h.1 :: st) (hp h (.inr (ci, fs))) (uc + 1) (us + r.2.2)) : Ok g M J pc L st h uc us := by
  intro p e R s m args below meth c F C ls H locs hlo hP hS
  have hR : R = m_R M := F.2.2.2.2.2.2.2.2.1
  have hts := F.2.2.2.2.2.2.1
  have hKn := F.2.2.2.2.2.2.2.2.2.1.1 ci _ hr
  refine W.newcK F.1 F.2.1 F.2.2.2.2.2.1 (hts _ hl.1) (hts _ hl.2.1) (hts _ hl.2.2) rfl hd (by rw [hR]; exact hu.1) (by rw [hR]; exact hu.2) hKn.2.1 hP.2 fun H1 kC hkC e1 z1 o1 => ?_
  have z2 : H1.size = H.size + 1 := by rw [z1, hP.2]
  have o2 : ∀ q : Nat, q < H.size → H1[q]? = H[q]? := fun q hq => o1 q (by rw [← hP.2]; exact hq)
  refine k p e R s m args below meth c F C ls H1 locs hlo (m_P_push hP ?_ z2 o2) (m_S_push hS z2 o2)
  refine ⟨_, hr, (u_born ty0 hts hin hKn hkC e1 hty).to fun j hj => ?_⟩
  rw [hsv]
  exact hfs j hj
theorem ok_cloneI {a n idx : Nat} {f : Nat → Int32} (hd : decode M.2.1 pc = .ok (.invokevirtual idx, 3))
    (hl : Cond.methodLink M.1.cls idx ⟨"[I", "clone", "()Ljava/lang/Object;"⟩ ∈ m_tb ∧ Cond.sameMethod "[I" "java/lang/Object" "clone" "()Ljava/lang/Object;" ∈ m_tb ∧ Cond.native ⟨"java/lang/Object", "clone", "()Ljava/lang/Object;"⟩ ∈ m_tb ∧ Cond.instanceMethod ⟨"java/lang/Object", "clone", "()Ljava/lang/Object;"⟩ ∈ m_tb ∧ Cond.selects "[I" ⟨"[I", "clone", "()Ljava/lang/Object;"⟩ ⟨"java/lang/Object", "clone", "()Ljava/lang/Object;"⟩ ∈ m_tb)
    (hh : hc h a = some (.inl (.int, n, .inl f))) (hrk : 1 ≤ M.2.2.2.2.1) (hw : (st.map fun v => v.category).sum ≤ 8) (hu : uc + 1 ≤ M.2.2.2.2.2.1 ∧ us + n ≤ M.2.2.2.2.2.2)
    (k : Ok g M J (pc + 3) L (.ref h.1 :: st) (hp h (.inl (.int, n, .inl f))) (uc + 1) (us + n)) : Ok g M J pc L (.ref a :: st) h uc us := by
  intro p e R s m args below meth c F C ls H locs hlo hP hS
  have hR : R = m_R M := F.2.2.2.2.2.2.2.2.1
  have hts := F.2.2.2.2.2.2.1
  have hK := F.2.2.2.2.2.2.2.2.2.1
  have hnm : s.vm.findClass "[I" = some (g.2.2.2.2 .int) := m_nmA hK (t := 0) rfl
  have hw2 := m_room (st := st) (pc := pc) (m := m) (ls := ls) (st0 := st) g.2.1 hw
  have e2 : 2 * (F0 m pc ls st).monitorRoom = 0 := rfl
  have hcell : H[g.2.1 + a]? = some (arrV (g.2.2.2.2 .int) n (fun j => .int (f j))) := hP.1 a _ (m_W_get hh)
  obtain ⟨c0, t0', f1, f2, f3⟩ := Cond.castable_spec (va_Nw.use (A := args) rfl F.2.2.2.2.2.2.2.2.2.2.2.2.2.2.2)
  cases hnm.symm.trans f1
  intro T hT X
  obtain ⟨-, kA, hkA, comp, hkind⟩ := State.isArrayOf_alike X.warmed.alike (m_arr g hK (t := 0) rfl 0 (fun _ => .null))
  obtain ⟨-, kS, hkS, compS, hkindS⟩ := m_arr g hK (t := 0) rfl 0 (fun _ => .null)
  have hcellT : T.heap[g.2.1 + a]? = some (arrV (g.2.2.2.2 .int) n (fun j => .int (f j))) := by rw [hT]; exact hcell
  obtain ⟨vm', X', stp⟩ := X.cloneArray F.1 F.2.2.2.2.2.1 (hts _ hl.1) (hts _ hl.2.1) (hts _ hl.2.2.1) (hts _ hl.2.2.2.1) (hts _ hl.2.2.2.2) (a := g.2.1 + a) (cell := arrV (g.2.2.2.2 .int) n (fun j => .int (f j))) hcellT (fun k h => by cases h) (fun h => by cases h) hnm f2 f3
    (fun i v hv => by
      have hk' : T.vm.classes[g.2.2.2.2 .int]? = some kA := hkA
      have := va_fit (ty := .int) (fun i _ => rfl) i v hv
      simpa [arrV, State.fitsSlot, State.slotType?, hk', hkind] using this)
    (g := F0 m pc ls (.ref (g.2.1 + a) :: st.map (m_sv g.2.1))) rfl (hlo.1.trans F.2.2.1.symm) rfl (by rw [F.2.1]; exact hd) (by rw [hR]; exact hrk) (by rw [hR]; show 2 * 0 + _ + 14 ≤ 40 * _; omega) (by rw [hR]; exact hu.1) (by rw [arrV_size, hR]; exact hu.2) (hloader := Vm.clonesLoader_of_array hkS hkindS)
  rw [arrV_size] at X'
  have z1 : (H.push (arrV (g.2.2.2.2 .int) n (fun j => .int (f j)))).size = H.size + 1 := by rw [Array.size_push]
  have o1 : ∀ q : Nat, q < H.size → (H.push (arrV (g.2.2.2.2 .int) n (fun j => .int (f j))))[q]? = H[q]? := fun q hq => by rw [Array.getElem?_push, if_neg (Nat.ne_of_lt hq)]
  obtain ⟨t, b1, b2⟩ := k p e R s m args below meth c F C ls _ locs hlo (m_P_push hP (by show (H.push (arrV (g.2.2.2.2 .int) n (fun j => .int (f j))))[g.2.1 + h.1]? = some (vp_cell _ (n, .inl f)); rw [vp_cell_i, ← hP.2, Array.getElem?_push_size]) z1 o1) (m_S_push hS z1 o1)
    ((T.setVm vm').pushCell (arrV (g.2.2.2.2 .int) n (fun j => .int (f j)))) (by rw [← hT]; rfl) X'
  refine ⟨t, stp t ?_, b2⟩
  rw [hT, hP.2]
  exact b1
theorem ok_castI {a n idx : Nat} {f : Nat → Int32} (hd : decode M.2.1 pc = .ok (.checkcast idx, 3)) (hl : Cond.classLink M.1.cls idx "[I" ∈ m_tb) (hh : hc h a = some (.inl (.int, n, .inl f))) (k : Ok g M J (pc + 3) L (.ref a :: st) h uc us) : Ok g M J pc L (.ref a :: st) h uc us := by
  intro p e R s m args below meth c F C ls H locs hlo hP hS
  exact va_castA F.1 F.2.1 F.2.2.2.2.2.1 (F.2.2.2.2.2.2.1 _ hl) hP.1 a (m_W_get hh) (m_nmA F.2.2.2.2.2.2.2.2.2.1 (t := 0) rfl) hd (k p e R s m args below meth c F C ls H locs hlo hP hS)
/-! the law's script -/
theorem ok_sald {b Ls : Nat} {xs : Nat → Int32} {i : Int32} (hd : decode M.2.1 pc = .ok (.iaload, 1)) (hJ : ∀ args s, J.1 args s → va_X b Ls xs s s.heap ∧ b < g.2.1) (hi : vp_in i Ls) (k : Ok g M J (pc + 1) L (.int (xs i.toNatClampNeg) :: st) h uc us) : Ok g M J pc L (.int i :: .retAddr b :: st) h uc us := by
  intro p e R s m args below meth c F C ls H locs hlo hP hS
  obtain ⟨hX, hb⟩ := hJ args s C
  exact va_sld F.1 F.2.1 hX (Nat.lt_of_lt_of_le hb F.2.2.2.2.2.2.2.2.2.2.1) (Nat.not_le.mpr hb) hS hi hd (k p e R s m args below meth c F C ls H locs hlo hP hS)
theorem ok_slen {b Ls : Nat} {xs : Nat → Int32} (hd : decode M.2.1 pc = .ok (.arraylength, 1)) (hJ : ∀ args s, J.1 args s → va_X b Ls xs s s.heap ∧ b < g.2.1) (k : Ok g M J (pc + 1) L (.int (nI Ls) :: st) h uc us) : Ok g M J pc L (.retAddr b :: st) h uc us := by
  intro p e R s m args below meth c F C ls H locs hlo hP hS
  obtain ⟨hX, hb⟩ := hJ args s C
  exact va_slen F.1 F.2.1 hX (Nat.lt_of_lt_of_le hb F.2.2.2.2.2.2.2.2.2.2.1) (Nat.not_le.mpr hb) hS hd (k p e R s m args below meth c F C ls H locs hlo hP hS)
end MACH4
