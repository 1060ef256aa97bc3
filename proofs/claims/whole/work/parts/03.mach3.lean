/-! ===== the machine seen from above: new cells, calls, ends ===== -/
def m_push : Option Value → List Value → List Value
  | none, st => st
  | some v, st => v :: st
theorem m_push_sv (b : Nat) (v : Option Value) (st : List Value) : (v.map (m_sv b)).toList ++ st.map (m_sv b) = (m_push v st).map (m_sv b) := by cases v <;> rfl
def m_sl (av : List Value) : List (Option Value) := av.flatMap fun v => if v.category = 2 then [some v, none] else [some v]
def m_ent (n : Nat) (av : List Value) : List (Option Value) := m_sl av ++ List.replicate (n - (m_sl av).length) none
theorem m_at_app : ∀ (a b : List (Option Value)) (i : Nat) (v : Value), m_at (a ++ b) i = some v → m_at a i = some v ∨ ∃ j, m_at b j = some v
  | [], b, i, v, h => Or.inr ⟨i, h⟩
  | x :: t, b, 0, v, h => Or.inl h
  | x :: t, b, i + 1, v, h => m_at_app t b i v h
theorem m_at_rep : ∀ (n j : Nat) (v : Value), m_at (List.replicate n none) j = some v → False
  | 0, j, v, h => by cases h
  | n + 1, 0, v, h => by cases h
  | n + 1, j + 1, v, h => m_at_rep n j v h
theorem m_sl_at (b : Nat) : ∀ (av : List Value) (i0 i : Nat) (v : Value), m_at (m_sl av) i = some v → (i0 + i, m_sv b v) ∈ lv_args i0 (av.map (m_sv b))
  | [], i0, i, v, h => by cases h
  | x :: t, i0, i, v, h => by
    have e : m_sl (x :: t) = (if x.category = 2 then [some x, none] else [some x]) ++ m_sl t := by simp [m_sl]
    rw [e] at h
    by_cases c : x.category = 2
    · rw [if_pos c] at h
      simp only [List.map_cons, lv_args, m_sv_cat, c, if_true]
      match i, h with
      | 0, h => cases h; exact List.mem_cons_self
      | 1, h => cases h
      | i + 2, h =>
        refine List.mem_cons_of_mem _ ?_
        have := m_sl_at b t (i0 + 2) i v h
        rw [show i0 + (i + 2) = i0 + 2 + i by omega]
        exact this
    · rw [if_neg c] at h
      simp only [List.map_cons, lv_args, m_sv_cat, c, if_false]
      match i, h with
      | 0, h => cases h; exact List.mem_cons_self
      | i + 1, h =>
        refine List.mem_cons_of_mem _ ?_
        have := m_sl_at b t (i0 + 1) i v h
        rw [show i0 + (i + 1) = i0 + 1 + i by omega]
        exact this
theorem m_ent_L {b : Nat} {ls : Array Slot} {n : Nat} {av : List Value} (h : lv_has ls n (lv_args 0 (av.map (m_sv b)))) : m_L b ls n (m_ent n av) := by
  refine ⟨h.1, h.2.1, fun i v hv => ?_⟩
  rcases m_at_app _ _ i v hv with h1 | ⟨j, h1⟩
  · have := m_sl_at b av 0 i v h1
    rw [Nat.zero_add] at this
    exact h.2.2 _ this
  · exact (m_at_rep _ _ _ h1).elim
theorem m_good : ∀ w ∈ m_tb, (w.onTables && w.keeps) = true ∨ ∃ ty, w = .arrayClass ty := fun w hw => good_of_word (List.mem_filter.mp hw).2
def m_ws (N : mM) : List Cond := Cond.code N.1 N.2.1 N.2.2.1 N.2.2.2.1 :: m_tb
def m_cd (N : mM) (n : Nat) : Prop := Cond.initialized N.1.cls ∈ m_tb ∧ Cond.code N.1 N.2.1 N.2.2.1 N.2.2.2.1 ∈ m_tb ∧ plainName N.1.cls = true ∧ (N.1.cls ≠ "java/lang/invoke/MethodHandle" ∧ N.1.cls ≠ "java/lang/invoke/VarHandle" ∧ (parseMethodDescriptor N.1.desc).map (fun d => d.parameters.length) = some n) ∧ N.2.2.1 ≤ 21
theorem m_gd {N : mM} {n : Nat} (hN : m_cd N n) : GoodIn m_tb (m_ws N) := by
  intro w hw
  rcases List.mem_cons.mp hw with rfl | hw
  · exact ⟨hN.2.1, m_good _ hN.2.1⟩
  · exact ⟨hw, m_good _ hw⟩
def m_B (g : mG) (h : mH) (U : State) : Prop := m_P g h U.heap ∧ va_K (m_D g) m_cl (m_tys g) U ∧ g.2.1 ≤ U.heap.size ∧ m_X U
theorem Ok.met {g : mG} {N : mM} {av : List Value} {h : mH} {Q : Option Value → mH → Prop} (hp : plainName N.1.cls = true) (hlen : (lg_sl (av.map (m_sv g.2.1))).length ≤ N.2.2.1) (hk : Ok g N (m_J g N Q) 0 (m_ent N.2.2.1 av) [] h 0 0) :
    Met g.1 N.1 (m_ws N) (m_R N) (va_Pc (av.map (m_sv g.2.1)) (m_B g h)) (m_Q g Q) N.2.2.2.2.2.1 N.2.2.2.2.2.2 (m_A g) := by
  refine Met.ofW (cc := N.2.1) (maxL := N.2.2.1) (ret := N.2.2.2.1) hp rfl ?_
  intro p e s m args below meth c s₁ B hml hv
  obtain ⟨rfl, hP, hK, hsz, hXx⟩ := hv
  have hts := atoms_spec (ws := m_ws N) B.pre
  have F : m_Fx g N p (m_R N) s m (av.map (m_sv g.2.1)).toArray meth c := ⟨B.exec, B.bytes, hml, B.returns, B.notSynchronized, findClass_of_methodNamed B.named, fun w hw => hts w (List.mem_cons_of_mem _ hw), fun hi => by rw [(name_of_methodNamed B.named B.method).1]; exact hi, rfl, hK, hsz, hXx⟩
  have hl := lv_entry (av.map (m_sv g.2.1)) hlen
  rw [lg_entry_eq]
  exact hk p e _ s m _ below meth c F trivial _ s.heap [] (m_ent_L hl) hP va_S.rf
theorem m_slen (b : Nat) (av : List Value) : (lg_sl (av.map (m_sv b))).length = (m_sl av).length := by
  induction av with
  | nil => rfl
  | cons x t ih =>
    have e1 : m_sl (x :: t) = (if x.category = 2 then [some x, none] else [some x]) ++ m_sl t := by simp [m_sl]
    have e2 : lg_sl ((x :: t).map (m_sv b)) = (if x.category = 2 then [.val (m_sv b x), .second] else [.val (m_sv b x)]) ++ lg_sl (t.map (m_sv b)) := by simp [lg_sl, m_sv_cat]
    rw [e1, e2, List.length_append, List.length_append, ih]
    by_cases c : x.category = 2 <;> simp [c]
section MACH3
variable {g : mG} {M : mM} {J : mJ} {pc : Nat} {L L' : List (Option Value)} {st : List Value} {h : mH} {uc us : Nat}
theorem m_go {p : Program} {e : Env} {R : Room} {s : State} {m : MethodId} {args a : Array Value} {below : List Frame} {meth : Method} {c : Code} {H : Heap} {locs : List Loc} {mc ms : Nat} {ls : Array Slot} {st0 rest : List Value} {Q : Option Value → mH → Prop} {Z : State → Prop}
    (hr : va_Run p g.1 e R s m args below meth c H locs uc us mc ms (F0 m pc ls st0) rest (m_Q g Q a) (m_A g)) (hS : va_S (m_A g) s.heap H locs)
    (kk : ∀ (v : Option Value) (h' : mH) (H1 : Heap) (locs1 : List Loc), Q v h' → m_P g h' H1 → va_S (m_A g) s.heap H1 locs1 → W p g.1 e R s m args below meth c H1 locs1 (uc + mc) (us + ms) Z (F0 m (pc + 3) ls ((v.map (m_sv g.2.1)).toList ++ rest))) : W p g.1 e R s m args below meth c H locs uc us Z (F0 m pc ls st0) := by
  intro T hT X
  obtain ⟨v, st₀, t, T', L, h0, X', hL, e1, e2, ⟨v', h', hv, hQ, hP, hz, hk⟩, stp⟩ := hr T hT X
  cases hv
  rw [h0] at hz hk
  obtain ⟨t2, a1, b1⟩ := kk v' h' T'.heap (locs ++ L) hQ (by rw [e1]; exact hP) ⟨Nat.le_trans hS.1 (by rw [e1]; exact hz), fun q h1 h2 => by rw [e1, hk q (Nat.lt_of_lt_of_le h1 hS.1) h2]; exact hS.2.1 q h1 h2, fun q hq => by
      rcases List.mem_append.mp hq with h | h
      · exact hS.2.2 q h
      · exact hL q h⟩ T' rfl X'
  exact ⟨t2, stp t2 a1, b1⟩
theorem m_blind (av : List Value) : FrameBlind (va_Pc (av.map (m_sv g.2.1)) (m_B g h)) := fun a U f mk q => ⟨q.1, q.2.1, va_K.moved (u := U) (U := U.calling f mk a) (Vm.Alike.refl U.vm) q.2.2.1, q.2.2.2.1, m_X.same (s := U) rfl q.2.2.2.2⟩
theorem m_startB {s : State} {H : Heap} {locs : List Loc} (hP : m_P g h H) (hK : va_K (m_D g) m_cl (m_tys g) s) (hsz : g.2.1 ≤ s.heap.size) (hXx : m_X s) (hS : va_S (m_A g) s.heap H locs) (U : State) (hU : U.heap = H) (hW : s.WarmedH U.vm) : m_B g h U :=
  ⟨by rw [hU]; exact hP, va_K.moved hW.alike hK, by rw [hU]; exact Nat.le_trans hsz hS.1, hXx.warm hW⟩
def m_lkV (own : String) (idx : Nat) (N : mM) : Prop := Cond.methodLink own idx N.1 ∈ m_tb ∧ Cond.instanceMethod N.1 ∈ m_tb ∧ Cond.selects N.1.cls N.1 N.1 ∈ m_tb
def m_lkS (own : String) (idx : Nat) (N : mM) : Prop := Cond.methodLink own idx N.1 ∈ m_tb ∧ Cond.static N.1 ∈ m_tb
def m_lkI (own : String) (idx : Nat) (N : mM) : Prop := Cond.methodLink own idx N.1 ∈ m_tb ∧ Cond.instanceMethod N.1 ∈ m_tb ∧ N.1.name = "<init>"
def m_lkN (own : String) (idx : Nat) (N : mM) : Prop := (∃ host, ∀ U, m_X U → va_Nw (.methodLinkNest own idx N.1 host) U) ∧ Cond.instanceMethod N.1 ∈ m_tb ∧ N.1.name = "<init>"
/-- the callee's room within the caller's -/
def m_fit (M N : mM) (uc us : Nat) : Prop := N.2.2.2.2.1 + 1 ≤ M.2.2.2.2.1 ∧ uc + N.2.2.2.2.2.1 ≤ M.2.2.2.2.2.1 ∧ us + N.2.2.2.2.2.2 ≤ M.2.2.2.2.2.2
theorem m_callB {p : Program} {R : Room} {s : State} {m : MethodId} {args : Array Value} {meth : Method} {c : Code} {N : mM} {n idx : Nat} (F : m_Fx g M p R s m args meth c) (hN : m_cd N n) (hfit : m_fit M N uc us) (hl : Cond.methodLink M.1.cls idx N.1 ∈ m_tb) :
    CallB R s args M.1.cls idx N.1 N.2.1 N.2.2.1 N.2.2.2.1 (m_ws N) (m_R N) N.2.2.2.2.2.1 N.2.2.2.2.2.2 n := by
  have hR : R = m_R M := F.2.2.2.2.2.2.2.2.1
  have h1 := hfit.1
  have h2 := hN.2.2.2.2
  exact callB_of n F.2.2.2.2.2.2.1 (m_gd hN) rfl rfl rfl (F.2.2.2.2.2.2.1 _ hN.1) (F.2.2.2.2.2.2.1 _ hl) hN.2.2.2.1 ⟨by rw [hR]; exact h1, by rw [hR]; show 8 + (N.2.2.1 + 11) + 40 * N.2.2.2.2.1 ≤ 40 * M.2.2.2.2.1; omega⟩
theorem m_fits {p : Program} {R : Room} {s : State} {m : MethodId} {args : Array Value} {meth : Method} {c : Code} {N : mM} (F : m_Fx g M p R s m args meth c) (hfit : m_fit M N uc us) : uc + N.2.2.2.2.2.1 ≤ R.cells ∧ us + N.2.2.2.2.2.2 ≤ R.slots := by
  have hR : R = m_R M := F.2.2.2.2.2.2.2.2.1
  rw [hR]
  exact hfit.2
theorem m_room (b : Nat) {m : MethodId} {ls : Array Slot} {st0 : List Value} (hw : (st.map fun v => v.category).sum ≤ 8) : 2 * (F0 m pc ls st0).monitorRoom + ((st.map (m_sv b)).map fun v => v.category).sum ≤ 8 := by
  refine lv_room ?_
  rw [List.map_map]
  have : ((fun v : Value => v.category) ∘ m_sv b) = fun v => v.category := by funext v; exact m_sv_cat b v
  rw [this]
  exact hw
theorem ok_callV {N : mM} {a ci n idx : Nat} {fs av : List Value} {r : vw_C} {L0 : List (Option Value)} (hd : decode M.2.1 pc = .ok (.invokevirtual idx, 3)) (hl : m_lkV M.1.cls idx N) (hN : m_cd N n) (hfit : m_fit M N uc us) (hh : hc h a = some (.inr (ci, fs))) (hr : m_cl[ci]? = some r) (hrn : r.1 = N.1.cls) (hn : av.length = n) (hw : (st.map fun v => v.category).sum ≤ 8) (hle : (m_sl (.ref a :: av)).length ≤ N.2.2.1) (hL0 : m_ent N.2.2.1 (.ref a :: av) = L0)
    (k : Ok g N (m_J g N (fun v h' => Ok g M J (pc + 3) L (m_push v st) h' (uc + N.2.2.2.2.2.1) (us + N.2.2.2.2.2.2))) 0 L0 [] h 0 0) : Ok g M J pc L (av.reverse ++ .ref a :: st) h uc us := by
  intro p e R s m args below meth c F C ls H locs hlo hP hS
  subst hL0
  have hts := F.2.2.2.2.2.2.1
  have hK := F.2.2.2.2.2.2.2.2.2.1
  have hM := Ok.met hN.2.2.1 (by rw [m_slen]; exact hle) k
  refine m_go (va_runV (As := av.map (m_sv g.2.1)) (rest := st.map (m_sv g.2.1)) (nL := M.2.2.1) (C := N.1.cls) (b := g.2.1 + a) ⟨F.1, F.2.1, F.2.2.1, F.2.2.2.2.2.1, hts⟩ hM ⟨m_callB F hN hfit hl.1, hts _ hl.2.1, hts _ hl.2.2⟩ ⟨m_blind (.ref a :: av), ?_, fun U hU hW => ⟨rfl, m_startB hP hK F.2.2.2.2.2.2.2.2.2.2.1 F.2.2.2.2.2.2.2.2.2.2.2 hS U hU hW⟩⟩ rfl (by rw [List.length_map]; exact hn) hlo.1 (by simp [m_sv]) (m_room _ hw) hd (m_fits F hfit)) hS ?_
  · rw [← hrn]
    exact va_recv hK hP.1 hr (m_W_get hh)
  · intro v h' H1 locs1 hQ hP1 hS1
    rw [m_push_sv]
    exact hQ p e R s m args below meth c F C ls H1 locs1 hlo hP1 hS1
theorem ok_callS {N : mM} {n idx : Nat} {av : List Value} {L0 : List (Option Value)} (hd : decode M.2.1 pc = .ok (.invokestatic idx, 3)) (hl : m_lkS M.1.cls idx N) (hN : m_cd N n) (hfit : m_fit M N uc us) (hn : av.length = n) (hw : (st.map fun v => v.category).sum ≤ 8) (hle : (m_sl av).length ≤ N.2.2.1) (hL0 : m_ent N.2.2.1 av = L0)
    (k : Ok g N (m_J g N (fun v h' => Ok g M J (pc + 3) L (m_push v st) h' (uc + N.2.2.2.2.2.1) (us + N.2.2.2.2.2.2))) 0 L0 [] h 0 0) : Ok g M J pc L (av.reverse ++ st) h uc us := by
  intro p e R s m args below meth c F C ls H locs hlo hP hS
  subst hL0
  have hts := F.2.2.2.2.2.2.1
  have hK := F.2.2.2.2.2.2.2.2.2.1
  have hM := Ok.met hN.2.2.1 (by rw [m_slen]; exact hle) k
  refine m_go (va_runS (As := av.map (m_sv g.2.1)) (rest := st.map (m_sv g.2.1)) (nL := M.2.2.1) ⟨F.1, F.2.1, F.2.2.1, F.2.2.2.2.2.1, hts⟩ hM ⟨m_callB F hN hfit hl.1, hts _ hl.2⟩ ⟨m_blind av, fun U hU hW => ⟨rfl, m_startB hP hK F.2.2.2.2.2.2.2.2.2.2.1 F.2.2.2.2.2.2.2.2.2.2.2 hS U hU hW⟩⟩ rfl (by rw [List.length_map]; exact hn) hlo.1 (by simp) (m_room _ hw) hd (m_fits F hfit)) hS ?_
  intro v h' H1 locs1 hQ hP1 hS1
  rw [m_push_sv]
  exact hQ p e R s m args below meth c F C ls H1 locs1 hlo hP1 hS1
theorem ok_callI {N : mM} {a n idx : Nat} {av : List Value} {L0 : List (Option Value)} (hd : decode M.2.1 pc = .ok (.invokespecial idx, 3)) (hl : m_lkI M.1.cls idx N) (hN : m_cd N n) (hret : N.2.2.2.1 = none) (hfit : m_fit M N uc us) (hn : av.length = n) (hw : (st.map fun v => v.category).sum ≤ 8) (hle : (m_sl (.ref a :: av)).length ≤ N.2.2.1) (hL0 : m_ent N.2.2.1 (.ref a :: av) = L0)
    (k : Ok g N (m_J g N (fun v h' => Ok g M J (pc + 3) L (m_push v st) h' (uc + N.2.2.2.2.2.1) (us + N.2.2.2.2.2.2))) 0 L0 [] h 0 0) : Ok g M J pc L (av.reverse ++ .ref a :: st) h uc us := by
  intro p e R s m args below meth c F C ls H locs hlo hP hS
  subst hL0
  have hts := F.2.2.2.2.2.2.1
  have hK := F.2.2.2.2.2.2.2.2.2.1
  have hM := Ok.met hN.2.2.1 (by rw [m_slen]; exact hle) k
  have hB := m_callB F hN hfit hl.1
  rw [hret] at hB
  refine m_go (va_runI (As := av.map (m_sv g.2.1)) (rest := st.map (m_sv g.2.1)) (nL := M.2.2.1) (b := g.2.1 + a) ⟨F.1, F.2.1, F.2.2.1, F.2.2.2.2.2.1, hts⟩ hM ⟨hB, hl.2.2, hts _ hl.2.1⟩ ⟨m_blind (.ref a :: av), fun U hU hW => ⟨rfl, m_startB hP hK F.2.2.2.2.2.2.2.2.2.2.1 F.2.2.2.2.2.2.2.2.2.2.2 hS U hU hW⟩⟩ rfl (by rw [List.length_map]; exact hn) hlo.1 (by simp [m_sv]) (m_room _ hw) hd (m_fits F hfit)) hS ?_
  intro v h' H1 locs1 hQ hP1 hS1
  rw [m_push_sv]
  exact hQ p e R s m args below meth c F C ls H1 locs1 hlo hP1 hS1
theorem ok_callN {N : mM} {a n idx : Nat} {av : List Value} {L0 : List (Option Value)} (hd : decode M.2.1 pc = .ok (.invokespecial idx, 3)) (hl : m_lkN M.1.cls idx N) (hN : m_cd N n) (hret : N.2.2.2.1 = none) (hfit : m_fit M N uc us) (hn : av.length = n) (hw : (st.map fun v => v.category).sum ≤ 8) (hle : (m_sl (.ref a :: av)).length ≤ N.2.2.1) (hL0 : m_ent N.2.2.1 (.ref a :: av) = L0)
    (k : Ok g N (m_J g N (fun v h' => Ok g M J (pc + 3) L (m_push v st) h' (uc + N.2.2.2.2.2.1) (us + N.2.2.2.2.2.2))) 0 L0 [] h 0 0) : Ok g M J pc L (av.reverse ++ .ref a :: st) h uc us := by
  intro p e R s m args below meth c F C ls H locs hlo hP hS
  subst hL0
  have hts := F.2.2.2.2.2.2.1
  have hK := F.2.2.2.2.2.2.2.2.2.1
  have hM := Ok.met hN.2.2.1 (by rw [m_slen]; exact hle) k
  obtain ⟨⟨host, hl1⟩, hl2, hl3⟩ := hl
  have hR : R = m_R M := F.2.2.2.2.2.2.2.2.1
  have q1 := hfit.1
  have q2 := hN.2.2.2.2
  have hB : va_CN R s args M.1.cls idx N.1 host N.2.1 N.2.2.1 N.2.2.2.1 (m_ws N) (m_R N) N.2.2.2.2.2.1 N.2.2.2.2.2.2 n := va_cnB n hts (m_gd hN) rfl rfl rfl (hl1 s F.2.2.2.2.2.2.2.2.2.2.2) (hts _ hN.1) hN.2.2.2.1 ⟨by rw [hR]; exact q1, by rw [hR]; show 8 + (N.2.2.1 + 11) + 40 * N.2.2.2.2.1 ≤ 40 * M.2.2.2.2.1; omega⟩
  rw [hret] at hB
  refine m_go (va_runIN (As := av.map (m_sv g.2.1)) (rest := st.map (m_sv g.2.1)) (nL := M.2.2.1) (b := g.2.1 + a) ⟨F.1, F.2.1, F.2.2.1, F.2.2.2.2.2.1, hts⟩ hM ⟨hB, hl3, hts _ hl2⟩ ⟨m_blind (.ref a :: av), fun U hU hW => ⟨rfl, m_startB hP hK F.2.2.2.2.2.2.2.2.2.2.1 F.2.2.2.2.2.2.2.2.2.2.2 hS U hU hW⟩⟩ rfl (by rw [List.length_map]; exact hn) hlo.1 (by simp [m_sv]) (m_room _ hw) hd (m_fits F hfit)) hS ?_
  intro v h' H1 locs1 hQ hP1 hS1
  rw [m_push_sv]
  exact hQ p e R s m args below meth c F C ls H1 locs1 hlo hP1 hS1
/-! ends -/
theorem ok_iret {Q : Option Value → mH → Prop} {v : Int32} {ty : FieldType} (hd : decode M.2.1 pc = .ok (.ireturn, 1)) (hr : M.2.2.2.1 = some ty) (hn : narrow ty (.int v) = .int v) (hu : uc ≤ M.2.2.2.2.2.1 ∧ us ≤ M.2.2.2.2.2.2) (hq : Q (some (.int v)) h) : Ok g M (m_J g M Q) pc L [.int v] h uc us := by
  intro p e R s m args below meth c F C ls H locs hl hP hS
  refine W.widen hu.1 hu.2 ?_
  exact W.zret F.1 F.2.1 (F.2.2.2.1.trans hr) hn (fun t ht hW => ⟨some (.int v), h, rfl, hq, by rw [ht]; exact hP, hS.F ht⟩) hS.2.2 hd F.2.2.2.2.1
theorem ok_lret {Q : Option Value → mH → Prop} {v : Int64} (hd : decode M.2.1 pc = .ok (.lreturn, 1)) (hr : M.2.2.2.1 = some .long) (hu : uc ≤ M.2.2.2.2.2.1 ∧ us ≤ M.2.2.2.2.2.2) (hq : Q (some (.long v)) h) : Ok g M (m_J g M Q) pc L [.long v] h uc us := by
  intro p e R s m args below meth c F C ls H locs hl hP hS
  refine W.widen hu.1 hu.2 ?_
  exact W.lret F.1 F.2.1 (F.2.2.2.1.trans hr) (fun t ht hW => ⟨some (.long v), h, rfl, hq, by rw [ht]; exact hP, hS.F ht⟩) hS.2.2 hd F.2.2.2.2.1
theorem ok_vret {Q : Option Value → mH → Prop} (hd : decode M.2.1 pc = .ok (.return_, 1)) (hr : M.2.2.2.1 = none) (hu : uc ≤ M.2.2.2.2.2.1 ∧ us ≤ M.2.2.2.2.2.2) (hq : Q none h) : Ok g M (m_J g M Q) pc L [] h uc us := by
  intro p e R s m args below meth c F C ls H locs hl hP hS
  refine W.widen hu.1 hu.2 ?_
  exact W.vret F.1 F.2.1 (F.2.2.2.1.trans hr) (fun t ht hW => ⟨none, h, rfl, hq, by rw [ht]; exact hP, hS.F ht⟩) hS.2.2 hd F.2.2.2.2.1
theorem ok_aret {Q : Option Value → mH → Prop} {v : Value} {C0 : String} (hd : decode M.2.1 pc = .ok (.areturn, 1)) (hr : M.2.2.2.1 = some (.object C0)) (ha : m_isA v = true) (hu : uc ≤ M.2.2.2.2.2.1 ∧ us ≤ M.2.2.2.2.2.2) (hq : Q (some v) h) : Ok g M (m_J g M Q) pc L [v] h uc us := by
  intro p e R s m args below meth c F C ls H locs hl hP hS
  refine W.widen hu.1 hu.2 ?_
  have hv : m_sv g.2.1 v = .null ∨ ∃ a, m_sv g.2.1 v = .ref a := by
    cases v with
    | ref a => exact Or.inr ⟨_, rfl⟩
    | null => exact Or.inl rfl
    | retAddr a => exact Or.inr ⟨_, rfl⟩
    | int x => cases ha
    | long x => cases ha
    | float x => cases ha
    | double x => cases ha
  exact W.aret F.1 F.2.1 (F.2.2.2.1.trans hr) (Or.inl ⟨C0, rfl⟩) hv (fun t ht hW => ⟨some v, h, rfl, hq, by rw [ht]; exact hP, hS.F ht⟩) hS.2.2 hd F.2.2.2.2.1
/-! Object's constructor, Math -/
theorem ok_obj {a idx : Nat} (hd : decode M.2.1 pc = .ok (.invokespecial idx, 3)) (hl : Cond.methodLink M.1.cls idx Lib.objectInit ∈ m_tb ∧ Cond.instanceMethod Lib.objectInit ∈ m_tb ∧ Cond.code Lib.objectInit ⟨#[0xb1]⟩ 1 none ∈ m_tb) (hrk : 1 ≤ M.2.2.2.2.1) (hw : (st.map fun v => v.category).sum ≤ 8) (k : Ok g M J (pc + 3) L st h uc us) : Ok g M J pc L (.ref a :: st) h uc us := by
  intro p e R s m args below meth c F C ls H locs hlo hP hS
  have hR : R = m_R M := F.2.2.2.2.2.2.2.2.1
  have hts := F.2.2.2.2.2.2.1
  have hw2 := m_room (st := st) (pc := pc) (m := m) (ls := ls) (st0 := st) g.2.1 hw
  exact W.objInit F.1 F.2.1 F.2.2.2.2.2.1 (hts _ hl.1) (hts _ hl.2.1) (hts _ hl.2.2) rfl (hlo.1.trans F.2.2.1.symm) (a := g.2.1 + a) (rest := st.map (m_sv g.2.1)) rfl hd (by rw [hR]; exact hrk) (by rw [hR]; show 2 * (F0 m pc ls _).monitorRoom + _ + 12 ≤ 40 * _; have : 2 * (F0 m pc ls ((Value.ref a :: st).map (m_sv g.2.1))).monitorRoom = 0 := rfl; have e2 : 2 * (F0 m pc ls st).monitorRoom = 0 := rfl; omega) (k p e R s m args below meth c F C ls H locs hlo hP hS)
theorem ok_max {idx : Nat} {x y : Int32} (hd : decode M.2.1 pc = .ok (.invokestatic idx, 3)) (hl : Cond.methodLink M.1.cls idx Lib.Math.max.name ∈ m_tb ∧ Cond.static Lib.Math.max.name ∈ m_tb ∧ Cond.initialized "java/lang/Math" ∈ m_tb ∧ Cond.code Lib.Math.max.name Lib.Math.max.code 2 (some .int) ∈ m_tb) (hrk : 1 ≤ M.2.2.2.2.1) (hu : uc ≤ M.2.2.2.2.2.1 ∧ us ≤ M.2.2.2.2.2.2) (hw : (st.map fun v => v.category).sum ≤ 8) (k : Ok g M J (pc + 3) L (.int (if x < y then y else x) :: st) h uc us) : Ok g M J pc L (.int y :: .int x :: st) h uc us := by
  intro p e R s m args below meth c F C ls H locs hlo hP hS
  have hR : R = m_R M := F.2.2.2.2.2.2.2.2.1
  have hts := F.2.2.2.2.2.2.1
  have hw2 := m_room (st := st) (pc := pc) (m := m) (ls := ls) (st0 := st) g.2.1 hw
  have e2 : 2 * (F0 m pc ls st).monitorRoom = 0 := rfl
  exact va_mmax F.1 F.2.1 (F.2.2.1.trans hlo.1.symm) F.2.2.2.2.2.1 (hts _ hl.1) (hts _ hl.2.1) (hts _ hl.2.2.1) (hts _ hl.2.2.2) (by rw [hR]; exact hrk) (by rw [hR]; show _ ≤ 40 * _; omega) (by rw [hR]; exact hu.1) (by rw [hR]; exact hu.2) hd (k p e R s m args below meth c F C ls H locs hlo hP hS)
theorem ok_min {idx : Nat} {x y : Int32} (hd : decode M.2.1 pc = .ok (.invokestatic idx, 3)) (hl : Cond.methodLink M.1.cls idx Lib.Math.min.name ∈ m_tb ∧ Cond.static Lib.Math.min.name ∈ m_tb ∧ Cond.initialized "java/lang/Math" ∈ m_tb ∧ Cond.code Lib.Math.min.name Lib.Math.min.code 2 (some .int) ∈ m_tb) (hrk : 1 ≤ M.2.2.2.2.1) (hu : uc ≤ M.2.2.2.2.2.1 ∧ us ≤ M.2.2.2.2.2.2) (hw : (st.map fun v => v.category).sum ≤ 8) (k : Ok g M J (pc + 3) L (.int (if y < x then y else x) :: st) h uc us) : Ok g M J pc L (.int y :: .int x :: st) h uc us := by
  intro p e R s m args below meth c F C ls H locs hlo hP hS
  have hR : R = m_R M := F.2.2.2.2.2.2.2.2.1
  have hts := F.2.2.2.2.2.2.1
  have hw2 := m_room (st := st) (pc := pc) (m := m) (ls := ls) (st0 := st) g.2.1 hw
  have e2 : 2 * (F0 m pc ls st).monitorRoom = 0 := rfl
  exact va_mmin F.1 F.2.1 (F.2.2.1.trans hlo.1.symm) F.2.2.2.2.2.1 (hts _ hl.1) (hts _ hl.2.1) (hts _ hl.2.2.1) (hts _ hl.2.2.2) (by rw [hR]; exact hrk) (by rw [hR]; show _ ≤ 40 * _; omega) (by rw [hR]; exact hu.1) (by rw [hR]; exact hu.2) hd (k p e R s m args below meth c F C ls H locs hlo hP hS)
end MACH3
