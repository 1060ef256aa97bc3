/-! ===== the machine seen from above: addresses count from the law's entry, cells are told by what they hold ===== -/
abbrev mG : Type := Launch × Nat × (Nat → ClassId) × (Nat → Nat → Nat) × (FieldType → ClassId)
abbrev mE : Type := (FieldType × vp_A) ⊕ (Nat × List Value)
abbrev mH : Type := Nat × (Nat → mE)
abbrev mJ : Type := (Array Value → State → Prop) × (List Frame → Array Value → State → State → Prop)
/-- a value as the machine has it: references are moved by b; .retAddr a stands for the very address a -/
def m_sv (b : Nat) (v : Value) : Value := match v with
  | .ref a => .ref (b + a)
  | .int x => .int x
  | .long x => .long x
  | .float x => .float x
  | .double x => .double x
  | .null => .null
  | .retAddr x => .ref x
theorem m_sv_cat (b : Nat) (v : Value) : (m_sv b v).category = v.category := by cases v <;> rfl
def m_sA (b : Nat) (a : vp_A) : vp_A := match a.2 with
  | .inl f => (a.1, .inl f)
  | .inr (.inl f) => (a.1, .inr (.inl f))
  | .inr (.inr (.inl f)) => (a.1, .inr (.inr (.inl f)))
  | .inr (.inr (.inr (.inl f))) => (a.1, .inr (.inr (.inr (.inl f))))
  | .inr (.inr (.inr (.inr f))) => (a.1, .inr (.inr (.inr (.inr (fun j => (f j).map (fun q => b + q))))))
theorem m_sA_1 (b : Nat) (a : vp_A) : (m_sA b a).1 = a.1 := by
  obtain ⟨n, f | f | f | f | f⟩ := a <;> rfl
def m_sE (g : mG) (x : mE) : va_E := match x with
  | .inl a => .inl (g.2.2.2.2 a.1, m_sA g.2.1 a.2)
  | .inr o => .inr (o.1, o.2.map (m_sv g.2.1))
def m_W (g : mG) (h : mH) : va_W := (List.range h.1).map (fun k => (g.2.1 + k, m_sE g (h.2 k)))
def m_D (g : mG) : va_G := (g.2.2.1, g.2.2.2.1)
def m_cl : List vw_C := [(RX0, TX0, 11), (RX1, TX1, 1), (RX2, TX2, 8), (RX3, TX3, 3), (RX4, TX4, 11), (RX5, TX5, 24)]
def m_ty5 : List FieldType := [.int, .long, .boolean, .object RX3, .object RX0]
def m_tys (g : mG) : List (ClassId × FieldType) := m_ty5.map (fun ty => (g.2.2.2.2 ty, ty))
def m_A (g : mG) : Nat → Prop := fun q => g.2.1 ≤ q
def m_P (g : mG) (h : mH) (H : Heap) : Prop := va_P (m_D g) m_cl (m_W g h) H ∧ H.size = g.2.1 + h.1
/-! heaps -/
def hc (h : mH) (a : Nat) : Option mE := if a < h.1 then some (h.2 a) else none
def hs (h : mH) (a : Nat) (x : mE) : mH := (h.1, fun k => if k = a then x else h.2 k)
def hp (h : mH) (x : mE) : mH := (h.1 + 1, fun k => if k = h.1 then x else h.2 k)
theorem hc_lt {h : mH} {a : Nat} {x : mE} (e : hc h a = some x) : a < h.1 ∧ h.2 a = x := by
  unfold hc at e
  split at e
  · exact ⟨by assumption, Option.some.inj e⟩
  · cases e
theorem hc_hs {h : mH} {a : Nat} {x y : mE} (e : hc h a = some y) : hc (hs h a x) a = some x := by
  have := (hc_lt e).1
  simp [hc, hs, this]
theorem hc_hs_ne {h : mH} {a q : Nat} {x : mE} (n : q ≠ a) : hc (hs h a x) q = hc h q := by
  simp [hc, hs, n]
theorem hc_hp {h : mH} {x : mE} : hc (hp h x) h.1 = some x := by simp [hc, hp]
theorem hc_hp_ne {h : mH} {q : Nat} {x : mE} (n : q ≠ h.1) : hc (hp h x) q = hc h q := by
  unfold hc hp
  by_cases c : q < h.1
  · simp [c, n, Nat.lt_succ_of_lt c]
  · have c2 : ¬ q < h.1 + 1 := by omega
    simp [c, c2]
theorem hs_1 (h : mH) (a : Nat) (x : mE) : (hs h a x).1 = h.1 := rfl
theorem hp_1 (h : mH) (x : mE) : (hp h x).1 = h.1 + 1 := rfl
theorem hs_hs (h : mH) (a : Nat) (x y : mE) : hs (hs h a x) a y = hs h a y := by
  unfold hs
  congr 1
  funext k
  by_cases c : k = a <;> simp [c]
theorem hs_comm (h : mH) {a b : Nat} (x y : mE) (n : a ≠ b) : hs (hs h a x) b y = hs (hs h b y) a x := by
  unfold hs
  congr 1
  funext k
  by_cases c : k = a
  · subst c; simp [n]
  · by_cases d : k = b
    · subst d; simp [c]
    · simp [c, d]
theorem hs_id {h : mH} {a : Nat} {x : mE} (e : hc h a = some x) : hs h a x = h := by
  obtain ⟨-, e2⟩ := hc_lt e
  unfold hs
  congr 1
  funext k
  by_cases c : k = a
  · subst c; simp [e2]
  · simp [c]
theorem m_W_get {g : mG} {h : mH} {k : Nat} {x : mE} (e : hc h k = some x) : (m_W g h)[k]? = some (g.2.1 + k, m_sE g x) := by
  obtain ⟨e1, e2⟩ := hc_lt e
  subst e2
  simp [m_W, e1]
theorem m_W_hs (g : mG) (h : mH) (a : Nat) (x : mE) : (m_W g h).set a (g.2.1 + a, m_sE g x) = m_W g (hs h a x) := by
  apply List.ext_getElem?
  intro k
  by_cases c : k = a
  · subst c
    by_cases d : k < h.1 <;> simp [m_W, hs, d]
  · rw [List.getElem?_set_ne (fun q => c q.symm)]
    by_cases d : k < h.1 <;> simp [m_W, hs, d, c]
theorem m_W_hp (g : mG) (h : mH) (x : mE) : m_W g (hp h x) = m_W g h ++ [(g.2.1 + h.1, m_sE g x)] := by
  unfold m_W hp
  rw [List.range_succ, List.map_append]
  congr 1
  · apply List.map_congr_left
    intro k hk
    have := List.mem_range.mp hk
    have n : k ≠ h.1 := by omega
    simp [n]
  · simp
theorem m_W_D (g : mG) (h : mH) : va_D (m_A g) (m_W g h) := by
  have key : ∀ (k : Nat) (q : Nat × va_E), (m_W g h)[k]? = some q → q.1 = g.2.1 + k := by
    intro k q hk
    by_cases d : k < h.1
    · simp [m_W, d] at hk
      rw [← hk]
    · simp [m_W, d] at hk
  refine ⟨fun i j p q hi hj e => ?_, fun k q hk => ?_⟩
  · have a1 := key i p hi
    have a2 := key j q hj
    omega
  · show g.2.1 ≤ q.1
    rw [key k q hk]
    omega
/-! locals: what stands at each place; none: nothing is known -/
def m_at : List (Option Value) → Nat → Option Value
  | [], _ => none
  | a :: _, 0 => a
  | _ :: t, n + 1 => m_at t n
def m_c2 : Option Value → Bool
  | some v => v.category == 2
  | none => false
def m_st : List (Option Value) → Nat → Value → List (Option Value)
  | [], _, _ => []
  | _ :: t, 0, v => some v :: t
  | a :: t, 1, v => (if m_c2 a then none else a) :: m_st t 0 v
  | a :: t, n + 2, v => a :: m_st t (n + 1) v
def m_no : List (Option Value) → Nat → List (Option Value)
  | [], _ => []
  | _ :: t, 0 => none :: t
  | a :: t, n + 1 => a :: m_no t n
def m_L (b : Nat) (ls : Array Slot) (n : Nat) (L : List (Option Value)) : Prop := ls.size = n ∧ lv_wf ls ∧ ∀ i v, m_at L i = some v → ls[i]? = some (.val (m_sv b v))
theorem m_at_0 {L : List (Option Value)} {i : Nat} (h : L = []) : m_at L i = none := by subst h; rfl
theorem m_st_at : ∀ (L : List (Option Value)) (i : Nat) (v : Value) (j : Nat) (w : Value), m_at (m_st L i v) j = some w → (j = i ∧ w = v) ∨ (j ≠ i ∧ m_at L j = some w ∧ ¬ (j + 1 = i ∧ w.category = 2))
  | [], i, v, j, w, h => by cases h
  | a :: t, 0, v, j, w, h => by
    cases j with
    | zero => exact Or.inl ⟨rfl, (Option.some.inj h).symm⟩
    | succ j => exact Or.inr ⟨by omega, h, by omega⟩
  | a :: t, 1, v, j, w, h => by
    cases j with
    | zero =>
      simp only [m_st, m_at] at h
      by_cases c : m_c2 a = true
      · rw [if_pos c] at h; cases h
      · rw [if_neg c] at h
        refine Or.inr ⟨by omega, h, fun q => c ?_⟩
        rw [h]
        simp [m_c2, q.2]
    | succ j =>
      simp only [m_st, m_at] at h
      rcases m_st_at t 0 v j w h with ⟨rfl, e⟩ | ⟨e1, e2, e3⟩
      · exact Or.inl ⟨rfl, e⟩
      · exact Or.inr ⟨by omega, e2, by omega⟩
  | a :: t, n + 2, v, j, w, h => by
    cases j with
    | zero =>
      simp only [m_st, m_at] at h
      exact Or.inr ⟨by omega, h, by omega⟩
    | succ j =>
      simp only [m_st, m_at] at h
      rcases m_st_at t (n + 1) v j w h with ⟨e0, e⟩ | ⟨e1, e2, e3⟩
      · exact Or.inl ⟨by omega, e⟩
      · exact Or.inr ⟨by omega, e2, fun q => e3 ⟨by omega, q.2⟩⟩
theorem m_no_at : ∀ (L : List (Option Value)) (i j : Nat) (w : Value), m_at (m_no L i) j = some w → j ≠ i ∧ m_at L j = some w
  | [], i, j, w, h => by cases h
  | a :: t, 0, j, w, h => by
    cases j with
    | zero => cases h
    | succ j => exact ⟨by omega, h⟩
  | a :: t, n + 1, j, w, h => by
    cases j with
    | zero => exact ⟨by omega, h⟩
    | succ j =>
      obtain ⟨e1, e2⟩ := m_no_at t n j w h
      exact ⟨by omega, e2⟩
def m_al (b : Nat) : Nat → List (Option Value) → List (Nat × Value)
  | _, [] => []
  | i, none :: t => m_al b (i + 1) t
  | i, some v :: t => (i, m_sv b v) :: m_al b (i + 1) t
theorem m_al_mem (b : Nat) : ∀ (L : List (Option Value)) (i0 j : Nat) (v : Value), m_at L j = some v → (i0 + j, m_sv b v) ∈ m_al b i0 L
  | [], i0, j, v, h => by cases h
  | none :: t, i0, j, v, h => by
    cases j with
    | zero => cases h
    | succ j =>
      have := m_al_mem b t (i0 + 1) j v h
      rw [show i0 + (j + 1) = i0 + 1 + j by omega]
      exact this
  | some a :: t, i0, j, v, h => by
    cases j with
    | zero => cases h; exact List.mem_cons_self
    | succ j =>
      have := m_al_mem b t (i0 + 1) j v h
      rw [show i0 + (j + 1) = i0 + 1 + j by omega]
      exact List.mem_cons_of_mem _ this
theorem m_al_of (b : Nat) : ∀ (L : List (Option Value)) (i0 : Nat) (q : Nat × Value), q ∈ m_al b i0 L → ∃ j v, q = (i0 + j, m_sv b v) ∧ m_at L j = some v
  | [], i0, q, h => by cases h
  | none :: t, i0, q, h => by
    obtain ⟨j, v, e1, e2⟩ := m_al_of b t (i0 + 1) q h
    exact ⟨j + 1, v, by rw [e1]; congr 1; omega, e2⟩
  | some a :: t, i0, q, h => by
    rcases List.mem_cons.mp h with rfl | h
    · exact ⟨0, a, rfl, rfl⟩
    · obtain ⟨j, v, e1, e2⟩ := m_al_of b t (i0 + 1) q h
      exact ⟨j + 1, v, by rw [e1]; congr 1; omega, e2⟩
theorem m_L.has {b : Nat} {ls : Array Slot} {n : Nat} {L : List (Option Value)} (h : m_L b ls n L) : lv_has ls n (m_al b 0 L) := by
  refine ⟨h.1, h.2.1, fun q hq => ?_⟩
  obtain ⟨j, v, e1, e2⟩ := m_al_of b L 0 q hq
  subst e1
  rw [Nat.zero_add]
  exact h.2.2 j v e2
theorem m_L.st {b : Nat} {ls : Array Slot} {n i : Nat} {L : List (Option Value)} {v : Value} (h : lv_has ls n ((i, m_sv b v) :: (m_al b 0 L).filter (fun q => !(q.1 == i) && !(q.1 + 1 == i && q.2.category == 2)))) : m_L b ls n (m_st L i v) := by
  refine ⟨h.1, h.2.1, fun j w hj => ?_⟩
  rcases m_st_at L i v j w hj with ⟨rfl, rfl⟩ | ⟨e1, e2, e3⟩
  · exact h.2.2 _ List.mem_cons_self
  · refine h.2.2 (j, m_sv b w) (List.mem_cons_of_mem _ (List.mem_filter.mpr ⟨?_, ?_⟩))
    · have := m_al_mem b L 0 j w e2
      rwa [Nat.zero_add] at this
    · rw [m_sv_cat]
      simp only [Bool.and_eq_true, Bool.not_eq_true', beq_eq_false_iff_ne, ne_eq, Bool.and_eq_false_iff]
      refine ⟨e1, ?_⟩
      by_cases c : j + 1 = i
      · exact Or.inr fun q => e3 ⟨c, q⟩
      · exact Or.inl c
theorem m_L.st2 {b : Nat} {ls : Array Slot} {n i : Nat} {L : List (Option Value)} {v : Value} (h : lv_has ls n ((i, m_sv b v) :: (m_al b 0 L).filter (fun q => !(q.1 == i) && (!(q.1 == i + 1) && !(q.1 + 1 == i && q.2.category == 2))))) : m_L b ls n (m_no (m_st L i v) (i + 1)) := by
  refine ⟨h.1, h.2.1, fun j w hj0 => ?_⟩
  obtain ⟨hn, hj⟩ := m_no_at _ _ _ _ hj0
  rcases m_st_at L i v j w hj with ⟨rfl, rfl⟩ | ⟨e1, e2, e3⟩
  · exact h.2.2 _ List.mem_cons_self
  · refine h.2.2 (j, m_sv b w) (List.mem_cons_of_mem _ (List.mem_filter.mpr ⟨?_, ?_⟩))
    · have := m_al_mem b L 0 j w e2
      rwa [Nat.zero_add] at this
    · rw [m_sv_cat]
      simp only [Bool.and_eq_true, Bool.not_eq_true', beq_eq_false_iff_ne, ne_eq, Bool.and_eq_false_iff]
      refine ⟨e1, hn, ?_⟩
      by_cases c : j + 1 = i
      · exact Or.inr fun q => e3 ⟨c, q⟩
      · exact Or.inl c
/-! the judgement -/
/-- the tables' words that hold wherever a method may begin, and the others that are wanted -/
def m_tb : List Cond := lw_tbl.filter goodWord
theorem m_tb_of {w : Cond} (i : Nat) (h : lw_tbl[i]? = some w) (hg : goodWord w = true) : w ∈ m_tb := List.mem_filter.mpr ⟨List.mem_of_getElem? h, hg⟩
def m_X (U : State) : Prop := va_AO RX3 U ∧ va_AO RX0 U ∧ va_Nw (.methodLinkNest RX2 26 yX3_init RX4) U ∧ va_Nw (.methodLinkNest RX4 43 yX3_init RX4) U ∧ va_Nw (.castable "[I" "java/lang/Cloneable") U
theorem m_X.warm {s U : State} (hW : s.WarmedH U.vm) (h : m_X s) : m_X U := ⟨h.1.moved hW.alike, h.2.1.moved hW.alike, va_Nw.warmM hW h.2.2.1, va_Nw.warmM hW h.2.2.2.1, va_Nw.warmC hW h.2.2.2.2⟩
theorem m_X.same {s U : State} (e : s.vm = U.vm) (h : m_X s) : m_X U := ⟨h.1.moved (e ▸ Vm.Alike.refl s.vm), h.2.1.moved (e ▸ Vm.Alike.refl s.vm), va_Nw.same rfl e h.2.2.1, va_Nw.same rfl e h.2.2.2.1, va_Nw.same rfl e h.2.2.2.2⟩
def m_R (M : mM) : Room := { frames := M.2.2.2.2.1, cells := M.2.2.2.2.2.1, slots := M.2.2.2.2.2.2, locals := 40 * M.2.2.2.2.1 }
def m_Fx (g : mG) (M : mM) (p : Program) (R : Room) (s : State) (m : MethodId) (args : Array Value) (meth : Method) (c : Code) : Prop :=
  p.tables.exec = Jvm.exec ∧ c.code = M.2.1 ∧ c.maxLocals = M.2.2.1 ∧ meth.sig.returnType = M.2.2.2.1 ∧ meth.locks = false ∧ s.vm.findClass M.1.cls = some m.cls ∧ (∀ w ∈ m_tb, w.before args s = true) ∧ (M.1.name = "<init>" → meth.name = "<init>") ∧ R = m_R M ∧ va_K (m_D g) m_cl (m_tys g) s ∧ g.2.1 ≤ s.heap.size ∧ m_X s
/-- from here the method M goes to its end: J's -/
def Ok (g : mG) (M : mM) (J : mJ) (pc : Nat) (L : List (Option Value)) (st : List Value) (h : mH) (uc us : Nat) : Prop :=
  ∀ (p : Program) (e : Env) (R : Room) (s : State) (m : MethodId) (args : Array Value) (below : List Frame) (meth : Method) (c : Code), m_Fx g M p R s m args meth c → J.1 args s →
  ∀ (ls : Array Slot) (H : Heap) (locs : List Loc), m_L g.2.1 ls M.2.2.1 L → m_P g h H → va_S (m_A g) s.heap H locs →
  W p g.1 e R s m args below meth c H locs uc us (J.2 below args s) (F0 m pc ls (st.map (m_sv g.2.1)))
def m_Q (g : mG) (Q : Option Value → mH → Prop) : Array Value → State → Outcome → State → Prop := fun _ st o t =>
  ∃ (v : Option Value) (h' : mH), o = .returned (v.map (m_sv g.2.1)) ∧ Q v h' ∧ m_P g h' t.heap ∧ va_F (m_A g) st t
def m_J (g : mG) (M : mM) (Q : Option Value → mH → Prop) : mJ := (fun _ _ => True, fun below args s => MQ below (m_Q g Q) args s M.2.2.2.2.2.1 M.2.2.2.2.2.2 (m_A g))
section MACH
variable {g : mG} {M : mM} {J : mJ} {pc : Nat} {L L' : List (Option Value)} {st : List Value} {h : mH} {uc us : Nat}
/-! constants, locals -/
theorem ok_iconst {n : Int} {v : Int32} (hd : decode M.2.1 pc = .ok (.iconst n, 1)) (hv : Int32.ofInt n = v) (k : Ok g M J (pc + 1) L (.int v :: st) h uc us) : Ok g M J pc L st h uc us := by
  intro p e R s m args below meth c F C ls H locs hl hP hS
  exact lv_iconst F.1 F.2.1 hd hv (k p e R s m args below meth c F C ls H locs hl hP hS)
theorem ok_bipush {n : Int} {v : Int32} (hd : decode M.2.1 pc = .ok (.bipush n, 2)) (hv : (Int8.ofInt n).toInt32 = v) (k : Ok g M J (pc + 2) L (.int v :: st) h uc us) : Ok g M J pc L st h uc us := by
  intro p e R s m args below meth c F C ls H locs hl hP hS
  exact lv_bipush F.1 F.2.1 hd hv (k p e R s m args below meth c F C ls H locs hl hP hS)
theorem ok_sipush {n : Int} {v : Int32} (hd : decode M.2.1 pc = .ok (.sipush n, 3)) (hv : (Int16.ofInt n).toInt32 = v) (k : Ok g M J (pc + 3) L (.int v :: st) h uc us) : Ok g M J pc L st h uc us := by
  intro p e R s m args below meth c F C ls H locs hl hP hS
  exact lv_sipush F.1 F.2.1 hd hv (k p e R s m args below meth c F C ls H locs hl hP hS)
theorem ok_lconst {n : Fin 2} {v : Int64} (hd : decode M.2.1 pc = .ok (.lconst n, 1)) (hv : Int64.ofNat (n : Nat) = v) (k : Ok g M J (pc + 1) L (.long v :: st) h uc us) : Ok g M J pc L st h uc us := by
  intro p e R s m args below meth c F C ls H locs hl hP hS
  exact lv_lconst F.1 F.2.1 hd hv (k p e R s m args below meth c F C ls H locs hl hP hS)
theorem ok_null (hd : decode M.2.1 pc = .ok (.aconst_null, 1)) (k : Ok g M J (pc + 1) L (.null :: st) h uc us) : Ok g M J pc L st h uc us := by
  intro p e R s m args below meth c F C ls H locs hl hP hS
  exact lv_null F.1 F.2.1 hd (k p e R s m args below meth c F C ls H locs hl hP hS)
theorem ok_ldc2 {idx : Nat} {v : Int64} (hd : decode M.2.1 pc = .ok (.ldc2_w idx, 3)) (hw : Cond.constantLong M.1.cls idx v ∈ m_tb) (k : Ok g M J (pc + 3) L (.long v :: st) h uc us) : Ok g M J pc L st h uc us := by
  intro p e R s m args below meth c F C ls H locs hl hP hS
  exact lv_ldc2 F.1 F.2.1 F.2.2.2.2.2.1 (F.2.2.2.2.2.2.1 _ hw) hd (k p e R s m args below meth c F C ls H locs hl hP hS)
theorem ok_iload {i : Nat} {x : Int32} (hd : decode M.2.1 pc = .ok (.iload i, 2)) (hv : m_at L i = some (.int x)) (k : Ok g M J (pc + 2) L (.int x :: st) h uc us) : Ok g M J pc L st h uc us := by
  intro p e R s m args below meth c F C ls H locs hl hP hS
  exact lv_iload F.1 F.2.1 hd (hl.2.2 i _ hv) (k p e R s m args below meth c F C ls H locs hl hP hS)
theorem ok_iload_n {i : Fin 4} {x : Int32} (hd : decode M.2.1 pc = .ok (.iload_n i, 1)) (hv : m_at L i.val = some (.int x)) (k : Ok g M J (pc + 1) L (.int x :: st) h uc us) : Ok g M J pc L st h uc us := by
  intro p e R s m args below meth c F C ls H locs hl hP hS
  exact lv_iload_n F.1 F.2.1 hd rfl (hl.2.2 i.val _ hv) (k p e R s m args below meth c F C ls H locs hl hP hS)
theorem ok_lload {i : Nat} {x : Int64} (hd : decode M.2.1 pc = .ok (.lload i, 2)) (hv : m_at L i = some (.long x)) (k : Ok g M J (pc + 2) L (.long x :: st) h uc us) : Ok g M J pc L st h uc us := by
  intro p e R s m args below meth c F C ls H locs hl hP hS
  exact lv_lload F.1 F.2.1 hd (hl.2.2 i _ hv) (k p e R s m args below meth c F C ls H locs hl hP hS)
theorem ok_lload_n {i : Fin 4} {x : Int64} (hd : decode M.2.1 pc = .ok (.lload_n i, 1)) (hv : m_at L i.val = some (.long x)) (k : Ok g M J (pc + 1) L (.long x :: st) h uc us) : Ok g M J pc L st h uc us := by
  intro p e R s m args below meth c F C ls H locs hl hP hS
  exact lv_lload_n F.1 F.2.1 hd rfl (hl.2.2 i.val _ hv) (k p e R s m args below meth c F C ls H locs hl hP hS)
def m_isA : Value → Bool
  | .ref _ => true
  | .null => true
  | .retAddr _ => true
  | _ => false
theorem ok_aload {i : Nat} {v : Value} (hd : decode M.2.1 pc = .ok (.aload i, 2)) (hv : m_at L i = some v) (ha : m_isA v = true) (k : Ok g M J (pc + 2) L (v :: st) h uc us) : Ok g M J pc L st h uc us := by
  intro p e R s m args below meth c F C ls H locs hl hP hS
  have k' := k p e R s m args below meth c F C ls H locs hl hP hS
  have hv' := hl.2.2 i _ hv
  cases v with
  | ref a => exact lv_aload F.1 F.2.1 hd hv' k'
  | null => exact lv_aloadN F.1 F.2.1 hd hv' k'
  | retAddr a => exact lv_aload F.1 F.2.1 hd hv' k'
  | int x => cases ha
  | long x => cases ha
  | float x => cases ha
  | double x => cases ha
theorem ok_aload_n {i : Fin 4} {v : Value} (hd : decode M.2.1 pc = .ok (.aload_n i, 1)) (hv : m_at L i.val = some v) (ha : m_isA v = true) (k : Ok g M J (pc + 1) L (v :: st) h uc us) : Ok g M J pc L st h uc us := by
  intro p e R s m args below meth c F C ls H locs hl hP hS
  have k' := k p e R s m args below meth c F C ls H locs hl hP hS
  have hv' := hl.2.2 i.val _ hv
  cases v with
  | ref a => exact lv_aload_n F.1 F.2.1 hd rfl hv' k'
  | null => exact lv_aload_nN F.1 F.2.1 hd rfl hv' k'
  | retAddr a => exact lv_aload_n F.1 F.2.1 hd rfl hv' k'
  | int x => cases ha
  | long x => cases ha
  | float x => cases ha
  | double x => cases ha
theorem ok_istore {i : Nat} {x : Int32} (hd : decode M.2.1 pc = .ok (.istore i, 2)) (hL : m_st L i (.int x) = L') (hi : i < M.2.2.1) (k : Ok g M J (pc + 2) L' st h uc us) : Ok g M J pc L (.int x :: st) h uc us := by
  intro p e R s m args below meth c F C ls H locs hl hP hS
  subst hL
  exact lv_istore F.1 F.2.1 hd hl.has hi rfl (fun ls' hl' => k p e R s m args below meth c F C ls' H locs (m_L.st (v := .int x) hl') hP hS)
theorem ok_istore_n {i : Fin 4} {x : Int32} (hd : decode M.2.1 pc = .ok (.istore_n i, 1)) (hL : m_st L i.val (.int x) = L') (hi : i.val < M.2.2.1) (k : Ok g M J (pc + 1) L' st h uc us) : Ok g M J pc L (.int x :: st) h uc us := by
  intro p e R s m args below meth c F C ls H locs hl hP hS
  subst hL
  exact lv_istore_n F.1 F.2.1 hd rfl hl.has hi rfl (fun ls' hl' => k p e R s m args below meth c F C ls' H locs (m_L.st (v := .int x) hl') hP hS)
theorem ok_lstore {i : Nat} {x : Int64} (hd : decode M.2.1 pc = .ok (.lstore i, 2)) (hL : m_no (m_st L i (.long x)) (i + 1) = L') (hi : i + 1 < M.2.2.1) (k : Ok g M J (pc + 2) L' st h uc us) : Ok g M J pc L (.long x :: st) h uc us := by
  intro p e R s m args below meth c F C ls H locs hl hP hS
  subst hL
  exact lv_lstore F.1 F.2.1 hd hl.has hi rfl (fun ls' hl' => k p e R s m args below meth c F C ls' H locs (m_L.st2 (v := .long x) hl') hP hS)
theorem ok_lstore_n {i : Fin 4} {x : Int64} (hd : decode M.2.1 pc = .ok (.lstore_n i, 1)) (hL : m_no (m_st L i.val (.long x)) (i.val + 1) = L') (hi : i.val + 1 < M.2.2.1) (k : Ok g M J (pc + 1) L' st h uc us) : Ok g M J pc L (.long x :: st) h uc us := by
  intro p e R s m args below meth c F C ls H locs hl hP hS
  subst hL
  exact lv_lstore_n F.1 F.2.1 hd rfl hl.has hi rfl (fun ls' hl' => k p e R s m args below meth c F C ls' H locs (m_L.st2 (v := .long x) hl') hP hS)
theorem ok_astore {i : Nat} {v : Value} (hd : decode M.2.1 pc = .ok (.astore i, 2)) (hL : m_st L i v = L') (hi : i < M.2.2.1) (ha : m_isA v = true) (k : Ok g M J (pc + 2) L' st h uc us) : Ok g M J pc L (v :: st) h uc us := by
  intro p e R s m args below meth c F C ls H locs hl hP hS
  subst hL
  cases v with
  | ref a => exact lv_astore F.1 F.2.1 hd hl.has hi rfl (fun ls' hl' => k p e R s m args below meth c F C ls' H locs (m_L.st (v := .ref a) hl') hP hS)
  | null => exact lv_astoreN F.1 F.2.1 hd hl.has hi rfl (fun ls' hl' => k p e R s m args below meth c F C ls' H locs (m_L.st (v := .null) hl') hP hS)
  | retAddr a => exact lv_astore F.1 F.2.1 hd hl.has hi rfl (fun ls' hl' => k p e R s m args below meth c F C ls' H locs (m_L.st (v := .retAddr a) hl') hP hS)
  | int x => cases ha
  | long x => cases ha
  | float x => cases ha
  | double x => cases ha
theorem ok_astore_n {i : Fin 4} {v : Value} (hd : decode M.2.1 pc = .ok (.astore_n i, 1)) (hL : m_st L i.val v = L') (hi : i.val < M.2.2.1) (ha : m_isA v = true) (k : Ok g M J (pc + 1) L' st h uc us) : Ok g M J pc L (v :: st) h uc us := by
  intro p e R s m args below meth c F C ls H locs hl hP hS
  subst hL
  cases v with
  | ref a => exact lv_astore_n F.1 F.2.1 hd rfl hl.has hi rfl (fun ls' hl' => k p e R s m args below meth c F C ls' H locs (m_L.st (v := .ref a) hl') hP hS)
  | null => exact lv_astore_nN F.1 F.2.1 hd rfl hl.has hi rfl (fun ls' hl' => k p e R s m args below meth c F C ls' H locs (m_L.st (v := .null) hl') hP hS)
  | retAddr a => exact lv_astore_n F.1 F.2.1 hd rfl hl.has hi rfl (fun ls' hl' => k p e R s m args below meth c F C ls' H locs (m_L.st (v := .retAddr a) hl') hP hS)
  | int x => cases ha
  | long x => cases ha
  | float x => cases ha
  | double x => cases ha
theorem ok_iinc {i : Nat} {n : Int} {x v : Int32} (hd : decode M.2.1 pc = .ok (.iinc i n, 3)) (hx : m_at L i = some (.int x)) (hv : x + Int32.ofInt n = v) (hL : m_st L i (.int v) = L') (hi : i < M.2.2.1) (k : Ok g M J (pc + 3) L' st h uc us) : Ok g M J pc L st h uc us := by
  intro p e R s m args below meth c F C ls H locs hl hP hS
  subst hL
  obtain ⟨q, hq⟩ := List.getElem?_of_mem (m_al_mem g.2.1 L 0 i _ hx)
  rw [Nat.zero_add] at hq
  exact lv_iinc F.1 F.2.1 hd hl.has hq hv hi rfl (fun ls' hl' => k p e R s m args below meth c F C ls' H locs (m_L.st (v := .int v) hl') hP hS)
/-! arithmetic -/
theorem ok_iadd {x y : Int32} (hd : decode M.2.1 pc = .ok (.iadd, 1)) (k : Ok g M J (pc + 1) L (.int (x + y) :: st) h uc us) : Ok g M J pc L (.int y :: .int x :: st) h uc us := by
  intro p e R s m args below meth c F C ls H locs hl hP hS
  exact lv_iadd F.1 F.2.1 hd (k p e R s m args below meth c F C ls H locs hl hP hS)
theorem ok_isub {x y : Int32} (hd : decode M.2.1 pc = .ok (.isub, 1)) (k : Ok g M J (pc + 1) L (.int (x - y) :: st) h uc us) : Ok g M J pc L (.int y :: .int x :: st) h uc us := by
  intro p e R s m args below meth c F C ls H locs hl hP hS
  exact lv_isub F.1 F.2.1 hd (k p e R s m args below meth c F C ls H locs hl hP hS)
theorem ok_imul {x y : Int32} (hd : decode M.2.1 pc = .ok (.imul, 1)) (k : Ok g M J (pc + 1) L (.int (x * y) :: st) h uc us) : Ok g M J pc L (.int y :: .int x :: st) h uc us := by
  intro p e R s m args below meth c F C ls H locs hl hP hS
  exact lv_imul F.1 F.2.1 hd (k p e R s m args below meth c F C ls H locs hl hP hS)
theorem ok_iand {x y : Int32} (hd : decode M.2.1 pc = .ok (.iand, 1)) (k : Ok g M J (pc + 1) L (.int (x &&& y) :: st) h uc us) : Ok g M J pc L (.int y :: .int x :: st) h uc us := by
  intro p e R s m args below meth c F C ls H locs hl hP hS
  exact lv_iand F.1 F.2.1 hd (k p e R s m args below meth c F C ls H locs hl hP hS)
theorem ok_idiv {x y : Int32} (hd : decode M.2.1 pc = .ok (.idiv, 1)) (hne : ¬ y = 0) (k : Ok g M J (pc + 1) L (.int (x / y) :: st) h uc us) : Ok g M J pc L (.int y :: .int x :: st) h uc us := by
  intro p e R s m args below meth c F C ls H locs hl hP hS
  exact lv_idiv F.1 F.2.1 hd hne (k p e R s m args below meth c F C ls H locs hl hP hS)
theorem ok_ladd {x y : Int64} (hd : decode M.2.1 pc = .ok (.ladd, 1)) (k : Ok g M J (pc + 1) L (.long (x + y) :: st) h uc us) : Ok g M J pc L (.long y :: .long x :: st) h uc us := by
  intro p e R s m args below meth c F C ls H locs hl hP hS
  exact lv_ladd F.1 F.2.1 hd (k p e R s m args below meth c F C ls H locs hl hP hS)
theorem ok_lsub {x y : Int64} (hd : decode M.2.1 pc = .ok (.lsub, 1)) (k : Ok g M J (pc + 1) L (.long (x - y) :: st) h uc us) : Ok g M J pc L (.long y :: .long x :: st) h uc us := by
  intro p e R s m args below meth c F C ls H locs hl hP hS
  exact lv_lsub F.1 F.2.1 hd (k p e R s m args below meth c F C ls H locs hl hP hS)
theorem ok_lmul {x y : Int64} (hd : decode M.2.1 pc = .ok (.lmul, 1)) (k : Ok g M J (pc + 1) L (.long (x * y) :: st) h uc us) : Ok g M J pc L (.long y :: .long x :: st) h uc us := by
  intro p e R s m args below meth c F C ls H locs hl hP hS
  exact lv_lmul F.1 F.2.1 hd (k p e R s m args below meth c F C ls H locs hl hP hS)
theorem ok_ldiv {x y : Int64} (hd : decode M.2.1 pc = .ok (.ldiv, 1)) (hne : ¬ y = 0) (k : Ok g M J (pc + 1) L (.long (x / y) :: st) h uc us) : Ok g M J pc L (.long y :: .long x :: st) h uc us := by
  intro p e R s m args below meth c F C ls H locs hl hP hS
  exact lv_ldiv F.1 F.2.1 hd hne (k p e R s m args below meth c F C ls H locs hl hP hS)
theorem ok_i2l {x : Int32} (hd : decode M.2.1 pc = .ok (.i2l, 1)) (k : Ok g M J (pc + 1) L (.long x.toInt64 :: st) h uc us) : Ok g M J pc L (.int x :: st) h uc us := by
  intro p e R s m args below meth c F C ls H locs hl hP hS
  exact lv_i2l F.1 F.2.1 hd rfl (k p e R s m args below meth c F C ls H locs hl hP hS)
theorem ok_l2i {x : Int64} (hd : decode M.2.1 pc = .ok (.l2i, 1)) (k : Ok g M J (pc + 1) L (.int x.toInt32 :: st) h uc us) : Ok g M J pc L (.long x :: st) h uc us := by
  intro p e R s m args below meth c F C ls H locs hl hP hS
  exact lv_l2i F.1 F.2.1 hd rfl (k p e R s m args below meth c F C ls H locs hl hP hS)
theorem ok_dup {v : Value} (hd : decode M.2.1 pc = .ok (.dup, 1)) (hv : v.category = 1) (k : Ok g M J (pc + 1) L (v :: v :: st) h uc us) : Ok g M J pc L (v :: st) h uc us := by
  intro p e R s m args below meth c F C ls H locs hl hP hS
  exact lv_dup F.1 F.2.1 hd ((m_sv_cat _ _).trans hv) (k p e R s m args below meth c F C ls H locs hl hP hS)
theorem ok_dup2 {v w : Value} (hd : decode M.2.1 pc = .ok (.dup2, 1)) (hv : v.category = 1) (hw : w.category = 1) (k : Ok g M J (pc + 1) L (v :: w :: v :: w :: st) h uc us) : Ok g M J pc L (v :: w :: st) h uc us := by
  intro p e R s m args below meth c F C ls H locs hl hP hS
  exact lv_dup2_11 F.1 F.2.1 hd ((m_sv_cat _ _).trans hv) ((m_sv_cat _ _).trans hw) (k p e R s m args below meth c F C ls H locs hl hP hS)
/-! branches -/
theorem ok_goto {off : Int} {tgt : Nat} (hd : decode M.2.1 pc = .ok (.goto off, 3)) (ht : (pc : Int) + off = (tgt : Int)) (k : Ok g M J tgt L st h uc us) : Ok g M J pc L st h uc us := by
  intro p e R s m args below meth c F C ls H locs hl hP hS
  exact lv_goto F.1 F.2.1 hd ht (k p e R s m args below meth c F C ls H locs hl hP hS)
theorem ok_if_eq {x : Int32} {off : Int} {tgt : Nat} (hd : decode M.2.1 pc = .ok (.ifCond .eq off, 3)) (ht : (pc : Int) + off = (tgt : Int)) (kt : x = 0 → Ok g M J tgt L st h uc us) (kf : ¬ x = 0 → Ok g M J (pc + 3) L st h uc us) : Ok g M J pc L (.int x :: st) h uc us := by
  intro p e R s m args below meth c F C ls H locs hl hP hS
  exact lv_if_eq F.1 F.2.1 hd ht (fun q => kt q p e R s m args below meth c F C ls H locs hl hP hS) (fun q => kf q p e R s m args below meth c F C ls H locs hl hP hS)
theorem ok_icmp_eq {x y : Int32} {off : Int} {tgt : Nat} (hd : decode M.2.1 pc = .ok (.if_icmp .eq off, 3)) (ht : (pc : Int) + off = (tgt : Int)) (kt : x = y → Ok g M J tgt L st h uc us) (kf : ¬ x = y → Ok g M J (pc + 3) L st h uc us) : Ok g M J pc L (.int y :: .int x :: st) h uc us := by
  intro p e R s m args below meth c F C ls H locs hl hP hS
  exact lv_icmp_eq F.1 F.2.1 hd ht (fun q => kt q p e R s m args below meth c F C ls H locs hl hP hS) (fun q => kf q p e R s m args below meth c F C ls H locs hl hP hS)
theorem ok_if_ne {x : Int32} {off : Int} {tgt : Nat} (hd : decode M.2.1 pc = .ok (.ifCond .ne off, 3)) (ht : (pc : Int) + off = (tgt : Int)) (kt : ¬ x = 0 → Ok g M J tgt L st h uc us) (kf : x = 0 → Ok g M J (pc + 3) L st h uc us) : Ok g M J pc L (.int x :: st) h uc us := by
  intro p e R s m args below meth c F C ls H locs hl hP hS
  exact lv_if_ne F.1 F.2.1 hd ht (fun q => kt q p e R s m args below meth c F C ls H locs hl hP hS) (fun q => kf q p e R s m args below meth c F C ls H locs hl hP hS)
theorem ok_icmp_ne {x y : Int32} {off : Int} {tgt : Nat} (hd : decode M.2.1 pc = .ok (.if_icmp .ne off, 3)) (ht : (pc : Int) + off = (tgt : Int)) (kt : ¬ x = y → Ok g M J tgt L st h uc us) (kf : x = y → Ok g M J (pc + 3) L st h uc us) : Ok g M J pc L (.int y :: .int x :: st) h uc us := by
  intro p e R s m args below meth c F C ls H locs hl hP hS
  exact lv_icmp_ne F.1 F.2.1 hd ht (fun q => kt q p e R s m args below meth c F C ls H locs hl hP hS) (fun q => kf q p e R s m args below meth c F C ls H locs hl hP hS)
theorem ok_if_lt {x : Int32} {off : Int} {tgt : Nat} (hd : decode M.2.1 pc = .ok (.ifCond .lt off, 3)) (ht : (pc : Int) + off = (tgt : Int)) (kt : x < 0 → Ok g M J tgt L st h uc us) (kf : ¬ x < 0 → Ok g M J (pc + 3) L st h uc us) : Ok g M J pc L (.int x :: st) h uc us := by
  intro p e R s m args below meth c F C ls H locs hl hP hS
  exact lv_if_lt F.1 F.2.1 hd ht (fun q => kt q p e R s m args below meth c F C ls H locs hl hP hS) (fun q => kf q p e R s m args below meth c F C ls H locs hl hP hS)
theorem ok_icmp_lt {x y : Int32} {off : Int} {tgt : Nat} (hd : decode M.2.1 pc = .ok (.if_icmp .lt off, 3)) (ht : (pc : Int) + off = (tgt : Int)) (kt : x < y → Ok g M J tgt L st h uc us) (kf : ¬ x < y → Ok g M J (pc + 3) L st h uc us) : Ok g M J pc L (.int y :: .int x :: st) h uc us := by
  intro p e R s m args below meth c F C ls H locs hl hP hS
  exact lv_icmp_lt F.1 F.2.1 hd ht (fun q => kt q p e R s m args below meth c F C ls H locs hl hP hS) (fun q => kf q p e R s m args below meth c F C ls H locs hl hP hS)
theorem ok_if_ge {x : Int32} {off : Int} {tgt : Nat} (hd : decode M.2.1 pc = .ok (.ifCond .ge off, 3)) (ht : (pc : Int) + off = (tgt : Int)) (kt : 0 ≤ x → Ok g M J tgt L st h uc us) (kf : ¬ 0 ≤ x → Ok g M J (pc + 3) L st h uc us) : Ok g M J pc L (.int x :: st) h uc us := by
  intro p e R s m args below meth c F C ls H locs hl hP hS
  exact lv_if_ge F.1 F.2.1 hd ht (fun q => kt q p e R s m args below meth c F C ls H locs hl hP hS) (fun q => kf q p e R s m args below meth c F C ls H locs hl hP hS)
theorem ok_icmp_ge {x y : Int32} {off : Int} {tgt : Nat} (hd : decode M.2.1 pc = .ok (.if_icmp .ge off, 3)) (ht : (pc : Int) + off = (tgt : Int)) (kt : y ≤ x → Ok g M J tgt L st h uc us) (kf : ¬ y ≤ x → Ok g M J (pc + 3) L st h uc us) : Ok g M J pc L (.int y :: .int x :: st) h uc us := by
  intro p e R s m args below meth c F C ls H locs hl hP hS
  exact lv_icmp_ge F.1 F.2.1 hd ht (fun q => kt q p e R s m args below meth c F C ls H locs hl hP hS) (fun q => kf q p e R s m args below meth c F C ls H locs hl hP hS)
theorem ok_if_gt {x : Int32} {off : Int} {tgt : Nat} (hd : decode M.2.1 pc = .ok (.ifCond .gt off, 3)) (ht : (pc : Int) + off = (tgt : Int)) (kt : 0 < x → Ok g M J tgt L st h uc us) (kf : ¬ 0 < x → Ok g M J (pc + 3) L st h uc us) : Ok g M J pc L (.int x :: st) h uc us := by
  intro p e R s m args below meth c F C ls H locs hl hP hS
  exact lv_if_gt F.1 F.2.1 hd ht (fun q => kt q p e R s m args below meth c F C ls H locs hl hP hS) (fun q => kf q p e R s m args below meth c F C ls H locs hl hP hS)
theorem ok_icmp_gt {x y : Int32} {off : Int} {tgt : Nat} (hd : decode M.2.1 pc = .ok (.if_icmp .gt off, 3)) (ht : (pc : Int) + off = (tgt : Int)) (kt : y < x → Ok g M J tgt L st h uc us) (kf : ¬ y < x → Ok g M J (pc + 3) L st h uc us) : Ok g M J pc L (.int y :: .int x :: st) h uc us := by
  intro p e R s m args below meth c F C ls H locs hl hP hS
  exact lv_icmp_gt F.1 F.2.1 hd ht (fun q => kt q p e R s m args below meth c F C ls H locs hl hP hS) (fun q => kf q p e R s m args below meth c F C ls H locs hl hP hS)
theorem ok_if_le {x : Int32} {off : Int} {tgt : Nat} (hd : decode M.2.1 pc = .ok (.ifCond .le off, 3)) (ht : (pc : Int) + off = (tgt : Int)) (kt : x ≤ 0 → Ok g M J tgt L st h uc us) (kf : ¬ x ≤ 0 → Ok g M J (pc + 3) L st h uc us) : Ok g M J pc L (.int x :: st) h uc us := by
  intro p e R s m args below meth c F C ls H locs hl hP hS
  exact lv_if_le F.1 F.2.1 hd ht (fun q => kt q p e R s m args below meth c F C ls H locs hl hP hS) (fun q => kf q p e R s m args below meth c F C ls H locs hl hP hS)
theorem ok_icmp_le {x y : Int32} {off : Int} {tgt : Nat} (hd : decode M.2.1 pc = .ok (.if_icmp .le off, 3)) (ht : (pc : Int) + off = (tgt : Int)) (kt : x ≤ y → Ok g M J tgt L st h uc us) (kf : ¬ x ≤ y → Ok g M J (pc + 3) L st h uc us) : Ok g M J pc L (.int y :: .int x :: st) h uc us := by
  intro p e R s m args below meth c F C ls H locs hl hP hS
  exact lv_icmp_le F.1 F.2.1 hd ht (fun q => kt q p e R s m args below meth c F C ls H locs hl hP hS) (fun q => kf q p e R s m args below meth c F C ls H locs hl hP hS)
theorem ok_ifnull {v : Value} {off : Int} {tgt : Nat} (hd : decode M.2.1 pc = .ok (.ifnull off, 3)) (ht : (pc : Int) + off = (tgt : Int)) (ha : m_isA v = true) (kt : v = .null → Ok g M J tgt L st h uc us) (kf : ¬ v = .null → Ok g M J (pc + 3) L st h uc us) : Ok g M J pc L (v :: st) h uc us := by
  intro p e R s m args below meth c F C ls H locs hl hP hS
  cases v with
  | ref a => exact lv_ifnull F.1 F.2.1 hd (kf (fun q => by cases q) p e R s m args below meth c F C ls H locs hl hP hS)
  | null => exact lv_ifnullN F.1 F.2.1 hd ht (kt rfl p e R s m args below meth c F C ls H locs hl hP hS)
  | retAddr a => exact lv_ifnull F.1 F.2.1 hd (kf (fun q => by cases q) p e R s m args below meth c F C ls H locs hl hP hS)
  | int x => cases ha
  | long x => cases ha
  | float x => cases ha
  | double x => cases ha
theorem ok_ifnonnull {v : Value} {off : Int} {tgt : Nat} (hd : decode M.2.1 pc = .ok (.ifnonnull off, 3)) (ht : (pc : Int) + off = (tgt : Int)) (ha : m_isA v = true) (kt : ¬ v = .null → Ok g M J tgt L st h uc us) (kf : v = .null → Ok g M J (pc + 3) L st h uc us) : Ok g M J pc L (v :: st) h uc us := by
  intro p e R s m args below meth c F C ls H locs hl hP hS
  cases v with
  | ref a => exact lv_ifnonnull F.1 F.2.1 hd ht (kt (fun q => by cases q) p e R s m args below meth c F C ls H locs hl hP hS)
  | null => exact lv_ifnonnullN F.1 F.2.1 hd (kf rfl p e R s m args below meth c F C ls H locs hl hP hS)
  | retAddr a => exact lv_ifnonnull F.1 F.2.1 hd ht (kt (fun q => by cases q) p e R s m args below meth c F C ls H locs hl hP hS)
  | int x => cases ha
  | long x => cases ha
  | float x => cases ha
  | double x => cases ha
theorem ok_lcmp {x y : Int64} (hd : decode M.2.1 pc = .ok (.lcmp, 1)) (k : Ok g M J (pc + 1) L (.int (lg_cmp x y) :: st) h uc us) : Ok g M J pc L (.long y :: .long x :: st) h uc us := by
  intro p e R s m args below meth c F C ls H locs hl hP hS
  exact W.lcmp F.1 F.2.1 hd (k p e R s m args below meth c F C ls H locs hl hP hS)
theorem ok_tableOut {dflt lo hi : Int} {offs : Array Int} {len : Nat} {x : Int32} {tgt : Nat} (hd : decode M.2.1 pc = .ok (.tableswitch dflt lo hi offs, len)) (hx : x.toInt < lo ∨ hi < x.toInt) (ht : (pc : Int) + dflt = (tgt : Int)) (k : Ok g M J tgt L st h uc us) : Ok g M J pc L (.int x :: st) h uc us := by
  intro p e R s m args below meth c F C ls H locs hl hP hS
  exact lv_tableOut F.1 F.2.1 hd hx ht (k p e R s m args below meth c F C ls H locs hl hP hS)
theorem ok_tableIn {dflt lo hi : Int} {offs : Array Int} {len : Nat} {x : Int32} {off : Int} {tgt : Nat} (hd : decode M.2.1 pc = .ok (.tableswitch dflt lo hi offs, len)) (h1 : ¬ x.toInt < lo) (h2 : ¬ hi < x.toInt) (ho : offs[(x.toInt - lo).toNat]? = some off) (ht : (pc : Int) + off = (tgt : Int)) (k : Ok g M J tgt L st h uc us) : Ok g M J pc L (.int x :: st) h uc us := by
  intro p e R s m args below meth c F C ls H locs hl hP hS
  exact lv_tableIn F.1 F.2.1 hd h1 h2 ho ht (k p e R s m args below meth c F C ls H locs hl hP hS)
end MACH
