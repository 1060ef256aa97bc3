/-! ===== the machine seen from above: cells and calls ===== -/
def m_in (ws : List Cond) : Prop := ∀ w ∈ ws, w ∈ m_tb
theorem m_in_of {ws : List Cond} (ps : List Nat) (hp : ws = ps.filterMap (fun i => lw_tbl[i]?)) (hg : ws.all goodWord = true) : m_in ws := by
  intro w hw
  refine List.mem_filter.mpr ⟨?_, List.all_eq_true.mp hg w hw⟩
  rw [hp] at hw
  obtain ⟨i, -, hi⟩ := List.mem_filterMap.mp hw
  exact List.mem_of_getElem? hi
/-- field k of class ci, by the entry idx of the class own -/
def m_fl (own : String) (idx ci k : Nat) (ty : FieldType) (fin : Bool) : Prop := ∃ (r : vw_C) (ty0 : Nat → FieldType), m_cl[ci]? = some r ∧ k < r.2.2 ∧ m_in (u_ws r.1 r.2.1 r.2.2) ∧ Cond.fieldLink own idx (r.2.1 k).1 (r.2.1 k).2.1 (r.2.1 k).2.2.1 ∈ m_tb ∧
  (∀ k, k < r.2.2 → parseFieldDescriptor (r.2.1 k).2.2.1 = some (ty0 k)) ∧ (∀ a, a < r.2.2 → ∀ b, b < r.2.2 → a ≠ b → (r.2.1 a).2.1 ≠ (r.2.1 b).2.1) ∧ ty0 k = ty ∧ (r.2.1 k).2.2.2 = fin ∧ (fin = true → (r.2.1 k).1 = own)
theorem m_P_set {g : mG} {h : mH} {H H1 : Heap} {a : Nat} {x0 x : mE} (hP : m_P g h H) (hh : hc h a = some x0) (he : va_at (m_D g) m_cl (g.2.1 + a, m_sE g x) H1) (z : H1.size = H.size) (oq : ∀ q : Nat, q ≠ g.2.1 + a → H1[q]? = H[q]?) : m_P g (hs h a x) H1 :=
  ⟨by rw [← m_W_hs]; exact hP.1.set (m_W_D g h) (m_W_get hh) he oq, by rw [z]; exact hP.2⟩
theorem m_P_push {g : mG} {h : mH} {H H1 : Heap} {x : mE} (hP : m_P g h H) (he : va_at (m_D g) m_cl (g.2.1 + h.1, m_sE g x) H1) (z : H1.size = H.size + 1) (oq : ∀ q : Nat, q < H.size → H1[q]? = H[q]?) : m_P g (hp h x) H1 := by
  refine ⟨?_, by rw [z, hP.2]; rfl⟩
  rw [m_W_hp]
  refine (hP.1.kept (fun k q hk => oq q.1 (hP.1 k q hk).lt)).app ?_
  intro k q hk
  have hz : k < 1 := (List.getElem?_eq_some_iff.mp hk).1
  rw [show k = 0 by omega] at hk
  cases hk
  exact he
theorem m_S_push {g : mG} {H0 H H1 : Heap} {locs : List Loc} (hS : va_S (m_A g) H0 H locs) (z : H1.size = H.size + 1) (oq : ∀ q : Nat, q < H.size → H1[q]? = H[q]?) : va_S (m_A g) H0 H1 locs :=
  ⟨by have := hS.1; omega, fun q h1 h2 => (oq q (Nat.lt_of_lt_of_le h1 hS.1)).trans (hS.2.1 q h1 h2), hS.2.2⟩
theorem m_ty_at (g : mG) {t : Nat} {ty : FieldType} (ht : m_ty5[t]? = some ty) : (m_tys g)[t]? = some (g.2.2.2.2 ty, ty) := by
  simp [m_tys, ht]
theorem m_Ain (g : mG) (a : Nat) : m_A g (g.2.1 + a) := by show g.2.1 ≤ _; omega
def m_rv (r : Option Nat) : Value := match r with
  | none => .null
  | some a => .ref a
theorem m_rv_sv (b : Nat) (r : Option Nat) : m_sv b (m_rv r) = va_rf (r.map (fun q => b + q)) := by cases r <;> rfl
section MACH2
variable {g : mG} {M : mM} {J : mJ} {pc : Nat} {L L' : List (Option Value)} {st : List Value} {h : mH} {uc us : Nat}
theorem ok_get {a ci k idx : Nat} {fs : List Value} {v : Value} {ty : FieldType} {fin : Bool} (hd : decode M.2.1 pc = .ok (.getfield idx, 3)) (hf : m_fl M.1.cls idx ci k ty fin) (hh : hc h a = some (.inr (ci, fs))) (hv : fs[k]? = some v) (kk : Ok g M J (pc + 3) L (v :: st) h uc us) : Ok g M J pc L (.ref a :: st) h uc us := by
  intro p e R s m args below meth c F C ls H locs hl hP hS
  obtain ⟨r, ty0, h1, h2, h3, h4, h5, h6, h7, h8, -⟩ := hf
  exact va_get (cl := m_cl) (C := r.1) (T := r.2.1) (N := r.2.2) F.1 F.2.1 F.2.2.2.2.2.2.1 h3 F.2.2.2.2.2.1 F.2.2.2.2.2.2.2.2.2.1 hP.1 a (m_W_get hh) h1 k h2 (F.2.2.2.2.2.2.1 _ h4) (fun x q => q) (v := m_sv g.2.1 v) (by rw [List.getElem?_map, hv]; rfl) hd (kk p e R s m args below meth c F C ls H locs hl hP hS)
theorem ok_put {a ci k idx : Nat} {fs : List Value} {v : Value} {ty : FieldType} (hd : decode M.2.1 pc = .ok (.putfield idx, 3)) (hf : m_fl M.1.cls idx ci k ty false) (hh : hc h a = some (.inr (ci, fs))) (hk : k < fs.length) (hn : ∀ b, narrow ty (m_sv b v) = m_sv b v ∧ fits ty (m_sv b v) = true) (kk : Ok g M J (pc + 3) L st (hs h a (.inr (ci, fs.set k v))) uc us) : Ok g M J pc L (v :: .ref a :: st) h uc us := by
  intro p e R s m args below meth c F C ls H locs hl hP hS
  obtain ⟨r, ty0, h1, h2, h3, h4, h5, h6, h7, h8, -⟩ := hf
  have hK := F.2.2.2.2.2.2.2.2.2.1
  have hts := F.2.2.2.2.2.2.1
  have hap := va_apart (own := r.1) hts h3 ty0 h5 h6 hK h1
  obtain ⟨r', h1', cell, q1, q2, q3, q4⟩ := hP.1 a _ (m_W_get hh)
  have hr : r' = r := Option.some.inj (h1'.symm.trans h1)
  subst hr
  obtain ⟨hSl, hfc, kC, hkC, hkind⟩ := hK.1 ci _ h1
  obtain ⟨cf, kf, fi, f, hi, hsl⟩ := hSl k h2
  have hlay := hts _ (h3 _ (u_in_lay h2))
  unfold u_lay at hlay
  rw [if_neg (by rw [h8]; decide)] at hlay
  have hst := (u_facts hfc hkC (u_lays hts h3 h2) hi).1
  have hd5 : parseFieldDescriptor (r'.2.1 k).2.2.1 = some ty := (h5 k h2).trans (by rw [h7])
  have hsd := u_store hfc hkC hkind hlay hi hd5 (hn g.2.1).1 (hn g.2.1).2
  have hkl : k < (fs.map (m_sv g.2.1)).length := by rw [List.length_map]; exact hk
  refine W.putK F.1 F.2.1 (f := f) ⟨F.2.2.2.2.2.1, hts _ h4, ⟨_, _, _, hi⟩, hst⟩ (v := m_sv g.2.1 v) (by rw [q2]; exact hsd) q1 q3 (by rw [hsl]; exact k2_hasslot (q4 k h2)) rfl rfl hd fun H' e1 e2 e3 => ?_
  rw [hsl] at e1 ⊢
  refine kk p e R s m args below meth c F C ls H' _ hl (m_P_set hP hh ?_ e2 e3) (hS.put e2 e3 (m_Ain g a))
  refine ⟨_, h1, t_OB.to (V := updV (vp_V (fs.map (m_sv g.2.1))) k (m_sv g.2.1 v)) ⟨_, e1, q2, q3, t_set q4 hap h2 _⟩ (fun j _ => ?_)⟩
  rw [List.map_set]
  exact vp_updV_set hkl _ j
theorem ok_putF {a ci k idx : Nat} {fs : List Value} {v : Value} {ty : FieldType} (hd : decode M.2.1 pc = .ok (.putfield idx, 3)) (hin : M.1.name = "<init>") (hf : m_fl M.1.cls idx ci k ty true) (hh : hc h a = some (.inr (ci, fs))) (hk : k < fs.length) (hn : ∀ b, narrow ty (m_sv b v) = m_sv b v ∧ fits ty (m_sv b v) = true) (kk : Ok g M J (pc + 3) L st (hs h a (.inr (ci, fs.set k v))) uc us) : Ok g M J pc L (v :: .ref a :: st) h uc us := by
  intro p e R s m args below meth c F C ls H locs hl hP hS
  obtain ⟨r, ty0, h1, h2, h3, h4, h5, h6, h7, h8, h9⟩ := hf
  have hK := F.2.2.2.2.2.2.2.2.2.1
  have hts := F.2.2.2.2.2.2.1
  have hown := F.2.2.2.2.2.1
  have hap := va_apart (own := r.1) hts h3 ty0 h5 h6 hK h1
  obtain ⟨r', h1', cell, q1, q2, q3, q4⟩ := hP.1 a _ (m_W_get hh)
  have hr : r' = r := Option.some.inj (h1'.symm.trans h1)
  subst hr
  obtain ⟨hSl, hfc, kC, hkC, hkind⟩ := hK.1 ci _ h1
  obtain ⟨cf, kf, fi, f, hi, hsl⟩ := hSl k h2
  have hlay := hts _ (h3 _ (u_in_lay h2))
  unfold u_lay at hlay
  rw [if_pos h8] at hlay
  have hst := (u_facts hfc hkC (u_lays hts h3 h2) hi).1
  have hcf : m.cls = cf := by
    obtain ⟨_, _, c', _, _, _, -, -, hf', -, -, -, hown2, -⟩ := Cond.laysFinal_spec hlay
    have e1 : c' = cf := by have := hi.symm.trans hf'; simp at this; exact this.1.symm
    rw [h9 rfl] at hown2
    rw [← e1]; exact Option.some.inj (hown.symm.trans hown2)
  have hd5 : parseFieldDescriptor (r'.2.1 k).2.2.1 = some ty := (h5 k h2).trans (by rw [h7])
  have hsd := u_fits hfc hkC hkind (Or.inr hlay) hi hd5 (hn g.2.1).1 (hn g.2.1).2
  have hkl : k < (fs.map (m_sv g.2.1)).length := by rw [List.length_map]; exact hk
  refine W.putFinK F.1 F.2.1 hown (hts _ h4) hi hst hcf (F.2.2.2.2.2.2.2.1 hin) (v := m_sv g.2.1 v) (by rw [q2]; exact hsd) q1 q3 (by rw [hsl]; exact k2_hasslot (q4 k h2)) rfl rfl hd fun H' e1 e2 e3 => ?_
  rw [hsl] at e1 ⊢
  refine kk p e R s m args below meth c F C ls H' _ hl (m_P_set hP hh ?_ e2 e3) (hS.put e2 e3 (m_Ain g a))
  refine ⟨_, h1, t_OB.to (V := updV (vp_V (fs.map (m_sv g.2.1))) k (m_sv g.2.1 v)) ⟨_, e1, q2, q3, t_set q4 hap h2 _⟩ (fun j _ => ?_)⟩
  rw [List.map_set]
  exact vp_updV_set hkl _ j
/-! arrays -/
theorem ok_iald {a n : Nat} {f : Nat → Int32} {i : Int32} (hd : decode M.2.1 pc = .ok (.iaload, 1)) (hh : hc h a = some (.inl (.int, n, .inl f))) (hi : vp_in i n) (kk : Ok g M J (pc + 1) L (.int (f i.toNatClampNeg) :: st) h uc us) : Ok g M J pc L (.int i :: .ref a :: st) h uc us := by
  intro p e R s m args below meth c F C ls H locs hl hP hS
  exact va_iald F.1 F.2.1 F.2.2.2.2.2.2.2.2.2.1 hP.1 a 0 (m_W_get hh) (m_ty_at g rfl) hi hd (kk p e R s m args below meth c F C ls H locs hl hP hS)
theorem ok_lald {a n : Nat} {f : Nat → Int64} {i : Int32} (hd : decode M.2.1 pc = .ok (.laload, 1)) (hh : hc h a = some (.inl (.long, n, .inr (.inl f)))) (hi : vp_in i n) (kk : Ok g M J (pc + 1) L (.long (f i.toNatClampNeg) :: st) h uc us) : Ok g M J pc L (.int i :: .ref a :: st) h uc us := by
  intro p e R s m args below meth c F C ls H locs hl hP hS
  exact va_lald F.1 F.2.1 F.2.2.2.2.2.2.2.2.2.1 hP.1 a 1 (m_W_get hh) (m_ty_at g rfl) hi hd (kk p e R s m args below meth c F C ls H locs hl hP hS)
theorem ok_zald {a n : Nat} {f : Nat → Int32} {i : Int32} (hd : decode M.2.1 pc = .ok (.baload, 1)) (hh : hc h a = some (.inl (.boolean, n, .inl f))) (hi : vp_in i n) (kk : Ok g M J (pc + 1) L (.int (f i.toNatClampNeg) :: st) h uc us) : Ok g M J pc L (.int i :: .ref a :: st) h uc us := by
  intro p e R s m args below meth c F C ls H locs hl hP hS
  exact va_zald F.1 F.2.1 F.2.2.2.2.2.2.2.2.2.1 hP.1 a 2 (m_W_get hh) (m_ty_at g rfl) hi hd (kk p e R s m args below meth c F C ls H locs hl hP hS)
theorem ok_aald {a n t : Nat} {C0 : String} {f : Nat → Option Nat} {i : Int32} (hd : decode M.2.1 pc = .ok (.aaload, 1)) (ht : m_ty5[t]? = some (.object C0)) (hh : hc h a = some (.inl (.object C0, n, .inr (.inr (.inr (.inr f)))))) (hi : vp_in i n) (kk : Ok g M J (pc + 1) L (m_rv (f i.toNatClampNeg) :: st) h uc us) : Ok g M J pc L (.int i :: .ref a :: st) h uc us := by
  intro p e R s m args below meth c F C ls H locs hl hP hS
  refine va_aldq (C := C0) F.1 F.2.1 F.2.2.2.2.2.2.2.2.2.1 hP.1 a t (m_W_get hh) (m_ty_at g ht) hi hd ?_
  have k' := kk p e R s m args below meth c F C ls H locs hl hP hS
  rw [List.map_cons, m_rv_sv] at k'
  exact k'
theorem ok_alen {a n t : Nat} {ty : FieldType} {x : (Nat → Int32) ⊕ (Nat → Int64) ⊕ (Nat → UInt32) ⊕ (Nat → UInt64) ⊕ (Nat → Option Nat)} (hd : decode M.2.1 pc = .ok (.arraylength, 1)) (ht : m_ty5[t]? = some ty) (hh : hc h a = some (.inl (ty, n, x))) (kk : Ok g M J (pc + 1) L (.int (nI n) :: st) h uc us) : Ok g M J pc L (.ref a :: st) h uc us := by
  intro p e R s m args below meth c F C ls H locs hl hP hS
  refine va_alen F.1 F.2.1 F.2.2.2.2.2.2.2.2.2.1 hP.1 a t (m_W_get hh) (m_ty_at g ht) (v := nI n) ?_ hd (kk p e R s m args below meth c F C ls H locs hl hP hS)
  show Int32.ofNat (m_sA g.2.1 (n, x)).1 = nI n
  rw [m_sA_1]
  rfl
theorem m_arr (g : mG) {s : State} (hK : va_K (m_D g) m_cl (m_tys g) s) {t : Nat} {ty : FieldType} (ht : m_ty5[t]? = some ty) (n : Nat) (z : Nat → Value) : s.isArrayOf (arrV (g.2.2.2.2 ty) n z) ty := (hK.2 t _ (m_ty_at g ht)).1 n z
theorem ok_iast {a n : Nat} {f : Nat → Int32} {i x : Int32} (hd : decode M.2.1 pc = .ok (.iastore, 1)) (hh : hc h a = some (.inl (.int, n, .inl f))) (hi : vp_in i n) (kk : Ok g M J (pc + 1) L st (hs h a (.inl (.int, n, .inl (upd f i.toNatClampNeg x)))) uc us) : Ok g M J pc L (.int x :: .int i :: .ref a :: st) h uc us := by
  intro p e R s m args below meth c F C ls H locs hl hP hS
  refine W.iast F.1 F.2.1 (hP.1 a _ (m_W_get hh)) (m_arr g F.2.2.2.2.2.2.2.2.2.1 (t := 0) rfl n (fun j => .int (f j))) (fun q => by cases q) (by show ¬ (i < 0 ∨ (arrV _ _ _).slots.size ≤ _); rw [arrV_size]; exact hi) rfl rfl hd fun H1 e1 z oq => ?_
  refine kk p e R s m args below meth c F C ls H1 _ hl (m_P_set hP hh ?_ z oq) (hS.put z oq (m_Ain g a))
  show H1[g.2.1 + a]? = some (vp_cell _ (n, .inl (upd f i.toNatClampNeg x)))
  rw [e1]
  show some ((vp_cell _ (n, .inl f)).setSlot _ _) = _
  rw [vp_cell_i, vp_cell_i, arrV_store]
  congr 2
  funext q
  by_cases hq : q = i.toNatClampNeg
  · subst hq; simp [updV, upd]
  · simp [updV, upd, hq]
theorem ok_last {a n : Nat} {f : Nat → Int64} {i : Int32} {x : Int64} (hd : decode M.2.1 pc = .ok (.lastore, 1)) (hh : hc h a = some (.inl (.long, n, .inr (.inl f)))) (hi : vp_in i n) (kk : Ok g M J (pc + 1) L st (hs h a (.inl (.long, n, .inr (.inl (vp_updL f i.toNatClampNeg x))))) uc us) : Ok g M J pc L (.long x :: .int i :: .ref a :: st) h uc us := by
  intro p e R s m args below meth c F C ls H locs hl hP hS
  refine W.last F.1 F.2.1 (hP.1 a _ (m_W_get hh)) (m_arr g F.2.2.2.2.2.2.2.2.2.1 (t := 1) rfl n (fun j => .long (f j))) (fun q => by cases q) (by show ¬ (i < 0 ∨ (arrV _ _ _).slots.size ≤ _); rw [arrV_size]; exact hi) rfl rfl hd fun H1 e1 z oq => ?_
  refine kk p e R s m args below meth c F C ls H1 _ hl (m_P_set hP hh ?_ z oq) (hS.put z oq (m_Ain g a))
  show H1[g.2.1 + a]? = some (vp_cell _ (n, .inr (.inl (vp_updL f i.toNatClampNeg x))))
  rw [e1]
  show some ((vp_cell _ (n, .inr (.inl f))).setSlot _ _) = _
  rw [vp_cell_l, vp_cell_l, arrV_store]
  congr 2
  funext q
  by_cases hq : q = i.toNatClampNeg
  · subst hq; simp [updV, vp_updL]
  · simp [updV, vp_updL, hq]
theorem ok_zast {a n : Nat} {f : Nat → Int32} {i x : Int32} (hd : decode M.2.1 pc = .ok (.bastore, 1)) (hx : narrow .boolean (.int x) = .int x) (hh : hc h a = some (.inl (.boolean, n, .inl f))) (hi : vp_in i n) (kk : Ok g M J (pc + 1) L st (hs h a (.inl (.boolean, n, .inl (upd f i.toNatClampNeg x)))) uc us) : Ok g M J pc L (.int x :: .int i :: .ref a :: st) h uc us := by
  intro p e R s m args below meth c F C ls H locs hl hP hS
  refine W.zast F.1 F.2.1 (hP.1 a _ (m_W_get hh)) (m_arr g F.2.2.2.2.2.2.2.2.2.1 (t := 2) rfl n (fun j => .int (f j))) (fun q => by cases q) (by show ¬ (i < 0 ∨ (arrV _ _ _).slots.size ≤ _); rw [arrV_size]; exact hi) rfl rfl hd fun H1 e1 z oq => ?_
  refine kk p e R s m args below meth c F C ls H1 _ hl (m_P_set hP hh ?_ z oq) (hS.put z oq (m_Ain g a))
  show H1[g.2.1 + a]? = some (vp_cell _ (n, .inl (upd f i.toNatClampNeg x)))
  rw [e1, hx]
  show some ((vp_cell _ (n, .inl f)).setSlot _ _) = _
  rw [vp_cell_i, vp_cell_i, arrV_store]
  congr 2
  funext q
  by_cases hq : q = i.toNatClampNeg
  · subst hq; simp [updV, upd]
  · simp [updV, upd, hq]
theorem ok_aast {a n t v ci : Nat} {r : vw_C} {vs : List Value} {f : Nat → Option Nat} {i : Int32} (hd : decode M.2.1 pc = .ok (.aastore, 1)) (ht : m_ty5[t]? = some (.object r.1)) (hc0 : m_cl[ci]? = some r) (hh : hc h a = some (.inl (.object r.1, n, .inr (.inr (.inr (.inr f)))))) (hv : hc h v = some (.inr (ci, vs))) (hi : vp_in i n) (kk : Ok g M J (pc + 1) L st (hs h a (.inl (.object r.1, n, .inr (.inr (.inr (.inr (va_up f i.toNatClampNeg (some v)))))))) uc us) : Ok g M J pc L (.ref v :: .int i :: .ref a :: st) h uc us := by
  intro p e R s m args below meth c F C ls H locs hl hP hS
  have hK := F.2.2.2.2.2.2.2.2.2.1
  have hlt : i.toNatClampNeg < n := Nat.not_le.mp fun q => hi (Or.inr q)
  have h0 : ¬ i < 0 := fun q => hi (Or.inl q)
  obtain ⟨r', hr', cellV, g1, g2, g3, -⟩ := hP.1 v _ (m_W_get hv)
  have hcls := (hK.1 ci r hc0).2
  obtain ⟨kA, comp, k1, k2, k3, -⟩ := (hK.2 t _ (m_ty_at g ht)).2
  have hcomp : comp = (m_D g).1 ci := Option.some.inj (k3.symm.trans hcls.1)
  subst hcomp
  obtain ⟨kC, hkC, -⟩ := hcls.2
  refine W.aast F.1 F.2.1 (hP.1 a _ (m_W_get hh)) (fun q h => by cases h) (fun h => by cases h) k1 k2 rfl hkC ⟨h0, by show _ < (arrV _ _ _).slots.size; rw [arrV_size]; exact hlt⟩ g1 (fun q h => by rw [g3] at h; cases h) (by rw [g2]; exact hkC) (by rw [g2]; exact va_assign hcls) rfl rfl hd fun H1 e1 z oq => ?_
  refine kk p e R s m args below meth c F C ls H1 _ hl (m_P_set hP hh ?_ z oq) (hS.put z oq (m_Ain g a))
  show H1[g.2.1 + a]? = some (vp_cell _ (n, .inr (.inr (.inr (.inr (fun j => ((va_up f i.toNatClampNeg (some v)) j).map (fun q => g.2.1 + q)))))))
  rw [e1]
  show some ((vp_cell _ (n, .inr (.inr (.inr (.inr (fun j => (f j).map (fun q => g.2.1 + q))))))).setSlot _ _) = _
  rw [vp_cell_q, vp_cell_q, arrV_store]
  congr 2
  funext q
  by_cases hq : q = i.toNatClampNeg
  · subst hq; simp [updV, va_up, va_rf]
  · simp [updV, va_up, hq]
end MACH2
