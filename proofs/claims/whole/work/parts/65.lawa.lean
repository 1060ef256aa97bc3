/-! THE CLAIM OUT OF ONE WALK OF THE LAW'S BODY. Your part is whole_start (and what it stands on); all else here is the same for every law, but numbers. -/
def R_law : String := "GivingHeapsLaw"
def lw_P (b : Addr) (xs : List Int32) (args : Array Value) (s : State) : Prop := args = #[.ref b] ∧ s.IntsAt b xs ∧ xs.length ≤ 2560 ∧ (Jvm.Cond.and given_1 narrow_1).before args s = true
def lw_Q (_ : Array Value) (s : State) (o : Outcome) (t : State) : Prop := o = .returned (some (.int 1)) ∧ Framed s o t [] 600000 7302250
def lw_Z (below : List Frame) (a : Array Value) (s : State) : State → Prop := fun t => ∃ o, t.status = .running ∧ Ended t below o ∧ lw_Q a s o t
/-- the law's own end, with 1 on the stack, nothing written that was there before, its room as the claim has it -/
theorem lw_ret {p : Program} {l : Launch} {e : Env} {s : State} {m : MethodId} {below : List Frame} {meth : Method} {c : Code} {b : Nat} (hx : p.tables.exec = Jvm.exec) (hb : c.code = code) (hr : meth.sig.returnType = ret) (hlocks : meth.locks = false) {pc : Nat} {H : Heap} {ls : Array Slot} (hdg : decode code pc = .ok (.ireturn, 1)) : W p l e room_1 s m #[Value.ref b] below meth c H [] 600000 7302250 (lw_Z below #[Value.ref b] s) (F0 m pc ls [.int 1]) := by
  intro T hT X
  obtain ⟨fs, hret, hrun, hended, hW, hframe⟩ := X.leave (v := some (.int 1)) (hlocks := hlocks) (fun h => by rw [hr] at h; cases h)
  have hmeth' : T.vm.method? m = some meth := X.method'
  refine ⟨T.setFrames fs, ?_, .returned (some (.int 1)), hrun, hended, rfl, ⟨_, rfl⟩, hW, hframe⟩
  jvm_step X.here [X.here.top, hx, hb, hdg, hmeth', hr, ret, narrow_b1]
  (try refine ⟨rfl, ?_⟩); (try refine ⟨rfl, ?_⟩)
  first | (intro acts; rw [hret _ acts rfl rfl rfl]) | rw [hret _ _ rfl rfl rfl]
  exact Steps.refl _
/-- what holds at the law's entry: the machine, the code, the tables' words (any of lw_tbl by 'hts w (by decide +kernel)'), the script of L ints xs at the cell b, what the Statement gives of the start (any of its parts by flat_of_before) -/
def lw_At (p : Program) (s : State) (m : MethodId) (meth : Method) (c : Code) (b L : Nat) (xs : Nat → Int32) : Prop :=
  p.tables.exec = Jvm.exec ∧ c.code = code ∧ meth.sig.returnType = ret ∧ c.maxLocals = 4 ∧ s.vm.findClass R_law = some m.cls ∧ (∀ w ∈ lw_tbl, w.before #[Value.ref b] s = true) ∧ va_X b L xs s s.heap ∧ b < s.heap.size ∧ meth.locks = false ∧ (Jvm.Cond.and given_1 narrow_1).before #[Value.ref b] s = true
/-! ===== the law ===== -/
def jL (g : mG) (b Ls : Nat) (xs : Nat → Int32) : mJ := (fun args s => va_X b Ls xs s s.heap ∧ b < g.2.1 ∧ s.heap.size ≤ g.2.1 ∧ args = #[Value.ref b], fun below args s => lw_Z below args s)
theorem jL_s {g : mG} {b Ls : Nat} {xs : Nat → Int32} : ∀ args s, (jL g b Ls xs).1 args s → va_X b Ls xs s s.heap ∧ b < g.2.1 := fun _ _ h => ⟨h.1, h.2.1⟩
theorem m_R_law : m_R ML_law = room_1 := rfl
theorem ok_lawend {g : mG} {b Ls pc : Nat} {xs : Nat → Int32} {L : List (Option Value)} {h : mH} {uc us : Nat} (hd : decode code pc = .ok (.ireturn, 1)) (hu : uc ≤ 600000 ∧ us ≤ 7302250) : Ok g ML_law (jL g b Ls xs) pc L [.int (nI 1)] h uc us := by
  intro p e R s m args below meth c F C ls H locs hl hP hS
  obtain ⟨hX, hb, hz, rfl⟩ := C
  have hR : R = room_1 := F.2.2.2.2.2.2.2.2.1
  subst hR
  refine va_forget (fun q hq => Nat.le_trans hz (hS.2.2 q hq)) ?_
  refine W.widen hu.1 hu.2 ?_
  exact lw_ret F.1 F.2.1 F.2.2.2.1 F.2.2.2.2.1 hd
theorem okN_sald {g : mG} {M : mM} {b Ls pc j : Nat} {xs : Nat → Int32} {L : List (Option Value)} {st : List Value} {h : mH} {uc us : Nat} (hd : decode M.2.1 pc = .ok (.iaload, 1)) (hj : j < Ls) (hL : Ls < 2 ^ 31) (k : Ok g M (jL g b Ls xs) (pc + 1) L (.int (xs j) :: st) h uc us) : Ok g M (jL g b Ls xs) pc L (.int (nI j) :: .retAddr b :: st) h uc us := by
  refine ok_sald hd jL_s (vp_in_nI hj hL) ?_
  rw [nI_clamp (Nat.lt_trans hj hL)]
  exact k
theorem and31 (x : Int32) : ∃ k, k < 32 ∧ x &&& nI 31 = nI k := by
  refine ⟨(x &&& nI 31).toBitVec.toNat, ?_, ?_⟩
  · have e : (x &&& nI 31).toBitVec = x.toBitVec &&& (nI 31).toBitVec := rfl
    rw [e, BitVec.toNat_and]
    exact Nat.lt_of_le_of_lt Nat.and_le_right (by decide)
  · apply Int32.toBitVec_inj.mp
    show _ = BitVec.ofNat 32 _
    rw [BitVec.ofNat_toNat]
    simp
/-! the other object's cells stay -/
theorem fX.w46 {h h' : mH} (f : fX h h') : hw (List.range 46) h h' := ⟨f.1, fun q l n => f.2 q (by rw [List.mem_range] at n; omega) l⟩
theorem fM.w64 {h h' : mH} (f : fM h h') : hw (List.range' 46 18) h h' := by
  refine ⟨by rw [f.1]; exact Nat.le_refl _, fun q l n => f.2 q ?_⟩
  rw [List.mem_range'] at n
  by_cases c : q < 46
  · exact Or.inl c
  · refine Or.inr (Nat.le_of_not_lt (fun z => n ⟨q - 46, by omega, by omega⟩))
theorem nin64 {q : Nat} (h : q < 46 ∨ 64 ≤ q) : q ∉ List.range' 46 18 := by
  rw [List.mem_range']
  rintro ⟨i, h1, h2⟩
  omega
theorem IX.f {h h' : mH} {S : ST} (I : IX h S) (f : fM h h') : IX h' S := by
  obtain ⟨e0, hr, i1, i2, i3, i4, i5, i6, i7, i7', i8⟩ := I
  have w := f.w64
  exact ⟨w.at (nin64 (by omega)) e0, hr, i1.w w (nin64 (by omega)), i2.w w (nin64 (by omega)), i3.w w (nin64 (by omega)), i4.w w (nin64 (by omega)) (nin64 (by omega)), i5.w w (fun q l1 l2 => nin64 (by omega)), i6.w w (nin64 (by omega)) (fun q hq => by rw [List.mem_range'] at hq; obtain ⟨i, h1, h2⟩ := hq; omega), i7.w w (nin64 (by omega)) (nin64 (by omega)), i7'.w w (nin64 (by omega)) (nin64 (by omega)), i8.w w (fun q l1 l2 => nin64 (by omega))⟩
theorem nin46 {q : Nat} (h : 46 ≤ q) : q ∉ List.range 46 := by
  rw [List.mem_range]
  omega
theorem cI.w {h h' : mH} {A : List Nat} {a n : Nat} (r : cI h a n) (x : hw A h h') (n1 : a ∉ A) : cI h' a n := by obtain ⟨F, e⟩ := r; exact ⟨F, x.at n1 e⟩
theorem cJ.w {h h' : mH} {A : List Nat} {a n : Nat} (r : cJ h a n) (x : hw A h h') (n1 : a ∉ A) : cJ h' a n := by obtain ⟨F, e⟩ := r; exact ⟨F, x.at n1 e⟩
theorem IM.f {h h' : mH} {S : ST} (I : IM h S) (f : fX h h') : IM h' S := by
  obtain ⟨sz, li, lz, kd, e0, ⟨F1, e1, f1⟩, ⟨F2, e2, f2⟩, ⟨F3, e3, f3⟩, ⟨F52, F53, e52, e53, fL⟩, ⟨r1, r2, r3, r4, r5, r6⟩, k6, k7⟩ := I
  have w := f.w46
  exact ⟨sz, li, lz, kd, w.at (nin46 (by omega)) e0, ⟨F1, w.at (nin46 (by omega)) e1, f1⟩, ⟨F2, w.at (nin46 (by omega)) e2, f2⟩, ⟨F3, w.at (nin46 (by omega)) e3, f3⟩, ⟨F52, F53, w.at (nin46 (by omega)) e52, w.at (nin46 (by omega)) e53, fL⟩, ⟨r1.w w (nin46 (by omega)), r2.w w (nin46 (by omega)), fun a l1 l2 => (r3 a l1 l2).w w (nin46 (by omega)), r4.w w (nin46 (by omega)), fun a l1 l2 => (r5 a l1 l2).w w (nin46 (by omega)), r6.w w (nin46 (by omega))⟩, k6, k7⟩
theorem IM.e46 {h : mH} {S : ST} (I : IM h S) : ∃ fs, hc h 46 = some (.inr (5, fs)) := by
  obtain ⟨sz, li, lz, kd, e0, -⟩ := I
  exact ⟨_, e0⟩
theorem findings_2 (S : ST) (f : Int32) : (sp_findings S f).2 = S := by
  unfold sp_findings
  cases pl 6 f with
  | none => rfl
  | some x => dsimp only; split <;> rfl
