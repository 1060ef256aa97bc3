/-! ===== what an array holds is what its places hold ===== -/
theorem arrV_congr {cA : ClassId} {N : Nat} {f f' : Nat → Value} (hf : ∀ j, j < N → f j = f' j) : arrV cA N f = arrV cA N f' := by
  unfold arrV
  congr 1
  apply Array.ext
  · simp
  · intro i h1 h2
    simp only [Array.getElem_ofFn]
    exact hf i (by simpa using h1)
theorem ok_ext {g : mG} {M : mM} {J : mJ} {pc : Nat} {L : List (Option Value)} {st : List Value} {h : mH} {uc us a : Nat} {x y : mE} (hh : hc h a = some x) (he : ∀ H, va_at (m_D g) m_cl (g.2.1 + a, m_sE g x) H → va_at (m_D g) m_cl (g.2.1 + a, m_sE g y) H) (k : ∀ h1, hx [a] h h1 → hc h1 a = some y → Ok g M J pc L st h1 uc us) : Ok g M J pc L st h uc us := by
  intro p e R s m args below meth c F C ls H locs hl hP hS
  refine k (hs h a y) (hx_hs h a y) (hc_hs hh) p e R s m args below meth c F C ls H locs hl (m_P_set hP hh (he H (hP.1 a _ (m_W_get hh))) rfl (fun q _ => rfl)) hS
theorem ok_extI {g : mG} {M : mM} {J : mJ} {pc : Nat} {L : List (Option Value)} {st : List Value} {h : mH} {uc us a N : Nat} {G G' : Nat → Nat} (hh : hc h a = some (aI N G)) (hG : ∀ j, j < N → G j = G' j) (k : ∀ h1, hx [a] h h1 → hc h1 a = some (aI N G') → Ok g M J pc L st h1 uc us) : Ok g M J pc L st h uc us := by
  refine ok_ext hh (fun H e => ?_) k
  have e1 : H[g.2.1 + a]? = some (arrV (g.2.2.2.2 .int) N (fun j => .int (nI (G j)))) := e
  show H[g.2.1 + a]? = some (arrV (g.2.2.2.2 .int) N (fun j => .int (nI (G' j))))
  rw [e1]
  congr 1
  exact arrV_congr (fun j hj => by rw [hG j hj])
theorem ok_extK {g : mG} {M : mM} {J : mJ} {pc : Nat} {L : List (Option Value)} {st : List Value} {h : mH} {uc us a N : Nat} {G G' : Nat → Int32} (hh : hc h a = some (aK N G)) (hG : ∀ j, j < N → G j = G' j) (k : ∀ h1, hx [a] h h1 → hc h1 a = some (aK N G') → Ok g M J pc L st h1 uc us) : Ok g M J pc L st h uc us := by
  refine ok_ext hh (fun H e => ?_) k
  have e1 : H[g.2.1 + a]? = some (arrV (g.2.2.2.2 .int) N (fun j => .int (G j))) := e
  show H[g.2.1 + a]? = some (arrV (g.2.2.2.2 .int) N (fun j => .int (G' j)))
  rw [e1]
  congr 1
  exact arrV_congr (fun j hj => by rw [hG j hj])
theorem ok_extJ {g : mG} {M : mM} {J : mJ} {pc : Nat} {L : List (Option Value)} {st : List Value} {h : mH} {uc us a N : Nat} {G G' : Nat → Int64} (hh : hc h a = some (aJ N G)) (hG : ∀ j, j < N → G j = G' j) (k : ∀ h1, hx [a] h h1 → hc h1 a = some (aJ N G') → Ok g M J pc L st h1 uc us) : Ok g M J pc L st h uc us := by
  refine ok_ext hh (fun H e => ?_) k
  have e1 : H[g.2.1 + a]? = some (arrV (g.2.2.2.2 .long) N (fun j => .long (G j))) := e
  show H[g.2.1 + a]? = some (arrV (g.2.2.2.2 .long) N (fun j => .long (G' j)))
  rw [e1]
  congr 1
  exact arrV_congr (fun j hj => by rw [hG j hj])
