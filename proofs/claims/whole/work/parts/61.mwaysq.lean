/-! ===== the second program's gifts, all of them ===== -/
theorem dst_drop : ∀ (L : List (Nat × Nat)) (u : Nat), dst L → dst (L.drop u)
  | [], u, h => by simp [dst]
  | q :: t, 0, h => h
  | q :: t, u + 1, h => by rw [List.drop_succ_cons]; exact dst_drop t u h.2
section MWAYSQ
variable {g : mG} {h : mH} {Q : Option Value → mH → Prop} {S : ST} {sz lz : Nat} {li kd : Int32} {fi : Nat} {wk : Int64} {ru : Nat}
theorem l_X5_awI {kk u c x R gv : Nat} {w many : Int64} {r0 : List Nat} {U O G : Nat → Nat} (hc1 : 1 ≤ c) (hxR : x ≤ R) (hR : r0.length + R ≤ 19) (hu : u < 18) (e60 : hc h 60 = some (aI 18 U)) (e61 : hc h 61 = some (aI 18 O)) (e62 : hc h 62 = some (aI 18 G)) (fU : U u = c) (fO : O u = R) (fG : G u = x)
    (k : ∀ h' z9, hx [46, 51] h h' → hc h' 46 = some (mdo fi wk ru (r0.length + R) li lz kd) → Rm h' (r0 ++ gr c x R) → Ok g MX5_addWays (m_J g MX5_addWays Q) 254 [some (.ref 46), some (.int (nI kk)), some (.long w), none, some (.int (nI 1)), some (.long many), none, some (.int (nI gv)), some (.int (nI u)), z9] [] h' 0 0) :
    ∀ (d i : Nat) (h1 : mH), i + d = R → hx [46, 51] h h1 → hc h1 46 = some (mdo fi wk ru (r0.length + i) li lz kd) → Rm h1 (r0 ++ gr c x i) → Ok g MX5_addWays (m_J g MX5_addWays Q) 186 [some (.ref 46), some (.int (nI kk)), some (.long w), none, some (.int (nI 1)), some (.long many), none, some (.int (nI gv)), some (.int (nI u)), some (.int (nI i))] [] h1 0 0 := by
  intro d
  induction d with
  | zero =>
    intro i h1 hi x1 e0 R1
    have ei : i = R := by omega
    subst ei
    have e61' := x1.at (by decide) e61
    refine ok_iload dX5_addWays_186 rfl ?_
    refine ok_aload_n dX5_addWays_188 rfl rfl ?_
    refine ok_get dX5_addWays_189 fl_X5_57 (by assumption) (by rfl) ?_
    refine ok_iload dX5_addWays_192 rfl ?_
    first | refine okN_iald dX5_addWays_194 (by assumption) (by omega) (by decide) ?_ | refine okF_iald dX5_addWays_194 (by assumption) (by omega) (by omega) ?_ | refine okN_kald dX5_addWays_194 (by assumption) (by omega) (by decide) ?_
    rw [fO]
    refine okN_icmp_ge (tgt := 254) dX5_addWays_195 (by decide) (by omega) (by omega) (fun c1 => ?_) (fun c1 => ?_)
    · exact k h1 _ x1 e0 R1
    · exact absurd c1 (by omega)
  | succ d ih =>
    intro i h1 hi x1 e0 R1
    have e60' := x1.at (by decide) e60
    have e61' := x1.at (by decide) e61
    have e62' := x1.at (by decide) e62
    obtain ⟨F, e51, a⟩ := id R1
    have ll : (r0 ++ gr c x i).length = r0.length + i := by rw [List.length_append, gr_len]
    have rest : ∀ v, v = (if i < x then c - 1 else c) → Ok g MX5_addWays (m_J g MX5_addWays Q) 237 [some (.ref 46), some (.int (nI kk)), some (.long w), none, some (.int (nI 1)), some (.long many), none, some (.int (nI gv)), some (.int (nI u)), some (.int (nI i))] [.int (nI v), .int (nI (r0.length + i)), .ref 51] h1 0 0 := by
      intro v hv
      subst hv
      first | refine okN_iast dX5_addWays_237 (by assumption) (by omega) (by decide) (fun h2 hx2 he2 => ?_) | refine okC_iast dX5_addWays_237 (by assumption) (by omega) (by omega) (by omega) (fun h2 hx2 he2 => ?_) | refine okF_iast dX5_addWays_237 (by assumption) (by omega) (by omega) (fun h2 hx2 he2 => ?_) | refine okN_kast dX5_addWays_237 (by assumption) (by omega) (by decide) (fun h2 hx2 he2 => ?_)
      have e02 := hx2.at (by decide) e0
      rw [← ll] at he2
      have R2 := Rm_ap a he2
      rw [List.append_assoc] at R2
      refine ok_aload_n dX5_addWays_238 rfl rfl ?_
      refine ok_dup dX5_addWays_239 rfl ?_
      refine ok_get dX5_addWays_240 fl_X5_94 (by assumption) (by rfl) ?_
      refine ok_iconst (v := nI 1) dX5_addWays_243 (by decide) ?_
      first | refine okN_iadd dX5_addWays_244 ?_ | refine ok_iadd dX5_addWays_244 ?_
      refine okR_put dX5_addWays_245 fl_X5_94 (by assumption) (Nat.le_of_ble_eq_true rfl) (fun _ => ⟨rfl, rfl⟩) set_24_8 (fun h3 hx3 he3 => ?_)
      refine okN_inc dX5_addWays_248 rfl (st_10_9 rfl) (Nat.le_of_ble_eq_true rfl) ?_
      refine ok_goto (tgt := 186) dX5_addWays_251 (by decide) ?_
      exact ih (i + 1) h3 (by omega) ((x1.tr hx2 (C := [46, 51]) (by simp) (by simp)).tr hx3 (by simp) (by simp)) he3 (R2.at hx3 (by decide))
    refine ok_iload dX5_addWays_186 rfl ?_
    refine ok_aload_n dX5_addWays_188 rfl rfl ?_
    refine ok_get dX5_addWays_189 fl_X5_57 (by assumption) (by rfl) ?_
    refine ok_iload dX5_addWays_192 rfl ?_
    first | refine okN_iald dX5_addWays_194 (by assumption) (by omega) (by decide) ?_ | refine okF_iald dX5_addWays_194 (by assumption) (by omega) (by omega) ?_ | refine okN_kald dX5_addWays_194 (by assumption) (by omega) (by decide) ?_
    rw [fO]
    refine okN_icmp_ge (tgt := 254) dX5_addWays_195 (by decide) (by omega) (by omega) (fun c1 => ?_) (fun c1 => ?_)
    · exact absurd c1 (by omega)
    · refine ok_aload_n dX5_addWays_198 rfl rfl ?_
      refine ok_get dX5_addWays_199 fl_X5_22 (by assumption) (by rfl) ?_
      refine ok_aload_n dX5_addWays_202 rfl rfl ?_
      refine ok_get dX5_addWays_203 fl_X5_94 (by assumption) (by rfl) ?_
      refine ok_iload dX5_addWays_206 rfl ?_
      refine ok_aload_n dX5_addWays_208 rfl rfl ?_
      refine ok_get dX5_addWays_209 fl_X5_60 (by assumption) (by rfl) ?_
      refine ok_iload dX5_addWays_212 rfl ?_
      first | refine okN_iald dX5_addWays_214 (by assumption) (by omega) (by decide) ?_ | refine okF_iald dX5_addWays_214 (by assumption) (by omega) (by omega) ?_ | refine okN_kald dX5_addWays_214 (by assumption) (by omega) (by decide) ?_
      rw [fG]
      refine okN_icmp_ge (tgt := 230) dX5_addWays_215 (by decide) (by omega) (by omega) (fun c2 => ?_) (fun c2 => ?_)
      · refine ok_aload_n dX5_addWays_230 rfl rfl ?_
        refine ok_get dX5_addWays_231 fl_X5_54 (by assumption) (by rfl) ?_
        refine ok_iload dX5_addWays_234 rfl ?_
        first | refine okN_iald dX5_addWays_236 (by assumption) (by omega) (by decide) ?_ | refine okF_iald dX5_addWays_236 (by assumption) (by omega) (by omega) ?_ | refine okN_kald dX5_addWays_236 (by assumption) (by omega) (by decide) ?_
        rw [fU]
        exact rest c (by rw [if_neg (by omega)])
      · refine ok_aload_n dX5_addWays_218 rfl rfl ?_
        refine ok_get dX5_addWays_219 fl_X5_54 (by assumption) (by rfl) ?_
        refine ok_iload dX5_addWays_222 rfl ?_
        first | refine okN_iald dX5_addWays_224 (by assumption) (by omega) (by decide) ?_ | refine okF_iald dX5_addWays_224 (by assumption) (by omega) (by omega) ?_ | refine okN_kald dX5_addWays_224 (by assumption) (by omega) (by decide) ?_
        rw [fU]
        refine ok_iconst (v := nI 1) dX5_addWays_225 (by decide) ?_
        first | refine okN_isub dX5_addWays_226 (by omega) ?_ | refine ok_isub dX5_addWays_226 ?_
        refine ok_goto (tgt := 237) dX5_addWays_227 (by decide) ?_
        exact rest (c - 1) (by rw [if_pos c2])
theorem l_X5_awU {kk : Nat} {w : Int64} {L : List (Nat × Nat)} {v U O G : Nat → Nat} (hL : L.length ≤ 18) (hq : ∀ q ∈ L, 1 ≤ q.1 ∧ q.1 ≤ 18 ∧ q.2 ≤ 18 ∧ v q.1 ≤ q.2) (e60 : hc h 60 = some (aI 18 U)) (e61 : hc h 61 = some (aI 18 O)) (e62 : hc h 62 = some (aI 18 G)) (fU : uA U L) (fO : oA O L) (fG : vA G L v) :
    ∀ (d u gv : Nat) (many : Int64) (r : List Nat) (h1 : mH) (z9 : Option Value), u + d = L.length → r.length + szD (L.drop u) ≤ 19 → hx [46, 51] h h1 → hc h1 46 = some (mdo fi wk ru r.length li lz (nI L.length)) → Rm h1 r →
    (∀ h' z9', hx [46, 51] h h' → hc h' 46 = some (mdo fi wk ru (r ++ mrR v (L.drop u)).length li lz (nI L.length)) → Rm h' (r ++ mrR v (L.drop u)) → Ok g MX5_addWays (m_J g MX5_addWays Q) 260 [some (.ref 46), some (.int (nI kk)), some (.long w), none, some (.int (nI 1)), some (.long (many * lN (pcD v (L.drop u)))), none, some (.int (nI (gv + gvD v (L.drop u)))), some (.int (nI L.length)), z9'] [] h' 0 0) →
    Ok g MX5_addWays (m_J g MX5_addWays Q) 140 [some (.ref 46), some (.int (nI kk)), some (.long w), none, some (.int (nI 1)), some (.long many), none, some (.int (nI gv)), some (.int (nI u)), z9] [] h1 0 0 := by
  intro d
  induction d with
  | zero =>
    intro u gv many r h1 z9 hu hs x1 e0 R1 k
    have eu : u = L.length := by omega
    subst eu
    rw [List.drop_length] at k
    have p0 : many * lN (pcD v []) = many := by
      show many * lN 1 = many
      rw [show lN 1 = 1 from rfl, Int64.mul_one]
    rw [p0, show mrR v [] = [] from rfl, List.append_nil] at k
    refine ok_iload dX5_addWays_140 rfl ?_
    refine ok_aload_n dX5_addWays_142 rfl rfl ?_
    refine ok_get dX5_addWays_143 fl_X5_149 (by assumption) (by rfl) ?_
    refine okN_icmp_ge (tgt := 260) dX5_addWays_146 (by decide) (by omega) (by omega) (fun c1 => ?_) (fun c1 => ?_)
    · exact k h1 _ x1 e0 R1
    · exact absurd c1 (by omega)
  | succ d ih =>
    intro u gv many r h1 z9 hu hs x1 e0 R1 k
    have hu2 : u < L.length := by omega
    obtain ⟨q1, q2, q3, q4⟩ := hq _ (gD_mem hu2)
    rw [gD_drop L u hu2] at hs k
    have hs' : r.length + ((gD L u).2 + szD (L.drop (u + 1))) ≤ 19 := hs
    have e60' := x1.at (by decide) e60
    have e61' := x1.at (by decide) e61
    have e62' := x1.at (by decide) e62
    have pe : many * lN (pcD v (gD L u :: L.drop (u + 1))) = many * lN (cho (gD L u).2 (v (gD L u).1)) * lN (pcD v (L.drop (u + 1))) := by
      show many * lN (cho (gD L u).2 (v (gD L u).1) * pcD v (L.drop (u + 1))) = _
      rw [← lN_mul, Int64.mul_assoc]
    rw [pe, show gv + gvD v (gD L u :: L.drop (u + 1)) = gv + v (gD L u).1 + gvD v (L.drop (u + 1)) from (Nat.add_assoc _ _ _).symm, show r ++ mrR v (gD L u :: L.drop (u + 1)) = (r ++ gr (gD L u).1 (v (gD L u).1) (gD L u).2) ++ mrR v (L.drop (u + 1)) from (List.append_assoc _ _ _).symm] at k
    refine ok_iload dX5_addWays_140 rfl ?_
    refine ok_aload_n dX5_addWays_142 rfl rfl ?_
    refine ok_get dX5_addWays_143 fl_X5_149 (by assumption) (by rfl) ?_
    refine okN_icmp_ge (tgt := 260) dX5_addWays_146 (by decide) (by omega) (by omega) (fun c1 => ?_) (fun c1 => ?_)
    · exact absurd c1 (by omega)
    · refine ok_lload dX5_addWays_149 rfl ?_
      refine ok_aload_n dX5_addWays_151 rfl rfl ?_
      refine ok_get dX5_addWays_152 fl_X5_57 (by assumption) (by rfl) ?_
      refine ok_iload dX5_addWays_155 rfl ?_
      first | refine okN_iald dX5_addWays_157 (by assumption) (by omega) (by decide) ?_ | refine okF_iald dX5_addWays_157 (by assumption) (by omega) (by omega) ?_ | refine okN_kald dX5_addWays_157 (by assumption) (by omega) (by decide) ?_
      rw [fO u hu2]
      refine ok_aload_n dX5_addWays_158 rfl rfl ?_
      refine ok_get dX5_addWays_159 fl_X5_60 (by assumption) (by rfl) ?_
      refine ok_iload dX5_addWays_162 rfl ?_
      first | refine okN_iald dX5_addWays_164 (by assumption) (by omega) (by decide) ?_ | refine okF_iald dX5_addWays_164 (by assumption) (by omega) (by omega) ?_ | refine okN_kald dX5_addWays_164 (by assumption) (by omega) (by decide) ?_
      rw [fG u hu2]
      refine call_X5_choices dX5_addWays_165 lk_X5_152 ⟨Nat.le_of_ble_eq_true rfl, Nat.le_of_ble_eq_true rfl, Nat.le_of_ble_eq_true rfl⟩ (Nat.le_of_ble_eq_true rfl) ?_
      refine c_X5_choices (by omega) q4 ?_
      dsimp only [m_push]
      refine ok_lmul dX5_addWays_168 ?_
      refine ok_lstore dX5_addWays_169 (st2_10_5 rfl) (Nat.le_of_ble_eq_true rfl) ?_
      refine ok_iload dX5_addWays_171 rfl ?_
      refine ok_aload_n dX5_addWays_173 rfl rfl ?_
      refine ok_get dX5_addWays_174 fl_X5_60 (by assumption) (by rfl) ?_
      refine ok_iload dX5_addWays_177 rfl ?_
      first | refine okN_iald dX5_addWays_179 (by assumption) (by omega) (by decide) ?_ | refine okF_iald dX5_addWays_179 (by assumption) (by omega) (by omega) ?_ | refine okN_kald dX5_addWays_179 (by assumption) (by omega) (by decide) ?_
      rw [fG u hu2]
      first | refine okN_iadd dX5_addWays_180 ?_ | refine ok_iadd dX5_addWays_180 ?_
      refine ok_istore dX5_addWays_181 (st_10_7 rfl) (Nat.le_of_ble_eq_true rfl) ?_
      refine ok_iconst (v := nI 0) dX5_addWays_183 (by decide) ?_
      refine ok_istore dX5_addWays_184 (st_10_9 rfl) (Nat.le_of_ble_eq_true rfl) ?_
      refine l_X5_awI (h := h1) (r0 := r) q1 q4 (by omega) (by omega) e60' e61' e62' (fU u hu2) (fO u hu2) (fG u hu2) (fun h2 z x2 e02 R2 => ?_) (gD L u).2 0 h1 (by omega) hx.rf e0 (by rw [show gr (gD L u).1 (v (gD L u).1) 0 = [] from rfl, List.append_nil]; exact R1)
      refine okN_inc dX5_addWays_254 rfl (st_10_8 rfl) (Nat.le_of_ble_eq_true rfl) ?_
      refine ok_goto (tgt := 140) dX5_addWays_257 (by decide) ?_
      have ll : (r ++ gr (gD L u).1 (v (gD L u).1) (gD L u).2).length = r.length + (gD L u).2 := by rw [List.length_append, gr_len]
      exact ih (u + 1) _ _ _ h2 _ (by omega) (by omega) (x1.tr' x2) (by rw [ll]; exact e02) R2 k
theorem l_X5_awC {kk gv : Nat} {w many : Int64} {L : List (Nat × Nat)} {O : Nat → Nat} (hL : L.length ≤ 18) (hd : dst L) (hq : ∀ q ∈ L, q.2 ≤ 18) (fO : oA O L) :
    ∀ (d u : Nat) (v G : Nat → Nat) (h1 : mH) (z9 : Option Value), u + d = L.length → (∀ q ∈ L, v q.1 ≤ q.2) → vA G L v → hx [62] h h1 → hc h1 46 = some (mdo fi wk ru sz li lz (nI L.length)) → hc h1 61 = some (aI 18 O) → hc h1 62 = some (aI 18 G) →
    (fullD (L.drop u) v → ∀ h', hx [62] h h' → cI h' 62 18 → Q none h') →
    (¬ fullD (L.drop u) v → ∀ h' G' z8 z9', hx [62] h h' → hc h' 62 = some (aI 18 G') → vA G' L (ngD (L.drop u) v) → Ok g MX5_addWays (m_J g MX5_addWays Q) 121 [some (.ref 46), some (.int (nI kk)), some (.long w), none, some (.int (nI 1)), some (.long many), none, some (.int (nI gv)), z8, z9'] [] h' 0 0) →
    Ok g MX5_addWays (m_J g MX5_addWays Q) 302 [some (.ref 46), some (.int (nI kk)), some (.long w), none, some (.int (nI 1)), some (.long many), none, some (.int (nI gv)), some (.int (nI u)), z9] [] h1 0 0 := by
  intro d
  induction d with
  | zero =>
    intro u v G h1 z9 hu hv fG x1 e0 e61 e62 k0 k1
    have eu : u = L.length := by omega
    subst eu
    have K := k0 (by rw [List.drop_length]; exact fun q hq => by cases hq) h1 x1 ⟨G, e62⟩
    refine ok_iload dX5_addWays_302 rfl ?_
    refine ok_aload_n dX5_addWays_304 rfl rfl ?_
    refine ok_get dX5_addWays_305 fl_X5_149 (by assumption) (by rfl) ?_
    refine okN_icmp_ge (tgt := 342) dX5_addWays_308 (by decide) (by omega) (by omega) (fun c1 => ?_) (fun c1 => ?_)
    · refine ok_iload dX5_addWays_342 rfl ?_
      refine ok_aload_n dX5_addWays_344 rfl rfl ?_
      refine ok_get dX5_addWays_345 fl_X5_149 (by assumption) (by rfl) ?_
      refine okN_icmp_ge (tgt := 355) dX5_addWays_348 (by decide) (by omega) (by omega) (fun c2 => ?_) (fun c2 => ?_)
      · refine ok_iconst (v := nI 0) dX5_addWays_355 (by decide) ?_
        refine ok_istore dX5_addWays_356 (st_10_4 rfl) (Nat.le_of_ble_eq_true rfl) ?_
        refine ok_iload dX5_addWays_358 rfl ?_
        refine okN_if_eq (tgt := 374) dX5_addWays_360 (by decide) (by omega) (fun c3 => ?_) (fun c3 => ?_)
        · refine ok_goto (tgt := 121) dX5_addWays_374 (by decide) ?_
          refine ok_iload dX5_addWays_121 rfl ?_
          refine okN_if_eq (tgt := 377) dX5_addWays_123 (by decide) (by omega) (fun c4 => ?_) (fun c4 => ?_)
          · refine ok_vret dX5_addWays_377 rfl ⟨Nat.le_of_ble_eq_true rfl, Nat.le_of_ble_eq_true rfl⟩ ?_
            exact K
          · exact absurd c4 (by decide)
        · exact absurd c3 (by decide)
      · exact absurd c2 (by omega)
    · exact absurd c1 (by omega)
  | succ d ih =>
    intro u v G h1 z9 hu hv fG x1 e0 e61 e62 k0 k1
    have hu2 : u < L.length := by omega
    have b1 := hq _ (gD_mem hu2)
    have b2 := hv _ (gD_mem hu2)
    have dd := dst_drop L u hd
    rw [gD_drop L u hu2] at k0 k1 dd
    refine ok_iload dX5_addWays_302 rfl ?_
    refine ok_aload_n dX5_addWays_304 rfl rfl ?_
    refine ok_get dX5_addWays_305 fl_X5_149 (by assumption) (by rfl) ?_
    refine okN_icmp_ge (tgt := 342) dX5_addWays_308 (by decide) (by omega) (by omega) (fun c1 => ?_) (fun c1 => ?_)
    · exact absurd c1 (by omega)
    · refine ok_aload_n dX5_addWays_311 rfl rfl ?_
      refine ok_get dX5_addWays_312 fl_X5_60 (by assumption) (by rfl) ?_
      refine ok_iload dX5_addWays_315 rfl ?_
      first | refine okN_iald dX5_addWays_317 (by assumption) (by omega) (by decide) ?_ | refine okF_iald dX5_addWays_317 (by assumption) (by omega) (by omega) ?_ | refine okN_kald dX5_addWays_317 (by assumption) (by omega) (by decide) ?_
      rw [fG u hu2]
      refine ok_aload_n dX5_addWays_318 rfl rfl ?_
      refine ok_get dX5_addWays_319 fl_X5_57 (by assumption) (by rfl) ?_
      refine ok_iload dX5_addWays_322 rfl ?_
      first | refine okN_iald dX5_addWays_324 (by assumption) (by omega) (by decide) ?_ | refine okF_iald dX5_addWays_324 (by assumption) (by omega) (by omega) ?_ | refine okN_kald dX5_addWays_324 (by assumption) (by omega) (by decide) ?_
      rw [fO u hu2]
      refine okN_icmp_ne (tgt := 342) dX5_addWays_325 (by decide) (by omega) (by omega) (fun c2 => ?_) (fun c2 => ?_)
      · have nf : ¬ fullD (gD L u :: L.drop (u + 1)) v := fun z => c2 (z _ (by simp))
        have en : ngD (gD L u :: L.drop (u + 1)) v = up v (gD L u).1 (v (gD L u).1 + 1) := by
          show (if v (gD L u).1 < (gD L u).2 then up v (gD L u).1 (v (gD L u).1 + 1) else _) = _
          rw [if_pos (by omega)]
        refine ok_iload dX5_addWays_342 rfl ?_
        refine ok_aload_n dX5_addWays_344 rfl rfl ?_
        refine ok_get dX5_addWays_345 fl_X5_149 (by assumption) (by rfl) ?_
        refine okN_icmp_ge (tgt := 355) dX5_addWays_348 (by decide) (by omega) (by omega) (fun c3 => ?_) (fun c3 => ?_)
        · exact absurd c3 (by omega)
        · refine ok_iconst (v := nI 1) dX5_addWays_351 (by decide) ?_
          refine ok_goto (tgt := 356) dX5_addWays_352 (by decide) ?_
          refine ok_istore dX5_addWays_356 (st_10_4 rfl) (Nat.le_of_ble_eq_true rfl) ?_
          refine ok_iload dX5_addWays_358 rfl ?_
          refine okN_if_eq (tgt := 374) dX5_addWays_360 (by decide) (by omega) (fun c4 => ?_) (fun c4 => ?_)
          · exact absurd c4 (by decide)
          · refine ok_aload_n dX5_addWays_363 rfl rfl ?_
            refine ok_get dX5_addWays_364 fl_X5_60 (by assumption) (by rfl) ?_
            refine ok_iload dX5_addWays_367 rfl ?_
            refine ok_dup2 dX5_addWays_369 rfl rfl ?_
            first | refine okN_iald dX5_addWays_370 (by assumption) (by omega) (by decide) ?_ | refine okF_iald dX5_addWays_370 (by assumption) (by omega) (by omega) ?_ | refine okN_kald dX5_addWays_370 (by assumption) (by omega) (by decide) ?_
            rw [fG u hu2]
            refine ok_iconst (v := nI 1) dX5_addWays_371 (by decide) ?_
            first | refine okN_iadd dX5_addWays_372 ?_ | refine ok_iadd dX5_addWays_372 ?_
            first | refine okN_iast dX5_addWays_373 (by assumption) (by omega) (by decide) (fun h2 hx2 he2 => ?_) | refine okC_iast dX5_addWays_373 (by assumption) (by omega) (by omega) (by omega) (fun h2 hx2 he2 => ?_) | refine okF_iast dX5_addWays_373 (by assumption) (by omega) (by omega) (fun h2 hx2 he2 => ?_) | refine okN_kast dX5_addWays_373 (by assumption) (by omega) (by decide) (fun h2 hx2 he2 => ?_)
            refine ok_goto (tgt := 121) dX5_addWays_374 (by decide) ?_
            refine k1 nf h2 _ _ _ (x1.tr' hx2) he2 ?_
            rw [en]
            exact vA_up fG hd hu2 _
      · refine ok_aload_n dX5_addWays_328 rfl rfl ?_
        refine ok_get dX5_addWays_329 fl_X5_60 (by assumption) (by rfl) ?_
        refine ok_iload dX5_addWays_332 rfl ?_
        refine ok_iconst (v := nI 0) dX5_addWays_334 (by decide) ?_
        first | refine okN_iast dX5_addWays_335 (by assumption) (by omega) (by decide) (fun h2 hx2 he2 => ?_) | refine okC_iast dX5_addWays_335 (by assumption) (by omega) (by omega) (by omega) (fun h2 hx2 he2 => ?_) | refine okF_iast dX5_addWays_335 (by assumption) (by omega) (by omega) (fun h2 hx2 he2 => ?_) | refine okN_kast dX5_addWays_335 (by assumption) (by omega) (by decide) (fun h2 hx2 he2 => ?_)
        refine okN_inc dX5_addWays_336 rfl (st_10_8 rfl) (Nat.le_of_ble_eq_true rfl) ?_
        refine ok_goto (tgt := 302) dX5_addWays_339 (by decide) ?_
        have hv' : ∀ q ∈ L, up v (gD L u).1 0 q.1 ≤ q.2 := fun q hq' => by
          by_cases z : q.1 = (gD L u).1
          · rw [z, up_eq]; exact Nat.zero_le _
          · rw [up_ne z]; exact hv q hq'
        have fe : fullD (L.drop (u + 1)) (up v (gD L u).1 0) ↔ fullD (gD L u :: L.drop (u + 1)) v := by
          constructor
          · intro z q hq'
            rcases List.mem_cons.mp hq' with y | y
            · rw [y]; exact c2
            · have := z q y
              rw [up_ne (dd.1 q y)] at this
              exact this
          · intro z q hq'
            rw [up_ne (dd.1 q hq')]
            exact z q (List.mem_cons_of_mem _ hq')
        have en : ngD (gD L u :: L.drop (u + 1)) v = ngD (L.drop (u + 1)) (up v (gD L u).1 0) := by
          show (if v (gD L u).1 < (gD L u).2 then _ else ngD (L.drop (u + 1)) (up v (gD L u).1 0)) = _
          rw [if_neg (by omega)]
        rw [en] at k1
        exact ih (u + 1) _ _ h2 _ (by omega) hv' (vA_up fG hd hu2 0) (x1.tr' hx2) (hx2.at (by decide) e0) (hx2.at (by decide) e61) he2 (fun z => k0 (fe.mp z)) (fun z => k1 (fun y => z (fe.mpr y)))
theorem l_X5_awM {kk n : Nat} {w : Int64} {l : List Nat} {U O : Nat → Nat} (ol : okl l) (hn : l.sum = n) (fU : uA U (dsF (tly l) n)) (fO : oA O (dsF (tly l) n)) (hL : (dsF (tly l) n).length ≤ 18) :
    ∀ (m : Nat) (v G : Nat → Nat) (T : Nat → Int64) (h1 : mH) (sz1 : Nat) (z5 z6 z7 z8 z9 : Option Value), ixr (dsF (tly l) n) v + m = TD (dsF (tly l) n) → (∀ c, v c ≤ tly l c) → vA G (dsF (tly l) n) v → hx [46, 51, 59, 62] h h1 → hc h1 46 = some (mdo fi wk ru sz1 li (cap n n) (nI (dsF (tly l) n).length)) → cI h1 51 20 → LSt h1 n → hc h1 60 = some (aI 18 U) → hc h1 61 = some (aI 18 O) → hc h1 62 = some (aI 18 G) → hc h1 59 = some (aJ 385 T) →
    (∀ h' T' sz', hx [46, 51, 59, 62] h h' → hc h' 46 = some (mdo fi wk ru sz' li (cap n n) (nI (dsF (tly l) n).length)) → cI h' 51 20 → cI h' 62 18 → hc h' 59 = some (aJ 385 T') → (∀ x, T' x = T x + w * lN (smI (Fx (tly l) n x) (dsF (tly l) n) v m)) → Q none h') →
    Ok g MX5_addWays (m_J g MX5_addWays Q) 121 [some (.ref 46), some (.int (nI kk)), some (.long w), none, some (.int (nI 1)), z5, z6, z7, z8, z9] [] h1 0 0 := by
  subst hn
  have hs := ol.2.2
  have hlen := ol.len
  intro m
  induction m with
  | zero =>
    intro v G T h1 sz1 z5 z6 z7 z8 z9 hm hv fG
    have := ixr_lt (dsF (tly l) l.sum) v (fun q hq => by rw [((dsF_mem _ q).mp hq).2.2.1]; exact hv _)
    omega
  | succ m ih =>
    intro v G T h1 sz1 z5 z6 z7 z8 z9 hm hv fG x1 e0 c51 L1 e60 e61 e62 e59 k
    have hle : ∀ q ∈ dsF (tly l) l.sum, v q.1 ≤ q.2 := fun q hq => by rw [((dsF_mem _ q).mp hq).2.2.1]; exact hv _
    have hq : ∀ q ∈ dsF (tly l) l.sum, 1 ≤ q.1 ∧ q.1 ≤ 18 ∧ q.2 ≤ 18 ∧ v q.1 ≤ q.2 := fun q hq => by
      obtain ⟨a1, a2, a3, a4⟩ := (dsF_mem _ q).mp hq
      exact ⟨a1, by omega, by rw [a3]; exact tly_le ol _, hle q hq⟩
    obtain ⟨f1, f2, f3, f4, f5⟩ := mr_F hv l.sum
    rw [tly_gv ol] at f4
    obtain ⟨r1, r2, r3, r4⟩ := mr_res ol hv
    have hv2 : v (l.sum + 1) = 0 := by have := hv (l.sum + 1); rw [tly_hi (by omega)] at this; omega
    obtain ⟨o1, o2⟩ := res_ok hv hv2 (by rw [tly_ws ol]; exact hs)
    rw [tly_ws ol] at o2
    have nbl := nb_lt o1
    rw [o2] at nbl
    have cl := cap_lt (n := l.sum) (m := l.sum) (by omega) (by omega)
    obtain ⟨F51, e51⟩ := c51
    refine ok_iload dX5_addWays_121 rfl ?_
    refine okN_if_eq (tgt := 377) dX5_addWays_123 (by decide) (by omega) (fun c1 => ?_) (fun c1 => ?_)
    · exact absurd c1 (by decide)
    · refine ok_lload_n dX5_addWays_126 rfl ?_
      refine ok_lstore dX5_addWays_127 (st2_10_5 rfl) (Nat.le_of_ble_eq_true rfl) ?_
      refine ok_iconst (v := nI 0) dX5_addWays_129 (by decide) ?_
      refine ok_istore dX5_addWays_130 (st_10_7 rfl) (Nat.le_of_ble_eq_true rfl) ?_
      refine ok_aload_n dX5_addWays_132 rfl rfl ?_
      refine ok_iconst (v := nI 0) dX5_addWays_133 (by decide) ?_
      refine okR_put dX5_addWays_134 fl_X5_94 (by assumption) (Nat.le_of_ble_eq_true rfl) (fun _ => ⟨rfl, rfl⟩) set_24_8 (fun h2 hx2 he2 => ?_)
      refine ok_iconst (v := nI 0) dX5_addWays_137 (by decide) ?_
      refine ok_istore dX5_addWays_138 (st_10_8 rfl) (Nat.le_of_ble_eq_true rfl) ?_
      refine l_X5_awU (h := h2) (L := dsF (tly l) l.sum) (v := v) hL hq (hx2.at (by decide) e60) (hx2.at (by decide) e61) (hx2.at (by decide) e62) fU fO fG (dsF (tly l) l.sum).length 0 0 w [] h2 _ (by omega) (by rw [List.drop_zero, f4]; show 0 + l.length ≤ 19; omega) hx.rf he2 ⟨F51, hx2.at (by decide) e51, fun i hi => by simp at hi⟩ (fun h3 y9 x3 e03 R3 => ?_)
      rw [List.drop_zero, List.nil_append] at e03 R3
      rw [List.drop_zero, Nat.zero_add, f3]
      obtain ⟨F3, e513, a3⟩ := id R3
      have m1 := mr_len v (dsF (tly l) l.sum)
      rw [f4] at m1
      refine ok_aload_n dX5_addWays_260 rfl rfl ?_
      refine ok_get dX5_addWays_261 fl_X5_22 (by assumption) (by rfl) ?_
      refine ok_aload_n dX5_addWays_264 rfl rfl ?_
      refine ok_get dX5_addWays_265 fl_X5_94 (by assumption) (by rfl) ?_
      refine ok_iload dX5_addWays_268 rfl ?_
      first | refine okN_iast dX5_addWays_270 (by assumption) (by omega) (by decide) (fun h4 hx4 he4 => ?_) | refine okC_iast dX5_addWays_270 (by assumption) (by omega) (by omega) (by omega) (fun h4 hx4 he4 => ?_) | refine okF_iast dX5_addWays_270 (by assumption) (by omega) (by omega) (fun h4 hx4 he4 => ?_) | refine okN_kast dX5_addWays_270 (by assumption) (by omega) (by decide) (fun h4 hx4 he4 => ?_)
      have e04 := hx4.at (by decide) e03
      have R4 : Rm h4 (mrr v (dsF (tly l) l.sum)) := Rm_ap a3 he4
      refine ok_aload_n dX5_addWays_271 rfl rfl ?_
      refine ok_dup dX5_addWays_272 rfl ?_
      refine ok_get dX5_addWays_273 fl_X5_94 (by assumption) (by rfl) ?_
      refine ok_iconst (v := nI 1) dX5_addWays_276 (by decide) ?_
      first | refine okN_iadd dX5_addWays_277 ?_ | refine ok_iadd dX5_addWays_277 ?_
      refine okR_put dX5_addWays_278 fl_X5_94 (by assumption) (Nat.le_of_ble_eq_true rfl) (fun _ => ⟨rfl, rfl⟩) set_24_8 (fun h5 hx5 he5 => ?_)
      refine ok_aload_n dX5_addWays_281 rfl rfl ?_
      have le : (mrR v (dsF (tly l) l.sum)).length + 1 = (mrr v (dsF (tly l) l.sum)).length := by unfold mrr; rw [List.length_append]; rfl
      rw [le] at he5
      have R5 := R4.at hx5 (by decide)
      refine call_X5_settle dX5_addWays_282 lk_X5_101 ⟨Nat.le_of_ble_eq_true rfl, Nat.le_of_ble_eq_true rfl, Nat.le_of_ble_eq_true rfl⟩ (by assumption) (Nat.le_of_ble_eq_true rfl) ?_
      refine c_X5_settle he5 R5 r2 r3 (by omega) (fun h6 x6 e06 R6 => ?_)
      rw [r4] at e06 R6
      have x16 : hx [46, 51] h1 h6 := (((hx2.tr x3 (C := [46, 51]) (by simp) (by simp)).tr hx4 (C := [46, 51]) (by simp) (by simp)).tr hx5 (C := [46, 51]) (by simp) (by simp)).tr x6 (by simp) (by simp)
      have L6 := L1.at x16 (by decide) (by decide)
      have e596 := x16.at (by decide) e59
      refine ok_aload_n dX5_addWays_285 rfl rfl ?_
      refine ok_get dX5_addWays_286 fl_X5_50 (by assumption) (by rfl) ?_
      refine ok_aload_n dX5_addWays_289 rfl rfl ?_
      refine call_X5_rankRow dX5_addWays_290 lk_X5_121 ⟨Nat.le_of_ble_eq_true rfl, Nat.le_of_ble_eq_true rfl, Nat.le_of_ble_eq_true rfl⟩ (by assumption) (Nat.le_of_ble_eq_true rfl) ?_
      refine c_X5_rankRow o1 (n := l.sum) (by omega) o2 e06 R6 L6 ?_
      dsimp only [m_push]
      refine ok_dup2 dX5_addWays_293 rfl rfl ?_
      refine okN_lald dX5_addWays_294 (by assumption) (by omega) (by decide) ?_
      refine ok_lload dX5_addWays_295 rfl ?_
      refine ok_ladd dX5_addWays_297 ?_
      refine okN_last dX5_addWays_298 (by assumption) (by omega) (by decide) (fun h7 hx7 he7 => ?_)
      have x17 : hx [46, 51, 59] h1 h7 := x16.tr hx7 (by simp) (by simp)
      have e07 := hx7.at (by decide) e06
      have c517 : cI h7 51 20 := by
        obtain ⟨F6, e6, -⟩ := R6
        exact ⟨F6, hx7.at (by decide) e6⟩
      refine ok_iconst (v := nI 0) dX5_addWays_299 (by decide) ?_
      refine ok_istore dX5_addWays_300 (st_10_8 rfl) (Nat.le_of_ble_eq_true rfl) ?_
      refine l_X5_awC (h := h7) (L := dsF (tly l) l.sum) (O := O) hL (dsF_d _ _) (fun q hq' => (hq q hq').2.2.1) fO (dsF (tly l) l.sum).length 0 v G h7 _ (by omega) hle fG hx.rf e07 (x17.at (by decide) e61) (x17.at (by decide) e62) (fun z h8 x8 c628 => ?_) (fun z h8 G' y8 y9' x8 e628 fG' => ?_)
      · rw [List.drop_zero] at z
        have fu := ixr_full _ v z
        have m0 : m = 0 := by omega
        subst m0
        have x18 : hx [46, 51, 59, 62] h1 h8 := x17.tr x8 (by simp) (by simp)
        refine k h8 _ _ (x1.tr' x18) (x8.at (by decide) e07) (c517.at x8 (by decide)) c628 (x8.at (by decide) he7) (fun x => ?_)
        rw [tb_1]
        rfl
      · rw [List.drop_zero] at z fG'
        obtain ⟨i1, -, -⟩ := ixr_ng _ v (dsF_d _ _) hle z
        have x18 : hx [46, 51, 59, 62] h1 h8 := x17.tr x8 (by simp) (by simp)
        refine ih (ngD (dsF (tly l) l.sum) v) G' _ h8 _ _ _ _ _ _ (by omega) (ng_leF hv) fG' (x1.tr' x18) (x8.at (by decide) e07) (c517.at x8 (by decide)) (L1.at x18 (by decide) (by decide)) (x18.at (by decide) e60) (x18.at (by decide) e61) e628 (x8.at (by decide) he7) (fun h9 T' sz' y1 y2 y3 y4 y5 y6 => k h9 T' sz' y1 y2 y3 y4 y5 (fun x => ?_))
        rw [y6 x, tb_1, tb_2]
        rfl
theorem ixr_0 : ∀ (L : List (Nat × Nat)), ixr L (fun _ => 0) = 0
  | [] => rfl
  | q :: t => by
    show 0 + (q.2 + 1) * ixr t (fun _ => 0) = 0
    rw [ixr_0 t, Nat.mul_zero]
theorem c_X5_addWays {kk n : Nat} {w : Int64} {T : Nat → Int64} (I : MI h S sz (nI n) (cap n n) kd) (hn : n < 19) (hk : kk < cap n n) (e59 : hc h 59 = some (aJ 385 T))
    (k : ∀ h' sz' kd' T', hx [46, 51, 59, 60, 61, 62] h h' → MI h' S sz' (nI n) (cap n n) kd' → hc h' 59 = some (aJ 385 T') → (∀ x, T' x = T x + w * lN (WT (wr n kk) x)) → Q none h') :
    Ok g MX5_addWays (m_J g MX5_addWays Q) 0 [some (.ref 46), some (.int (nI kk)), some (.long w), none, none, none, none, none, none, none] [] h 0 0 := by
  obtain ⟨e0, k1, k2, k3, k4, ⟨c50, c51, c54, c59, c60, c63⟩, k6, k7⟩ := id I
  obtain ⟨-, L⟩ := I.lst hn
  obtain ⟨F52, F53, e52, e53, hL⟩ := id L
  obtain ⟨U, e60⟩ := c60 60 (by decide) (by decide)
  obtain ⟨O, e61⟩ := c60 61 (by decide) (by decide)
  obtain ⟨G, e62⟩ := c60 62 (by decide) (by decide)
  have ol := wr_ok hn hk
  have sw := (chk_W hn hk).1
  have cl := cap_lt hn hn
  have hlen := ol.len
  refine ok_aload_n dX5_addWays_0 rfl rfl ?_
  refine ok_iconst (v := nI 0) dX5_addWays_1 (by decide) ?_
  refine okR_put dX5_addWays_2 fl_X5_149 (by assumption) (Nat.le_of_ble_eq_true rfl) (fun _ => ⟨rfl, rfl⟩) set_24_22 (fun h1 hx1 he1 => ?_)
  refine ok_iconst (v := nI 0) dX5_addWays_5 (by decide) ?_
  refine ok_istore dX5_addWays_6 (st_10_4 rfl) (Nat.le_of_ble_eq_true rfl) ?_
  refine l_X5_aw1 (h := h1) (n := n) (l := wr n kk) ol (by omega) (hL kk hk).1 (hL kk hk).2 (fun h2 U2 O2 G2 z5 x2 e02 e602 e612 e622 u2 o2 g2 => ?_) (wr n kk).length 0 h1 U O G _ (by omega) hx.rf he1 (hx1.at (by decide) e52) (hx1.at (by decide) e53) (hx1.at (by decide) e60) (hx1.at (by decide) e61) (hx1.at (by decide) e62) (fun j hj => by cases hj) (fun j hj => by cases hj) (fun j hj => by cases hj)
  have rlen := rl_len (wr n kk) (wr n kk).length
  have ro := rl_ok ol
  rw [sw] at ro
  rw [ro] at e02 u2 o2 g2 rlen
  refine ok_iconst (v := nI 1) dX5_addWays_118 (by decide) ?_
  refine ok_istore dX5_addWays_119 (st_10_4 rfl) (Nat.le_of_ble_eq_true rfl) ?_
  have x02 : hx [46, 60, 61, 62] h h2 := hx1.tr x2 (by simp) (by simp)
  refine l_X5_awM (h := h2) (n := n) (l := wr n kk) ol sw u2 o2 (by omega) (TD (dsF (tly (wr n kk)) n)) (fun _ => 0) G2 T h2 _ _ _ _ _ _ (by rw [ixr_0]; omega) (fun c => Nat.zero_le _) g2 hx.rf e02 (c51.at x02 (by decide)) (L.at x02 (by decide) (by decide)) e602 e612 e622 (x02.at (by decide) e59) (fun h3 T' sz' x3 e03 c513 c623 e593 f => ?_)
  have x03 : hx [46, 51, 59, 60, 61, 62] h h3 := x02.tr x3 (by simp) (by simp)
  refine k h3 sz' _ T' x03 (I.setZ x03 e03 c513 ⟨_, e593⟩ (fun a l1 l2 => ?_)) e593 (fun x => ?_)
  · rcases (show a = 60 ∨ a = 61 ∨ a = 62 by omega) with rfl | rfl | rfl
    · exact ⟨_, x3.at (by decide) e602⟩
    · exact ⟨_, x3.at (by decide) e612⟩
    · exact c623
  · have := sm_WTF ol x
    rw [sw] at this
    rw [f x, this]
end MWAYSQ
