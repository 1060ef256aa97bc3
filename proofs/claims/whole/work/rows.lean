section
-- ===== PART A: goes FIRST, ahead of the names: the tables' words, and 'selects' of the private methods out of them =====
/-- a private method of a class that the tables say can be made, by its rows of tables_1 -/
def lw_okq (q : MethodName × Nat) : Prop := (q.1.cls ≠ "java/lang/invoke/MethodHandle" ∧ q.1.cls ≠ "java/lang/invoke/VarHandle") ∧ Cond.instantiable q.1.cls q.2 ∈ tables_1 ∧ Cond.privateMethod q.1 ∈ tables_1 ∧ Cond.instanceMethod q.1 ∈ tables_1
theorem lw_p0 : lw_okq (⟨"GivingHeaps", "rowAt", "(I)LGivingHeaps$Row;"⟩, 11) := ⟨⟨by decide +kernel, by decide +kernel⟩, List.mem_of_getElem? (i := 10) (by decide +kernel), List.mem_of_getElem? (i := 138) (by decide +kernel), List.mem_of_getElem? (i := 139) (by decide +kernel)⟩
theorem lw_p1 : lw_okq (⟨"GivingHeaps", "found", "(I)I"⟩, 11) := ⟨⟨by decide +kernel, by decide +kernel⟩, List.mem_of_getElem? (i := 10) (by decide +kernel), List.mem_of_getElem? (i := 142) (by decide +kernel), List.mem_of_getElem? (i := 143) (by decide +kernel)⟩
theorem lw_p2 : lw_okq (⟨"GivingHeaps", "chartOf", "(I)LGivingHeaps$Chart;"⟩, 11) := ⟨⟨by decide +kernel, by decide +kernel⟩, List.mem_of_getElem? (i := 10) (by decide +kernel), List.mem_of_getElem? (i := 198) (by decide +kernel), List.mem_of_getElem? (i := 199) (by decide +kernel)⟩
theorem lw_p3 : lw_okq (⟨"GivingHeaps$Lists", "cappedAt", "(II)I"⟩, 1) := ⟨⟨by decide +kernel, by decide +kernel⟩, List.mem_of_getElem? (i := 20) (by decide +kernel), List.mem_of_getElem? (i := 207) (by decide +kernel), List.mem_of_getElem? (i := 208) (by decide +kernel)⟩
theorem lw_p4 : lw_okq (⟨"GivingHeaps$Chart", "has", "(I)Z"⟩, 11) := ⟨⟨by decide +kernel, by decide +kernel⟩, List.mem_of_getElem? (i := 201) (by decide +kernel), List.mem_of_getElem? (i := 288) (by decide +kernel), List.mem_of_getElem? (i := 289) (by decide +kernel)⟩
theorem lw_p5 : lw_okq (⟨"GivingHeaps$Chart", "peel", "([I[I)I"⟩, 11) := ⟨⟨by decide +kernel, by decide +kernel⟩, List.mem_of_getElem? (i := 201) (by decide +kernel), List.mem_of_getElem? (i := 303) (by decide +kernel), List.mem_of_getElem? (i := 304) (by decide +kernel)⟩
theorem lw_p6 : lw_okq (⟨"GivingHeaps$Chart", "drawRing", "(I[I)V"⟩, 11) := ⟨⟨by decide +kernel, by decide +kernel⟩, List.mem_of_getElem? (i := 201) (by decide +kernel), List.mem_of_getElem? (i := 307) (by decide +kernel), List.mem_of_getElem? (i := 308) (by decide +kernel)⟩
theorem lw_p7 : lw_okq (⟨"GivingHeaps$Chart", "drawTail", "(I)V"⟩, 11) := ⟨⟨by decide +kernel, by decide +kernel⟩, List.mem_of_getElem? (i := 201) (by decide +kernel), List.mem_of_getElem? (i := 311) (by decide +kernel), List.mem_of_getElem? (i := 312) (by decide +kernel)⟩
theorem lw_p8 : lw_okq (⟨"GivingHeaps$Mixer", "choicesGiving", "(II)I"⟩, 8) := ⟨⟨by decide +kernel, by decide +kernel⟩, List.mem_of_getElem? (i := 32) (by decide +kernel), List.mem_of_getElem? (i := 433) (by decide +kernel), List.mem_of_getElem? (i := 434) (by decide +kernel)⟩
theorem lw_p9 : lw_okq (⟨"GivingHeaps$Mixer", "chosenAt", "(II)I"⟩, 8) := ⟨⟨by decide +kernel, by decide +kernel⟩, List.mem_of_getElem? (i := 32) (by decide +kernel), List.mem_of_getElem? (i := 438) (by decide +kernel), List.mem_of_getElem? (i := 439) (by decide +kernel)⟩
theorem lw_p10 : lw_okq (⟨"GivingHeaps$Mixer", "spread", "(LGivingHeaps$Lists;LGivingHeaps$Row;J)V"⟩, 8) := ⟨⟨by decide +kernel, by decide +kernel⟩, List.mem_of_getElem? (i := 32) (by decide +kernel), List.mem_of_getElem? (i := 453) (by decide +kernel), List.mem_of_getElem? (i := 454) (by decide +kernel)⟩
theorem lw_p11 : lw_okq (⟨"GivingHeaps$Mixer", "land", "(LGivingHeaps$Lists;IJ)V"⟩, 8) := ⟨⟨by decide +kernel, by decide +kernel⟩, List.mem_of_getElem? (i := 32) (by decide +kernel), List.mem_of_getElem? (i := 458) (by decide +kernel), List.mem_of_getElem? (i := 459) (by decide +kernel)⟩
theorem lw_p12 : lw_okq (⟨"GivingHeaps$Mixer", "nextGift", "()V"⟩, 8) := ⟨⟨by decide +kernel, by decide +kernel⟩, List.mem_of_getElem? (i := 32) (by decide +kernel), List.mem_of_getElem? (i := 465) (by decide +kernel), List.mem_of_getElem? (i := 466) (by decide +kernel)⟩
theorem lw_p13 : lw_okq (⟨"GivingHeaps$Mixer", "spreadAll", "(LGivingHeaps$Lists;I)V"⟩, 8) := ⟨⟨by decide +kernel, by decide +kernel⟩, List.mem_of_getElem? (i := 32) (by decide +kernel), List.mem_of_getElem? (i := 477) (by decide +kernel), List.mem_of_getElem? (i := 478) (by decide +kernel)⟩
theorem lw_p14 : lw_okq (⟨"GivingHeaps", "rowsThere", "()I"⟩, 11) := ⟨⟨by decide +kernel, by decide +kernel⟩, List.mem_of_getElem? (i := 10) (by decide +kernel), List.mem_of_getElem? (i := 499) (by decide +kernel), List.mem_of_getElem? (i := 500) (by decide +kernel)⟩
theorem lw_p15 : lw_okq (⟨"GivingHeaps", "cardsInAll", "()I"⟩, 11) := ⟨⟨by decide +kernel, by decide +kernel⟩, List.mem_of_getElem? (i := 10) (by decide +kernel), List.mem_of_getElem? (i := 503) (by decide +kernel), List.mem_of_getElem? (i := 504) (by decide +kernel)⟩
def lw_privs_1 : List (MethodName × Nat) := [(⟨"GivingHeaps", "rowAt", "(I)LGivingHeaps$Row;"⟩, 11), (⟨"GivingHeaps", "found", "(I)I"⟩, 11), (⟨"GivingHeaps", "chartOf", "(I)LGivingHeaps$Chart;"⟩, 11), (⟨"GivingHeaps$Lists", "cappedAt", "(II)I"⟩, 1), (⟨"GivingHeaps$Chart", "has", "(I)Z"⟩, 11), (⟨"GivingHeaps$Chart", "peel", "([I[I)I"⟩, 11), (⟨"GivingHeaps$Chart", "drawRing", "(I[I)V"⟩, 11), (⟨"GivingHeaps$Chart", "drawTail", "(I)V"⟩, 11), (⟨"GivingHeaps$Mixer", "choicesGiving", "(II)I"⟩, 8), (⟨"GivingHeaps$Mixer", "chosenAt", "(II)I"⟩, 8), (⟨"GivingHeaps$Mixer", "spread", "(LGivingHeaps$Lists;LGivingHeaps$Row;J)V"⟩, 8), (⟨"GivingHeaps$Mixer", "land", "(LGivingHeaps$Lists;IJ)V"⟩, 8), (⟨"GivingHeaps$Mixer", "nextGift", "()V"⟩, 8), (⟨"GivingHeaps$Mixer", "spreadAll", "(LGivingHeaps$Lists;I)V"⟩, 8), (⟨"GivingHeaps", "rowsThere", "()I"⟩, 11), (⟨"GivingHeaps", "cardsInAll", "()I"⟩, 11)]
theorem lw_r1 : ∀ q ∈ lw_privs_1, lw_okq q := List.forall_mem_cons.mpr ⟨lw_p0, List.forall_mem_cons.mpr ⟨lw_p1, List.forall_mem_cons.mpr ⟨lw_p2, List.forall_mem_cons.mpr ⟨lw_p3, List.forall_mem_cons.mpr ⟨lw_p4, List.forall_mem_cons.mpr ⟨lw_p5, List.forall_mem_cons.mpr ⟨lw_p6, List.forall_mem_cons.mpr ⟨lw_p7, List.forall_mem_cons.mpr ⟨lw_p8, List.forall_mem_cons.mpr ⟨lw_p9, List.forall_mem_cons.mpr ⟨lw_p10, List.forall_mem_cons.mpr ⟨lw_p11, List.forall_mem_cons.mpr ⟨lw_p12, List.forall_mem_cons.mpr ⟨lw_p13, List.forall_mem_cons.mpr ⟨lw_p14, List.forall_mem_cons.mpr ⟨lw_p15, fun _ h => absurd h List.not_mem_nil⟩⟩⟩⟩⟩⟩⟩⟩⟩⟩⟩⟩⟩⟩⟩⟩
theorem lw_p16 : lw_okq (⟨"GivingHeapsModel", "looked", "(I)I"⟩, 24) := ⟨⟨by decide +kernel, by decide +kernel⟩, List.mem_of_getElem? (i := 526) (by decide +kernel), List.mem_of_getElem? (i := 619) (by decide +kernel), List.mem_of_getElem? (i := 620) (by decide +kernel)⟩
theorem lw_p17 : lw_okq (⟨"GivingHeapsModel", "meets", "(I)I"⟩, 24) := ⟨⟨by decide +kernel, by decide +kernel⟩, List.mem_of_getElem? (i := 526) (by decide +kernel), List.mem_of_getElem? (i := 623) (by decide +kernel), List.mem_of_getElem? (i := 624) (by decide +kernel)⟩
theorem lw_p18 : lw_okq (⟨"GivingHeapsModel", "cards", "(I)I"⟩, 24) := ⟨⟨by decide +kernel, by decide +kernel⟩, List.mem_of_getElem? (i := 526) (by decide +kernel), List.mem_of_getElem? (i := 627) (by decide +kernel), List.mem_of_getElem? (i := 628) (by decide +kernel)⟩
theorem lw_p19 : lw_okq (⟨"GivingHeapsModel", "put", "(II)V"⟩, 24) := ⟨⟨by decide +kernel, by decide +kernel⟩, List.mem_of_getElem? (i := 526) (by decide +kernel), List.mem_of_getElem? (i := 631) (by decide +kernel), List.mem_of_getElem? (i := 632) (by decide +kernel)⟩
theorem lw_p20 : lw_okq (⟨"GivingHeapsModel", "setList", "(I)V"⟩, 24) := ⟨⟨by decide +kernel, by decide +kernel⟩, List.mem_of_getElem? (i := 526) (by decide +kernel), List.mem_of_getElem? (i := 659) (by decide +kernel), List.mem_of_getElem? (i := 660) (by decide +kernel)⟩
theorem lw_p21 : lw_okq (⟨"GivingHeapsModel", "later", "()Z"⟩, 24) := ⟨⟨by decide +kernel, by decide +kernel⟩, List.mem_of_getElem? (i := 526) (by decide +kernel), List.mem_of_getElem? (i := 663) (by decide +kernel), List.mem_of_getElem? (i := 664) (by decide +kernel)⟩
theorem lw_p22 : lw_okq (⟨"GivingHeapsModel", "rankOf", "(I)I"⟩, 24) := ⟨⟨by decide +kernel, by decide +kernel⟩, List.mem_of_getElem? (i := 526) (by decide +kernel), List.mem_of_getElem? (i := 671) (by decide +kernel), List.mem_of_getElem? (i := 672) (by decide +kernel)⟩
theorem lw_p23 : lw_okq (⟨"GivingHeapsModel", "load", "(I)V"⟩, 24) := ⟨⟨by decide +kernel, by decide +kernel⟩, List.mem_of_getElem? (i := 526) (by decide +kernel), List.mem_of_getElem? (i := 675) (by decide +kernel), List.mem_of_getElem? (i := 676) (by decide +kernel)⟩
theorem lw_p24 : lw_okq (⟨"GivingHeapsModel", "rankRow", "()I"⟩, 24) := ⟨⟨by decide +kernel, by decide +kernel⟩, List.mem_of_getElem? (i := 526) (by decide +kernel), List.mem_of_getElem? (i := 679) (by decide +kernel), List.mem_of_getElem? (i := 680) (by decide +kernel)⟩
theorem lw_p25 : lw_okq (⟨"GivingHeapsModel", "against", "(I)I"⟩, 24) := ⟨⟨by decide +kernel, by decide +kernel⟩, List.mem_of_getElem? (i := 526) (by decide +kernel), List.mem_of_getElem? (i := 683) (by decide +kernel), List.mem_of_getElem? (i := 684) (by decide +kernel)⟩
theorem lw_p26 : lw_okq (⟨"GivingHeapsModel", "loadListed", "(I)V"⟩, 24) := ⟨⟨by decide +kernel, by decide +kernel⟩, List.mem_of_getElem? (i := 526) (by decide +kernel), List.mem_of_getElem? (i := 691) (by decide +kernel), List.mem_of_getElem? (i := 692) (by decide +kernel)⟩
theorem lw_p27 : lw_okq (⟨"GivingHeapsModel", "keep", "(I)V"⟩, 24) := ⟨⟨by decide +kernel, by decide +kernel⟩, List.mem_of_getElem? (i := 526) (by decide +kernel), List.mem_of_getElem? (i := 695) (by decide +kernel), List.mem_of_getElem? (i := 696) (by decide +kernel)⟩
theorem lw_p28 : lw_okq (⟨"GivingHeapsModel", "stepped", "(I)I"⟩, 24) := ⟨⟨by decide +kernel, by decide +kernel⟩, List.mem_of_getElem? (i := 526) (by decide +kernel), List.mem_of_getElem? (i := 707) (by decide +kernel), List.mem_of_getElem? (i := 708) (by decide +kernel)⟩
theorem lw_p29 : lw_okq (⟨"GivingHeapsModel", "setSteps", "(I)V"⟩, 24) := ⟨⟨by decide +kernel, by decide +kernel⟩, List.mem_of_getElem? (i := 526) (by decide +kernel), List.mem_of_getElem? (i := 711) (by decide +kernel), List.mem_of_getElem? (i := 712) (by decide +kernel)⟩
theorem lw_p30 : lw_okq (⟨"GivingHeapsModel", "goOn", "()V"⟩, 24) := ⟨⟨by decide +kernel, by decide +kernel⟩, List.mem_of_getElem? (i := 526) (by decide +kernel), List.mem_of_getElem? (i := 715) (by decide +kernel), List.mem_of_getElem? (i := 716) (by decide +kernel)⟩
theorem lw_p31 : lw_okq (⟨"GivingHeapsModel", "give", "(III)V"⟩, 24) := ⟨⟨by decide +kernel, by decide +kernel⟩, List.mem_of_getElem? (i := 526) (by decide +kernel), List.mem_of_getElem? (i := 719) (by decide +kernel), List.mem_of_getElem? (i := 720) (by decide +kernel)⟩
def lw_privs_2 : List (MethodName × Nat) := [(⟨"GivingHeapsModel", "looked", "(I)I"⟩, 24), (⟨"GivingHeapsModel", "meets", "(I)I"⟩, 24), (⟨"GivingHeapsModel", "cards", "(I)I"⟩, 24), (⟨"GivingHeapsModel", "put", "(II)V"⟩, 24), (⟨"GivingHeapsModel", "setList", "(I)V"⟩, 24), (⟨"GivingHeapsModel", "later", "()Z"⟩, 24), (⟨"GivingHeapsModel", "rankOf", "(I)I"⟩, 24), (⟨"GivingHeapsModel", "load", "(I)V"⟩, 24), (⟨"GivingHeapsModel", "rankRow", "()I"⟩, 24), (⟨"GivingHeapsModel", "against", "(I)I"⟩, 24), (⟨"GivingHeapsModel", "loadListed", "(I)V"⟩, 24), (⟨"GivingHeapsModel", "keep", "(I)V"⟩, 24), (⟨"GivingHeapsModel", "stepped", "(I)I"⟩, 24), (⟨"GivingHeapsModel", "setSteps", "(I)V"⟩, 24), (⟨"GivingHeapsModel", "goOn", "()V"⟩, 24), (⟨"GivingHeapsModel", "give", "(III)V"⟩, 24)]
theorem lw_r2 : ∀ q ∈ lw_privs_2, lw_okq q := List.forall_mem_cons.mpr ⟨lw_p16, List.forall_mem_cons.mpr ⟨lw_p17, List.forall_mem_cons.mpr ⟨lw_p18, List.forall_mem_cons.mpr ⟨lw_p19, List.forall_mem_cons.mpr ⟨lw_p20, List.forall_mem_cons.mpr ⟨lw_p21, List.forall_mem_cons.mpr ⟨lw_p22, List.forall_mem_cons.mpr ⟨lw_p23, List.forall_mem_cons.mpr ⟨lw_p24, List.forall_mem_cons.mpr ⟨lw_p25, List.forall_mem_cons.mpr ⟨lw_p26, List.forall_mem_cons.mpr ⟨lw_p27, List.forall_mem_cons.mpr ⟨lw_p28, List.forall_mem_cons.mpr ⟨lw_p29, List.forall_mem_cons.mpr ⟨lw_p30, List.forall_mem_cons.mpr ⟨lw_p31, fun _ h => absurd h List.not_mem_nil⟩⟩⟩⟩⟩⟩⟩⟩⟩⟩⟩⟩⟩⟩⟩⟩
theorem lw_p32 : lw_okq (⟨"GivingHeapsModel", "settle", "()V"⟩, 24) := ⟨⟨by decide +kernel, by decide +kernel⟩, List.mem_of_getElem? (i := 526) (by decide +kernel), List.mem_of_getElem? (i := 723) (by decide +kernel), List.mem_of_getElem? (i := 724) (by decide +kernel)⟩
theorem lw_p33 : lw_okq (⟨"GivingHeapsModel", "isRound", "(I)Z"⟩, 24) := ⟨⟨by decide +kernel, by decide +kernel⟩, List.mem_of_getElem? (i := 526) (by decide +kernel), List.mem_of_getElem? (i := 727) (by decide +kernel), List.mem_of_getElem? (i := 728) (by decide +kernel)⟩
theorem lw_p34 : lw_okq (⟨"GivingHeapsModel", "kindOf", "(I)I"⟩, 24) := ⟨⟨by decide +kernel, by decide +kernel⟩, List.mem_of_getElem? (i := 526) (by decide +kernel), List.mem_of_getElem? (i := 731) (by decide +kernel), List.mem_of_getElem? (i := 732) (by decide +kernel)⟩
theorem lw_p35 : lw_okq (⟨"GivingHeapsModel", "noWays", "()V"⟩, 24) := ⟨⟨by decide +kernel, by decide +kernel⟩, List.mem_of_getElem? (i := 526) (by decide +kernel), List.mem_of_getElem? (i := 783) (by decide +kernel), List.mem_of_getElem? (i := 784) (by decide +kernel)⟩
theorem lw_p36 : lw_okq (⟨"GivingHeapsModel", "addWays", "(IJ)V"⟩, 24) := ⟨⟨by decide +kernel, by decide +kernel⟩, List.mem_of_getElem? (i := 526) (by decide +kernel), List.mem_of_getElem? (i := 787) (by decide +kernel), List.mem_of_getElem? (i := 788) (by decide +kernel)⟩
def lw_privs_3 : List (MethodName × Nat) := [(⟨"GivingHeapsModel", "settle", "()V"⟩, 24), (⟨"GivingHeapsModel", "isRound", "(I)Z"⟩, 24), (⟨"GivingHeapsModel", "kindOf", "(I)I"⟩, 24), (⟨"GivingHeapsModel", "noWays", "()V"⟩, 24), (⟨"GivingHeapsModel", "addWays", "(IJ)V"⟩, 24)]
theorem lw_r3 : ∀ q ∈ lw_privs_3, lw_okq q := List.forall_mem_cons.mpr ⟨lw_p32, List.forall_mem_cons.mpr ⟨lw_p33, List.forall_mem_cons.mpr ⟨lw_p34, List.forall_mem_cons.mpr ⟨lw_p35, List.forall_mem_cons.mpr ⟨lw_p36, fun _ h => absurd h List.not_mem_nil⟩⟩⟩⟩⟩
def lw_privs : List (MethodName × Nat) := lw_privs_1 ++ (lw_privs_2 ++ (lw_privs_3))
def lw_tbl : List Cond := k2_sels lw_privs ++ tables_1
theorem lw_privs_ok : ∀ q ∈ lw_privs, lw_okq q := by
  show ∀ q ∈ lw_privs_1 ++ (lw_privs_2 ++ (lw_privs_3)), lw_okq q
  exact List.forall_mem_append.mpr ⟨lw_r1, List.forall_mem_append.mpr ⟨lw_r2, lw_r3⟩⟩
-- ===== end of PART A; then your names; then what follows =====
end
section
def RX0 : String := "GivingHeaps$Chart"
def TX0 : u_T := fun k => match k with
  | 0 => ("GivingHeaps$Chart", "length", "I", true)
  | 1 => ("GivingHeaps$Chart", "next", "[I", true)
  | 2 => ("GivingHeaps$Chart", "comers", "[I", true)
  | 3 => ("GivingHeaps$Chart", "tails", "[I", true)
  | 4 => ("GivingHeaps$Chart", "beats", "[I", true)
  | 5 => ("GivingHeaps$Chart", "leaders", "[I", true)
  | 6 => ("GivingHeaps$Chart", "ringCount", "I", false)
  | 7 => ("GivingHeaps$Chart", "roundCount", "I", false)
  | 8 => ("GivingHeaps$Chart", "greatestTail", "I", false)
  | 9 => ("GivingHeaps$Chart", "lonelyCount", "I", false)
  | _ => ("GivingHeaps$Chart", "greatestBeat", "I", false)
def tyX0 : Nat → FieldType := fun k => match k with
  | 0 => .int
  | 1 => .array .int
  | 2 => .array .int
  | 3 => .array .int
  | 4 => .array .int
  | 5 => .array .int
  | 6 => .int
  | 7 => .int
  | 8 => .int
  | 9 => .int
  | _ => .int
abbrev wsX00 : List Cond := u_ws RX0 TX0 11
theorem nmX0 : ∀ a, a < 11 → ∀ b, b < 11 → a ≠ b → (TX0 a).2.1 ≠ (TX0 b).2.1 := by decide +kernel
theorem tyX0_ok : ∀ k, k < 11 → parseFieldDescriptor (TX0 k).2.2.1 = some (tyX0 k) := by decide +kernel
abbrev cX0_init : ByteArray := prog_2_method_1_code
def yX0_init : MethodName := ⟨RX0, "<init>", "(I)V"⟩
abbrev cX0_has : ByteArray := prog_2_method_2_code
def yX0_has : MethodName := ⟨RX0, "has", "(I)Z"⟩
abbrev cX0_link : ByteArray := prog_2_method_3_code
def yX0_link : MethodName := ⟨RX0, "link", "(II)V"⟩
abbrev cX0_draw : ByteArray := prog_2_method_4_code
def yX0_draw : MethodName := ⟨RX0, "draw", "()V"⟩
abbrev cX0_peel : ByteArray := prog_2_method_5_code
def yX0_peel : MethodName := ⟨RX0, "peel", "([I[I)I"⟩
abbrev cX0_drawRing : ByteArray := prog_2_method_6_code
def yX0_drawRing : MethodName := ⟨RX0, "drawRing", "(I[I)V"⟩
abbrev cX0_drawTail : ByteArray := prog_2_method_7_code
def yX0_drawTail : MethodName := ⟨RX0, "drawTail", "(I)V"⟩
abbrev cX0_kindOf : ByteArray := prog_2_method_8_code
def yX0_kindOf : MethodName := ⟨RX0, "kindOf", "(I)I"⟩
abbrev cX0_tailOf : ByteArray := prog_2_method_9_code
def yX0_tailOf : MethodName := ⟨RX0, "tailOf", "(I)I"⟩
abbrev cX0_beatOf : ByteArray := prog_2_method_10_code
def yX0_beatOf : MethodName := ⟨RX0, "beatOf", "(I)I"⟩
abbrev cX0_leaderOf : ByteArray := prog_2_method_11_code
def yX0_leaderOf : MethodName := ⟨RX0, "leaderOf", "(I)I"⟩
abbrev cX0_comersTo : ByteArray := prog_2_method_12_code
def yX0_comersTo : MethodName := ⟨RX0, "comersTo", "(I)I"⟩
abbrev cX0_comerTo : ByteArray := prog_2_method_13_code
def yX0_comerTo : MethodName := ⟨RX0, "comerTo", "(II)I"⟩
abbrev cX0_leaderOfRing : ByteArray := prog_2_method_14_code
def yX0_leaderOfRing : MethodName := ⟨RX0, "leaderOfRing", "(I)I"⟩
abbrev cX0_after : ByteArray := prog_2_method_15_code
def yX0_after : MethodName := ⟨RX0, "after", "(II)I"⟩
abbrev cX0_stepsBetween : ByteArray := prog_2_method_16_code
def yX0_stepsBetween : MethodName := ⟨RX0, "stepsBetween", "(II)I"⟩
def RX1 : String := "GivingHeaps$Lists"
def TX1 : u_T := fun k => match k with
  | _ => ("GivingHeaps$Lists", "capped", "[I", true)
def tyX1 : Nat → FieldType := fun k => match k with
  | _ => .array .int
abbrev wsX10 : List Cond := u_ws RX1 TX1 1
theorem nmX1 : ∀ a, a < 1 → ∀ b, b < 1 → a ≠ b → (TX1 a).2.1 ≠ (TX1 b).2.1 := by decide +kernel
theorem tyX1_ok : ∀ k, k < 1 → parseFieldDescriptor (TX1 k).2.2.1 = some (tyX1 k) := by decide +kernel
abbrev cX1_init : ByteArray := prog_3_method_1_code
def yX1_init : MethodName := ⟨RX1, "<init>", "()V"⟩
abbrev cX1_cappedAt : ByteArray := prog_3_method_2_code
def yX1_cappedAt : MethodName := ⟨RX1, "cappedAt", "(II)I"⟩
abbrev cX1_length : ByteArray := prog_3_method_3_code
def yX1_length : MethodName := ⟨RX1, "length", "(I)I"⟩
abbrev cX1_numberOf : ByteArray := prog_3_method_4_code
def yX1_numberOf : MethodName := ⟨RX1, "numberOf", "(LGivingHeaps$Row;)I"⟩
abbrev cX1_write : ByteArray := prog_3_method_5_code
def yX1_write : MethodName := ⟨RX1, "write", "(LGivingHeaps$Row;II)V"⟩
def RX2 : String := "GivingHeaps$Mixer"
def TX2 : u_T := fun k => match k with
  | 0 => ("GivingHeaps$Mixer", "chosen", "[I", true)
  | 1 => ("GivingHeaps$Mixer", "have", "[I", true)
  | 2 => ("GivingHeaps$Mixer", "give", "[I", true)
  | 3 => ("GivingHeaps$Mixer", "want", "[I", true)
  | 4 => ("GivingHeaps$Mixer", "giver", "LGivingHeaps$Row;", true)
  | 5 => ("GivingHeaps$Mixer", "result", "LGivingHeaps$Row;", true)
  | 6 => ("GivingHeaps$Mixer", "now", "[J", false)
  | _ => ("GivingHeaps$Mixer", "later", "[J", false)
def tyX2 : Nat → FieldType := fun k => match k with
  | 0 => .array .int
  | 1 => .array .int
  | 2 => .array .int
  | 3 => .array .int
  | 4 => .object "GivingHeaps$Row"
  | 5 => .object "GivingHeaps$Row"
  | 6 => .array .long
  | _ => .array .long
abbrev wsX20 : List Cond := u_ws RX2 TX2 8
theorem nmX2 : ∀ a, a < 8 → ∀ b, b < 8 → a ≠ b → (TX2 a).2.1 ≠ (TX2 b).2.1 := by decide +kernel
theorem tyX2_ok : ∀ k, k < 8 → parseFieldDescriptor (TX2 k).2.2.1 = some (tyX2 k) := by decide +kernel
abbrev cX2_init : ByteArray := prog_4_method_1_code
def yX2_init : MethodName := ⟨RX2, "<init>", "()V"⟩
abbrev cX2_chosenAt : ByteArray := prog_4_method_2_code
def yX2_chosenAt : MethodName := ⟨RX2, "chosenAt", "(II)I"⟩
abbrev cX2_choicesBetween : ByteArray := prog_4_method_3_code
def yX2_choicesBetween : MethodName := ⟨RX2, "choicesBetween", "(LGivingHeaps$Row;LGivingHeaps$Row;)I"⟩
abbrev cX2_choicesGiving : ByteArray := prog_4_method_4_code
def yX2_choicesGiving : MethodName := ⟨RX2, "choicesGiving", "(II)I"⟩
abbrev cX2_countReached : ByteArray := prog_4_method_5_code
def yX2_countReached : MethodName := ⟨RX2, "countReached", "(LGivingHeaps$Lists;LGivingHeaps$Row;)I"⟩
abbrev cX2_choicesOfSteps : ByteArray := prog_4_method_6_code
def yX2_choicesOfSteps : MethodName := ⟨RX2, "choicesOfSteps", "(LGivingHeaps$Lists;LGivingHeaps$Row;LGivingHeaps$Row;I)J"⟩
abbrev cX2_spreadAll : ByteArray := prog_4_method_7_code
def yX2_spreadAll : MethodName := ⟨RX2, "spreadAll", "(LGivingHeaps$Lists;I)V"⟩
abbrev cX2_spread : ByteArray := prog_4_method_8_code
def yX2_spread : MethodName := ⟨RX2, "spread", "(LGivingHeaps$Lists;LGivingHeaps$Row;J)V"⟩
abbrev cX2_land : ByteArray := prog_4_method_9_code
def yX2_land : MethodName := ⟨RX2, "land", "(LGivingHeaps$Lists;IJ)V"⟩
abbrev cX2_nextGift : ByteArray := prog_4_method_10_code
def yX2_nextGift : MethodName := ⟨RX2, "nextGift", "()V"⟩
def RX3 : String := "GivingHeaps$Row"
def TX3 : u_T := fun k => match k with
  | 0 => ("GivingHeaps$Row", "heaps", "[I", true)
  | 1 => ("GivingHeaps$Row", "size", "I", false)
  | _ => ("GivingHeaps$Row", "cards", "I", false)
def tyX3 : Nat → FieldType := fun k => match k with
  | 0 => .array .int
  | 1 => .int
  | _ => .int
abbrev wsX30 : List Cond := u_ws RX3 TX3 3
theorem nmX3 : ∀ a, a < 3 → ∀ b, b < 3 → a ≠ b → (TX3 a).2.1 ≠ (TX3 b).2.1 := by decide +kernel
theorem tyX3_ok : ∀ k, k < 3 → parseFieldDescriptor (TX3 k).2.2.1 = some (tyX3 k) := by decide +kernel
abbrev cX3_init : ByteArray := prog_5_method_1_code
def yX3_init : MethodName := ⟨RX3, "<init>", "()V"⟩
abbrev cX3_clear : ByteArray := prog_5_method_2_code
def yX3_clear : MethodName := ⟨RX3, "clear", "()V"⟩
abbrev cX3_has : ByteArray := prog_5_method_3_code
def yX3_has : MethodName := ⟨RX3, "has", "(I)Z"⟩
abbrev cX3_heapAt : ByteArray := prog_5_method_4_code
def yX3_heapAt : MethodName := ⟨RX3, "heapAt", "(I)I"⟩
abbrev cX3_hasRoomFor : ByteArray := prog_5_method_5_code
def yX3_hasRoomFor : MethodName := ⟨RX3, "hasRoomFor", "(I)Z"⟩
abbrev cX3_put : ByteArray := prog_5_method_6_code
def yX3_put : MethodName := ⟨RX3, "put", "(I)V"⟩
abbrev cX3_putPart : ByteArray := prog_5_method_7_code
def yX3_putPart : MethodName := ⟨RX3, "putPart", "(LGivingHeaps$Row;II)V"⟩
abbrev cX3_drop : ByteArray := prog_5_method_8_code
def yX3_drop : MethodName := ⟨RX3, "drop", "(I)I"⟩
abbrev cX3_heapsFrom : ByteArray := prog_5_method_9_code
def yX3_heapsFrom : MethodName := ⟨RX3, "heapsFrom", "(I)I"⟩
abbrev cX3_unlikeHeaps : ByteArray := prog_5_method_10_code
def yX3_unlikeHeaps : MethodName := ⟨RX3, "unlikeHeaps", "()I"⟩
abbrev cX3_tallyInto : ByteArray := prog_5_method_11_code
def yX3_tallyInto : MethodName := ⟨RX3, "tallyInto", "([I)V"⟩
abbrev cX3_digestOnto : ByteArray := prog_5_method_12_code
def yX3_digestOnto : MethodName := ⟨RX3, "digestOnto", "(J)J"⟩
def RX4 : String := "GivingHeaps"
def TX4 : u_T := fun k => match k with
  | 0 => ("GivingHeaps", "rows", "[LGivingHeaps$Row;", true)
  | 1 => ("GivingHeaps", "there", "[Z", true)
  | 2 => ("GivingHeaps", "timesFound", "[I", true)
  | 3 => ("GivingHeaps", "lists", "LGivingHeaps$Lists;", true)
  | 4 => ("GivingHeaps", "mixer", "LGivingHeaps$Mixer;", true)
  | 5 => ("GivingHeaps", "charts", "[LGivingHeaps$Chart;", true)
  | 6 => ("GivingHeaps", "spare", "LGivingHeaps$Row;", true)
  | 7 => ("GivingHeaps", "otherSpare", "LGivingHeaps$Row;", true)
  | 8 => ("GivingHeaps", "theRule", "I", false)
  | 9 => ("GivingHeaps", "latestFinding", "I", false)
  | _ => ("GivingHeaps", "latestWalks", "J", false)
def tyX4 : Nat → FieldType := fun k => match k with
  | 0 => .array (.object "GivingHeaps$Row")
  | 1 => .array .boolean
  | 2 => .array .int
  | 3 => .object "GivingHeaps$Lists"
  | 4 => .object "GivingHeaps$Mixer"
  | 5 => .array (.object "GivingHeaps$Chart")
  | 6 => .object "GivingHeaps$Row"
  | 7 => .object "GivingHeaps$Row"
  | 8 => .int
  | 9 => .int
  | _ => .long
abbrev wsX40 : List Cond := u_ws RX4 TX4 11
theorem nmX4 : ∀ a, a < 11 → ∀ b, b < 11 → a ≠ b → (TX4 a).2.1 ≠ (TX4 b).2.1 := by decide +kernel
theorem tyX4_ok : ∀ k, k < 11 → parseFieldDescriptor (TX4 k).2.2.1 = some (tyX4 k) := by decide +kernel
abbrev cX4_init : ByteArray := prog_1_method_1_code
def yX4_init : MethodName := ⟨RX4, "<init>", "()V"⟩
abbrev cX4_parting : ByteArray := prog_1_method_2_code
def yX4_parting : MethodName := ⟨RX4, "parting", "(I)I"⟩
abbrev cX4_heap : ByteArray := prog_1_method_3_code
def yX4_heap : MethodName := ⟨RX4, "heap", "(II)I"⟩
abbrev cX4_at : ByteArray := prog_1_method_4_code
def yX4_at : MethodName := ⟨RX4, "at", "(II)I"⟩
abbrev cX4_take : ByteArray := prog_1_method_5_code
def yX4_take : MethodName := ⟨RX4, "take", "(II)I"⟩
abbrev cX4_tear : ByteArray := prog_1_method_6_code
def yX4_tear : MethodName := ⟨RX4, "tear", "(I)I"⟩
abbrev cX4_copy : ByteArray := prog_1_method_7_code
def yX4_copy : MethodName := ⟨RX4, "copy", "(IIII)I"⟩
abbrev cX4_rule : ByteArray := prog_1_method_8_code
def yX4_rule : MethodName := ⟨RX4, "rule", "(I)I"⟩
abbrev cX4_kind : ByteArray := prog_1_method_9_code
def yX4_kind : MethodName := ⟨RX4, "kind", "(I)I"⟩
abbrev cX4_mark : ByteArray := prog_1_method_10_code
def yX4_mark : MethodName := ⟨RX4, "mark", "(II)I"⟩
abbrev cX4_mean : ByteArray := prog_1_method_11_code
def yX4_mean : MethodName := ⟨RX4, "mean", "(I)I"⟩
abbrev cX4_many : ByteArray := prog_1_method_12_code
def yX4_many : MethodName := ⟨RX4, "many", "(I)I"⟩
abbrev cX4_rank : ByteArray := prog_1_method_13_code
def yX4_rank : MethodName := ⟨RX4, "rank", "(I)I"⟩
abbrev cX4_list : ByteArray := prog_1_method_14_code
def yX4_list : MethodName := ⟨RX4, "list", "(III)I"⟩
abbrev cX4_turn : ByteArray := prog_1_method_15_code
def yX4_turn : MethodName := ⟨RX4, "turn", "(I)I"⟩
abbrev cX4_step : ByteArray := prog_1_method_16_code
def yX4_step : MethodName := ⟨RX4, "step", "(II)I"⟩
abbrev cX4_tail : ByteArray := prog_1_method_17_code
def yX4_tail : MethodName := ⟨RX4, "tail", "(I)I"⟩
abbrev cX4_beat : ByteArray := prog_1_method_18_code
def yX4_beat : MethodName := ⟨RX4, "beat", "(I)I"⟩
abbrev cX4_leader : ByteArray := prog_1_method_19_code
def yX4_leader : MethodName := ⟨RX4, "leader", "(I)I"⟩
abbrev cX4_rounds : ByteArray := prog_1_method_20_code
def yX4_rounds : MethodName := ⟨RX4, "rounds", "(II)I"⟩
abbrev cX4_ring : ByteArray := prog_1_method_21_code
def yX4_ring : MethodName := ⟨RX4, "ring", "(II)I"⟩
abbrev cX4_from : ByteArray := prog_1_method_22_code
def yX4_from : MethodName := ⟨RX4, "from", "(I)I"⟩
abbrev cX4_fromAt : ByteArray := prog_1_method_23_code
def yX4_fromAt : MethodName := ⟨RX4, "fromAt", "(II)I"⟩
abbrev cX4_steps : ByteArray := prog_1_method_24_code
def yX4_steps : MethodName := ⟨RX4, "steps", "(II)I"⟩
abbrev cX4_ways : ByteArray := prog_1_method_25_code
def yX4_ways : MethodName := ⟨RX4, "ways", "(II)I"⟩
abbrev cX4_reach : ByteArray := prog_1_method_26_code
def yX4_reach : MethodName := ⟨RX4, "reach", "(I)I"⟩
abbrev cX4_walks : ByteArray := prog_1_method_27_code
def yX4_walks : MethodName := ⟨RX4, "walks", "(III)I"⟩
abbrev cX4_asked : ByteArray := prog_1_method_28_code
def yX4_asked : MethodName := ⟨RX4, "asked", "()J"⟩
abbrev cX4_told : ByteArray := prog_1_method_29_code
def yX4_told : MethodName := ⟨RX4, "told", "(II)I"⟩
abbrev cX4_count : ByteArray := prog_1_method_30_code
def yX4_count : MethodName := ⟨RX4, "count", "(I)I"⟩
abbrev cX4_finding : ByteArray := prog_1_method_31_code
def yX4_finding : MethodName := ⟨RX4, "finding", "()I"⟩
abbrev cX4_findings : ByteArray := prog_1_method_32_code
def yX4_findings : MethodName := ⟨RX4, "findings", "(I)I"⟩
abbrev cX4_digest : ByteArray := prog_1_method_33_code
def yX4_digest : MethodName := ⟨RX4, "digest", "()J"⟩
abbrev cX4_isPlace : ByteArray := prog_1_method_34_code
def yX4_isPlace : MethodName := ⟨RX4, "isPlace", "(I)Z"⟩
abbrev cX4_isCards : ByteArray := prog_1_method_35_code
def yX4_isCards : MethodName := ⟨RX4, "isCards", "(I)Z"⟩
abbrev cX4_rowAt : ByteArray := prog_1_method_36_code
def yX4_rowAt : MethodName := ⟨RX4, "rowAt", "(I)LGivingHeaps$Row;"⟩
abbrev cX4_found : ByteArray := prog_1_method_37_code
def yX4_found : MethodName := ⟨RX4, "found", "(I)I"⟩
abbrev cX4_rowsThere : ByteArray := prog_1_method_38_code
def yX4_rowsThere : MethodName := ⟨RX4, "rowsThere", "()I"⟩
abbrev cX4_cardsInAll : ByteArray := prog_1_method_39_code
def yX4_cardsInAll : MethodName := ⟨RX4, "cardsInAll", "()I"⟩
abbrev cX4_chartOf : ByteArray := prog_1_method_40_code
def yX4_chartOf : MethodName := ⟨RX4, "chartOf", "(I)LGivingHeaps$Chart;"⟩
abbrev cX4_stepInto : ByteArray := prog_1_method_41_code
def yX4_stepInto : MethodName := ⟨RX4, "stepInto", "(LGivingHeaps$Row;LGivingHeaps$Row;I)V"⟩
abbrev cX4_giveFromEach : ByteArray := prog_1_method_42_code
def yX4_giveFromEach : MethodName := ⟨RX4, "giveFromEach", "(LGivingHeaps$Row;LGivingHeaps$Row;I)V"⟩
abbrev cX4_giveFromGreatest : ByteArray := prog_1_method_43_code
def yX4_giveFromGreatest : MethodName := ⟨RX4, "giveFromGreatest", "(LGivingHeaps$Row;LGivingHeaps$Row;)V"⟩
abbrev cX4_giveLeastAway : ByteArray := prog_1_method_44_code
def yX4_giveLeastAway : MethodName := ⟨RX4, "giveLeastAway", "(LGivingHeaps$Row;LGivingHeaps$Row;)V"⟩
def RX5 : String := "GivingHeapsModel"
def TX5 : u_T := fun k => match k with
  | 0 => ("GivingHeapsModel", "finding", "I", false)
  | 1 => ("GivingHeapsModel", "findings", "[I", true)
  | 2 => ("GivingHeapsModel", "asked", "J", false)
  | 3 => ("GivingHeapsModel", "rule", "I", false)
  | 4 => ("GivingHeapsModel", "sizes", "[I", true)
  | 5 => ("GivingHeapsModel", "heaps", "[I", true)
  | 6 => ("GivingHeapsModel", "moving", "[I", true)
  | 7 => ("GivingHeapsModel", "row", "[I", true)
  | 8 => ("GivingHeapsModel", "size", "I", false)
  | 9 => ("GivingHeapsModel", "listed", "I", false)
  | 10 => ("GivingHeapsModel", "listSize", "I", false)
  | 11 => ("GivingHeapsModel", "list", "[I", true)
  | 12 => ("GivingHeapsModel", "lengths", "[I", true)
  | 13 => ("GivingHeapsModel", "next", "[I", true)
  | 14 => ("GivingHeapsModel", "froms", "[I", true)
  | 15 => ("GivingHeapsModel", "tails", "[I", true)
  | 16 => ("GivingHeapsModel", "beats", "[I", true)
  | 17 => ("GivingHeapsModel", "leaders", "[I", true)
  | 18 => ("GivingHeapsModel", "ways", "[J", true)
  | 19 => ("GivingHeapsModel", "unlike", "[I", true)
  | 20 => ("GivingHeapsModel", "often", "[I", true)
  | 21 => ("GivingHeapsModel", "gives", "[I", true)
  | 22 => ("GivingHeapsModel", "kinds", "I", false)
  | _ => ("GivingHeapsModel", "before", "[J", true)
def tyX5 : Nat → FieldType := fun k => match k with
  | 0 => .int
  | 1 => .array .int
  | 2 => .long
  | 3 => .int
  | 4 => .array .int
  | 5 => .array .int
  | 6 => .array .int
  | 7 => .array .int
  | 8 => .int
  | 9 => .int
  | 10 => .int
  | 11 => .array .int
  | 12 => .array .int
  | 13 => .array .int
  | 14 => .array .int
  | 15 => .array .int
  | 16 => .array .int
  | 17 => .array .int
  | 18 => .array .long
  | 19 => .array .int
  | 20 => .array .int
  | 21 => .array .int
  | 22 => .int
  | _ => .array .long
abbrev wsX50 : List Cond := u_ws RX5 TX5 24
theorem nmX5 : ∀ a, a < 24 → ∀ b, b < 24 → a ≠ b → (TX5 a).2.1 ≠ (TX5 b).2.1 := by decide +kernel
theorem tyX5_ok : ∀ k, k < 24 → parseFieldDescriptor (TX5 k).2.2.1 = some (tyX5 k) := by decide +kernel
abbrev cX5_init : ByteArray := prog_7_method_1_code
def yX5_init : MethodName := ⟨RX5, "<init>", "()V"⟩
abbrev cX5_in : ByteArray := prog_7_method_3_code
def yX5_in : MethodName := ⟨RX5, "in", "(III)Z"⟩
abbrev cX5_meets : ByteArray := prog_7_method_4_code
def yX5_meets : MethodName := ⟨RX5, "meets", "(I)I"⟩
abbrev cX5_isParting : ByteArray := prog_7_method_5_code
def yX5_isParting : MethodName := ⟨RX5, "isParting", "(I)Z"⟩
abbrev cX5_looked : ByteArray := prog_7_method_6_code
def yX5_looked : MethodName := ⟨RX5, "looked", "(I)I"⟩
abbrev cX5_cards : ByteArray := prog_7_method_7_code
def yX5_cards : MethodName := ⟨RX5, "cards", "(I)I"⟩
abbrev cX5_parting : ByteArray := prog_7_method_8_code
def yX5_parting : MethodName := ⟨RX5, "parting", "(I)I"⟩
abbrev cX5_put : ByteArray := prog_7_method_9_code
def yX5_put : MethodName := ⟨RX5, "put", "(II)V"⟩
abbrev cX5_heap : ByteArray := prog_7_method_10_code
def yX5_heap : MethodName := ⟨RX5, "heap", "(II)I"⟩
abbrev cX5_at : ByteArray := prog_7_method_11_code
def yX5_at : MethodName := ⟨RX5, "at", "(II)I"⟩
abbrev cX5_take : ByteArray := prog_7_method_12_code
def yX5_take : MethodName := ⟨RX5, "take", "(II)I"⟩
abbrev cX5_tear : ByteArray := prog_7_method_13_code
def yX5_tear : MethodName := ⟨RX5, "tear", "(I)I"⟩
abbrev cX5_copy : ByteArray := prog_7_method_14_code
def yX5_copy : MethodName := ⟨RX5, "copy", "(IIII)I"⟩
abbrev cX5_rule : ByteArray := prog_7_method_15_code
def yX5_rule : MethodName := ⟨RX5, "rule", "(I)I"⟩
abbrev cX5_load : ByteArray := prog_7_method_16_code
def yX5_load : MethodName := ⟨RX5, "load", "(I)V"⟩
abbrev cX5_keep : ByteArray := prog_7_method_17_code
def yX5_keep : MethodName := ⟨RX5, "keep", "(I)V"⟩
abbrev cX5_settle : ByteArray := prog_7_method_18_code
def yX5_settle : MethodName := ⟨RX5, "settle", "()V"⟩
abbrev cX5_give : ByteArray := prog_7_method_19_code
def yX5_give : MethodName := ⟨RX5, "give", "(III)V"⟩
abbrev cX5_goOn : ByteArray := prog_7_method_20_code
def yX5_goOn : MethodName := ⟨RX5, "goOn", "()V"⟩
abbrev cX5_setList : ByteArray := prog_7_method_21_code
def yX5_setList : MethodName := ⟨RX5, "setList", "(I)V"⟩
abbrev cX5_later : ByteArray := prog_7_method_22_code
def yX5_later : MethodName := ⟨RX5, "later", "()Z"⟩
abbrev cX5_against : ByteArray := prog_7_method_23_code
def yX5_against : MethodName := ⟨RX5, "against", "(I)I"⟩
abbrev cX5_rankRow : ByteArray := prog_7_method_24_code
def yX5_rankRow : MethodName := ⟨RX5, "rankRow", "()I"⟩
abbrev cX5_loadListed : ByteArray := prog_7_method_25_code
def yX5_loadListed : MethodName := ⟨RX5, "loadListed", "(I)V"⟩
abbrev cX5_rankOf : ByteArray := prog_7_method_26_code
def yX5_rankOf : MethodName := ⟨RX5, "rankOf", "(I)I"⟩
abbrev cX5_many : ByteArray := prog_7_method_27_code
def yX5_many : MethodName := ⟨RX5, "many", "(I)I"⟩
abbrev cX5_rank : ByteArray := prog_7_method_28_code
def yX5_rank : MethodName := ⟨RX5, "rank", "(I)I"⟩
abbrev cX5_list : ByteArray := prog_7_method_29_code
def yX5_list : MethodName := ⟨RX5, "list", "(III)I"⟩
abbrev cX5_turn : ByteArray := prog_7_method_30_code
def yX5_turn : MethodName := ⟨RX5, "turn", "(I)I"⟩
abbrev cX5_setSteps : ByteArray := prog_7_method_31_code
def yX5_setSteps : MethodName := ⟨RX5, "setSteps", "(I)V"⟩
abbrev cX5_isRound : ByteArray := prog_7_method_32_code
def yX5_isRound : MethodName := ⟨RX5, "isRound", "(I)Z"⟩
abbrev cX5_stepped : ByteArray := prog_7_method_33_code
def yX5_stepped : MethodName := ⟨RX5, "stepped", "(I)I"⟩
abbrev cX5_kindOf : ByteArray := prog_7_method_34_code
def yX5_kindOf : MethodName := ⟨RX5, "kindOf", "(I)I"⟩
abbrev cX5_kind : ByteArray := prog_7_method_35_code
def yX5_kind : MethodName := ⟨RX5, "kind", "(I)I"⟩
abbrev cX5_mark : ByteArray := prog_7_method_36_code
def yX5_mark : MethodName := ⟨RX5, "mark", "(II)I"⟩
abbrev cX5_mean : ByteArray := prog_7_method_37_code
def yX5_mean : MethodName := ⟨RX5, "mean", "(I)I"⟩
abbrev cX5_step : ByteArray := prog_7_method_38_code
def yX5_step : MethodName := ⟨RX5, "step", "(II)I"⟩
abbrev cX5_tail : ByteArray := prog_7_method_39_code
def yX5_tail : MethodName := ⟨RX5, "tail", "(I)I"⟩
abbrev cX5_beat : ByteArray := prog_7_method_40_code
def yX5_beat : MethodName := ⟨RX5, "beat", "(I)I"⟩
abbrev cX5_leader : ByteArray := prog_7_method_41_code
def yX5_leader : MethodName := ⟨RX5, "leader", "(I)I"⟩
abbrev cX5_rounds : ByteArray := prog_7_method_42_code
def yX5_rounds : MethodName := ⟨RX5, "rounds", "(II)I"⟩
abbrev cX5_ring : ByteArray := prog_7_method_43_code
def yX5_ring : MethodName := ⟨RX5, "ring", "(II)I"⟩
abbrev cX5_from : ByteArray := prog_7_method_44_code
def yX5_from : MethodName := ⟨RX5, "from", "(I)I"⟩
abbrev cX5_fromAt : ByteArray := prog_7_method_45_code
def yX5_fromAt : MethodName := ⟨RX5, "fromAt", "(II)I"⟩
abbrev cX5_steps : ByteArray := prog_7_method_46_code
def yX5_steps : MethodName := ⟨RX5, "steps", "(II)I"⟩
abbrev cX5_choices : ByteArray := prog_7_method_47_code
def yX5_choices : MethodName := ⟨RX5, "choices", "(II)J"⟩
abbrev cX5_addWays : ByteArray := prog_7_method_48_code
def yX5_addWays : MethodName := ⟨RX5, "addWays", "(IJ)V"⟩
abbrev cX5_noWays : ByteArray := prog_7_method_49_code
def yX5_noWays : MethodName := ⟨RX5, "noWays", "()V"⟩
abbrev cX5_ways : ByteArray := prog_7_method_50_code
def yX5_ways : MethodName := ⟨RX5, "ways", "(II)I"⟩
abbrev cX5_reach : ByteArray := prog_7_method_51_code
def yX5_reach : MethodName := ⟨RX5, "reach", "(I)I"⟩
abbrev cX5_walks : ByteArray := prog_7_method_52_code
def yX5_walks : MethodName := ⟨RX5, "walks", "(III)I"⟩
abbrev cX5_asked : ByteArray := prog_7_method_53_code
def yX5_asked : MethodName := ⟨RX5, "asked", "()J"⟩
abbrev cX5_told : ByteArray := prog_7_method_54_code
def yX5_told : MethodName := ⟨RX5, "told", "(II)I"⟩
abbrev cX5_count : ByteArray := prog_7_method_55_code
def yX5_count : MethodName := ⟨RX5, "count", "(I)I"⟩
abbrev cX5_finding : ByteArray := prog_7_method_56_code
def yX5_finding : MethodName := ⟨RX5, "finding", "()I"⟩
abbrev cX5_findings : ByteArray := prog_7_method_57_code
def yX5_findings : MethodName := ⟨RX5, "findings", "(I)I"⟩
abbrev cX5_digest : ByteArray := prog_7_method_58_code
def yX5_digest : MethodName := ⟨RX5, "digest", "()J"⟩
def RJ9 : String := "java/lang/Math"
def TJ9 : u_T := fun k => match k with
  | _ => ("", "", "", false)
def tyJ9 : Nat → FieldType := fun k => match k with
  | _ => .int
abbrev wsJ90 : List Cond := u_ws RJ9 TJ9 0
theorem nmJ9 : ∀ a, a < 0 → ∀ b, b < 0 → a ≠ b → (TJ9 a).2.1 ≠ (TJ9 b).2.1 := by decide +kernel
theorem tyJ9_ok : ∀ k, k < 0 → parseFieldDescriptor (TJ9 k).2.2.1 = some (tyJ9 k) := by decide +kernel
abbrev cJ9_max_7cf53 : ByteArray := prog_9_method_65_code
def yJ9_max_7cf53 : MethodName := ⟨RJ9, "max", "(II)I"⟩
abbrev cJ9_min_7cf53 : ByteArray := prog_9_method_69_code
def yJ9_min_7cf53 : MethodName := ⟨RJ9, "min", "(II)I"⟩
def RJ7 : String := "java/util/Arrays"
def TJ7 : u_T := fun k => match k with
  | _ => ("", "", "", false)
def tyJ7 : Nat → FieldType := fun k => match k with
  | _ => .int
abbrev wsJ70 : List Cond := u_ws RJ7 TJ7 0
theorem nmJ7 : ∀ a, a < 0 → ∀ b, b < 0 → a ≠ b → (TJ7 a).2.1 ≠ (TJ7 b).2.1 := by decide +kernel
theorem tyJ7_ok : ∀ k, k < 0 → parseFieldDescriptor (TJ7 k).2.2.1 = some (tyJ7 k) := by decide +kernel
abbrev cJ7_fill_d0a16 : ByteArray := prog_10_method_101_code
def yJ7_fill_d0a16 : MethodName := ⟨RJ7, "fill", "([JJ)V"⟩
abbrev cJ7_fill_53178 : ByteArray := prog_10_method_103_code
def yJ7_fill_53178 : MethodName := ⟨RJ7, "fill", "([II)V"⟩
def RL : String := "GivingHeapsLaw"
abbrev cL_law : ByteArray := code
def yL_law : MethodName := ⟨RL, "law", "([I)Z"⟩
/-! the methods: name, code, locals, answer, rank, cells, slots -/
abbrev mM : Type := MethodName × ByteArray × Nat × Option FieldType × Nat × Nat × Nat
def MX0_init : mM := (yX0_init, cX0_init, 2, none, 1, 5, 1925)
def MX0_has : mM := (yX0_has, cX0_has, 2, some .boolean, 0, 0, 0)
def MX0_link : mM := (yX0_link, cX0_link, 3, none, 1, 0, 0)
def MX0_draw : mM := (yX0_draw, cX0_draw, 5, none, 2, 2, 770)
def MX0_peel : mM := (yX0_peel, cX0_peel, 6, some .int, 0, 0, 0)
def MX0_drawRing : mM := (yX0_drawRing, cX0_drawRing, 6, none, 1, 0, 0)
def MX0_drawTail : mM := (yX0_drawTail, cX0_drawTail, 3, none, 1, 0, 0)
def MX0_kindOf : mM := (yX0_kindOf, cX0_kindOf, 2, some .int, 1, 0, 0)
def MX0_tailOf : mM := (yX0_tailOf, cX0_tailOf, 2, some .int, 1, 0, 0)
def MX0_beatOf : mM := (yX0_beatOf, cX0_beatOf, 2, some .int, 1, 0, 0)
def MX0_leaderOf : mM := (yX0_leaderOf, cX0_leaderOf, 2, some .int, 1, 0, 0)
def MX0_comersTo : mM := (yX0_comersTo, cX0_comersTo, 2, some .int, 1, 0, 0)
def MX0_comerTo : mM := (yX0_comerTo, cX0_comerTo, 5, some .int, 0, 0, 0)
def MX0_leaderOfRing : mM := (yX0_leaderOfRing, cX0_leaderOfRing, 4, some .int, 0, 0, 0)
def MX0_after : mM := (yX0_after, cX0_after, 5, some .int, 1, 0, 0)
def MX0_stepsBetween : mM := (yX0_stepsBetween, cX0_stepsBetween, 5, some .int, 1, 0, 0)
def MX1_init : mM := (yX1_init, cX1_init, 4, none, 1, 1, 361)
def MX1_cappedAt : mM := (yX1_cappedAt, cX1_cappedAt, 3, some .int, 0, 0, 0)
def MX1_length : mM := (yX1_length, cX1_length, 2, some .int, 1, 0, 0)
def MX1_numberOf : mM := (yX1_numberOf, cX1_numberOf, 7, some .int, 1, 0, 0)
def MX1_write : mM := (yX1_write, cX1_write, 9, none, 2, 0, 0)
def MX2_init : mM := (yX2_init, cX2_init, 3, none, 2, 10, 1233)
def MX2_chosenAt : mM := (yX2_chosenAt, cX2_chosenAt, 3, some .int, 0, 0, 0)
def MX2_choicesBetween : mM := (yX2_choicesBetween, cX2_choicesBetween, 5, some .int, 2, 0, 0)
def MX2_choicesGiving : mM := (yX2_choicesGiving, cX2_choicesGiving, 8, some .int, 1, 0, 0)
def MX2_countReached : mM := (yX2_countReached, cX2_countReached, 5, some .int, 4, 0, 0)
def MX2_choicesOfSteps : mM := (yX2_choicesOfSteps, cX2_choicesOfSteps, 9, some .long, 5, 0, 0)
def MX2_spreadAll : mM := (yX2_spreadAll, cX2_spreadAll, 4, none, 4, 0, 0)
def MX2_spread : mM := (yX2_spread, cX2_spread, 7, none, 3, 0, 0)
def MX2_land : mM := (yX2_land, cX2_land, 11, none, 2, 0, 0)
def MX2_nextGift : mM := (yX2_nextGift, cX2_nextGift, 2, none, 0, 0, 0)
def MX3_init : mM := (yX3_init, cX3_init, 1, none, 1, 1, 18)
def MX3_clear : mM := (yX3_clear, cX3_clear, 1, none, 0, 0, 0)
def MX3_has : mM := (yX3_has, cX3_has, 2, some .boolean, 0, 0, 0)
def MX3_heapAt : mM := (yX3_heapAt, cX3_heapAt, 2, some .int, 0, 0, 0)
def MX3_hasRoomFor : mM := (yX3_hasRoomFor, cX3_hasRoomFor, 2, some .boolean, 0, 0, 0)
def MX3_put : mM := (yX3_put, cX3_put, 3, none, 1, 0, 0)
def MX3_putPart : mM := (yX3_putPart, cX3_putPart, 5, none, 2, 0, 0)
def MX3_drop : mM := (yX3_drop, cX3_drop, 4, some .int, 1, 0, 0)
def MX3_heapsFrom : mM := (yX3_heapsFrom, cX3_heapsFrom, 4, some .int, 0, 0, 0)
def MX3_unlikeHeaps : mM := (yX3_unlikeHeaps, cX3_unlikeHeaps, 3, some .int, 0, 0, 0)
def MX3_tallyInto : mM := (yX3_tallyInto, cX3_tallyInto, 4, none, 1, 0, 0)
def MX3_digestOnto : mM := (yX3_digestOnto, cX3_digestOnto, 6, some .long, 0, 0, 0)
def MX4_init : mM := (yX4_init, cX4_init, 2, none, 3, 45, 2003)
def MX4_parting : mM := (yX4_parting, cX4_parting, 3, some .int, 1, 0, 0)
def MX4_heap : mM := (yX4_heap, cX4_heap, 4, some .int, 2, 0, 0)
def MX4_at : mM := (yX4_at, cX4_at, 4, some .int, 2, 0, 0)
def MX4_take : mM := (yX4_take, cX4_take, 4, some .int, 2, 0, 0)
def MX4_tear : mM := (yX4_tear, cX4_tear, 2, some .int, 1, 0, 0)
def MX4_copy : mM := (yX4_copy, cX4_copy, 7, some .int, 3, 0, 0)
def MX4_rule : mM := (yX4_rule, cX4_rule, 3, some .int, 0, 0, 0)
def MX4_kind : mM := (yX4_kind, cX4_kind, 3, some .int, 6, 8, 2706)
def MX4_mark : mM := (yX4_mark, cX4_mark, 8, some .int, 6, 8, 2706)
def MX4_mean : mM := (yX4_mean, cX4_mean, 3, some .int, 2, 0, 0)
def MX4_many : mM := (yX4_many, cX4_many, 2, some .int, 2, 0, 0)
def MX4_rank : mM := (yX4_rank, cX4_rank, 3, some .int, 2, 0, 0)
def MX4_list : mM := (yX4_list, cX4_list, 4, some .int, 3, 0, 0)
def MX4_turn : mM := (yX4_turn, cX4_turn, 4, some .int, 3, 0, 0)
def MX4_step : mM := (yX4_step, cX4_step, 6, some .int, 6, 8, 2706)
def MX4_tail : mM := (yX4_tail, cX4_tail, 3, some .int, 6, 8, 2706)
def MX4_beat : mM := (yX4_beat, cX4_beat, 3, some .int, 6, 8, 2706)
def MX4_leader : mM := (yX4_leader, cX4_leader, 3, some .int, 6, 8, 2706)
def MX4_rounds : mM := (yX4_rounds, cX4_rounds, 3, some .int, 6, 8, 2706)
def MX4_ring : mM := (yX4_ring, cX4_ring, 3, some .int, 6, 8, 2706)
def MX4_from : mM := (yX4_from, cX4_from, 3, some .int, 6, 8, 2706)
def MX4_fromAt : mM := (yX4_fromAt, cX4_fromAt, 4, some .int, 6, 8, 2706)
def MX4_steps : mM := (yX4_steps, cX4_steps, 5, some .int, 6, 8, 2706)
def MX4_ways : mM := (yX4_ways, cX4_ways, 5, some .int, 3, 0, 0)
def MX4_reach : mM := (yX4_reach, cX4_reach, 3, some .int, 5, 0, 0)
def MX4_walks : mM := (yX4_walks, cX4_walks, 6, some .int, 6, 0, 0)
def MX4_asked : mM := (yX4_asked, cX4_asked, 1, some .long, 0, 0, 0)
def MX4_told : mM := (yX4_told, cX4_told, 4, some .int, 2, 0, 0)
def MX4_count : mM := (yX4_count, cX4_count, 2, some .int, 1, 0, 0)
def MX4_finding : mM := (yX4_finding, cX4_finding, 1, some .int, 0, 0, 0)
def MX4_findings : mM := (yX4_findings, cX4_findings, 2, some .int, 0, 0, 0)
def MX4_digest : mM := (yX4_digest, cX4_digest, 5, some .long, 2, 0, 0)
def MX4_isPlace : mM := (yX4_isPlace, cX4_isPlace, 1, some .boolean, 0, 0, 0)
def MX4_isCards : mM := (yX4_isCards, cX4_isCards, 1, some .boolean, 0, 0, 0)
def MX4_rowAt : mM := (yX4_rowAt, cX4_rowAt, 2, some (.object "GivingHeaps$Row"), 1, 0, 0)
def MX4_found : mM := (yX4_found, cX4_found, 2, some .int, 0, 0, 0)
def MX4_rowsThere : mM := (yX4_rowsThere, cX4_rowsThere, 3, some .int, 0, 0, 0)
def MX4_cardsInAll : mM := (yX4_cardsInAll, cX4_cardsInAll, 3, some .int, 0, 0, 0)
def MX4_chartOf : mM := (yX4_chartOf, cX4_chartOf, 5, some (.object "GivingHeaps$Chart"), 5, 8, 2706)
def MX4_stepInto : mM := (yX4_stepInto, cX4_stepInto, 3, none, 4, 0, 0)
def MX4_giveFromEach : mM := (yX4_giveFromEach, cX4_giveFromEach, 6, none, 2, 0, 0)
def MX4_giveFromGreatest : mM := (yX4_giveFromGreatest, cX4_giveFromGreatest, 2, none, 3, 0, 0)
def MX4_giveLeastAway : mM := (yX4_giveLeastAway, cX4_giveLeastAway, 6, none, 2, 0, 0)
def MX5_init : mM := (yX5_init, cX5_init, 2, none, 1, 17, 10336)
def MX5_in : mM := (yX5_in, cX5_in, 3, some .boolean, 0, 0, 0)
def MX5_meets : mM := (yX5_meets, cX5_meets, 2, some .int, 0, 0, 0)
def MX5_isParting : mM := (yX5_isParting, cX5_isParting, 1, some .boolean, 1, 0, 0)
def MX5_looked : mM := (yX5_looked, cX5_looked, 2, some .int, 2, 0, 0)
def MX5_cards : mM := (yX5_cards, cX5_cards, 4, some .int, 0, 0, 0)
def MX5_parting : mM := (yX5_parting, cX5_parting, 3, some .int, 2, 0, 0)
def MX5_put : mM := (yX5_put, cX5_put, 4, none, 0, 0, 0)
def MX5_heap : mM := (yX5_heap, cX5_heap, 4, some .int, 3, 0, 0)
def MX5_at : mM := (yX5_at, cX5_at, 4, some .int, 3, 0, 0)
def MX5_take : mM := (yX5_take, cX5_take, 6, some .int, 3, 0, 0)
def MX5_tear : mM := (yX5_tear, cX5_tear, 3, some .int, 3, 0, 0)
def MX5_copy : mM := (yX5_copy, cX5_copy, 7, some .int, 2, 0, 0)
def MX5_rule : mM := (yX5_rule, cX5_rule, 3, some .int, 1, 0, 0)
def MX5_load : mM := (yX5_load, cX5_load, 3, none, 0, 0, 0)
def MX5_keep : mM := (yX5_keep, cX5_keep, 3, none, 0, 0, 0)
def MX5_settle : mM := (yX5_settle, cX5_settle, 5, none, 0, 0, 0)
def MX5_give : mM := (yX5_give, cX5_give, 7, none, 0, 0, 0)
def MX5_goOn : mM := (yX5_goOn, cX5_goOn, 2, none, 1, 0, 0)
def MX5_setList : mM := (yX5_setList, cX5_setList, 4, none, 1, 0, 0)
def MX5_later : mM := (yX5_later, cX5_later, 3, some .boolean, 0, 0, 0)
def MX5_against : mM := (yX5_against, cX5_against, 3, some .int, 0, 0, 0)
def MX5_rankRow : mM := (yX5_rankRow, cX5_rankRow, 5, some .int, 1, 0, 0)
def MX5_loadListed : mM := (yX5_loadListed, cX5_loadListed, 3, none, 0, 0, 0)
def MX5_rankOf : mM := (yX5_rankOf, cX5_rankOf, 2, some .int, 2, 0, 0)
def MX5_many : mM := (yX5_many, cX5_many, 2, some .int, 2, 0, 0)
def MX5_rank : mM := (yX5_rank, cX5_rank, 3, some .int, 3, 0, 0)
def MX5_list : mM := (yX5_list, cX5_list, 4, some .int, 2, 0, 0)
def MX5_turn : mM := (yX5_turn, cX5_turn, 6, some .int, 3, 0, 0)
def MX5_setSteps : mM := (yX5_setSteps, cX5_setSteps, 7, none, 2, 0, 0)
def MX5_isRound : mM := (yX5_isRound, cX5_isRound, 4, some .boolean, 0, 0, 0)
def MX5_stepped : mM := (yX5_stepped, cX5_stepped, 3, some .int, 3, 0, 0)
def MX5_kindOf : mM := (yX5_kindOf, cX5_kindOf, 2, some .int, 0, 0, 0)
def MX5_kind : mM := (yX5_kind, cX5_kind, 3, some .int, 4, 0, 0)
def MX5_mark : mM := (yX5_mark, cX5_mark, 5, some .int, 4, 0, 0)
def MX5_mean : mM := (yX5_mean, cX5_mean, 3, some .int, 3, 0, 0)
def MX5_step : mM := (yX5_step, cX5_step, 5, some .int, 3, 0, 0)
def MX5_tail : mM := (yX5_tail, cX5_tail, 3, some .int, 4, 0, 0)
def MX5_beat : mM := (yX5_beat, cX5_beat, 3, some .int, 4, 0, 0)
def MX5_leader : mM := (yX5_leader, cX5_leader, 3, some .int, 4, 0, 0)
def MX5_rounds : mM := (yX5_rounds, cX5_rounds, 7, some .int, 3, 0, 0)
def MX5_ring : mM := (yX5_ring, cX5_ring, 5, some .int, 3, 0, 0)
def MX5_from : mM := (yX5_from, cX5_from, 3, some .int, 4, 0, 0)
def MX5_fromAt : mM := (yX5_fromAt, cX5_fromAt, 6, some .int, 4, 0, 0)
def MX5_steps : mM := (yX5_steps, cX5_steps, 6, some .int, 4, 0, 0)
def MX5_choices : mM := (yX5_choices, cX5_choices, 5, some .long, 0, 0, 0)
def MX5_addWays : mM := (yX5_addWays, cX5_addWays, 10, none, 2, 0, 0)
def MX5_noWays : mM := (yX5_noWays, cX5_noWays, 2, none, 0, 0, 0)
def MX5_ways : mM := (yX5_ways, cX5_ways, 3, some .int, 3, 0, 0)
def MX5_reach : mM := (yX5_reach, cX5_reach, 5, some .int, 3, 0, 0)
def MX5_walks : mM := (yX5_walks, cX5_walks, 6, some .int, 3, 0, 0)
def MX5_asked : mM := (yX5_asked, cX5_asked, 1, some .long, 0, 0, 0)
def MX5_told : mM := (yX5_told, cX5_told, 6, some .int, 3, 0, 0)
def MX5_count : mM := (yX5_count, cX5_count, 4, some .int, 1, 0, 0)
def MX5_finding : mM := (yX5_finding, cX5_finding, 1, some .int, 0, 0, 0)
def MX5_findings : mM := (yX5_findings, cX5_findings, 2, some .int, 1, 0, 0)
def MX5_digest : mM := (yX5_digest, cX5_digest, 5, some .long, 0, 0, 0)
def MJ7_fill_d0a16 : mM := (yJ7_fill_d0a16, cJ7_fill_d0a16, 5, none, 0, 0, 0)
def MJ7_fill_53178 : mM := (yJ7_fill_53178, cJ7_fill_53178, 4, none, 0, 0, 0)
def ML_law : mM := (yL_law, cL_law, 4, some .boolean, 9, 600000, 7302250)
end
section
/-! ===== the machine seen from above: addresses count from the law's entry, cells are told by what they hold ===== -/
abbrev mG : Type := Launch × Nat × (Nat → ClassId) × (Nat → Nat → Nat) × (FieldType → ClassId)
abbrev mE : Type := (FieldType × vp_A) ⊕ (Nat × List Value)
abbrev mH : Type := Nat × (Nat → mE)
abbrev mJ : Type := (Array Value → State → Prop) × (List Frame → Array Value → State → State → Prop)
/-- a value as the machine has it: references are moved by b; .retAddr a stands for the very address a -/
def m_sv (b : Nat) (v : Value) : Value := match v with
  | .ref a => .ref (b + a)
  | .int x => .int x
  | .long x => .long x
  | .float x => .float x
  | .double x => .double x
  | .null => .null
  | .retAddr x => .ref x
theorem m_sv_cat (b : Nat) (v : Value) : (m_sv b v).category = v.category := by cases v <;> rfl
def m_sA (b : Nat) (a : vp_A) : vp_A := match a.2 with
  | .inl f => (a.1, .inl f)
  | .inr (.inl f) => (a.1, .inr (.inl f))
  | .inr (.inr (.inl f)) => (a.1, .inr (.inr (.inl f)))
  | .inr (.inr (.inr (.inl f))) => (a.1, .inr (.inr (.inr (.inl f))))
  | .inr (.inr (.inr (.inr f))) => (a.1, .inr (.inr (.inr (.inr (fun j => (f j).map (fun q => b + q))))))
theorem m_sA_1 (b : Nat) (a : vp_A) : (m_sA b a).1 = a.1 := by
  obtain ⟨n, f | f | f | f | f⟩ := a <;> rfl
def m_sE (g : mG) (x : mE) : va_E := match x with
  | .inl a => .inl (g.2.2.2.2 a.1, m_sA g.2.1 a.2)
  | .inr o => .inr (o.1, o.2.map (m_sv g.2.1))
def m_W (g : mG) (h : mH) : va_W := (List.range h.1).map (fun k => (g.2.1 + k, m_sE g (h.2 k)))
def m_D (g : mG) : va_G := (g.2.2.1, g.2.2.2.1)
def m_cl : List vw_C := [(RX0, TX0, 11), (RX1, TX1, 1), (RX2, TX2, 8), (RX3, TX3, 3), (RX4, TX4, 11), (RX5, TX5, 24)]
def m_ty5 : List FieldType := [.int, .long, .boolean, .object RX3, .object RX0]
def m_tys (g : mG) : List (ClassId × FieldType) := m_ty5.map (fun ty => (g.2.2.2.2 ty, ty))
def m_A (g : mG) : Nat → Prop := fun q => g.2.1 ≤ q
def m_P (g : mG) (h : mH) (H : Heap) : Prop := va_P (m_D g) m_cl (m_W g h) H ∧ H.size = g.2.1 + h.1
/-! heaps -/
def hc (h : mH) (a : Nat) : Option mE := if a < h.1 then some (h.2 a) else none
def hs (h : mH) (a : Nat) (x : mE) : mH := (h.1, fun k => if k = a then x else h.2 k)
def hp (h : mH) (x : mE) : mH := (h.1 + 1, fun k => if k = h.1 then x else h.2 k)
theorem hc_lt {h : mH} {a : Nat} {x : mE} (e : hc h a = some x) : a < h.1 ∧ h.2 a = x := by
  unfold hc at e
  split at e
  · exact ⟨by assumption, Option.some.inj e⟩
  · cases e
theorem hc_hs {h : mH} {a : Nat} {x y : mE} (e : hc h a = some y) : hc (hs h a x) a = some x := by
  have := (hc_lt e).1
  simp [hc, hs, this]
theorem hc_hs_ne {h : mH} {a q : Nat} {x : mE} (n : q ≠ a) : hc (hs h a x) q = hc h q := by
  simp [hc, hs, n]
theorem hc_hp {h : mH} {x : mE} : hc (hp h x) h.1 = some x := by simp [hc, hp]
theorem hc_hp_ne {h : mH} {q : Nat} {x : mE} (n : q ≠ h.1) : hc (hp h x) q = hc h q := by
  unfold hc hp
  by_cases c : q < h.1
  · simp [c, n, Nat.lt_succ_of_lt c]
  · have c2 : ¬ q < h.1 + 1 := by omega
    simp [c, c2]
theorem hs_1 (h : mH) (a : Nat) (x : mE) : (hs h a x).1 = h.1 := rfl
theorem hp_1 (h : mH) (x : mE) : (hp h x).1 = h.1 + 1 := rfl
theorem hs_hs (h : mH) (a : Nat) (x y : mE) : hs (hs h a x) a y = hs h a y := by
  unfold hs
  congr 1
  funext k
  by_cases c : k = a <;> simp [c]
theorem hs_comm (h : mH) {a b : Nat} (x y : mE) (n : a ≠ b) : hs (hs h a x) b y = hs (hs h b y) a x := by
  unfold hs
  congr 1
  funext k
  by_cases c : k = a
  · subst c; simp [n]
  · by_cases d : k = b
    · subst d; simp [c]
    · simp [c, d]
theorem hs_id {h : mH} {a : Nat} {x : mE} (e : hc h a = some x) : hs h a x = h := by
  obtain ⟨-, e2⟩ := hc_lt e
  unfold hs
  congr 1
  funext k
  by_cases c : k = a
  · subst c; simp [e2]
  · simp [c]
theorem m_W_get {g : mG} {h : mH} {k : Nat} {x : mE} (e : hc h k = some x) : (m_W g h)[k]? = some (g.2.1 + k, m_sE g x) := by
  obtain ⟨e1, e2⟩ := hc_lt e
  subst e2
  simp [m_W, e1]
theorem m_W_hs (g : mG) (h : mH) (a : Nat) (x : mE) : (m_W g h).set a (g.2.1 + a, m_sE g x) = m_W g (hs h a x) := by
  apply List.ext_getElem?
  intro k
  by_cases c : k = a
  · subst c
    by_cases d : k < h.1 <;> simp [m_W, hs, d]
  · rw [List.getElem?_set_ne (fun q => c q.symm)]
    by_cases d : k < h.1 <;> simp [m_W, hs, d, c]
theorem m_W_hp (g : mG) (h : mH) (x : mE) : m_W g (hp h x) = m_W g h ++ [(g.2.1 + h.1, m_sE g x)] := by
  unfold m_W hp
  rw [List.range_succ, List.map_append]
  congr 1
  · apply List.map_congr_left
    intro k hk
    have := List.mem_range.mp hk
    have n : k ≠ h.1 := by omega
    simp [n]
  · simp
theorem m_W_D (g : mG) (h : mH) : va_D (m_A g) (m_W g h) := by
  have key : ∀ (k : Nat) (q : Nat × va_E), (m_W g h)[k]? = some q → q.1 = g.2.1 + k := by
    intro k q hk
    by_cases d : k < h.1
    · simp [m_W, d] at hk
      rw [← hk]
    · simp [m_W, d] at hk
  refine ⟨fun i j p q hi hj e => ?_, fun k q hk => ?_⟩
  · have a1 := key i p hi
    have a2 := key j q hj
    omega
  · show g.2.1 ≤ q.1
    rw [key k q hk]
    omega
/-! locals: what stands at each place; none: nothing is known -/
def m_at : List (Option Value) → Nat → Option Value
  | [], _ => none
  | a :: _, 0 => a
  | _ :: t, n + 1 => m_at t n
def m_c2 : Option Value → Bool
  | some v => v.category == 2
  | none => false
def m_st : List (Option Value) → Nat → Value → List (Option Value)
  | [], _, _ => []
  | _ :: t, 0, v => some v :: t
  | a :: t, 1, v => (if m_c2 a then none else a) :: m_st t 0 v
  | a :: t, n + 2, v => a :: m_st t (n + 1) v
def m_no : List (Option Value) → Nat → List (Option Value)
  | [], _ => []
  | _ :: t, 0 => none :: t
  | a :: t, n + 1 => a :: m_no t n
def m_L (b : Nat) (ls : Array Slot) (n : Nat) (L : List (Option Value)) : Prop := ls.size = n ∧ lv_wf ls ∧ ∀ i v, m_at L i = some v → ls[i]? = some (.val (m_sv b v))
theorem m_at_0 {L : List (Option Value)} {i : Nat} (h : L = []) : m_at L i = none := by subst h; rfl
theorem m_st_at : ∀ (L : List (Option Value)) (i : Nat) (v : Value) (j : Nat) (w : Value), m_at (m_st L i v) j = some w → (j = i ∧ w = v) ∨ (j ≠ i ∧ m_at L j = some w ∧ ¬ (j + 1 = i ∧ w.category = 2))
  | [], i, v, j, w, h => by cases h
  | a :: t, 0, v, j, w, h => by
    cases j with
    | zero => exact Or.inl ⟨rfl, (Option.some.inj h).symm⟩
    | succ j => exact Or.inr ⟨by omega, h, by omega⟩
  | a :: t, 1, v, j, w, h => by
    cases j with
    | zero =>
      simp only [m_st, m_at] at h
      by_cases c : m_c2 a = true
      · rw [if_pos c] at h; cases h
      · rw [if_neg c] at h
        refine Or.inr ⟨by omega, h, fun q => c ?_⟩
        rw [h]
        simp [m_c2, q.2]
    | succ j =>
      simp only [m_st, m_at] at h
      rcases m_st_at t 0 v j w h with ⟨rfl, e⟩ | ⟨e1, e2, e3⟩
      · exact Or.inl ⟨rfl, e⟩
      · exact Or.inr ⟨by omega, e2, by omega⟩
  | a :: t, n + 2, v, j, w, h => by
    cases j with
    | zero =>
      simp only [m_st, m_at] at h
      exact Or.inr ⟨by omega, h, by omega⟩
    | succ j =>
      simp only [m_st, m_at] at h
      rcases m_st_at t (n + 1) v j w h with ⟨e0, e⟩ | ⟨e1, e2, e3⟩
      · exact Or.inl ⟨by omega, e⟩
      · exact Or.inr ⟨by omega, e2, fun q => e3 ⟨by omega, q.2⟩⟩
theorem m_no_at : ∀ (L : List (Option Value)) (i j : Nat) (w : Value), m_at (m_no L i) j = some w → j ≠ i ∧ m_at L j = some w
  | [], i, j, w, h => by cases h
  | a :: t, 0, j, w, h => by
    cases j with
    | zero => cases h
    | succ j => exact ⟨by omega, h⟩
  | a :: t, n + 1, j, w, h => by
    cases j with
    | zero => exact ⟨by omega, h⟩
    | succ j =>
      obtain ⟨e1, e2⟩ := m_no_at t n j w h
      exact ⟨by omega, e2⟩
def m_al (b : Nat) : Nat → List (Option Value) → List (Nat × Value)
  | _, [] => []
  | i, none :: t => m_al b (i + 1) t
  | i, some v :: t => (i, m_sv b v) :: m_al b (i + 1) t
theorem m_al_mem (b : Nat) : ∀ (L : List (Option Value)) (i0 j : Nat) (v : Value), m_at L j = some v → (i0 + j, m_sv b v) ∈ m_al b i0 L
  | [], i0, j, v, h => by cases h
  | none :: t, i0, j, v, h => by
    cases j with
    | zero => cases h
    | succ j =>
      have := m_al_mem b t (i0 + 1) j v h
      rw [show i0 + (j + 1) = i0 + 1 + j by omega]
      exact this
  | some a :: t, i0, j, v, h => by
    cases j with
    | zero => cases h; exact List.mem_cons_self
    | succ j =>
      have := m_al_mem b t (i0 + 1) j v h
      rw [show i0 + (j + 1) = i0 + 1 + j by omega]
      exact List.mem_cons_of_mem _ this
theorem m_al_of (b : Nat) : ∀ (L : List (Option Value)) (i0 : Nat) (q : Nat × Value), q ∈ m_al b i0 L → ∃ j v, q = (i0 + j, m_sv b v) ∧ m_at L j = some v
  | [], i0, q, h => by cases h
  | none :: t, i0, q, h => by
    obtain ⟨j, v, e1, e2⟩ := m_al_of b t (i0 + 1) q h
    exact ⟨j + 1, v, by rw [e1]; congr 1; omega, e2⟩
  | some a :: t, i0, q, h => by
    rcases List.mem_cons.mp h with rfl | h
    · exact ⟨0, a, rfl, rfl⟩
    · obtain ⟨j, v, e1, e2⟩ := m_al_of b t (i0 + 1) q h
      exact ⟨j + 1, v, by rw [e1]; congr 1; omega, e2⟩
theorem m_L.has {b : Nat} {ls : Array Slot} {n : Nat} {L : List (Option Value)} (h : m_L b ls n L) : lv_has ls n (m_al b 0 L) := by
  refine ⟨h.1, h.2.1, fun q hq => ?_⟩
  obtain ⟨j, v, e1, e2⟩ := m_al_of b L 0 q hq
  subst e1
  rw [Nat.zero_add]
  exact h.2.2 j v e2
theorem m_L.st {b : Nat} {ls : Array Slot} {n i : Nat} {L : List (Option Value)} {v : Value} (h : lv_has ls n ((i, m_sv b v) :: (m_al b 0 L).filter (fun q => !(q.1 == i) && !(q.1 + 1 == i && q.2.category == 2)))) : m_L b ls n (m_st L i v) := by
  refine ⟨h.1, h.2.1, fun j w hj => ?_⟩
  rcases m_st_at L i v j w hj with ⟨rfl, rfl⟩ | ⟨e1, e2, e3⟩
  · exact h.2.2 _ List.mem_cons_self
  · refine h.2.2 (j, m_sv b w) (List.mem_cons_of_mem _ (List.mem_filter.mpr ⟨?_, ?_⟩))
    · have := m_al_mem b L 0 j w e2
      rwa [Nat.zero_add] at this
    · rw [m_sv_cat]
      simp only [Bool.and_eq_true, Bool.not_eq_true', beq_eq_false_iff_ne, ne_eq, Bool.and_eq_false_iff]
      refine ⟨e1, ?_⟩
      by_cases c : j + 1 = i
      · exact Or.inr fun q => e3 ⟨c, q⟩
      · exact Or.inl c
theorem m_L.st2 {b : Nat} {ls : Array Slot} {n i : Nat} {L : List (Option Value)} {v : Value} (h : lv_has ls n ((i, m_sv b v) :: (m_al b 0 L).filter (fun q => !(q.1 == i) && (!(q.1 == i + 1) && !(q.1 + 1 == i && q.2.category == 2))))) : m_L b ls n (m_no (m_st L i v) (i + 1)) := by
  refine ⟨h.1, h.2.1, fun j w hj0 => ?_⟩
  obtain ⟨hn, hj⟩ := m_no_at _ _ _ _ hj0
  rcases m_st_at L i v j w hj with ⟨rfl, rfl⟩ | ⟨e1, e2, e3⟩
  · exact h.2.2 _ List.mem_cons_self
  · refine h.2.2 (j, m_sv b w) (List.mem_cons_of_mem _ (List.mem_filter.mpr ⟨?_, ?_⟩))
    · have := m_al_mem b L 0 j w e2
      rwa [Nat.zero_add] at this
    · rw [m_sv_cat]
      simp only [Bool.and_eq_true, Bool.not_eq_true', beq_eq_false_iff_ne, ne_eq, Bool.and_eq_false_iff]
      refine ⟨e1, hn, ?_⟩
      by_cases c : j + 1 = i
      · exact Or.inr fun q => e3 ⟨c, q⟩
      · exact Or.inl c
/-! the judgement -/
/-- the tables' words that hold wherever a method may begin, and the others that are wanted -/
def m_tb : List Cond := lw_tbl.filter goodWord
theorem m_tb_of {w : Cond} (i : Nat) (h : lw_tbl[i]? = some w) (hg : goodWord w = true) : w ∈ m_tb := List.mem_filter.mpr ⟨List.mem_of_getElem? h, hg⟩
def m_X (U : State) : Prop := va_AO RX3 U ∧ va_AO RX0 U ∧ va_Nw (.methodLinkNest RX2 26 yX3_init RX4) U ∧ va_Nw (.methodLinkNest RX4 43 yX3_init RX4) U ∧ va_Nw (.castable "[I" "java/lang/Cloneable") U
theorem m_X.warm {s U : State} (hW : s.WarmedH U.vm) (h : m_X s) : m_X U := ⟨h.1.moved hW.alike, h.2.1.moved hW.alike, va_Nw.warmM hW h.2.2.1, va_Nw.warmM hW h.2.2.2.1, va_Nw.warmC hW h.2.2.2.2⟩
theorem m_X.same {s U : State} (e : s.vm = U.vm) (h : m_X s) : m_X U := ⟨h.1.moved (e ▸ Vm.Alike.refl s.vm), h.2.1.moved (e ▸ Vm.Alike.refl s.vm), va_Nw.same rfl e h.2.2.1, va_Nw.same rfl e h.2.2.2.1, va_Nw.same rfl e h.2.2.2.2⟩
def m_R (M : mM) : Room := { frames := M.2.2.2.2.1, cells := M.2.2.2.2.2.1, slots := M.2.2.2.2.2.2, locals := 40 * M.2.2.2.2.1 }
def m_Fx (g : mG) (M : mM) (p : Program) (R : Room) (s : State) (m : MethodId) (args : Array Value) (meth : Method) (c : Code) : Prop :=
  p.tables.exec = Jvm.exec ∧ c.code = M.2.1 ∧ c.maxLocals = M.2.2.1 ∧ meth.sig.returnType = M.2.2.2.1 ∧ meth.locks = false ∧ s.vm.findClass M.1.cls = some m.cls ∧ (∀ w ∈ m_tb, w.before args s = true) ∧ (M.1.name = "<init>" → meth.name = "<init>") ∧ R = m_R M ∧ va_K (m_D g) m_cl (m_tys g) s ∧ g.2.1 ≤ s.heap.size ∧ m_X s
/-- from here the method M goes to its end: J's -/
def Ok (g : mG) (M : mM) (J : mJ) (pc : Nat) (L : List (Option Value)) (st : List Value) (h : mH) (uc us : Nat) : Prop :=
  ∀ (p : Program) (e : Env) (R : Room) (s : State) (m : MethodId) (args : Array Value) (below : List Frame) (meth : Method) (c : Code), m_Fx g M p R s m args meth c → J.1 args s →
  ∀ (ls : Array Slot) (H : Heap) (locs : List Loc), m_L g.2.1 ls M.2.2.1 L → m_P g h H → va_S (m_A g) s.heap H locs →
  W p g.1 e R s m args below meth c H locs uc us (J.2 below args s) (F0 m pc ls (st.map (m_sv g.2.1)))
def m_Q (g : mG) (Q : Option Value → mH → Prop) : Array Value → State → Outcome → State → Prop := fun _ st o t =>
  ∃ (v : Option Value) (h' : mH), o = .returned (v.map (m_sv g.2.1)) ∧ Q v h' ∧ m_P g h' t.heap ∧ va_F (m_A g) st t
def m_J (g : mG) (M : mM) (Q : Option Value → mH → Prop) : mJ := (fun _ _ => True, fun below args s => MQ below (m_Q g Q) args s M.2.2.2.2.2.1 M.2.2.2.2.2.2 (m_A g))
section MACH
variable {g : mG} {M : mM} {J : mJ} {pc : Nat} {L L' : List (Option Value)} {st : List Value} {h : mH} {uc us : Nat}
/-! constants, locals -/
theorem ok_iconst {n : Int} {v : Int32} (hd : decode M.2.1 pc = .ok (.iconst n, 1)) (hv : Int32.ofInt n = v) (k : Ok g M J (pc + 1) L (.int v :: st) h uc us) : Ok g M J pc L st h uc us := by
  intro p e R s m args below meth c F C ls H locs hl hP hS
  exact lv_iconst F.1 F.2.1 hd hv (k p e R s m args below meth c F C ls H locs hl hP hS)
theorem ok_bipush {n : Int} {v : Int32} (hd : decode M.2.1 pc = .ok (.bipush n, 2)) (hv : (Int8.ofInt n).toInt32 = v) (k : Ok g M J (pc + 2) L (.int v :: st) h uc us) : Ok g M J pc L st h uc us := by
  intro p e R s m args below meth c F C ls H locs hl hP hS
  exact lv_bipush F.1 F.2.1 hd hv (k p e R s m args below meth c F C ls H locs hl hP hS)
theorem ok_sipush {n : Int} {v : Int32} (hd : decode M.2.1 pc = .ok (.sipush n, 3)) (hv : (Int16.ofInt n).toInt32 = v) (k : Ok g M J (pc + 3) L (.int v :: st) h uc us) : Ok g M J pc L st h uc us := by
  intro p e R s m args below meth c F C ls H locs hl hP hS
  exact lv_sipush F.1 F.2.1 hd hv (k p e R s m args below meth c F C ls H locs hl hP hS)
theorem ok_lconst {n : Fin 2} {v : Int64} (hd : decode M.2.1 pc = .ok (.lconst n, 1)) (hv : Int64.ofNat (n : Nat) = v) (k : Ok g M J (pc + 1) L (.long v :: st) h uc us) : Ok g M J pc L st h uc us := by
  intro p e R s m args below meth c F C ls H locs hl hP hS
  exact lv_lconst F.1 F.2.1 hd hv (k p e R s m args below meth c F C ls H locs hl hP hS)
theorem ok_null (hd : decode M.2.1 pc = .ok (.aconst_null, 1)) (k : Ok g M J (pc + 1) L (.null :: st) h uc us) : Ok g M J pc L st h uc us := by
  intro p e R s m args below meth c F C ls H locs hl hP hS
  exact lv_null F.1 F.2.1 hd (k p e R s m args below meth c F C ls H locs hl hP hS)
theorem ok_ldc2 {idx : Nat} {v : Int64} (hd : decode M.2.1 pc = .ok (.ldc2_w idx, 3)) (hw : Cond.constantLong M.1.cls idx v ∈ m_tb) (k : Ok g M J (pc + 3) L (.long v :: st) h uc us) : Ok g M J pc L st h uc us := by
  intro p e R s m args below meth c F C ls H locs hl hP hS
  exact lv_ldc2 F.1 F.2.1 F.2.2.2.2.2.1 (F.2.2.2.2.2.2.1 _ hw) hd (k p e R s m args below meth c F C ls H locs hl hP hS)
theorem ok_iload {i : Nat} {x : Int32} (hd : decode M.2.1 pc = .ok (.iload i, 2)) (hv : m_at L i = some (.int x)) (k : Ok g M J (pc + 2) L (.int x :: st) h uc us) : Ok g M J pc L st h uc us := by
  intro p e R s m args below meth c F C ls H locs hl hP hS
  exact lv_iload F.1 F.2.1 hd (hl.2.2 i _ hv) (k p e R s m args below meth c F C ls H locs hl hP hS)
theorem ok_iload_n {i : Fin 4} {x : Int32} (hd : decode M.2.1 pc = .ok (.iload_n i, 1)) (hv : m_at L i.val = some (.int x)) (k : Ok g M J (pc + 1) L (.int x :: st) h uc us) : Ok g M J pc L st h uc us := by
  intro p e R s m args below meth c F C ls H locs hl hP hS
  exact lv_iload_n F.1 F.2.1 hd rfl (hl.2.2 i.val _ hv) (k p e R s m args below meth c F C ls H locs hl hP hS)
theorem ok_lload {i : Nat} {x : Int64} (hd : decode M.2.1 pc = .ok (.lload i, 2)) (hv : m_at L i = some (.long x)) (k : Ok g M J (pc + 2) L (.long x :: st) h uc us) : Ok g M J pc L st h uc us := by
  intro p e R s m args below meth c F C ls H locs hl hP hS
  exact lv_lload F.1 F.2.1 hd (hl.2.2 i _ hv) (k p e R s m args below meth c F C ls H locs hl hP hS)
theorem ok_lload_n {i : Fin 4} {x : Int64} (hd : decode M.2.1 pc = .ok (.lload_n i, 1)) (hv : m_at L i.val = some (.long x)) (k : Ok g M J (pc + 1) L (.long x :: st) h uc us) : Ok g M J pc L st h uc us := by
  intro p e R s m args below meth c F C ls H locs hl hP hS
  exact lv_lload_n F.1 F.2.1 hd rfl (hl.2.2 i.val _ hv) (k p e R s m args below meth c F C ls H locs hl hP hS)
def m_isA : Value → Bool
  | .ref _ => true
  | .null => true
  | .retAddr _ => true
  | _ => false
theorem ok_aload {i : Nat} {v : Value} (hd : decode M.2.1 pc = .ok (.aload i, 2)) (hv : m_at L i = some v) (ha : m_isA v = true) (k : Ok g M J (pc + 2) L (v :: st) h uc us) : Ok g M J pc L st h uc us := by
  intro p e R s m args below meth c F C ls H locs hl hP hS
  have k' := k p e R s m args below meth c F C ls H locs hl hP hS
  have hv' := hl.2.2 i _ hv
  cases v with
  | ref a => exact lv_aload F.1 F.2.1 hd hv' k'
  | null => exact lv_aloadN F.1 F.2.1 hd hv' k'
  | retAddr a => exact lv_aload F.1 F.2.1 hd hv' k'
  | int x => cases ha
  | long x => cases ha
  | float x => cases ha
  | double x => cases ha
theorem ok_aload_n {i : Fin 4} {v : Value} (hd : decode M.2.1 pc = .ok (.aload_n i, 1)) (hv : m_at L i.val = some v) (ha : m_isA v = true) (k : Ok g M J (pc + 1) L (v :: st) h uc us) : Ok g M J pc L st h uc us := by
  intro p e R s m args below meth c F C ls H locs hl hP hS
  have k' := k p e R s m args below meth c F C ls H locs hl hP hS
  have hv' := hl.2.2 i.val _ hv
  cases v with
  | ref a => exact lv_aload_n F.1 F.2.1 hd rfl hv' k'
  | null => exact lv_aload_nN F.1 F.2.1 hd rfl hv' k'
  | retAddr a => exact lv_aload_n F.1 F.2.1 hd rfl hv' k'
  | int x => cases ha
  | long x => cases ha
  | float x => cases ha
  | double x => cases ha
theorem ok_istore {i : Nat} {x : Int32} (hd : decode M.2.1 pc = .ok (.istore i, 2)) (hL : m_st L i (.int x) = L') (hi : i < M.2.2.1) (k : Ok g M J (pc + 2) L' st h uc us) : Ok g M J pc L (.int x :: st) h uc us := by
  intro p e R s m args below meth c F C ls H locs hl hP hS
  subst hL
  exact lv_istore F.1 F.2.1 hd hl.has hi rfl (fun ls' hl' => k p e R s m args below meth c F C ls' H locs (m_L.st (v := .int x) hl') hP hS)
theorem ok_istore_n {i : Fin 4} {x : Int32} (hd : decode M.2.1 pc = .ok (.istore_n i, 1)) (hL : m_st L i.val (.int x) = L') (hi : i.val < M.2.2.1) (k : Ok g M J (pc + 1) L' st h uc us) : Ok g M J pc L (.int x :: st) h uc us := by
  intro p e R s m args below meth c F C ls H locs hl hP hS
  subst hL
  exact lv_istore_n F.1 F.2.1 hd rfl hl.has hi rfl (fun ls' hl' => k p e R s m args below meth c F C ls' H locs (m_L.st (v := .int x) hl') hP hS)
theorem ok_lstore {i : Nat} {x : Int64} (hd : decode M.2.1 pc = .ok (.lstore i, 2)) (hL : m_no (m_st L i (.long x)) (i + 1) = L') (hi : i + 1 < M.2.2.1) (k : Ok g M J (pc + 2) L' st h uc us) : Ok g M J pc L (.long x :: st) h uc us := by
  intro p e R s m args below meth c F C ls H locs hl hP hS
  subst hL
  exact lv_lstore F.1 F.2.1 hd hl.has hi rfl (fun ls' hl' => k p e R s m args below meth c F C ls' H locs (m_L.st2 (v := .long x) hl') hP hS)
theorem ok_lstore_n {i : Fin 4} {x : Int64} (hd : decode M.2.1 pc = .ok (.lstore_n i, 1)) (hL : m_no (m_st L i.val (.long x)) (i.val + 1) = L') (hi : i.val + 1 < M.2.2.1) (k : Ok g M J (pc + 1) L' st h uc us) : Ok g M J pc L (.long x :: st) h uc us := by
  intro p e R s m args below meth c F C ls H locs hl hP hS
  subst hL
  exact lv_lstore_n F.1 F.2.1 hd rfl hl.has hi rfl (fun ls' hl' => k p e R s m args below meth c F C ls' H locs (m_L.st2 (v := .long x) hl') hP hS)
theorem ok_astore {i : Nat} {v : Value} (hd : decode M.2.1 pc = .ok (.astore i, 2)) (hL : m_st L i v = L') (hi : i < M.2.2.1) (ha : m_isA v = true) (k : Ok g M J (pc + 2) L' st h uc us) : Ok g M J pc L (v :: st) h uc us := by
  intro p e R s m args below meth c F C ls H locs hl hP hS
  subst hL
  cases v with
  | ref a => exact lv_astore F.1 F.2.1 hd hl.has hi rfl (fun ls' hl' => k p e R s m args below meth c F C ls' H locs (m_L.st (v := .ref a) hl') hP hS)
  | null => exact lv_astoreN F.1 F.2.1 hd hl.has hi rfl (fun ls' hl' => k p e R s m args below meth c F C ls' H locs (m_L.st (v := .null) hl') hP hS)
  | retAddr a => exact lv_astore F.1 F.2.1 hd hl.has hi rfl (fun ls' hl' => k p e R s m args below meth c F C ls' H locs (m_L.st (v := .retAddr a) hl') hP hS)
  | int x => cases ha
  | long x => cases ha
  | float x => cases ha
  | double x => cases ha
theorem ok_astore_n {i : Fin 4} {v : Value} (hd : decode M.2.1 pc = .ok (.astore_n i, 1)) (hL : m_st L i.val v = L') (hi : i.val < M.2.2.1) (ha : m_isA v = true) (k : Ok g M J (pc + 1) L' st h uc us) : Ok g M J pc L (v :: st) h uc us := by
  intro p e R s m args below meth c F C ls H locs hl hP hS
  subst hL
  cases v with
  | ref a => exact lv_astore_n F.1 F.2.1 hd rfl hl.has hi rfl (fun ls' hl' => k p e R s m args below meth c F C ls' H locs (m_L.st (v := .ref a) hl') hP hS)
  | null => exact lv_astore_nN F.1 F.2.1 hd rfl hl.has hi rfl (fun ls' hl' => k p e R s m args below meth c F C ls' H locs (m_L.st (v := .null) hl') hP hS)
  | retAddr a => exact lv_astore_n F.1 F.2.1 hd rfl hl.has hi rfl (fun ls' hl' => k p e R s m args below meth c F C ls' H locs (m_L.st (v := .retAddr a) hl') hP hS)
  | int x => cases ha
  | long x => cases ha
  | float x => cases ha
  | double x => cases ha
theorem ok_iinc {i : Nat} {n : Int} {x v : Int32} (hd : decode M.2.1 pc = .ok (.iinc i n, 3)) (hx : m_at L i = some (.int x)) (hv : x + Int32.ofInt n = v) (hL : m_st L i (.int v) = L') (hi : i < M.2.2.1) (k : Ok g M J (pc + 3) L' st h uc us) : Ok g M J pc L st h uc us := by
  intro p e R s m args below meth c F C ls H locs hl hP hS
  subst hL
  obtain ⟨q, hq⟩ := List.getElem?_of_mem (m_al_mem g.2.1 L 0 i _ hx)
  rw [Nat.zero_add] at hq
  exact lv_iinc F.1 F.2.1 hd hl.has hq hv hi rfl (fun ls' hl' => k p e R s m args below meth c F C ls' H locs (m_L.st (v := .int v) hl') hP hS)
/-! arithmetic -/
theorem ok_iadd {x y : Int32} (hd : decode M.2.1 pc = .ok (.iadd, 1)) (k : Ok g M J (pc + 1) L (.int (x + y) :: st) h uc us) : Ok g M J pc L (.int y :: .int x :: st) h uc us := by
  intro p e R s m args below meth c F C ls H locs hl hP hS
  exact lv_iadd F.1 F.2.1 hd (k p e R s m args below meth c F C ls H locs hl hP hS)
theorem ok_isub {x y : Int32} (hd : decode M.2.1 pc = .ok (.isub, 1)) (k : Ok g M J (pc + 1) L (.int (x - y) :: st) h uc us) : Ok g M J pc L (.int y :: .int x :: st) h uc us := by
  intro p e R s m args below meth c F C ls H locs hl hP hS
  exact lv_isub F.1 F.2.1 hd (k p e R s m args below meth c F C ls H locs hl hP hS)
theorem ok_imul {x y : Int32} (hd : decode M.2.1 pc = .ok (.imul, 1)) (k : Ok g M J (pc + 1) L (.int (x * y) :: st) h uc us) : Ok g M J pc L (.int y :: .int x :: st) h uc us := by
  intro p e R s m args below meth c F C ls H locs hl hP hS
  exact lv_imul F.1 F.2.1 hd (k p e R s m args below meth c F C ls H locs hl hP hS)
theorem ok_iand {x y : Int32} (hd : decode M.2.1 pc = .ok (.iand, 1)) (k : Ok g M J (pc + 1) L (.int (x &&& y) :: st) h uc us) : Ok g M J pc L (.int y :: .int x :: st) h uc us := by
  intro p e R s m args below meth c F C ls H locs hl hP hS
  exact lv_iand F.1 F.2.1 hd (k p e R s m args below meth c F C ls H locs hl hP hS)
theorem ok_idiv {x y : Int32} (hd : decode M.2.1 pc = .ok (.idiv, 1)) (hne : ¬ y = 0) (k : Ok g M J (pc + 1) L (.int (x / y) :: st) h uc us) : Ok g M J pc L (.int y :: .int x :: st) h uc us := by
  intro p e R s m args below meth c F C ls H locs hl hP hS
  exact lv_idiv F.1 F.2.1 hd hne (k p e R s m args below meth c F C ls H locs hl hP hS)
theorem ok_ladd {x y : Int64} (hd : decode M.2.1 pc = .ok (.ladd, 1)) (k : Ok g M J (pc + 1) L (.long (x + y) :: st) h uc us) : Ok g M J pc L (.long y :: .long x :: st) h uc us := by
  intro p e R s m args below meth c F C ls H locs hl hP hS
  exact lv_ladd F.1 F.2.1 hd (k p e R s m args below meth c F C ls H locs hl hP hS)
theorem ok_lsub {x y : Int64} (hd : decode M.2.1 pc = .ok (.lsub, 1)) (k : Ok g M J (pc + 1) L (.long (x - y) :: st) h uc us) : Ok g M J pc L (.long y :: .long x :: st) h uc us := by
  intro p e R s m args below meth c F C ls H locs hl hP hS
  exact lv_lsub F.1 F.2.1 hd (k p e R s m args below meth c F C ls H locs hl hP hS)
theorem ok_lmul {x y : Int64} (hd : decode M.2.1 pc = .ok (.lmul, 1)) (k : Ok g M J (pc + 1) L (.long (x * y) :: st) h uc us) : Ok g M J pc L (.long y :: .long x :: st) h uc us := by
  intro p e R s m args below meth c F C ls H locs hl hP hS
  exact lv_lmul F.1 F.2.1 hd (k p e R s m args below meth c F C ls H locs hl hP hS)
theorem ok_ldiv {x y : Int64} (hd : decode M.2.1 pc = .ok (.ldiv, 1)) (hne : ¬ y = 0) (k : Ok g M J (pc + 1) L (.long (x / y) :: st) h uc us) : Ok g M J pc L (.long y :: .long x :: st) h uc us := by
  intro p e R s m args below meth c F C ls H locs hl hP hS
  exact lv_ldiv F.1 F.2.1 hd hne (k p e R s m args below meth c F C ls H locs hl hP hS)
theorem ok_i2l {x : Int32} (hd : decode M.2.1 pc = .ok (.i2l, 1)) (k : Ok g M J (pc + 1) L (.long x.toInt64 :: st) h uc us) : Ok g M J pc L (.int x :: st) h uc us := by
  intro p e R s m args below meth c F C ls H locs hl hP hS
  exact lv_i2l F.1 F.2.1 hd rfl (k p e R s m args below meth c F C ls H locs hl hP hS)
theorem ok_l2i {x : Int64} (hd : decode M.2.1 pc = .ok (.l2i, 1)) (k : Ok g M J (pc + 1) L (.int x.toInt32 :: st) h uc us) : Ok g M J pc L (.long x :: st) h uc us := by
  intro p e R s m args below meth c F C ls H locs hl hP hS
  exact lv_l2i F.1 F.2.1 hd rfl (k p e R s m args below meth c F C ls H locs hl hP hS)
theorem ok_dup {v : Value} (hd : decode M.2.1 pc = .ok (.dup, 1)) (hv : v.category = 1) (k : Ok g M J (pc + 1) L (v :: v :: st) h uc us) : Ok g M J pc L (v :: st) h uc us := by
  intro p e R s m args below meth c F C ls H locs hl hP hS
  exact lv_dup F.1 F.2.1 hd ((m_sv_cat _ _).trans hv) (k p e R s m args below meth c F C ls H locs hl hP hS)
theorem ok_dup2 {v w : Value} (hd : decode M.2.1 pc = .ok (.dup2, 1)) (hv : v.category = 1) (hw : w.category = 1) (k : Ok g M J (pc + 1) L (v :: w :: v :: w :: st) h uc us) : Ok g M J pc L (v :: w :: st) h uc us := by
  intro p e R s m args below meth c F C ls H locs hl hP hS
  exact lv_dup2_11 F.1 F.2.1 hd ((m_sv_cat _ _).trans hv) ((m_sv_cat _ _).trans hw) (k p e R s m args below meth c F C ls H locs hl hP hS)
/-! branches -/
theorem ok_goto {off : Int} {tgt : Nat} (hd : decode M.2.1 pc = .ok (.goto off, 3)) (ht : (pc : Int) + off = (tgt : Int)) (k : Ok g M J tgt L st h uc us) : Ok g M J pc L st h uc us := by
  intro p e R s m args below meth c F C ls H locs hl hP hS
  exact lv_goto F.1 F.2.1 hd ht (k p e R s m args below meth c F C ls H locs hl hP hS)
theorem ok_if_eq {x : Int32} {off : Int} {tgt : Nat} (hd : decode M.2.1 pc = .ok (.ifCond .eq off, 3)) (ht : (pc : Int) + off = (tgt : Int)) (kt : x = 0 → Ok g M J tgt L st h uc us) (kf : ¬ x = 0 → Ok g M J (pc + 3) L st h uc us) : Ok g M J pc L (.int x :: st) h uc us := by
  intro p e R s m args below meth c F C ls H locs hl hP hS
  exact lv_if_eq F.1 F.2.1 hd ht (fun q => kt q p e R s m args below meth c F C ls H locs hl hP hS) (fun q => kf q p e R s m args below meth c F C ls H locs hl hP hS)
theorem ok_icmp_eq {x y : Int32} {off : Int} {tgt : Nat} (hd : decode M.2.1 pc = .ok (.if_icmp .eq off, 3)) (ht : (pc : Int) + off = (tgt : Int)) (kt : x = y → Ok g M J tgt L st h uc us) (kf : ¬ x = y → Ok g M J (pc + 3) L st h uc us) : Ok g M J pc L (.int y :: .int x :: st) h uc us := by
  intro p e R s m args below meth c F C ls H locs hl hP hS
  exact lv_icmp_eq F.1 F.2.1 hd ht (fun q => kt q p e R s m args below meth c F C ls H locs hl hP hS) (fun q => kf q p e R s m args below meth c F C ls H locs hl hP hS)
theorem ok_if_ne {x : Int32} {off : Int} {tgt : Nat} (hd : decode M.2.1 pc = .ok (.ifCond .ne off, 3)) (ht : (pc : Int) + off = (tgt : Int)) (kt : ¬ x = 0 → Ok g M J tgt L st h uc us) (kf : x = 0 → Ok g M J (pc + 3) L st h uc us) : Ok g M J pc L (.int x :: st) h uc us := by
  intro p e R s m args below meth c F C ls H locs hl hP hS
  exact lv_if_ne F.1 F.2.1 hd ht (fun q => kt q p e R s m args below meth c F C ls H locs hl hP hS) (fun q => kf q p e R s m args below meth c F C ls H locs hl hP hS)
theorem ok_icmp_ne {x y : Int32} {off : Int} {tgt : Nat} (hd : decode M.2.1 pc = .ok (.if_icmp .ne off, 3)) (ht : (pc : Int) + off = (tgt : Int)) (kt : ¬ x = y → Ok g M J tgt L st h uc us) (kf : x = y → Ok g M J (pc + 3) L st h uc us) : Ok g M J pc L (.int y :: .int x :: st) h uc us := by
  intro p e R s m args below meth c F C ls H locs hl hP hS
  exact lv_icmp_ne F.1 F.2.1 hd ht (fun q => kt q p e R s m args below meth c F C ls H locs hl hP hS) (fun q => kf q p e R s m args below meth c F C ls H locs hl hP hS)
theorem ok_if_lt {x : Int32} {off : Int} {tgt : Nat} (hd : decode M.2.1 pc = .ok (.ifCond .lt off, 3)) (ht : (pc : Int) + off = (tgt : Int)) (kt : x < 0 → Ok g M J tgt L st h uc us) (kf : ¬ x < 0 → Ok g M J (pc + 3) L st h uc us) : Ok g M J pc L (.int x :: st) h uc us := by
  intro p e R s m args below meth c F C ls H locs hl hP hS
  exact lv_if_lt F.1 F.2.1 hd ht (fun q => kt q p e R s m args below meth c F C ls H locs hl hP hS) (fun q => kf q p e R s m args below meth c F C ls H locs hl hP hS)
theorem ok_icmp_lt {x y : Int32} {off : Int} {tgt : Nat} (hd : decode M.2.1 pc = .ok (.if_icmp .lt off, 3)) (ht : (pc : Int) + off = (tgt : Int)) (kt : x < y → Ok g M J tgt L st h uc us) (kf : ¬ x < y → Ok g M J (pc + 3) L st h uc us) : Ok g M J pc L (.int y :: .int x :: st) h uc us := by
  intro p e R s m args below meth c F C ls H locs hl hP hS
  exact lv_icmp_lt F.1 F.2.1 hd ht (fun q => kt q p e R s m args below meth c F C ls H locs hl hP hS) (fun q => kf q p e R s m args below meth c F C ls H locs hl hP hS)
theorem ok_if_ge {x : Int32} {off : Int} {tgt : Nat} (hd : decode M.2.1 pc = .ok (.ifCond .ge off, 3)) (ht : (pc : Int) + off = (tgt : Int)) (kt : 0 ≤ x → Ok g M J tgt L st h uc us) (kf : ¬ 0 ≤ x → Ok g M J (pc + 3) L st h uc us) : Ok g M J pc L (.int x :: st) h uc us := by
  intro p e R s m args below meth c F C ls H locs hl hP hS
  exact lv_if_ge F.1 F.2.1 hd ht (fun q => kt q p e R s m args below meth c F C ls H locs hl hP hS) (fun q => kf q p e R s m args below meth c F C ls H locs hl hP hS)
theorem ok_icmp_ge {x y : Int32} {off : Int} {tgt : Nat} (hd : decode M.2.1 pc = .ok (.if_icmp .ge off, 3)) (ht : (pc : Int) + off = (tgt : Int)) (kt : y ≤ x → Ok g M J tgt L st h uc us) (kf : ¬ y ≤ x → Ok g M J (pc + 3) L st h uc us) : Ok g M J pc L (.int y :: .int x :: st) h uc us := by
  intro p e R s m args below meth c F C ls H locs hl hP hS
  exact lv_icmp_ge F.1 F.2.1 hd ht (fun q => kt q p e R s m args below meth c F C ls H locs hl hP hS) (fun q => kf q p e R s m args below meth c F C ls H locs hl hP hS)
theorem ok_if_gt {x : Int32} {off : Int} {tgt : Nat} (hd : decode M.2.1 pc = .ok (.ifCond .gt off, 3)) (ht : (pc : Int) + off = (tgt : Int)) (kt : 0 < x → Ok g M J tgt L st h uc us) (kf : ¬ 0 < x → Ok g M J (pc + 3) L st h uc us) : Ok g M J pc L (.int x :: st) h uc us := by
  intro p e R s m args below meth c F C ls H locs hl hP hS
  exact lv_if_gt F.1 F.2.1 hd ht (fun q => kt q p e R s m args below meth c F C ls H locs hl hP hS) (fun q => kf q p e R s m args below meth c F C ls H locs hl hP hS)
theorem ok_icmp_gt {x y : Int32} {off : Int} {tgt : Nat} (hd : decode M.2.1 pc = .ok (.if_icmp .gt off, 3)) (ht : (pc : Int) + off = (tgt : Int)) (kt : y < x → Ok g M J tgt L st h uc us) (kf : ¬ y < x → Ok g M J (pc + 3) L st h uc us) : Ok g M J pc L (.int y :: .int x :: st) h uc us := by
  intro p e R s m args below meth c F C ls H locs hl hP hS
  exact lv_icmp_gt F.1 F.2.1 hd ht (fun q => kt q p e R s m args below meth c F C ls H locs hl hP hS) (fun q => kf q p e R s m args below meth c F C ls H locs hl hP hS)
theorem ok_if_le {x : Int32} {off : Int} {tgt : Nat} (hd : decode M.2.1 pc = .ok (.ifCond .le off, 3)) (ht : (pc : Int) + off = (tgt : Int)) (kt : x ≤ 0 → Ok g M J tgt L st h uc us) (kf : ¬ x ≤ 0 → Ok g M J (pc + 3) L st h uc us) : Ok g M J pc L (.int x :: st) h uc us := by
  intro p e R s m args below meth c F C ls H locs hl hP hS
  exact lv_if_le F.1 F.2.1 hd ht (fun q => kt q p e R s m args below meth c F C ls H locs hl hP hS) (fun q => kf q p e R s m args below meth c F C ls H locs hl hP hS)
theorem ok_icmp_le {x y : Int32} {off : Int} {tgt : Nat} (hd : decode M.2.1 pc = .ok (.if_icmp .le off, 3)) (ht : (pc : Int) + off = (tgt : Int)) (kt : x ≤ y → Ok g M J tgt L st h uc us) (kf : ¬ x ≤ y → Ok g M J (pc + 3) L st h uc us) : Ok g M J pc L (.int y :: .int x :: st) h uc us := by
  intro p e R s m args below meth c F C ls H locs hl hP hS
  exact lv_icmp_le F.1 F.2.1 hd ht (fun q => kt q p e R s m args below meth c F C ls H locs hl hP hS) (fun q => kf q p e R s m args below meth c F C ls H locs hl hP hS)
theorem ok_ifnull {v : Value} {off : Int} {tgt : Nat} (hd : decode M.2.1 pc = .ok (.ifnull off, 3)) (ht : (pc : Int) + off = (tgt : Int)) (ha : m_isA v = true) (kt : v = .null → Ok g M J tgt L st h uc us) (kf : ¬ v = .null → Ok g M J (pc + 3) L st h uc us) : Ok g M J pc L (v :: st) h uc us := by
  intro p e R s m args below meth c F C ls H locs hl hP hS
  cases v with
  | ref a => exact lv_ifnull F.1 F.2.1 hd (kf (fun q => by cases q) p e R s m args below meth c F C ls H locs hl hP hS)
  | null => exact lv_ifnullN F.1 F.2.1 hd ht (kt rfl p e R s m args below meth c F C ls H locs hl hP hS)
  | retAddr a => exact lv_ifnull F.1 F.2.1 hd (kf (fun q => by cases q) p e R s m args below meth c F C ls H locs hl hP hS)
  | int x => cases ha
  | long x => cases ha
  | float x => cases ha
  | double x => cases ha
theorem ok_ifnonnull {v : Value} {off : Int} {tgt : Nat} (hd : decode M.2.1 pc = .ok (.ifnonnull off, 3)) (ht : (pc : Int) + off = (tgt : Int)) (ha : m_isA v = true) (kt : ¬ v = .null → Ok g M J tgt L st h uc us) (kf : v = .null → Ok g M J (pc + 3) L st h uc us) : Ok g M J pc L (v :: st) h uc us := by
  intro p e R s m args below meth c F C ls H locs hl hP hS
  cases v with
  | ref a => exact lv_ifnonnull F.1 F.2.1 hd ht (kt (fun q => by cases q) p e R s m args below meth c F C ls H locs hl hP hS)
  | null => exact lv_ifnonnullN F.1 F.2.1 hd (kf rfl p e R s m args below meth c F C ls H locs hl hP hS)
  | retAddr a => exact lv_ifnonnull F.1 F.2.1 hd ht (kt (fun q => by cases q) p e R s m args below meth c F C ls H locs hl hP hS)
  | int x => cases ha
  | long x => cases ha
  | float x => cases ha
  | double x => cases ha
theorem ok_lcmp {x y : Int64} (hd : decode M.2.1 pc = .ok (.lcmp, 1)) (k : Ok g M J (pc + 1) L (.int (lg_cmp x y) :: st) h uc us) : Ok g M J pc L (.long y :: .long x :: st) h uc us := by
  intro p e R s m args below meth c F C ls H locs hl hP hS
  exact W.lcmp F.1 F.2.1 hd (k p e R s m args below meth c F C ls H locs hl hP hS)
theorem ok_tableOut {dflt lo hi : Int} {offs : Array Int} {len : Nat} {x : Int32} {tgt : Nat} (hd : decode M.2.1 pc = .ok (.tableswitch dflt lo hi offs, len)) (hx : x.toInt < lo ∨ hi < x.toInt) (ht : (pc : Int) + dflt = (tgt : Int)) (k : Ok g M J tgt L st h uc us) : Ok g M J pc L (.int x :: st) h uc us := by
  intro p e R s m args below meth c F C ls H locs hl hP hS
  exact lv_tableOut F.1 F.2.1 hd hx ht (k p e R s m args below meth c F C ls H locs hl hP hS)
theorem ok_tableIn {dflt lo hi : Int} {offs : Array Int} {len : Nat} {x : Int32} {off : Int} {tgt : Nat} (hd : decode M.2.1 pc = .ok (.tableswitch dflt lo hi offs, len)) (h1 : ¬ x.toInt < lo) (h2 : ¬ hi < x.toInt) (ho : offs[(x.toInt - lo).toNat]? = some off) (ht : (pc : Int) + off = (tgt : Int)) (k : Ok g M J tgt L st h uc us) : Ok g M J pc L (.int x :: st) h uc us := by
  intro p e R s m args below meth c F C ls H locs hl hP hS
  exact lv_tableIn F.1 F.2.1 hd h1 h2 ho ht (k p e R s m args below meth c F C ls H locs hl hP hS)
end MACH
end
section
/-! ===== the machine seen from above: cells and calls ===== -/
def m_in (ws : List Cond) : Prop := ∀ w ∈ ws, w ∈ m_tb
theorem m_in_of {ws : List Cond} (ps : List Nat) (hp : ws = ps.filterMap (fun i => lw_tbl[i]?)) (hg : ws.all goodWord = true) : m_in ws := by
  intro w hw
  refine List.mem_filter.mpr ⟨?_, List.all_eq_true.mp hg w hw⟩
  rw [hp] at hw
  obtain ⟨i, -, hi⟩ := List.mem_filterMap.mp hw
  exact List.mem_of_getElem? hi
/-- field k of class ci, by the entry idx of the class own -/
def m_fl (own : String) (idx ci k : Nat) (ty : FieldType) (fin : Bool) : Prop := ∃ (r : vw_C) (ty0 : Nat → FieldType), m_cl[ci]? = some r ∧ k < r.2.2 ∧ m_in (u_ws r.1 r.2.1 r.2.2) ∧ Cond.fieldLink own idx (r.2.1 k).1 (r.2.1 k).2.1 (r.2.1 k).2.2.1 ∈ m_tb ∧
  (∀ k, k < r.2.2 → parseFieldDescriptor (r.2.1 k).2.2.1 = some (ty0 k)) ∧ (∀ a, a < r.2.2 → ∀ b, b < r.2.2 → a ≠ b → (r.2.1 a).2.1 ≠ (r.2.1 b).2.1) ∧ ty0 k = ty ∧ (r.2.1 k).2.2.2 = fin ∧ (fin = true → (r.2.1 k).1 = own)
theorem m_P_set {g : mG} {h : mH} {H H1 : Heap} {a : Nat} {x0 x : mE} (hP : m_P g h H) (hh : hc h a = some x0) (he : va_at (m_D g) m_cl (g.2.1 + a, m_sE g x) H1) (z : H1.size = H.size) (oq : ∀ q : Nat, q ≠ g.2.1 + a → H1[q]? = H[q]?) : m_P g (hs h a x) H1 :=
  ⟨by rw [← m_W_hs]; exact hP.1.set (m_W_D g h) (m_W_get hh) he oq, by rw [z]; exact hP.2⟩
theorem m_P_push {g : mG} {h : mH} {H H1 : Heap} {x : mE} (hP : m_P g h H) (he : va_at (m_D g) m_cl (g.2.1 + h.1, m_sE g x) H1) (z : H1.size = H.size + 1) (oq : ∀ q : Nat, q < H.size → H1[q]? = H[q]?) : m_P g (hp h x) H1 := by
  refine ⟨?_, by rw [z, hP.2]; rfl⟩
  rw [m_W_hp]
  refine (hP.1.kept (fun k q hk => oq q.1 (hP.1 k q hk).lt)).app ?_
  intro k q hk
  have hz : k < 1 := (List.getElem?_eq_some_iff.mp hk).1
  rw [show k = 0 by omega] at hk
  cases hk
  exact he
theorem m_S_push {g : mG} {H0 H H1 : Heap} {locs : List Loc} (hS : va_S (m_A g) H0 H locs) (z : H1.size = H.size + 1) (oq : ∀ q : Nat, q < H.size → H1[q]? = H[q]?) : va_S (m_A g) H0 H1 locs :=
  ⟨by have := hS.1; omega, fun q h1 h2 => (oq q (Nat.lt_of_lt_of_le h1 hS.1)).trans (hS.2.1 q h1 h2), hS.2.2⟩
theorem m_ty_at (g : mG) {t : Nat} {ty : FieldType} (ht : m_ty5[t]? = some ty) : (m_tys g)[t]? = some (g.2.2.2.2 ty, ty) := by
  simp [m_tys, ht]
theorem m_Ain (g : mG) (a : Nat) : m_A g (g.2.1 + a) := by show g.2.1 ≤ _; omega
def m_rv (r : Option Nat) : Value := match r with
  | none => .null
  | some a => .ref a
theorem m_rv_sv (b : Nat) (r : Option Nat) : m_sv b (m_rv r) = va_rf (r.map (fun q => b + q)) := by cases r <;> rfl
section MACH2
variable {g : mG} {M : mM} {J : mJ} {pc : Nat} {L L' : List (Option Value)} {st : List Value} {h : mH} {uc us : Nat}
theorem ok_get {a ci k idx : Nat} {fs : List Value} {v : Value} {ty : FieldType} {fin : Bool} (hd : decode M.2.1 pc = .ok (.getfield idx, 3)) (hf : m_fl M.1.cls idx ci k ty fin) (hh : hc h a = some (.inr (ci, fs))) (hv : fs[k]? = some v) (kk : Ok g M J (pc + 3) L (v :: st) h uc us) : Ok g M J pc L (.ref a :: st) h uc us := by
  intro p e R s m args below meth c F C ls H locs hl hP hS
  obtain ⟨r, ty0, h1, h2, h3, h4, h5, h6, h7, h8, -⟩ := hf
  exact va_get (cl := m_cl) (C := r.1) (T := r.2.1) (N := r.2.2) F.1 F.2.1 F.2.2.2.2.2.2.1 h3 F.2.2.2.2.2.1 F.2.2.2.2.2.2.2.2.2.1 hP.1 a (m_W_get hh) h1 k h2 (F.2.2.2.2.2.2.1 _ h4) (fun x q => q) (v := m_sv g.2.1 v) (by rw [List.getElem?_map, hv]; rfl) hd (kk p e R s m args below meth c F C ls H locs hl hP hS)
theorem ok_put {a ci k idx : Nat} {fs : List Value} {v : Value} {ty : FieldType} (hd : decode M.2.1 pc = .ok (.putfield idx, 3)) (hf : m_fl M.1.cls idx ci k ty false) (hh : hc h a = some (.inr (ci, fs))) (hk : k < fs.length) (hn : ∀ b, narrow ty (m_sv b v) = m_sv b v ∧ fits ty (m_sv b v) = true) (kk : Ok g M J (pc + 3) L st (hs h a (.inr (ci, fs.set k v))) uc us) : Ok g M J pc L (v :: .ref a :: st) h uc us := by
  intro p e R s m args below meth c F C ls H locs hl hP hS
  obtain ⟨r, ty0, h1, h2, h3, h4, h5, h6, h7, h8, -⟩ := hf
  have hK := F.2.2.2.2.2.2.2.2.2.1
  have hts := F.2.2.2.2.2.2.1
  have hap := va_apart (own := r.1) hts h3 ty0 h5 h6 hK h1
  obtain ⟨r', h1', cell, q1, q2, q3, q4⟩ := hP.1 a _ (m_W_get hh)
  have hr : r' = r := Option.some.inj (h1'.symm.trans h1)
  subst hr
  obtain ⟨hSl, hfc, kC, hkC, hkind⟩ := hK.1 ci _ h1
  obtain ⟨cf, kf, fi, f, hi, hsl⟩ := hSl k h2
  have hlay := hts _ (h3 _ (u_in_lay h2))
  unfold u_lay at hlay
  rw [if_neg (by rw [h8]; decide)] at hlay
  have hst := (u_facts hfc hkC (u_lays hts h3 h2) hi).1
  have hd5 : parseFieldDescriptor (r'.2.1 k).2.2.1 = some ty := (h5 k h2).trans (by rw [h7])
  have hsd := u_store hfc hkC hkind hlay hi hd5 (hn g.2.1).1 (hn g.2.1).2
  have hkl : k < (fs.map (m_sv g.2.1)).length := by rw [List.length_map]; exact hk
  refine W.putK F.1 F.2.1 (f := f) ⟨F.2.2.2.2.2.1, hts _ h4, ⟨_, _, _, hi⟩, hst⟩ (v := m_sv g.2.1 v) (by rw [q2]; exact hsd) q1 q3 (by rw [hsl]; exact k2_hasslot (q4 k h2)) rfl rfl hd fun H' e1 e2 e3 => ?_
  rw [hsl] at e1 ⊢
  refine kk p e R s m args below meth c F C ls H' _ hl (m_P_set hP hh ?_ e2 e3) (hS.put e2 e3 (m_Ain g a))
  refine ⟨_, h1, t_OB.to (V := updV (vp_V (fs.map (m_sv g.2.1))) k (m_sv g.2.1 v)) ⟨_, e1, q2, q3, t_set q4 hap h2 _⟩ (fun j _ => ?_)⟩
  rw [List.map_set]
  exact vp_updV_set hkl _ j
theorem ok_putF {a ci k idx : Nat} {fs : List Value} {v : Value} {ty : FieldType} (hd : decode M.2.1 pc = .ok (.putfield idx, 3)) (hin : M.1.name = "<init>") (hf : m_fl M.1.cls idx ci k ty true) (hh : hc h a = some (.inr (ci, fs))) (hk : k < fs.length) (hn : ∀ b, narrow ty (m_sv b v) = m_sv b v ∧ fits ty (m_sv b v) = true) (kk : Ok g M J (pc + 3) L st (hs h a (.inr (ci, fs.set k v))) uc us) : Ok g M J pc L (v :: .ref a :: st) h uc us := by
  intro p e R s m args below meth c F C ls H locs hl hP hS
  obtain ⟨r, ty0, h1, h2, h3, h4, h5, h6, h7, h8, h9⟩ := hf
  have hK := F.2.2.2.2.2.2.2.2.2.1
  have hts := F.2.2.2.2.2.2.1
  have hown := F.2.2.2.2.2.1
  have hap := va_apart (own := r.1) hts h3 ty0 h5 h6 hK h1
  obtain ⟨r', h1', cell, q1, q2, q3, q4⟩ := hP.1 a _ (m_W_get hh)
  have hr : r' = r := Option.some.inj (h1'.symm.trans h1)
  subst hr
  obtain ⟨hSl, hfc, kC, hkC, hkind⟩ := hK.1 ci _ h1
  obtain ⟨cf, kf, fi, f, hi, hsl⟩ := hSl k h2
  have hlay := hts _ (h3 _ (u_in_lay h2))
  unfold u_lay at hlay
  rw [if_pos h8] at hlay
  have hst := (u_facts hfc hkC (u_lays hts h3 h2) hi).1
  have hcf : m.cls = cf := by
    obtain ⟨_, _, c', _, _, _, -, -, hf', -, -, -, hown2, -⟩ := Cond.laysFinal_spec hlay
    have e1 : c' = cf := by have := hi.symm.trans hf'; simp at this; exact this.1.symm
    rw [h9 rfl] at hown2
    rw [← e1]; exact Option.some.inj (hown.symm.trans hown2)
  have hd5 : parseFieldDescriptor (r'.2.1 k).2.2.1 = some ty := (h5 k h2).trans (by rw [h7])
  have hsd := u_fits hfc hkC hkind (Or.inr hlay) hi hd5 (hn g.2.1).1 (hn g.2.1).2
  have hkl : k < (fs.map (m_sv g.2.1)).length := by rw [List.length_map]; exact hk
  refine W.putFinK F.1 F.2.1 hown (hts _ h4) hi hst hcf (F.2.2.2.2.2.2.2.1 hin) (v := m_sv g.2.1 v) (by rw [q2]; exact hsd) q1 q3 (by rw [hsl]; exact k2_hasslot (q4 k h2)) rfl rfl hd fun H' e1 e2 e3 => ?_
  rw [hsl] at e1 ⊢
  refine kk p e R s m args below meth c F C ls H' _ hl (m_P_set hP hh ?_ e2 e3) (hS.put e2 e3 (m_Ain g a))
  refine ⟨_, h1, t_OB.to (V := updV (vp_V (fs.map (m_sv g.2.1))) k (m_sv g.2.1 v)) ⟨_, e1, q2, q3, t_set q4 hap h2 _⟩ (fun j _ => ?_)⟩
  rw [List.map_set]
  exact vp_updV_set hkl _ j
/-! arrays -/
theorem ok_iald {a n : Nat} {f : Nat → Int32} {i : Int32} (hd : decode M.2.1 pc = .ok (.iaload, 1)) (hh : hc h a = some (.inl (.int, n, .inl f))) (hi : vp_in i n) (kk : Ok g M J (pc + 1) L (.int (f i.toNatClampNeg) :: st) h uc us) : Ok g M J pc L (.int i :: .ref a :: st) h uc us := by
  intro p e R s m args below meth c F C ls H locs hl hP hS
  exact va_iald F.1 F.2.1 F.2.2.2.2.2.2.2.2.2.1 hP.1 a 0 (m_W_get hh) (m_ty_at g rfl) hi hd (kk p e R s m args below meth c F C ls H locs hl hP hS)
theorem ok_lald {a n : Nat} {f : Nat → Int64} {i : Int32} (hd : decode M.2.1 pc = .ok (.laload, 1)) (hh : hc h a = some (.inl (.long, n, .inr (.inl f)))) (hi : vp_in i n) (kk : Ok g M J (pc + 1) L (.long (f i.toNatClampNeg) :: st) h uc us) : Ok g M J pc L (.int i :: .ref a :: st) h uc us := by
  intro p e R s m args below meth c F C ls H locs hl hP hS
  exact va_lald F.1 F.2.1 F.2.2.2.2.2.2.2.2.2.1 hP.1 a 1 (m_W_get hh) (m_ty_at g rfl) hi hd (kk p e R s m args below meth c F C ls H locs hl hP hS)
theorem ok_zald {a n : Nat} {f : Nat → Int32} {i : Int32} (hd : decode M.2.1 pc = .ok (.baload, 1)) (hh : hc h a = some (.inl (.boolean, n, .inl f))) (hi : vp_in i n) (kk : Ok g M J (pc + 1) L (.int (f i.toNatClampNeg) :: st) h uc us) : Ok g M J pc L (.int i :: .ref a :: st) h uc us := by
  intro p e R s m args below meth c F C ls H locs hl hP hS
  exact va_zald F.1 F.2.1 F.2.2.2.2.2.2.2.2.2.1 hP.1 a 2 (m_W_get hh) (m_ty_at g rfl) hi hd (kk p e R s m args below meth c F C ls H locs hl hP hS)
theorem ok_aald {a n t : Nat} {C0 : String} {f : Nat → Option Nat} {i : Int32} (hd : decode M.2.1 pc = .ok (.aaload, 1)) (ht : m_ty5[t]? = some (.object C0)) (hh : hc h a = some (.inl (.object C0, n, .inr (.inr (.inr (.inr f)))))) (hi : vp_in i n) (kk : Ok g M J (pc + 1) L (m_rv (f i.toNatClampNeg) :: st) h uc us) : Ok g M J pc L (.int i :: .ref a :: st) h uc us := by
  intro p e R s m args below meth c F C ls H locs hl hP hS
  refine va_aldq (C := C0) F.1 F.2.1 F.2.2.2.2.2.2.2.2.2.1 hP.1 a t (m_W_get hh) (m_ty_at g ht) hi hd ?_
  have k' := kk p e R s m args below meth c F C ls H locs hl hP hS
  rw [List.map_cons, m_rv_sv] at k'
  exact k'
theorem ok_alen {a n t : Nat} {ty : FieldType} {x : (Nat → Int32) ⊕ (Nat → Int64) ⊕ (Nat → UInt32) ⊕ (Nat → UInt64) ⊕ (Nat → Option Nat)} (hd : decode M.2.1 pc = .ok (.arraylength, 1)) (ht : m_ty5[t]? = some ty) (hh : hc h a = some (.inl (ty, n, x))) (kk : Ok g M J (pc + 1) L (.int (nI n) :: st) h uc us) : Ok g M J pc L (.ref a :: st) h uc us := by
  intro p e R s m args below meth c F C ls H locs hl hP hS
  refine va_alen F.1 F.2.1 F.2.2.2.2.2.2.2.2.2.1 hP.1 a t (m_W_get hh) (m_ty_at g ht) (v := nI n) ?_ hd (kk p e R s m args below meth c F C ls H locs hl hP hS)
  show Int32.ofNat (m_sA g.2.1 (n, x)).1 = nI n
  rw [m_sA_1]
  rfl
theorem m_arr (g : mG) {s : State} (hK : va_K (m_D g) m_cl (m_tys g) s) {t : Nat} {ty : FieldType} (ht : m_ty5[t]? = some ty) (n : Nat) (z : Nat → Value) : s.isArrayOf (arrV (g.2.2.2.2 ty) n z) ty := (hK.2 t _ (m_ty_at g ht)).1 n z
theorem ok_iast {a n : Nat} {f : Nat → Int32} {i x : Int32} (hd : decode M.2.1 pc = .ok (.iastore, 1)) (hh : hc h a = some (.inl (.int, n, .inl f))) (hi : vp_in i n) (kk : Ok g M J (pc + 1) L st (hs h a (.inl (.int, n, .inl (upd f i.toNatClampNeg x)))) uc us) : Ok g M J pc L (.int x :: .int i :: .ref a :: st) h uc us := by
  intro p e R s m args below meth c F C ls H locs hl hP hS
  refine W.iast F.1 F.2.1 (hP.1 a _ (m_W_get hh)) (m_arr g F.2.2.2.2.2.2.2.2.2.1 (t := 0) rfl n (fun j => .int (f j))) (fun q => by cases q) (by show ¬ (i < 0 ∨ (arrV _ _ _).slots.size ≤ _); rw [arrV_size]; exact hi) rfl rfl hd fun H1 e1 z oq => ?_
  refine kk p e R s m args below meth c F C ls H1 _ hl (m_P_set hP hh ?_ z oq) (hS.put z oq (m_Ain g a))
  show H1[g.2.1 + a]? = some (vp_cell _ (n, .inl (upd f i.toNatClampNeg x)))
  rw [e1]
  show some ((vp_cell _ (n, .inl f)).setSlot _ _) = _
  rw [vp_cell_i, vp_cell_i, arrV_store]
  congr 2
  funext q
  by_cases hq : q = i.toNatClampNeg
  · subst hq; simp [updV, upd]
  · simp [updV, upd, hq]
theorem ok_last {a n : Nat} {f : Nat → Int64} {i : Int32} {x : Int64} (hd : decode M.2.1 pc = .ok (.lastore, 1)) (hh : hc h a = some (.inl (.long, n, .inr (.inl f)))) (hi : vp_in i n) (kk : Ok g M J (pc + 1) L st (hs h a (.inl (.long, n, .inr (.inl (vp_updL f i.toNatClampNeg x))))) uc us) : Ok g M J pc L (.long x :: .int i :: .ref a :: st) h uc us := by
  intro p e R s m args below meth c F C ls H locs hl hP hS
  refine W.last F.1 F.2.1 (hP.1 a _ (m_W_get hh)) (m_arr g F.2.2.2.2.2.2.2.2.2.1 (t := 1) rfl n (fun j => .long (f j))) (fun q => by cases q) (by show ¬ (i < 0 ∨ (arrV _ _ _).slots.size ≤ _); rw [arrV_size]; exact hi) rfl rfl hd fun H1 e1 z oq => ?_
  refine kk p e R s m args below meth c F C ls H1 _ hl (m_P_set hP hh ?_ z oq) (hS.put z oq (m_Ain g a))
  show H1[g.2.1 + a]? = some (vp_cell _ (n, .inr (.inl (vp_updL f i.toNatClampNeg x))))
  rw [e1]
  show some ((vp_cell _ (n, .inr (.inl f))).setSlot _ _) = _
  rw [vp_cell_l, vp_cell_l, arrV_store]
  congr 2
  funext q
  by_cases hq : q = i.toNatClampNeg
  · subst hq; simp [updV, vp_updL]
  · simp [updV, vp_updL, hq]
theorem ok_zast {a n : Nat} {f : Nat → Int32} {i x : Int32} (hd : decode M.2.1 pc = .ok (.bastore, 1)) (hx : narrow .boolean (.int x) = .int x) (hh : hc h a = some (.inl (.boolean, n, .inl f))) (hi : vp_in i n) (kk : Ok g M J (pc + 1) L st (hs h a (.inl (.boolean, n, .inl (upd f i.toNatClampNeg x)))) uc us) : Ok g M J pc L (.int x :: .int i :: .ref a :: st) h uc us := by
  intro p e R s m args below meth c F C ls H locs hl hP hS
  refine W.zast F.1 F.2.1 (hP.1 a _ (m_W_get hh)) (m_arr g F.2.2.2.2.2.2.2.2.2.1 (t := 2) rfl n (fun j => .int (f j))) (fun q => by cases q) (by show ¬ (i < 0 ∨ (arrV _ _ _).slots.size ≤ _); rw [arrV_size]; exact hi) rfl rfl hd fun H1 e1 z oq => ?_
  refine kk p e R s m args below meth c F C ls H1 _ hl (m_P_set hP hh ?_ z oq) (hS.put z oq (m_Ain g a))
  show H1[g.2.1 + a]? = some (vp_cell _ (n, .inl (upd f i.toNatClampNeg x)))
  rw [e1, hx]
  show some ((vp_cell _ (n, .inl f)).setSlot _ _) = _
  rw [vp_cell_i, vp_cell_i, arrV_store]
  congr 2
  funext q
  by_cases hq : q = i.toNatClampNeg
  · subst hq; simp [updV, upd]
  · simp [updV, upd, hq]
theorem ok_aast {a n t v ci : Nat} {r : vw_C} {vs : List Value} {f : Nat → Option Nat} {i : Int32} (hd : decode M.2.1 pc = .ok (.aastore, 1)) (ht : m_ty5[t]? = some (.object r.1)) (hc0 : m_cl[ci]? = some r) (hh : hc h a = some (.inl (.object r.1, n, .inr (.inr (.inr (.inr f)))))) (hv : hc h v = some (.inr (ci, vs))) (hi : vp_in i n) (kk : Ok g M J (pc + 1) L st (hs h a (.inl (.object r.1, n, .inr (.inr (.inr (.inr (va_up f i.toNatClampNeg (some v)))))))) uc us) : Ok g M J pc L (.ref v :: .int i :: .ref a :: st) h uc us := by
  intro p e R s m args below meth c F C ls H locs hl hP hS
  have hK := F.2.2.2.2.2.2.2.2.2.1
  have hlt : i.toNatClampNeg < n := Nat.not_le.mp fun q => hi (Or.inr q)
  have h0 : ¬ i < 0 := fun q => hi (Or.inl q)
  obtain ⟨r', hr', cellV, g1, g2, g3, -⟩ := hP.1 v _ (m_W_get hv)
  have hcls := (hK.1 ci r hc0).2
  obtain ⟨kA, comp, k1, k2, k3, -⟩ := (hK.2 t _ (m_ty_at g ht)).2
  have hcomp : comp = (m_D g).1 ci := Option.some.inj (k3.symm.trans hcls.1)
  subst hcomp
  obtain ⟨kC, hkC, -⟩ := hcls.2
  refine W.aast F.1 F.2.1 (hP.1 a _ (m_W_get hh)) (fun q h => by cases h) (fun h => by cases h) k1 k2 rfl hkC ⟨h0, by show _ < (arrV _ _ _).slots.size; rw [arrV_size]; exact hlt⟩ g1 (fun q h => by rw [g3] at h; cases h) (by rw [g2]; exact hkC) (by rw [g2]; exact va_assign hcls) rfl rfl hd fun H1 e1 z oq => ?_
  refine kk p e R s m args below meth c F C ls H1 _ hl (m_P_set hP hh ?_ z oq) (hS.put z oq (m_Ain g a))
  show H1[g.2.1 + a]? = some (vp_cell _ (n, .inr (.inr (.inr (.inr (fun j => ((va_up f i.toNatClampNeg (some v)) j).map (fun q => g.2.1 + q)))))))
  rw [e1]
  show some ((vp_cell _ (n, .inr (.inr (.inr (.inr (fun j => (f j).map (fun q => g.2.1 + q))))))).setSlot _ _) = _
  rw [vp_cell_q, vp_cell_q, arrV_store]
  congr 2
  funext q
  by_cases hq : q = i.toNatClampNeg
  · subst hq; simp [updV, va_up, va_rf]
  · simp [updV, va_up, hq]
end MACH2
end
section
/-! ===== the machine seen from above: new cells, calls, ends ===== -/
def m_push : Option Value → List Value → List Value
  | none, st => st
  | some v, st => v :: st
theorem m_push_sv (b : Nat) (v : Option Value) (st : List Value) : (v.map (m_sv b)).toList ++ st.map (m_sv b) = (m_push v st).map (m_sv b) := by cases v <;> rfl
def m_sl (av : List Value) : List (Option Value) := av.flatMap fun v => if v.category = 2 then [some v, none] else [some v]
def m_ent (n : Nat) (av : List Value) : List (Option Value) := m_sl av ++ List.replicate (n - (m_sl av).length) none
theorem m_at_app : ∀ (a b : List (Option Value)) (i : Nat) (v : Value), m_at (a ++ b) i = some v → m_at a i = some v ∨ ∃ j, m_at b j = some v
  | [], b, i, v, h => Or.inr ⟨i, h⟩
  | x :: t, b, 0, v, h => Or.inl h
  | x :: t, b, i + 1, v, h => m_at_app t b i v h
theorem m_at_rep : ∀ (n j : Nat) (v : Value), m_at (List.replicate n none) j = some v → False
  | 0, j, v, h => by cases h
  | n + 1, 0, v, h => by cases h
  | n + 1, j + 1, v, h => m_at_rep n j v h
theorem m_sl_at (b : Nat) : ∀ (av : List Value) (i0 i : Nat) (v : Value), m_at (m_sl av) i = some v → (i0 + i, m_sv b v) ∈ lv_args i0 (av.map (m_sv b))
  | [], i0, i, v, h => by cases h
  | x :: t, i0, i, v, h => by
    have e : m_sl (x :: t) = (if x.category = 2 then [some x, none] else [some x]) ++ m_sl t := by simp [m_sl]
    rw [e] at h
    by_cases c : x.category = 2
    · rw [if_pos c] at h
      simp only [List.map_cons, lv_args, m_sv_cat, c, if_true]
      match i, h with
      | 0, h => cases h; exact List.mem_cons_self
      | 1, h => cases h
      | i + 2, h =>
        refine List.mem_cons_of_mem _ ?_
        have := m_sl_at b t (i0 + 2) i v h
        rw [show i0 + (i + 2) = i0 + 2 + i by omega]
        exact this
    · rw [if_neg c] at h
      simp only [List.map_cons, lv_args, m_sv_cat, c, if_false]
      match i, h with
      | 0, h => cases h; exact List.mem_cons_self
      | i + 1, h =>
        refine List.mem_cons_of_mem _ ?_
        have := m_sl_at b t (i0 + 1) i v h
        rw [show i0 + (i + 1) = i0 + 1 + i by omega]
        exact this
theorem m_ent_L {b : Nat} {ls : Array Slot} {n : Nat} {av : List Value} (h : lv_has ls n (lv_args 0 (av.map (m_sv b)))) : m_L b ls n (m_ent n av) := by
  refine ⟨h.1, h.2.1, fun i v hv => ?_⟩
  rcases m_at_app _ _ i v hv with h1 | ⟨j, h1⟩
  · have := m_sl_at b av 0 i v h1
    rw [Nat.zero_add] at this
    exact h.2.2 _ this
  · exact (m_at_rep _ _ _ h1).elim
theorem m_good : ∀ w ∈ m_tb, (w.onTables && w.keeps) = true ∨ ∃ ty, w = .arrayClass ty := fun w hw => good_of_word (List.mem_filter.mp hw).2
def m_ws (N : mM) : List Cond := Cond.code N.1 N.2.1 N.2.2.1 N.2.2.2.1 :: m_tb
def m_cd (N : mM) (n : Nat) : Prop := Cond.initialized N.1.cls ∈ m_tb ∧ Cond.code N.1 N.2.1 N.2.2.1 N.2.2.2.1 ∈ m_tb ∧ plainName N.1.cls = true ∧ (N.1.cls ≠ "java/lang/invoke/MethodHandle" ∧ N.1.cls ≠ "java/lang/invoke/VarHandle" ∧ (parseMethodDescriptor N.1.desc).map (fun d => d.parameters.length) = some n) ∧ N.2.2.1 ≤ 21
theorem m_gd {N : mM} {n : Nat} (hN : m_cd N n) : GoodIn m_tb (m_ws N) := by
  intro w hw
  rcases List.mem_cons.mp hw with rfl | hw
  · exact ⟨hN.2.1, m_good _ hN.2.1⟩
  · exact ⟨hw, m_good _ hw⟩
def m_B (g : mG) (h : mH) (U : State) : Prop := m_P g h U.heap ∧ va_K (m_D g) m_cl (m_tys g) U ∧ g.2.1 ≤ U.heap.size ∧ m_X U
theorem Ok.met {g : mG} {N : mM} {av : List Value} {h : mH} {Q : Option Value → mH → Prop} (hp : plainName N.1.cls = true) (hlen : (lg_sl (av.map (m_sv g.2.1))).length ≤ N.2.2.1) (hk : Ok g N (m_J g N Q) 0 (m_ent N.2.2.1 av) [] h 0 0) :
    Met g.1 N.1 (m_ws N) (m_R N) (va_Pc (av.map (m_sv g.2.1)) (m_B g h)) (m_Q g Q) N.2.2.2.2.2.1 N.2.2.2.2.2.2 (m_A g) := by
  refine Met.ofW (cc := N.2.1) (maxL := N.2.2.1) (ret := N.2.2.2.1) hp rfl ?_
  intro p e s m args below meth c s₁ B hml hv
  obtain ⟨rfl, hP, hK, hsz, hXx⟩ := hv
  have hts := atoms_spec (ws := m_ws N) B.pre
  have F : m_Fx g N p (m_R N) s m (av.map (m_sv g.2.1)).toArray meth c := ⟨B.exec, B.bytes, hml, B.returns, B.notSynchronized, findClass_of_methodNamed B.named, fun w hw => hts w (List.mem_cons_of_mem _ hw), fun hi => by rw [(name_of_methodNamed B.named B.method).1]; exact hi, rfl, hK, hsz, hXx⟩
  have hl := lv_entry (av.map (m_sv g.2.1)) hlen
  rw [lg_entry_eq]
  exact hk p e _ s m _ below meth c F trivial _ s.heap [] (m_ent_L hl) hP va_S.rf
theorem m_slen (b : Nat) (av : List Value) : (lg_sl (av.map (m_sv b))).length = (m_sl av).length := by
  induction av with
  | nil => rfl
  | cons x t ih =>
    have e1 : m_sl (x :: t) = (if x.category = 2 then [some x, none] else [some x]) ++ m_sl t := by simp [m_sl]
    have e2 : lg_sl ((x :: t).map (m_sv b)) = (if x.category = 2 then [.val (m_sv b x), .second] else [.val (m_sv b x)]) ++ lg_sl (t.map (m_sv b)) := by simp [lg_sl, m_sv_cat]
    rw [e1, e2, List.length_append, List.length_append, ih]
    by_cases c : x.category = 2 <;> simp [c]
section MACH3
variable {g : mG} {M : mM} {J : mJ} {pc : Nat} {L L' : List (Option Value)} {st : List Value} {h : mH} {uc us : Nat}
theorem m_go {p : Program} {e : Env} {R : Room} {s : State} {m : MethodId} {args a : Array Value} {below : List Frame} {meth : Method} {c : Code} {H : Heap} {locs : List Loc} {mc ms : Nat} {ls : Array Slot} {st0 rest : List Value} {Q : Option Value → mH → Prop} {Z : State → Prop}
    (hr : va_Run p g.1 e R s m args below meth c H locs uc us mc ms (F0 m pc ls st0) rest (m_Q g Q a) (m_A g)) (hS : va_S (m_A g) s.heap H locs)
    (kk : ∀ (v : Option Value) (h' : mH) (H1 : Heap) (locs1 : List Loc), Q v h' → m_P g h' H1 → va_S (m_A g) s.heap H1 locs1 → W p g.1 e R s m args below meth c H1 locs1 (uc + mc) (us + ms) Z (F0 m (pc + 3) ls ((v.map (m_sv g.2.1)).toList ++ rest))) : W p g.1 e R s m args below meth c H locs uc us Z (F0 m pc ls st0) := by
  intro T hT X
  obtain ⟨v, st₀, t, T', L, h0, X', hL, e1, e2, ⟨v', h', hv, hQ, hP, hz, hk⟩, stp⟩ := hr T hT X
  cases hv
  rw [h0] at hz hk
  obtain ⟨t2, a1, b1⟩ := kk v' h' T'.heap (locs ++ L) hQ (by rw [e1]; exact hP) ⟨Nat.le_trans hS.1 (by rw [e1]; exact hz), fun q h1 h2 => by rw [e1, hk q (Nat.lt_of_lt_of_le h1 hS.1) h2]; exact hS.2.1 q h1 h2, fun q hq => by
      rcases List.mem_append.mp hq with h | h
      · exact hS.2.2 q h
      · exact hL q h⟩ T' rfl X'
  exact ⟨t2, stp t2 a1, b1⟩
theorem m_blind (av : List Value) : FrameBlind (va_Pc (av.map (m_sv g.2.1)) (m_B g h)) := fun a U f mk q => ⟨q.1, q.2.1, va_K.moved (u := U) (U := U.calling f mk a) (Vm.Alike.refl U.vm) q.2.2.1, q.2.2.2.1, m_X.same (s := U) rfl q.2.2.2.2⟩
theorem m_startB {s : State} {H : Heap} {locs : List Loc} (hP : m_P g h H) (hK : va_K (m_D g) m_cl (m_tys g) s) (hsz : g.2.1 ≤ s.heap.size) (hXx : m_X s) (hS : va_S (m_A g) s.heap H locs) (U : State) (hU : U.heap = H) (hW : s.WarmedH U.vm) : m_B g h U :=
  ⟨by rw [hU]; exact hP, va_K.moved hW.alike hK, by rw [hU]; exact Nat.le_trans hsz hS.1, hXx.warm hW⟩
def m_lkV (own : String) (idx : Nat) (N : mM) : Prop := Cond.methodLink own idx N.1 ∈ m_tb ∧ Cond.instanceMethod N.1 ∈ m_tb ∧ Cond.selects N.1.cls N.1 N.1 ∈ m_tb
def m_lkS (own : String) (idx : Nat) (N : mM) : Prop := Cond.methodLink own idx N.1 ∈ m_tb ∧ Cond.static N.1 ∈ m_tb
def m_lkI (own : String) (idx : Nat) (N : mM) : Prop := Cond.methodLink own idx N.1 ∈ m_tb ∧ Cond.instanceMethod N.1 ∈ m_tb ∧ N.1.name = "<init>"
def m_lkN (own : String) (idx : Nat) (N : mM) : Prop := (∃ host, ∀ U, m_X U → va_Nw (.methodLinkNest own idx N.1 host) U) ∧ Cond.instanceMethod N.1 ∈ m_tb ∧ N.1.name = "<init>"
/-- the callee's room within the caller's -/
def m_fit (M N : mM) (uc us : Nat) : Prop := N.2.2.2.2.1 + 1 ≤ M.2.2.2.2.1 ∧ uc + N.2.2.2.2.2.1 ≤ M.2.2.2.2.2.1 ∧ us + N.2.2.2.2.2.2 ≤ M.2.2.2.2.2.2
theorem m_callB {p : Program} {R : Room} {s : State} {m : MethodId} {args : Array Value} {meth : Method} {c : Code} {N : mM} {n idx : Nat} (F : m_Fx g M p R s m args meth c) (hN : m_cd N n) (hfit : m_fit M N uc us) (hl : Cond.methodLink M.1.cls idx N.1 ∈ m_tb) :
    CallB R s args M.1.cls idx N.1 N.2.1 N.2.2.1 N.2.2.2.1 (m_ws N) (m_R N) N.2.2.2.2.2.1 N.2.2.2.2.2.2 n := by
  have hR : R = m_R M := F.2.2.2.2.2.2.2.2.1
  have h1 := hfit.1
  have h2 := hN.2.2.2.2
  exact callB_of n F.2.2.2.2.2.2.1 (m_gd hN) rfl rfl rfl (F.2.2.2.2.2.2.1 _ hN.1) (F.2.2.2.2.2.2.1 _ hl) hN.2.2.2.1 ⟨by rw [hR]; exact h1, by rw [hR]; show 8 + (N.2.2.1 + 11) + 40 * N.2.2.2.2.1 ≤ 40 * M.2.2.2.2.1; omega⟩
theorem m_fits {p : Program} {R : Room} {s : State} {m : MethodId} {args : Array Value} {meth : Method} {c : Code} {N : mM} (F : m_Fx g M p R s m args meth c) (hfit : m_fit M N uc us) : uc + N.2.2.2.2.2.1 ≤ R.cells ∧ us + N.2.2.2.2.2.2 ≤ R.slots := by
  have hR : R = m_R M := F.2.2.2.2.2.2.2.2.1
  rw [hR]
  exact hfit.2
theorem m_room (b : Nat) {m : MethodId} {ls : Array Slot} {st0 : List Value} (hw : (st.map fun v => v.category).sum ≤ 8) : 2 * (F0 m pc ls st0).monitorRoom + ((st.map (m_sv b)).map fun v => v.category).sum ≤ 8 := by
  refine lv_room ?_
  rw [List.map_map]
  have : ((fun v : Value => v.category) ∘ m_sv b) = fun v => v.category := by funext v; exact m_sv_cat b v
  rw [this]
  exact hw
theorem ok_callV {N : mM} {a ci n idx : Nat} {fs av : List Value} {r : vw_C} {L0 : List (Option Value)} (hd : decode M.2.1 pc = .ok (.invokevirtual idx, 3)) (hl : m_lkV M.1.cls idx N) (hN : m_cd N n) (hfit : m_fit M N uc us) (hh : hc h a = some (.inr (ci, fs))) (hr : m_cl[ci]? = some r) (hrn : r.1 = N.1.cls) (hn : av.length = n) (hw : (st.map fun v => v.category).sum ≤ 8) (hle : (m_sl (.ref a :: av)).length ≤ N.2.2.1) (hL0 : m_ent N.2.2.1 (.ref a :: av) = L0)
    (k : Ok g N (m_J g N (fun v h' => Ok g M J (pc + 3) L (m_push v st) h' (uc + N.2.2.2.2.2.1) (us + N.2.2.2.2.2.2))) 0 L0 [] h 0 0) : Ok g M J pc L (av.reverse ++ .ref a :: st) h uc us := by
  intro p e R s m args below meth c F C ls H locs hlo hP hS
  subst hL0
  have hts := F.2.2.2.2.2.2.1
  have hK := F.2.2.2.2.2.2.2.2.2.1
  have hM := Ok.met hN.2.2.1 (by rw [m_slen]; exact hle) k
  refine m_go (va_runV (As := av.map (m_sv g.2.1)) (rest := st.map (m_sv g.2.1)) (nL := M.2.2.1) (C := N.1.cls) (b := g.2.1 + a) ⟨F.1, F.2.1, F.2.2.1, F.2.2.2.2.2.1, hts⟩ hM ⟨m_callB F hN hfit hl.1, hts _ hl.2.1, hts _ hl.2.2⟩ ⟨m_blind (.ref a :: av), ?_, fun U hU hW => ⟨rfl, m_startB hP hK F.2.2.2.2.2.2.2.2.2.2.1 F.2.2.2.2.2.2.2.2.2.2.2 hS U hU hW⟩⟩ rfl (by rw [List.length_map]; exact hn) hlo.1 (by simp [m_sv]) (m_room _ hw) hd (m_fits F hfit)) hS ?_
  · rw [← hrn]
    exact va_recv hK hP.1 hr (m_W_get hh)
  · intro v h' H1 locs1 hQ hP1 hS1
    rw [m_push_sv]
    exact hQ p e R s m args below meth c F C ls H1 locs1 hlo hP1 hS1
theorem ok_callS {N : mM} {n idx : Nat} {av : List Value} {L0 : List (Option Value)} (hd : decode M.2.1 pc = .ok (.invokestatic idx, 3)) (hl : m_lkS M.1.cls idx N) (hN : m_cd N n) (hfit : m_fit M N uc us) (hn : av.length = n) (hw : (st.map fun v => v.category).sum ≤ 8) (hle : (m_sl av).length ≤ N.2.2.1) (hL0 : m_ent N.2.2.1 av = L0)
    (k : Ok g N (m_J g N (fun v h' => Ok g M J (pc + 3) L (m_push v st) h' (uc + N.2.2.2.2.2.1) (us + N.2.2.2.2.2.2))) 0 L0 [] h 0 0) : Ok g M J pc L (av.reverse ++ st) h uc us := by
  intro p e R s m args below meth c F C ls H locs hlo hP hS
  subst hL0
  have hts := F.2.2.2.2.2.2.1
  have hK := F.2.2.2.2.2.2.2.2.2.1
  have hM := Ok.met hN.2.2.1 (by rw [m_slen]; exact hle) k
  refine m_go (va_runS (As := av.map (m_sv g.2.1)) (rest := st.map (m_sv g.2.1)) (nL := M.2.2.1) ⟨F.1, F.2.1, F.2.2.1, F.2.2.2.2.2.1, hts⟩ hM ⟨m_callB F hN hfit hl.1, hts _ hl.2⟩ ⟨m_blind av, fun U hU hW => ⟨rfl, m_startB hP hK F.2.2.2.2.2.2.2.2.2.2.1 F.2.2.2.2.2.2.2.2.2.2.2 hS U hU hW⟩⟩ rfl (by rw [List.length_map]; exact hn) hlo.1 (by simp) (m_room _ hw) hd (m_fits F hfit)) hS ?_
  intro v h' H1 locs1 hQ hP1 hS1
  rw [m_push_sv]
  exact hQ p e R s m args below meth c F C ls H1 locs1 hlo hP1 hS1
theorem ok_callI {N : mM} {a n idx : Nat} {av : List Value} {L0 : List (Option Value)} (hd : decode M.2.1 pc = .ok (.invokespecial idx, 3)) (hl : m_lkI M.1.cls idx N) (hN : m_cd N n) (hret : N.2.2.2.1 = none) (hfit : m_fit M N uc us) (hn : av.length = n) (hw : (st.map fun v => v.category).sum ≤ 8) (hle : (m_sl (.ref a :: av)).length ≤ N.2.2.1) (hL0 : m_ent N.2.2.1 (.ref a :: av) = L0)
    (k : Ok g N (m_J g N (fun v h' => Ok g M J (pc + 3) L (m_push v st) h' (uc + N.2.2.2.2.2.1) (us + N.2.2.2.2.2.2))) 0 L0 [] h 0 0) : Ok g M J pc L (av.reverse ++ .ref a :: st) h uc us := by
  intro p e R s m args below meth c F C ls H locs hlo hP hS
  subst hL0
  have hts := F.2.2.2.2.2.2.1
  have hK := F.2.2.2.2.2.2.2.2.2.1
  have hM := Ok.met hN.2.2.1 (by rw [m_slen]; exact hle) k
  have hB := m_callB F hN hfit hl.1
  rw [hret] at hB
  refine m_go (va_runI (As := av.map (m_sv g.2.1)) (rest := st.map (m_sv g.2.1)) (nL := M.2.2.1) (b := g.2.1 + a) ⟨F.1, F.2.1, F.2.2.1, F.2.2.2.2.2.1, hts⟩ hM ⟨hB, hl.2.2, hts _ hl.2.1⟩ ⟨m_blind (.ref a :: av), fun U hU hW => ⟨rfl, m_startB hP hK F.2.2.2.2.2.2.2.2.2.2.1 F.2.2.2.2.2.2.2.2.2.2.2 hS U hU hW⟩⟩ rfl (by rw [List.length_map]; exact hn) hlo.1 (by simp [m_sv]) (m_room _ hw) hd (m_fits F hfit)) hS ?_
  intro v h' H1 locs1 hQ hP1 hS1
  rw [m_push_sv]
  exact hQ p e R s m args below meth c F C ls H1 locs1 hlo hP1 hS1
theorem ok_callN {N : mM} {a n idx : Nat} {av : List Value} {L0 : List (Option Value)} (hd : decode M.2.1 pc = .ok (.invokespecial idx, 3)) (hl : m_lkN M.1.cls idx N) (hN : m_cd N n) (hret : N.2.2.2.1 = none) (hfit : m_fit M N uc us) (hn : av.length = n) (hw : (st.map fun v => v.category).sum ≤ 8) (hle : (m_sl (.ref a :: av)).length ≤ N.2.2.1) (hL0 : m_ent N.2.2.1 (.ref a :: av) = L0)
    (k : Ok g N (m_J g N (fun v h' => Ok g M J (pc + 3) L (m_push v st) h' (uc + N.2.2.2.2.2.1) (us + N.2.2.2.2.2.2))) 0 L0 [] h 0 0) : Ok g M J pc L (av.reverse ++ .ref a :: st) h uc us := by
  intro p e R s m args below meth c F C ls H locs hlo hP hS
  subst hL0
  have hts := F.2.2.2.2.2.2.1
  have hK := F.2.2.2.2.2.2.2.2.2.1
  have hM := Ok.met hN.2.2.1 (by rw [m_slen]; exact hle) k
  obtain ⟨⟨host, hl1⟩, hl2, hl3⟩ := hl
  have hR : R = m_R M := F.2.2.2.2.2.2.2.2.1
  have q1 := hfit.1
  have q2 := hN.2.2.2.2
  have hB : va_CN R s args M.1.cls idx N.1 host N.2.1 N.2.2.1 N.2.2.2.1 (m_ws N) (m_R N) N.2.2.2.2.2.1 N.2.2.2.2.2.2 n := va_cnB n hts (m_gd hN) rfl rfl rfl (hl1 s F.2.2.2.2.2.2.2.2.2.2.2) (hts _ hN.1) hN.2.2.2.1 ⟨by rw [hR]; exact q1, by rw [hR]; show 8 + (N.2.2.1 + 11) + 40 * N.2.2.2.2.1 ≤ 40 * M.2.2.2.2.1; omega⟩
  rw [hret] at hB
  refine m_go (va_runIN (As := av.map (m_sv g.2.1)) (rest := st.map (m_sv g.2.1)) (nL := M.2.2.1) (b := g.2.1 + a) ⟨F.1, F.2.1, F.2.2.1, F.2.2.2.2.2.1, hts⟩ hM ⟨hB, hl3, hts _ hl2⟩ ⟨m_blind (.ref a :: av), fun U hU hW => ⟨rfl, m_startB hP hK F.2.2.2.2.2.2.2.2.2.2.1 F.2.2.2.2.2.2.2.2.2.2.2 hS U hU hW⟩⟩ rfl (by rw [List.length_map]; exact hn) hlo.1 (by simp [m_sv]) (m_room _ hw) hd (m_fits F hfit)) hS ?_
  intro v h' H1 locs1 hQ hP1 hS1
  rw [m_push_sv]
  exact hQ p e R s m args below meth c F C ls H1 locs1 hlo hP1 hS1
/-! ends -/
theorem ok_iret {Q : Option Value → mH → Prop} {v : Int32} {ty : FieldType} (hd : decode M.2.1 pc = .ok (.ireturn, 1)) (hr : M.2.2.2.1 = some ty) (hn : narrow ty (.int v) = .int v) (hu : uc ≤ M.2.2.2.2.2.1 ∧ us ≤ M.2.2.2.2.2.2) (hq : Q (some (.int v)) h) : Ok g M (m_J g M Q) pc L [.int v] h uc us := by
  intro p e R s m args below meth c F C ls H locs hl hP hS
  refine W.widen hu.1 hu.2 ?_
  exact W.zret F.1 F.2.1 (F.2.2.2.1.trans hr) hn (fun t ht hW => ⟨some (.int v), h, rfl, hq, by rw [ht]; exact hP, hS.F ht⟩) hS.2.2 hd F.2.2.2.2.1
theorem ok_lret {Q : Option Value → mH → Prop} {v : Int64} (hd : decode M.2.1 pc = .ok (.lreturn, 1)) (hr : M.2.2.2.1 = some .long) (hu : uc ≤ M.2.2.2.2.2.1 ∧ us ≤ M.2.2.2.2.2.2) (hq : Q (some (.long v)) h) : Ok g M (m_J g M Q) pc L [.long v] h uc us := by
  intro p e R s m args below meth c F C ls H locs hl hP hS
  refine W.widen hu.1 hu.2 ?_
  exact W.lret F.1 F.2.1 (F.2.2.2.1.trans hr) (fun t ht hW => ⟨some (.long v), h, rfl, hq, by rw [ht]; exact hP, hS.F ht⟩) hS.2.2 hd F.2.2.2.2.1
theorem ok_vret {Q : Option Value → mH → Prop} (hd : decode M.2.1 pc = .ok (.return_, 1)) (hr : M.2.2.2.1 = none) (hu : uc ≤ M.2.2.2.2.2.1 ∧ us ≤ M.2.2.2.2.2.2) (hq : Q none h) : Ok g M (m_J g M Q) pc L [] h uc us := by
  intro p e R s m args below meth c F C ls H locs hl hP hS
  refine W.widen hu.1 hu.2 ?_
  exact W.vret F.1 F.2.1 (F.2.2.2.1.trans hr) (fun t ht hW => ⟨none, h, rfl, hq, by rw [ht]; exact hP, hS.F ht⟩) hS.2.2 hd F.2.2.2.2.1
theorem ok_aret {Q : Option Value → mH → Prop} {v : Value} {C0 : String} (hd : decode M.2.1 pc = .ok (.areturn, 1)) (hr : M.2.2.2.1 = some (.object C0)) (ha : m_isA v = true) (hu : uc ≤ M.2.2.2.2.2.1 ∧ us ≤ M.2.2.2.2.2.2) (hq : Q (some v) h) : Ok g M (m_J g M Q) pc L [v] h uc us := by
  intro p e R s m args below meth c F C ls H locs hl hP hS
  refine W.widen hu.1 hu.2 ?_
  have hv : m_sv g.2.1 v = .null ∨ ∃ a, m_sv g.2.1 v = .ref a := by
    cases v with
    | ref a => exact Or.inr ⟨_, rfl⟩
    | null => exact Or.inl rfl
    | retAddr a => exact Or.inr ⟨_, rfl⟩
    | int x => cases ha
    | long x => cases ha
    | float x => cases ha
    | double x => cases ha
  exact W.aret F.1 F.2.1 (F.2.2.2.1.trans hr) (Or.inl ⟨C0, rfl⟩) hv (fun t ht hW => ⟨some v, h, rfl, hq, by rw [ht]; exact hP, hS.F ht⟩) hS.2.2 hd F.2.2.2.2.1
/-! Object's constructor, Math -/
theorem ok_obj {a idx : Nat} (hd : decode M.2.1 pc = .ok (.invokespecial idx, 3)) (hl : Cond.methodLink M.1.cls idx Lib.objectInit ∈ m_tb ∧ Cond.instanceMethod Lib.objectInit ∈ m_tb ∧ Cond.code Lib.objectInit ⟨#[0xb1]⟩ 1 none ∈ m_tb) (hrk : 1 ≤ M.2.2.2.2.1) (hw : (st.map fun v => v.category).sum ≤ 8) (k : Ok g M J (pc + 3) L st h uc us) : Ok g M J pc L (.ref a :: st) h uc us := by
  intro p e R s m args below meth c F C ls H locs hlo hP hS
  have hR : R = m_R M := F.2.2.2.2.2.2.2.2.1
  have hts := F.2.2.2.2.2.2.1
  have hw2 := m_room (st := st) (pc := pc) (m := m) (ls := ls) (st0 := st) g.2.1 hw
  exact W.objInit F.1 F.2.1 F.2.2.2.2.2.1 (hts _ hl.1) (hts _ hl.2.1) (hts _ hl.2.2) rfl (hlo.1.trans F.2.2.1.symm) (a := g.2.1 + a) (rest := st.map (m_sv g.2.1)) rfl hd (by rw [hR]; exact hrk) (by rw [hR]; show 2 * (F0 m pc ls _).monitorRoom + _ + 12 ≤ 40 * _; have : 2 * (F0 m pc ls ((Value.ref a :: st).map (m_sv g.2.1))).monitorRoom = 0 := rfl; have e2 : 2 * (F0 m pc ls st).monitorRoom = 0 := rfl; omega) (k p e R s m args below meth c F C ls H locs hlo hP hS)
theorem ok_max {idx : Nat} {x y : Int32} (hd : decode M.2.1 pc = .ok (.invokestatic idx, 3)) (hl : Cond.methodLink M.1.cls idx Lib.Math.max.name ∈ m_tb ∧ Cond.static Lib.Math.max.name ∈ m_tb ∧ Cond.initialized "java/lang/Math" ∈ m_tb ∧ Cond.code Lib.Math.max.name Lib.Math.max.code 2 (some .int) ∈ m_tb) (hrk : 1 ≤ M.2.2.2.2.1) (hu : uc ≤ M.2.2.2.2.2.1 ∧ us ≤ M.2.2.2.2.2.2) (hw : (st.map fun v => v.category).sum ≤ 8) (k : Ok g M J (pc + 3) L (.int (if x < y then y else x) :: st) h uc us) : Ok g M J pc L (.int y :: .int x :: st) h uc us := by
  intro p e R s m args below meth c F C ls H locs hlo hP hS
  have hR : R = m_R M := F.2.2.2.2.2.2.2.2.1
  have hts := F.2.2.2.2.2.2.1
  have hw2 := m_room (st := st) (pc := pc) (m := m) (ls := ls) (st0 := st) g.2.1 hw
  have e2 : 2 * (F0 m pc ls st).monitorRoom = 0 := rfl
  exact va_mmax F.1 F.2.1 (F.2.2.1.trans hlo.1.symm) F.2.2.2.2.2.1 (hts _ hl.1) (hts _ hl.2.1) (hts _ hl.2.2.1) (hts _ hl.2.2.2) (by rw [hR]; exact hrk) (by rw [hR]; show _ ≤ 40 * _; omega) (by rw [hR]; exact hu.1) (by rw [hR]; exact hu.2) hd (k p e R s m args below meth c F C ls H locs hlo hP hS)
theorem ok_min {idx : Nat} {x y : Int32} (hd : decode M.2.1 pc = .ok (.invokestatic idx, 3)) (hl : Cond.methodLink M.1.cls idx Lib.Math.min.name ∈ m_tb ∧ Cond.static Lib.Math.min.name ∈ m_tb ∧ Cond.initialized "java/lang/Math" ∈ m_tb ∧ Cond.code Lib.Math.min.name Lib.Math.min.code 2 (some .int) ∈ m_tb) (hrk : 1 ≤ M.2.2.2.2.1) (hu : uc ≤ M.2.2.2.2.2.1 ∧ us ≤ M.2.2.2.2.2.2) (hw : (st.map fun v => v.category).sum ≤ 8) (k : Ok g M J (pc + 3) L (.int (if y < x then y else x) :: st) h uc us) : Ok g M J pc L (.int y :: .int x :: st) h uc us := by
  intro p e R s m args below meth c F C ls H locs hlo hP hS
  have hR : R = m_R M := F.2.2.2.2.2.2.2.2.1
  have hts := F.2.2.2.2.2.2.1
  have hw2 := m_room (st := st) (pc := pc) (m := m) (ls := ls) (st0 := st) g.2.1 hw
  have e2 : 2 * (F0 m pc ls st).monitorRoom = 0 := rfl
  exact va_mmin F.1 F.2.1 (F.2.2.1.trans hlo.1.symm) F.2.2.2.2.2.1 (hts _ hl.1) (hts _ hl.2.1) (hts _ hl.2.2.1) (hts _ hl.2.2.2) (by rw [hR]; exact hrk) (by rw [hR]; show _ ≤ 40 * _; omega) (by rw [hR]; exact hu.1) (by rw [hR]; exact hu.2) hd (k p e R s m args below meth c F C ls H locs hlo hP hS)
end MACH3
end
section
/-! ===== the machine seen from above: cells that are made ===== -/
theorem m_nmA {g : mG} {s : State} (hK : va_K (m_D g) m_cl (m_tys g) s) {t : Nat} {ty : FieldType} (ht : m_ty5[t]? = some ty) : va_RA s (g.2.2.2.2 ty) ty := (hK.2 t _ (m_ty_at g ht)).2
section MACH4
variable {g : mG} {M : mM} {J : mJ} {pc : Nat} {L L' : List (Option Value)} {st : List Value} {h : mH} {uc us : Nat}
theorem ok_newarr {n : Int32} {N t : Nat} {at0 : ArrayType} {ty : FieldType} {x : (Nat → Int32) ⊕ (Nat → Int64) ⊕ (Nat → UInt32) ⊕ (Nat → UInt64) ⊕ (Nat → Option Nat)} (hd : decode M.2.1 pc = .ok (.newarray at0, 2)) (hty : newarray.typeOf at0 = ty) (ht : m_ty5[t]? = some ty) (hprim : ∀ (s : State) (c : ClassId), va_RA s c ty → s.vm.findClass ("[" ++ ty.toString) = some c) (hx : ∀ cA b, vp_cell cA (m_sA b (N, x)) = arrV cA N (fun _ => defaultValue ty)) (hw : Cond.arrayClass ty ∈ m_tb) (hn : ¬ n < 0) (hN : n.toNatClampNeg = N) (hb : N * componentBytes ty ≤ 536870912) (hu : uc + 1 ≤ M.2.2.2.2.2.1 ∧ us + N ≤ M.2.2.2.2.2.2)
    (k : Ok g M J (pc + 2) L (.ref h.1 :: st) (hp h (.inl (ty, N, x))) (uc + 1) (us + N)) : Ok g M J pc L (.int n :: st) h uc us := by
  intro p e R s m args below meth c F C ls H locs hl hP hS
  subst hty
  have hR : R = m_R M := F.2.2.2.2.2.2.2.2.1
  refine va_newaK F.1 F.2.1 (F.2.2.2.2.2.2.1 _ hw) rfl hd rfl hn hN hb (by rw [hR]; exact hu.1) (by rw [hR]; exact hu.2) hP.2 fun H1 cA e1 z1 o1 hAr hNm => ?_
  have hc : cA = g.2.2.2.2 (newarray.typeOf at0) := Option.some.inj (hNm.symm.trans (hprim s _ (m_nmA F.2.2.2.2.2.2.2.2.2.1 ht)))
  subst hc
  have z2 : H1.size = H.size + 1 := by rw [z1, hP.2]
  have o2 : ∀ q : Nat, q < H.size → H1[q]? = H[q]? := fun q hq => o1 q (by rw [← hP.2]; exact hq)
  refine k p e R s m args below meth c F C ls H1 locs hl (m_P_push hP ?_ z2 o2) (m_S_push hS z2 o2)
  show H1[g.2.1 + h.1]? = some (vp_cell _ (m_sA g.2.1 (N, x)))
  rw [hx]
  exact e1
theorem ok_newI {n : Int32} {N : Nat} (hd : decode M.2.1 pc = .ok (.newarray .int, 2)) (hw : Cond.arrayClass .int ∈ m_tb) (hn : ¬ n < 0) (hN : n.toNatClampNeg = N) (hb : N * 4 ≤ 536870912) (hu : uc + 1 ≤ M.2.2.2.2.2.1 ∧ us + N ≤ M.2.2.2.2.2.2)
    (k : Ok g M J (pc + 2) L (.ref h.1 :: st) (hp h (.inl (.int, N, .inl (fun _ => 0)))) (uc + 1) (us + N)) : Ok g M J pc L (.int n :: st) h uc us :=
  ok_newarr (t := 0) hd rfl rfl (fun s c h => h) (fun _ _ => rfl) hw hn hN hb hu k
theorem ok_newJ {n : Int32} {N : Nat} (hd : decode M.2.1 pc = .ok (.newarray .long, 2)) (hw : Cond.arrayClass .long ∈ m_tb) (hn : ¬ n < 0) (hN : n.toNatClampNeg = N) (hb : N * 8 ≤ 536870912) (hu : uc + 1 ≤ M.2.2.2.2.2.1 ∧ us + N ≤ M.2.2.2.2.2.2)
    (k : Ok g M J (pc + 2) L (.ref h.1 :: st) (hp h (.inl (.long, N, .inr (.inl (fun _ => 0))))) (uc + 1) (us + N)) : Ok g M J pc L (.int n :: st) h uc us :=
  ok_newarr (t := 1) hd rfl rfl (fun s c h => h) (fun _ _ => rfl) hw hn hN hb hu k
theorem ok_newZ {n : Int32} {N : Nat} (hd : decode M.2.1 pc = .ok (.newarray .boolean, 2)) (hw : Cond.arrayClass .boolean ∈ m_tb) (hn : ¬ n < 0) (hN : n.toNatClampNeg = N) (hb : N * 1 ≤ 536870912) (hu : uc + 1 ≤ M.2.2.2.2.2.1 ∧ us + N ≤ M.2.2.2.2.2.2)
    (k : Ok g M J (pc + 2) L (.ref h.1 :: st) (hp h (.inl (.boolean, N, .inl (fun _ => 0)))) (uc + 1) (us + N)) : Ok g M J pc L (.int n :: st) h uc us :=
  ok_newarr (t := 2) hd rfl rfl (fun s c h => h) (fun _ _ => rfl) hw hn hN hb hu k
theorem ok_newA {n : Int32} {N t idx : Nat} {C0 : String} (hd : decode M.2.1 pc = .ok (.anewarray idx, 3)) (ht : m_ty5[t]? = some (.object C0)) (hl : Cond.classLink M.1.cls idx C0 ∈ m_tb) (ho : ∀ U, m_X U → va_AO C0 U) (hn : ¬ n < 0) (hN : n.toNatClampNeg = N) (hb : N * 4 ≤ 536870912) (hu : uc + 1 ≤ M.2.2.2.2.2.1 ∧ us + N ≤ M.2.2.2.2.2.2)
    (k : Ok g M J (pc + 3) L (.ref h.1 :: st) (hp h (.inl (.object C0, N, .inr (.inr (.inr (.inr (fun _ => none))))))) (uc + 1) (us + N)) : Ok g M J pc L (.int n :: st) h uc us := by
  intro p e R s m args below meth c F C ls H locs hlo hP hS
  subst hN
  have hR : R = m_R M := F.2.2.2.2.2.2.2.2.1
  have hts := F.2.2.2.2.2.2.1
  refine W.anew F.1 F.2.1 F.2.2.2.2.2.1 (hts _ hl) (va_AO.use (ho s F.2.2.2.2.2.2.2.2.2.2.2)) rfl hd rfl hn hb (by rw [hR]; exact hu.1) (by rw [hR]; exact hu.2) fun cA kA comp f1 f2 f3 f4 => ?_
  obtain ⟨kA', comp', g1, g2, g3, g4⟩ := m_nmA F.2.2.2.2.2.2.2.2.2.1 ht
  have hc : cA = g.2.2.2.2 (.object C0) := Option.some.inj (f1.symm.trans g4)
  subst hc
  generalize hH1 : H.push ({ cls := g.2.2.2.2 (.object C0), slots := Array.replicate n.toNatClampNeg .null, vm := .none } : Cell) = H1
  have z1 : H1.size = H.size + 1 := by rw [← hH1, Array.size_push]
  have e1 : H1[H.size]? = some (arrV (g.2.2.2.2 (.object C0)) n.toNatClampNeg (fun _ => .null)) := by rw [← hH1, Array.getElem?_push_size, ← arrV_new]
  have o1 : ∀ q : Nat, q < H.size → H1[q]? = H[q]? := fun q hq => by rw [← hH1, Array.getElem?_push, if_neg (Nat.ne_of_lt hq)]
  have k' := k p e R s m args below meth c F C ls H1 locs hlo (m_P_push hP (by show H1[g.2.1 + h.1]? = some (vp_cell _ (n.toNatClampNeg, .inr (.inr (.inr (.inr (fun _ => none)))))); rw [vp_cell_q, ← hP.2]; exact e1) z1 o1) (m_S_push hS z1 o1)
  rw [hP.2]
  exact k'
theorem ok_new {ci idx : Nat} {r : vw_C} {fs : List Value} (ty0 : Nat → FieldType) (hd : decode M.2.1 pc = .ok (.new idx, 3)) (hr : m_cl[ci]? = some r) (hin : m_in (u_ws r.1 r.2.1 r.2.2)) (hty : ∀ k, k < r.2.2 → parseFieldDescriptor (r.2.1 k).2.2.1 = some (ty0 k)) (hl : Cond.classLink M.1.cls idx r.1 ∈ m_tb ∧ Cond.instantiable r.1 r.2.2 ∈ m_tb ∧ Cond.initialized r.1 ∈ m_tb) (hfs : ∀ j, j < r.2.2 → defaultValue (ty0 j) = vp_V fs j) (hsv : ∀ b, fs.map (m_sv b) = fs) (hu : uc + 1 ≤ M.2.2.2.2.2.1 ∧ us + r.2.2 ≤ M.2.2.2.2.2.2)
    (k : Ok g M J (pc + 3) L (.ref h.1 :: st) (hp h (.inr (ci, fs))) (uc + 1) (us + r.2.2)) : Ok g M J pc L st h uc us := by
  intro p e R s m args below meth c F C ls H locs hlo hP hS
  have hR : R = m_R M := F.2.2.2.2.2.2.2.2.1
  have hts := F.2.2.2.2.2.2.1
  have hKn := F.2.2.2.2.2.2.2.2.2.1.1 ci _ hr
  refine W.newcK F.1 F.2.1 F.2.2.2.2.2.1 (hts _ hl.1) (hts _ hl.2.1) (hts _ hl.2.2) rfl hd (by rw [hR]; exact hu.1) (by rw [hR]; exact hu.2) hKn.2.1 hP.2 fun H1 kC hkC e1 z1 o1 => ?_
  have z2 : H1.size = H.size + 1 := by rw [z1, hP.2]
  have o2 : ∀ q : Nat, q < H.size → H1[q]? = H[q]? := fun q hq => o1 q (by rw [← hP.2]; exact hq)
  refine k p e R s m args below meth c F C ls H1 locs hlo (m_P_push hP ?_ z2 o2) (m_S_push hS z2 o2)
  refine ⟨_, hr, (u_born ty0 hts hin hKn hkC e1 hty).to fun j hj => ?_⟩
  rw [hsv]
  exact hfs j hj
theorem ok_cloneI {a n idx : Nat} {f : Nat → Int32} (hd : decode M.2.1 pc = .ok (.invokevirtual idx, 3))
    (hl : Cond.methodLink M.1.cls idx ⟨"[I", "clone", "()Ljava/lang/Object;"⟩ ∈ m_tb ∧ Cond.sameMethod "[I" "java/lang/Object" "clone" "()Ljava/lang/Object;" ∈ m_tb ∧ Cond.native ⟨"java/lang/Object", "clone", "()Ljava/lang/Object;"⟩ ∈ m_tb ∧ Cond.instanceMethod ⟨"java/lang/Object", "clone", "()Ljava/lang/Object;"⟩ ∈ m_tb ∧ Cond.selects "[I" ⟨"[I", "clone", "()Ljava/lang/Object;"⟩ ⟨"java/lang/Object", "clone", "()Ljava/lang/Object;"⟩ ∈ m_tb)
    (hh : hc h a = some (.inl (.int, n, .inl f))) (hrk : 1 ≤ M.2.2.2.2.1) (hw : (st.map fun v => v.category).sum ≤ 8) (hu : uc + 1 ≤ M.2.2.2.2.2.1 ∧ us + n ≤ M.2.2.2.2.2.2)
    (k : Ok g M J (pc + 3) L (.ref h.1 :: st) (hp h (.inl (.int, n, .inl f))) (uc + 1) (us + n)) : Ok g M J pc L (.ref a :: st) h uc us := by
  intro p e R s m args below meth c F C ls H locs hlo hP hS
  have hR : R = m_R M := F.2.2.2.2.2.2.2.2.1
  have hts := F.2.2.2.2.2.2.1
  have hK := F.2.2.2.2.2.2.2.2.2.1
  have hnm : s.vm.findClass "[I" = some (g.2.2.2.2 .int) := m_nmA hK (t := 0) rfl
  have hw2 := m_room (st := st) (pc := pc) (m := m) (ls := ls) (st0 := st) g.2.1 hw
  have e2 : 2 * (F0 m pc ls st).monitorRoom = 0 := rfl
  have hcell : H[g.2.1 + a]? = some (arrV (g.2.2.2.2 .int) n (fun j => .int (f j))) := hP.1 a _ (m_W_get hh)
  obtain ⟨c0, t0', f1, f2, f3⟩ := Cond.castable_spec (va_Nw.use (A := args) rfl F.2.2.2.2.2.2.2.2.2.2.2.2.2.2.2)
  cases hnm.symm.trans f1
  intro T hT X
  obtain ⟨-, kA, hkA, comp, hkind⟩ := State.isArrayOf_alike X.warmed.alike (m_arr g hK (t := 0) rfl 0 (fun _ => .null))
  obtain ⟨-, kS, hkS, compS, hkindS⟩ := m_arr g hK (t := 0) rfl 0 (fun _ => .null)
  have hcellT : T.heap[g.2.1 + a]? = some (arrV (g.2.2.2.2 .int) n (fun j => .int (f j))) := by rw [hT]; exact hcell
  obtain ⟨vm', X', stp⟩ := X.cloneArray F.1 F.2.2.2.2.2.1 (hts _ hl.1) (hts _ hl.2.1) (hts _ hl.2.2.1) (hts _ hl.2.2.2.1) (hts _ hl.2.2.2.2) (a := g.2.1 + a) (cell := arrV (g.2.2.2.2 .int) n (fun j => .int (f j))) hcellT (fun k h => by cases h) (fun h => by cases h) hnm f2 f3
    (fun i v hv => by
      have hk' : T.vm.classes[g.2.2.2.2 .int]? = some kA := hkA
      have := va_fit (ty := .int) (fun i _ => rfl) i v hv
      simpa [arrV, State.fitsSlot, State.slotType?, hk', hkind] using this)
    (g := F0 m pc ls (.ref (g.2.1 + a) :: st.map (m_sv g.2.1))) rfl (hlo.1.trans F.2.2.1.symm) rfl (by rw [F.2.1]; exact hd) (by rw [hR]; exact hrk) (by rw [hR]; show 2 * 0 + _ + 14 ≤ 40 * _; omega) (by rw [hR]; exact hu.1) (by rw [arrV_size, hR]; exact hu.2) (hloader := Vm.clonesLoader_of_array hkS hkindS)
  rw [arrV_size] at X'
  have z1 : (H.push (arrV (g.2.2.2.2 .int) n (fun j => .int (f j)))).size = H.size + 1 := by rw [Array.size_push]
  have o1 : ∀ q : Nat, q < H.size → (H.push (arrV (g.2.2.2.2 .int) n (fun j => .int (f j))))[q]? = H[q]? := fun q hq => by rw [Array.getElem?_push, if_neg (Nat.ne_of_lt hq)]
  obtain ⟨t, b1, b2⟩ := k p e R s m args below meth c F C ls _ locs hlo (m_P_push hP (by show (H.push (arrV (g.2.2.2.2 .int) n (fun j => .int (f j))))[g.2.1 + h.1]? = some (vp_cell _ (n, .inl f)); rw [vp_cell_i, ← hP.2, Array.getElem?_push_size]) z1 o1) (m_S_push hS z1 o1)
    ((T.setVm vm').pushCell (arrV (g.2.2.2.2 .int) n (fun j => .int (f j)))) (by rw [← hT]; rfl) X'
  refine ⟨t, stp t ?_, b2⟩
  rw [hT, hP.2]
  exact b1
theorem ok_castI {a n idx : Nat} {f : Nat → Int32} (hd : decode M.2.1 pc = .ok (.checkcast idx, 3)) (hl : Cond.classLink M.1.cls idx "[I" ∈ m_tb) (hh : hc h a = some (.inl (.int, n, .inl f))) (k : Ok g M J (pc + 3) L (.ref a :: st) h uc us) : Ok g M J pc L (.ref a :: st) h uc us := by
  intro p e R s m args below meth c F C ls H locs hlo hP hS
  exact va_castA F.1 F.2.1 F.2.2.2.2.2.1 (F.2.2.2.2.2.2.1 _ hl) hP.1 a (m_W_get hh) (m_nmA F.2.2.2.2.2.2.2.2.2.1 (t := 0) rfl) hd (k p e R s m args below meth c F C ls H locs hlo hP hS)
/-! the law's script -/
theorem ok_sald {b Ls : Nat} {xs : Nat → Int32} {i : Int32} (hd : decode M.2.1 pc = .ok (.iaload, 1)) (hJ : ∀ args s, J.1 args s → va_X b Ls xs s s.heap ∧ b < g.2.1) (hi : vp_in i Ls) (k : Ok g M J (pc + 1) L (.int (xs i.toNatClampNeg) :: st) h uc us) : Ok g M J pc L (.int i :: .retAddr b :: st) h uc us := by
  intro p e R s m args below meth c F C ls H locs hlo hP hS
  obtain ⟨hX, hb⟩ := hJ args s C
  exact va_sld F.1 F.2.1 hX (Nat.lt_of_lt_of_le hb F.2.2.2.2.2.2.2.2.2.2.1) (Nat.not_le.mpr hb) hS hi hd (k p e R s m args below meth c F C ls H locs hlo hP hS)
theorem ok_slen {b Ls : Nat} {xs : Nat → Int32} (hd : decode M.2.1 pc = .ok (.arraylength, 1)) (hJ : ∀ args s, J.1 args s → va_X b Ls xs s s.heap ∧ b < g.2.1) (k : Ok g M J (pc + 1) L (.int (nI Ls) :: st) h uc us) : Ok g M J pc L (.retAddr b :: st) h uc us := by
  intro p e R s m args below meth c F C ls H locs hlo hP hS
  obtain ⟨hX, hb⟩ := hJ args s C
  exact va_slen F.1 F.2.1 hX (Nat.lt_of_lt_of_le hb F.2.2.2.2.2.2.2.2.2.2.1) (Nat.not_le.mpr hb) hS hd (k p e R s m args below meth c F C ls H locs hlo hP hS)
end MACH4
end
