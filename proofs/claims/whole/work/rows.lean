section
-- ===== PART A: goes FIRST, ahead of the names: the tables' words, and 'selects' of the private methods out of them =====
/-- a private method of a class that the tables say can be made, by its rows of tables_1 -/
def lw_okq (q : MethodName × Nat) : Prop := (q.1.cls ≠ "java/lang/invoke/MethodHandle" ∧ q.1.cls ≠ "java/lang/invoke/VarHandle") ∧ Cond.instantiable q.1.cls q.2 ∈ tables_1 ∧ Cond.privateMethod q.1 ∈ tables_1 ∧ Cond.instanceMethod q.1 ∈ tables_1
theorem lw_p0 : lw_okq (⟨"GivingHeaps", "rowAt", "(I)LGivingHeaps$Row;"⟩, 11) := ⟨⟨by decide +kernel, by decide +kernel⟩, List.mem_of_getElem? (i := 10) (by decide +kernel), List.mem_of_getElem? (i := 138) (by decide +kernel), List.mem_of_getElem? (i := 139) (by decide +kernel)⟩
theorem lw_p1 : lw_okq (⟨"GivingHeaps", "found", "(I)I"⟩, 11) := ⟨⟨by decide +kernel, by decide +kernel⟩, List.mem_of_getElem? (i := 10) (by decide +kernel), List.mem_of_getElem? (i := 142) (by decide +kernel), List.mem_of_getElem? (i := 143) (by decide +kernel)⟩
theorem lw_p2 : lw_okq (⟨"GivingHeaps", "chartOf", "(I)LGivingHeaps$Chart;"⟩, 11) := ⟨⟨by decide +kernel, by decide +kernel⟩, List.mem_of_getElem? (i := 10) (by decide +kernel), List.mem_of_getElem? (i := 198) (by decide +kernel), List.mem_of_getElem? (i := 199) (by decide +kernel)⟩
theorem lw_p3 : lw_okq (⟨"GivingHeaps$Lists", "cappedAt", "(II)I"⟩, 1) := ⟨⟨by decide +kernel, by decide +kernel⟩, List.mem_of_getElem? (i := 20) (by decide +kernel), List.mem_of_getElem? (i := 207) (by decide +kernel), List.mem_of_getElem? (i := 208) (by decide +kernel)⟩
theorem lw_p4 : lw_okq (⟨"GivingHeaps$Chart", "has", "(I)Z"⟩, 11) := ⟨⟨by decide +kernel, by decide +kernel⟩, List.mem_of_getElem? (i := 201) (by decide +kernel), List.mem_of_getElem? (i := 288) (by decide +kernel), List.mem_of_getElem? (i := 289) (by decide +kernel)⟩
theorem lw_p5 : lw_okq (⟨"GivingHeaps$Chart", "peel", "([I[I)I"⟩, 11) := ⟨⟨by decide +kernel, by decide +kernel⟩, List.mem_of_getElem? (i := 201) (by decide +kernel), List.mem_of_getElem? (i := 303) (by decide +kernel), List.mem_of_getElem? (i := 304) (by decide +kernel)⟩
theorem lw_p6 : lw_okq (⟨"GivingHeaps$Chart", "drawRing", "(I[I)V"⟩, 11) := ⟨⟨by decide +kernel, by decide +kernel⟩, List.mem_of_getElem? (i := 201) (by decide +kernel), List.mem_of_getElem? (i := 307) (by decide +kernel), List.mem_of_getElem? (i := 308) (by decide +kernel)⟩
theorem lw_p7 : lw_okq (⟨"GivingHeaps$Chart", "drawTail", "(I)V"⟩, 11) := ⟨⟨by decide +kernel, by decide +kernel⟩, List.mem_of_getElem? (i := 201) (by decide +kernel), List.mem_of_getElem? (i := 311) (by decide +kernel), List.mem_of_getElem? (i := 312) (by decide +kernel)⟩
theorem lw_p8 : lw_okq (⟨"GivingHeaps$Mixer", "choicesGiving", "(II)I"⟩, 8) := ⟨⟨by decide +kernel, by decide +kernel⟩, List.mem_of_getElem? (i := 32) (by decide +kernel), List.mem_of_getElem? (i := 433) (by decide +kernel), List.mem_of_getElem? (i := 434) (by decide +kernel)⟩
theorem lw_p9 : lw_okq (⟨"GivingHeaps$Mixer", "chosenAt", "(II)I"⟩, 8) := ⟨⟨by decide +kernel, by decide +kernel⟩, List.mem_of_getElem? (i := 32) (by decide +kernel), List.mem_of_getElem? (i := 438) (by decide +kernel), List.mem_of_getElem? (i := 439) (by decide +kernel)⟩
theorem lw_p10 : lw_okq (⟨"GivingHeaps$Mixer", "spread", "(LGivingHeaps$Lists;LGivingHeaps$Row;J)V"⟩, 8) := ⟨⟨by decide +kernel, by decide +kernel⟩, List.mem_of_getElem? (i := 32) (by decide +kernel), List.mem_of_getElem? (i := 453) (by decide +kernel), List.mem_of_getElem? (i := 454) (by decide +kernel)⟩
theorem lw_p11 : lw_okq (⟨"GivingHeaps$Mixer", "land", "(LGivingHeaps$Lists;IJ)V"⟩, 8) := ⟨⟨by decide +kernel, by decide +kernel⟩, List.mem_of_getElem? (i := 32) (by decide +kernel), List.mem_of_getElem? (i := 458) (by decide +kernel), List.mem_of_getElem? (i := 459) (by decide +kernel)⟩
theorem lw_p12 : lw_okq (⟨"GivingHeaps$Mixer", "nextGift", "()V"⟩, 8) := ⟨⟨by decide +kernel, by decide +kernel⟩, List.mem_of_getElem? (i := 32) (by decide +kernel), List.mem_of_getElem? (i := 465) (by decide +kernel), List.mem_of_getElem? (i := 466) (by decide +kernel)⟩
theorem lw_p13 : lw_okq (⟨"GivingHeaps$Mixer", "spreadAll", "(LGivingHeaps$Lists;I)V"⟩, 8) := ⟨⟨by decide +kernel, by decide +kernel⟩, List.mem_of_getElem? (i := 32) (by decide +kernel), List.mem_of_getElem? (i := 477) (by decide +kernel), List.mem_of_getElem? (i := 478) (by decide +kernel)⟩
theorem lw_p14 : lw_okq (⟨"GivingHeaps", "rowsThere", "()I"⟩, 11) := ⟨⟨by decide +kernel, by decide +kernel⟩, List.mem_of_getElem? (i := 10) (by decide +kernel), List.mem_of_getElem? (i := 499) (by decide +kernel), List.mem_of_getElem? (i := 500) (by decide +kernel)⟩
theorem lw_p15 : lw_okq (⟨"GivingHeaps", "cardsInAll", "()I"⟩, 11) := ⟨⟨by decide +kernel, by decide +kernel⟩, List.mem_of_getElem? (i := 10) (by decide +kernel), List.mem_of_getElem? (i := 503) (by decide +kernel), List.mem_of_getElem? (i := 504) (by decide +kernel)⟩
def lw_privs_1 : List (MethodName × Nat) := [(⟨"GivingHeaps", "rowAt", "(I)LGivingHeaps$Row;"⟩, 11), (⟨"GivingHeaps", "found", "(I)I"⟩, 11), (⟨"GivingHeaps", "chartOf", "(I)LGivingHeaps$Chart;"⟩, 11), (⟨"GivingHeaps$Lists", "cappedAt", "(II)I"⟩, 1), (⟨"GivingHeaps$Chart", "has", "(I)Z"⟩, 11), (⟨"GivingHeaps$Chart", "peel", "([I[I)I"⟩, 11), (⟨"GivingHeaps$Chart", "drawRing", "(I[I)V"⟩, 11), (⟨"GivingHeaps$Chart", "drawTail", "(I)V"⟩, 11), (⟨"GivingHeaps$Mixer", "choicesGiving", "(II)I"⟩, 8), (⟨"GivingHeaps$Mixer", "chosenAt", "(II)I"⟩, 8), (⟨"GivingHeaps$Mixer", "spread", "(LGivingHeaps$Lists;LGivingHeaps$Row;J)V"⟩, 8), (⟨"GivingHeaps$Mixer", "land", "(LGivingHeaps$Lists;IJ)V"⟩, 8), (⟨"GivingHeaps$Mixer", "nextGift", "()V"⟩, 8), (⟨"GivingHeaps$Mixer", "spreadAll", "(LGivingHeaps$Lists;I)V"⟩, 8), (⟨"GivingHeaps", "rowsThere", "()I"⟩, 11), (⟨"GivingHeaps", "cardsInAll", "()I"⟩, 11)]
theorem lw_r1 : ∀ q ∈ lw_privs_1, lw_okq q := List.forall_mem_cons.mpr ⟨lw_p0, List.forall_mem_cons.mpr ⟨lw_p1, List.forall_mem_cons.mpr ⟨lw_p2, List.forall_mem_cons.mpr ⟨lw_p3, List.forall_mem_cons.mpr ⟨lw_p4, List.forall_mem_cons.mpr ⟨lw_p5, List.forall_mem_cons.mpr ⟨lw_p6, List.forall_mem_cons.mpr ⟨lw_p7, List.forall_mem_cons.mpr ⟨lw_p8, List.forall_mem_cons.mpr ⟨lw_p9, List.forall_mem_cons.mpr ⟨lw_p10, List.forall_mem_cons.mpr ⟨lw_p11, List.forall_mem_cons.mpr ⟨lw_p12, List.forall_mem_cons.mpr ⟨lw_p13, List.forall_mem_cons.mpr ⟨lw_p14, List.forall_mem_cons.mpr ⟨lw_p15, fun _ h => absurd h List.not_mem_nil⟩⟩⟩⟩⟩⟩⟩⟩⟩⟩⟩⟩⟩⟩⟩⟩
theorem lw_p16 : lw_okq (⟨"GivingHeapsModel", "looked", "(I)I"⟩, 24) := ⟨⟨by decide +kernel, by decide +kernel⟩, List.mem_of_getElem? (i := 526) (by decide +kernel), List.mem_of_getElem? (i := 619) (by decide +kernel), List.mem_of_getElem? (i := 620) (by decide +kernel)⟩
theorem lw_p17 : lw_okq (⟨"GivingHeapsModel", "meets", "(I)I"⟩, 24) := ⟨⟨by decide +kernel, by decide +kernel⟩, List.mem_of_getElem? (i := 526) (by decide +kernel), List.mem_of_getElem? (i := 623) (by decide +kernel), List.mem_of_getElem? (i := 624) (by decide +kernel)⟩
theorem lw_p18 : lw_okq (⟨"GivingHeapsModel", "cards", "(I)I"⟩, 24) := ⟨⟨by decide +kernel, by decide +kernel⟩, List.mem_of_getElem? (i := 526) (by decide +kernel), List.mem_of_getElem? (i := 627) (by decide +kernel), List.mem_of_getElem? (i := 628) (by decide +kernel)⟩
theorem lw_p19 : lw_okq (⟨"GivingHeapsModel", "put", "(II)V"⟩, 24) := ⟨⟨by decide +kernel, by decide +kernel⟩, List.mem_of_getElem? (i := 526) (by decide +kernel), List.mem_of_getElem? (i := 631) (by decide +kernel), List.mem_of_getElem? (i := 632) (by decide +kernel)⟩
theorem lw_p20 : lw_okq (⟨"GivingHeapsModel", "setList", "(I)V"⟩, 24) := ⟨⟨by decide +kernel, by decide +kernel⟩, List.mem_of_getElem? (i := 526) (by decide +kernel), List.mem_of_getElem? (i := 659) (by decide +kernel), List.mem_of_getElem? (i := 660) (by decide +kernel)⟩
theorem lw_p21 : lw_okq (⟨"GivingHeapsModel", "later", "()Z"⟩, 24) := ⟨⟨by decide +kernel, by decide +kernel⟩, List.mem_of_getElem? (i := 526) (by decide +kernel), List.mem_of_getElem? (i := 663) (by decide +kernel), List.mem_of_getElem? (i := 664) (by decide +kernel)⟩
theorem lw_p22 : lw_okq (⟨"GivingHeapsModel", "rankOf", "(I)I"⟩, 24) := ⟨⟨by decide +kernel, by decide +kernel⟩, List.mem_of_getElem? (i := 526) (by decide +kernel), List.mem_of_getElem? (i := 671) (by decide +kernel), List.mem_of_getElem? (i := 672) (by decide +kernel)⟩
theorem lw_p23 : lw_okq (⟨"GivingHeapsModel", "load", "(I)V"⟩, 24) := ⟨⟨by decide +kernel, by decide +kernel⟩, List.mem_of_getElem? (i := 526) (by decide +kernel), List.mem_of_getElem? (i := 675) (by decide +kernel), List.mem_of_getElem? (i := 676) (by decide +kernel)⟩
theorem lw_p24 : lw_okq (⟨"GivingHeapsModel", "rankRow", "()I"⟩, 24) := ⟨⟨by decide +kernel, by decide +kernel⟩, List.mem_of_getElem? (i := 526) (by decide +kernel), List.mem_of_getElem? (i := 679) (by decide +kernel), List.mem_of_getElem? (i := 680) (by decide +kernel)⟩
theorem lw_p25 : lw_okq (⟨"GivingHeapsModel", "against", "(I)I"⟩, 24) := ⟨⟨by decide +kernel, by decide +kernel⟩, List.mem_of_getElem? (i := 526) (by decide +kernel), List.mem_of_getElem? (i := 683) (by decide +kernel), List.mem_of_getElem? (i := 684) (by decide +kernel)⟩
theorem lw_p26 : lw_okq (⟨"GivingHeapsModel", "loadListed", "(I)V"⟩, 24) := ⟨⟨by decide +kernel, by decide +kernel⟩, List.mem_of_getElem? (i := 526) (by decide +kernel), List.mem_of_getElem? (i := 691) (by decide +kernel), List.mem_of_getElem? (i := 692) (by decide +kernel)⟩
theorem lw_p27 : lw_okq (⟨"GivingHeapsModel", "keep", "(I)V"⟩, 24) := ⟨⟨by decide +kernel, by decide +kernel⟩, List.mem_of_getElem? (i := 526) (by decide +kernel), List.mem_of_getElem? (i := 695) (by decide +kernel), List.mem_of_getElem? (i := 696) (by decide +kernel)⟩
theorem lw_p28 : lw_okq (⟨"GivingHeapsModel", "stepped", "(I)I"⟩, 24) := ⟨⟨by decide +kernel, by decide +kernel⟩, List.mem_of_getElem? (i := 526) (by decide +kernel), List.mem_of_getElem? (i := 707) (by decide +kernel), List.mem_of_getElem? (i := 708) (by decide +kernel)⟩
theorem lw_p29 : lw_okq (⟨"GivingHeapsModel", "setSteps", "(I)V"⟩, 24) := ⟨⟨by decide +kernel, by decide +kernel⟩, List.mem_of_getElem? (i := 526) (by decide +kernel), List.mem_of_getElem? (i := 711) (by decide +kernel), List.mem_of_getElem? (i := 712) (by decide +kernel)⟩
theorem lw_p30 : lw_okq (⟨"GivingHeapsModel", "goOn", "()V"⟩, 24) := ⟨⟨by decide +kernel, by decide +kernel⟩, List.mem_of_getElem? (i := 526) (by decide +kernel), List.mem_of_getElem? (i := 715) (by decide +kernel), List.mem_of_getElem? (i := 716) (by decide +kernel)⟩
theorem lw_p31 : lw_okq (⟨"GivingHeapsModel", "give", "(III)V"⟩, 24) := ⟨⟨by decide +kernel, by decide +kernel⟩, List.mem_of_getElem? (i := 526) (by decide +kernel), List.mem_of_getElem? (i := 719) (by decide +kernel), List.mem_of_getElem? (i := 720) (by decide +kernel)⟩
def lw_privs_2 : List (MethodName × Nat) := [(⟨"GivingHeapsModel", "looked", "(I)I"⟩, 24), (⟨"GivingHeapsModel", "meets", "(I)I"⟩, 24), (⟨"GivingHeapsModel", "cards", "(I)I"⟩, 24), (⟨"GivingHeapsModel", "put", "(II)V"⟩, 24), (⟨"GivingHeapsModel", "setList", "(I)V"⟩, 24), (⟨"GivingHeapsModel", "later", "()Z"⟩, 24), (⟨"GivingHeapsModel", "rankOf", "(I)I"⟩, 24), (⟨"GivingHeapsModel", "load", "(I)V"⟩, 24), (⟨"GivingHeapsModel", "rankRow", "()I"⟩, 24), (⟨"GivingHeapsModel", "against", "(I)I"⟩, 24), (⟨"GivingHeapsModel", "loadListed", "(I)V"⟩, 24), (⟨"GivingHeapsModel", "keep", "(I)V"⟩, 24), (⟨"GivingHeapsModel", "stepped", "(I)I"⟩, 24), (⟨"GivingHeapsModel", "setSteps", "(I)V"⟩, 24), (⟨"GivingHeapsModel", "goOn", "()V"⟩, 24), (⟨"GivingHeapsModel", "give", "(III)V"⟩, 24)]
theorem lw_r2 : ∀ q ∈ lw_privs_2, lw_okq q := List.forall_mem_cons.mpr ⟨lw_p16, List.forall_mem_cons.mpr ⟨lw_p17, List.forall_mem_cons.mpr ⟨lw_p18, List.forall_mem_cons.mpr ⟨lw_p19, List.forall_mem_cons.mpr ⟨lw_p20, List.forall_mem_cons.mpr ⟨lw_p21, List.forall_mem_cons.mpr ⟨lw_p22, List.forall_mem_cons.mpr ⟨lw_p23, List.forall_mem_cons.mpr ⟨lw_p24, List.forall_mem_cons.mpr ⟨lw_p25, List.forall_mem_cons.mpr ⟨lw_p26, List.forall_mem_cons.mpr ⟨lw_p27, List.forall_mem_cons.mpr ⟨lw_p28, List.forall_mem_cons.mpr ⟨lw_p29, List.forall_mem_cons.mpr ⟨lw_p30, List.forall_mem_cons.mpr ⟨lw_p31, fun _ h => absurd h List.not_mem_nil⟩⟩⟩⟩⟩⟩⟩⟩⟩⟩⟩⟩⟩⟩⟩⟩
theorem lw_p32 : lw_okq (⟨"GivingHeapsModel", "settle", "()V"⟩, 24) := ⟨⟨by decide +kernel, by decide +kernel⟩, List.mem_of_getElem? (i := 526) (by decide +kernel), List.mem_of_getElem? (i := 723) (by decide +kernel), List.mem_of_getElem? (i := 724) (by decide +kernel)⟩
theorem lw_p33 : lw_okq (⟨"GivingHeapsModel", "isRound", "(I)Z"⟩, 24) := ⟨⟨by decide +kernel, by decide +kernel⟩, List.mem_of_getElem? (i := 526) (by decide +kernel), List.mem_of_getElem? (i := 727) (by decide +kernel), List.mem_of_getElem? (i := 728) (by decide +kernel)⟩
theorem lw_p34 : lw_okq (⟨"GivingHeapsModel", "kindOf", "(I)I"⟩, 24) := ⟨⟨by decide +kernel, by decide +kernel⟩, List.mem_of_getElem? (i := 526) (by decide +kernel), List.mem_of_getElem? (i := 731) (by decide +kernel), List.mem_of_getElem? (i := 732) (by decide +kernel)⟩
theorem lw_p35 : lw_okq (⟨"GivingHeapsModel", "noWays", "()V"⟩, 24) := ⟨⟨by decide +kernel, by decide +kernel⟩, List.mem_of_getElem? (i := 526) (by decide +kernel), List.mem_of_getElem? (i := 783) (by decide +kernel), List.mem_of_getElem? (i := 784) (by decide +kernel)⟩
theorem lw_p36 : lw_okq (⟨"GivingHeapsModel", "addWays", "(IJ)V"⟩, 24) := ⟨⟨by decide +kernel, by decide +kernel⟩, List.mem_of_getElem? (i := 526) (by decide +kernel), List.mem_of_getElem? (i := 787) (by decide +kernel), List.mem_of_getElem? (i := 788) (by decide +kernel)⟩
def lw_privs_3 : List (MethodName × Nat) := [(⟨"GivingHeapsModel", "settle", "()V"⟩, 24), (⟨"GivingHeapsModel", "isRound", "(I)Z"⟩, 24), (⟨"GivingHeapsModel", "kindOf", "(I)I"⟩, 24), (⟨"GivingHeapsModel", "noWays", "()V"⟩, 24), (⟨"GivingHeapsModel", "addWays", "(IJ)V"⟩, 24)]
theorem lw_r3 : ∀ q ∈ lw_privs_3, lw_okq q := List.forall_mem_cons.mpr ⟨lw_p32, List.forall_mem_cons.mpr ⟨lw_p33, List.forall_mem_cons.mpr ⟨lw_p34, List.forall_mem_cons.mpr ⟨lw_p35, List.forall_mem_cons.mpr ⟨lw_p36, fun _ h => absurd h List.not_mem_nil⟩⟩⟩⟩⟩
def lw_privs : List (MethodName × Nat) := lw_privs_1 ++ (lw_privs_2 ++ (lw_privs_3))
def lw_tbl : List Cond := k2_sels lw_privs ++ tables_1
theorem lw_privs_ok : ∀ q ∈ lw_privs, lw_okq q := by
  show ∀ q ∈ lw_privs_1 ++ (lw_privs_2 ++ (lw_privs_3)), lw_okq q
  exact List.forall_mem_append.mpr ⟨lw_r1, List.forall_mem_append.mpr ⟨lw_r2, lw_r3⟩⟩
-- ===== end of PART A; then your names; then what follows =====
end
section
def RX0 : String := "GivingHeaps$Chart"
def TX0 : u_T := fun k => match k with
  | 0 => ("GivingHeaps$Chart", "length", "I", true)
  | 1 => ("GivingHeaps$Chart", "next", "[I", true)
  | 2 => ("GivingHeaps$Chart", "comers", "[I", true)
  | 3 => ("GivingHeaps$Chart", "tails", "[I", true)
  | 4 => ("GivingHeaps$Chart", "beats", "[I", true)
  | 5 => ("GivingHeaps$Chart", "leaders", "[I", true)
  | 6 => ("GivingHeaps$Chart", "ringCount", "I", false)
  | 7 => ("GivingHeaps$Chart", "roundCount", "I", false)
  | 8 => ("GivingHeaps$Chart", "greatestTail", "I", false)
  | 9 => ("GivingHeaps$Chart", "lonelyCount", "I", false)
  | _ => ("GivingHeaps$Chart", "greatestBeat", "I", false)
def tyX0 : Nat → FieldType := fun k => match k with
  | 0 => .int
  | 1 => .array .int
  | 2 => .array .int
  | 3 => .array .int
  | 4 => .array .int
  | 5 => .array .int
  | 6 => .int
  | 7 => .int
  | 8 => .int
  | 9 => .int
  | _ => .int
abbrev wsX00 : List Cond := u_ws RX0 TX0 11
theorem nmX0 : ∀ a, a < 11 → ∀ b, b < 11 → a ≠ b → (TX0 a).2.1 ≠ (TX0 b).2.1 := by decide +kernel
theorem tyX0_ok : ∀ k, k < 11 → parseFieldDescriptor (TX0 k).2.2.1 = some (tyX0 k) := by decide +kernel
abbrev cX0_init : ByteArray := prog_2_method_1_code
def yX0_init : MethodName := ⟨RX0, "<init>", "(I)V"⟩
abbrev cX0_has : ByteArray := prog_2_method_2_code
def yX0_has : MethodName := ⟨RX0, "has", "(I)Z"⟩
abbrev cX0_link : ByteArray := prog_2_method_3_code
def yX0_link : MethodName := ⟨RX0, "link", "(II)V"⟩
abbrev cX0_draw : ByteArray := prog_2_method_4_code
def yX0_draw : MethodName := ⟨RX0, "draw", "()V"⟩
abbrev cX0_peel : ByteArray := prog_2_method_5_code
def yX0_peel : MethodName := ⟨RX0, "peel", "([I[I)I"⟩
abbrev cX0_drawRing : ByteArray := prog_2_method_6_code
def yX0_drawRing : MethodName := ⟨RX0, "drawRing", "(I[I)V"⟩
abbrev cX0_drawTail : ByteArray := prog_2_method_7_code
def yX0_drawTail : MethodName := ⟨RX0, "drawTail", "(I)V"⟩
abbrev cX0_kindOf : ByteArray := prog_2_method_8_code
def yX0_kindOf : MethodName := ⟨RX0, "kindOf", "(I)I"⟩
abbrev cX0_tailOf : ByteArray := prog_2_method_9_code
def yX0_tailOf : MethodName := ⟨RX0, "tailOf", "(I)I"⟩
abbrev cX0_beatOf : ByteArray := prog_2_method_10_code
def yX0_beatOf : MethodName := ⟨RX0, "beatOf", "(I)I"⟩
abbrev cX0_leaderOf : ByteArray := prog_2_method_11_code
def yX0_leaderOf : MethodName := ⟨RX0, "leaderOf", "(I)I"⟩
abbrev cX0_comersTo : ByteArray := prog_2_method_12_code
def yX0_comersTo : MethodName := ⟨RX0, "comersTo", "(I)I"⟩
abbrev cX0_comerTo : ByteArray := prog_2_method_13_code
def yX0_comerTo : MethodName := ⟨RX0, "comerTo", "(II)I"⟩
abbrev cX0_leaderOfRing : ByteArray := prog_2_method_14_code
def yX0_leaderOfRing : MethodName := ⟨RX0, "leaderOfRing", "(I)I"⟩
abbrev cX0_after : ByteArray := prog_2_method_15_code
def yX0_after : MethodName := ⟨RX0, "after", "(II)I"⟩
abbrev cX0_stepsBetween : ByteArray := prog_2_method_16_code
def yX0_stepsBetween : MethodName := ⟨RX0, "stepsBetween", "(II)I"⟩
def RX1 : String := "GivingHeaps$Lists"
def TX1 : u_T := fun k => match k with
  | _ => ("GivingHeaps$Lists", "capped", "[I", true)
def tyX1 : Nat → FieldType := fun k => match k with
  | _ => .array .int
abbrev wsX10 : List Cond := u_ws RX1 TX1 1
theorem nmX1 : ∀ a, a < 1 → ∀ b, b < 1 → a ≠ b → (TX1 a).2.1 ≠ (TX1 b).2.1 := by decide +kernel
theorem tyX1_ok : ∀ k, k < 1 → parseFieldDescriptor (TX1 k).2.2.1 = some (tyX1 k) := by decide +kernel
abbrev cX1_init : ByteArray := prog_3_method_1_code
def yX1_init : MethodName := ⟨RX1, "<init>", "()V"⟩
abbrev cX1_cappedAt : ByteArray := prog_3_method_2_code
def yX1_cappedAt : MethodName := ⟨RX1, "cappedAt", "(II)I"⟩
abbrev cX1_length : ByteArray := prog_3_method_3_code
def yX1_length : MethodName := ⟨RX1, "length", "(I)I"⟩
abbrev cX1_numberOf : ByteArray := prog_3_method_4_code
def yX1_numberOf : MethodName := ⟨RX1, "numberOf", "(LGivingHeaps$Row;)I"⟩
abbrev cX1_write : ByteArray := prog_3_method_5_code
def yX1_write : MethodName := ⟨RX1, "write", "(LGivingHeaps$Row;II)V"⟩
def RX2 : String := "GivingHeaps$Mixer"
def TX2 : u_T := fun k => match k with
  | 0 => ("GivingHeaps$Mixer", "chosen", "[I", true)
  | 1 => ("GivingHeaps$Mixer", "have", "[I", true)
  | 2 => ("GivingHeaps$Mixer", "give", "[I", true)
  | 3 => ("GivingHeaps$Mixer", "want", "[I", true)
  | 4 => ("GivingHeaps$Mixer", "giver", "LGivingHeaps$Row;", true)
  | 5 => ("GivingHeaps$Mixer", "result", "LGivingHeaps$Row;", true)
  | 6 => ("GivingHeaps$Mixer", "now", "[J", false)
  | _ => ("GivingHeaps$Mixer", "later", "[J", false)
def tyX2 : Nat → FieldType := fun k => match k with
  | 0 => .array .int
  | 1 => .array .int
  | 2 => .array .int
  | 3 => .array .int
  | 4 => .object "GivingHeaps$Row"
  | 5 => .object "GivingHeaps$Row"
  | 6 => .array .long
  | _ => .array .long
abbrev wsX20 : List Cond := u_ws RX2 TX2 8
theorem nmX2 : ∀ a, a < 8 → ∀ b, b < 8 → a ≠ b → (TX2 a).2.1 ≠ (TX2 b).2.1 := by decide +kernel
theorem tyX2_ok : ∀ k, k < 8 → parseFieldDescriptor (TX2 k).2.2.1 = some (tyX2 k) := by decide +kernel
abbrev cX2_init : ByteArray := prog_4_method_1_code
def yX2_init : MethodName := ⟨RX2, "<init>", "()V"⟩
abbrev cX2_chosenAt : ByteArray := prog_4_method_2_code
def yX2_chosenAt : MethodName := ⟨RX2, "chosenAt", "(II)I"⟩
abbrev cX2_choicesBetween : ByteArray := prog_4_method_3_code
def yX2_choicesBetween : MethodName := ⟨RX2, "choicesBetween", "(LGivingHeaps$Row;LGivingHeaps$Row;)I"⟩
abbrev cX2_choicesGiving : ByteArray := prog_4_method_4_code
def yX2_choicesGiving : MethodName := ⟨RX2, "choicesGiving", "(II)I"⟩
abbrev cX2_countReached : ByteArray := prog_4_method_5_code
def yX2_countReached : MethodName := ⟨RX2, "countReached", "(LGivingHeaps$Lists;LGivingHeaps$Row;)I"⟩
abbrev cX2_choicesOfSteps : ByteArray := prog_4_method_6_code
def yX2_choicesOfSteps : MethodName := ⟨RX2, "choicesOfSteps", "(LGivingHeaps$Lists;LGivingHeaps$Row;LGivingHeaps$Row;I)J"⟩
abbrev cX2_spreadAll : ByteArray := prog_4_method_7_code
def yX2_spreadAll : MethodName := ⟨RX2, "spreadAll", "(LGivingHeaps$Lists;I)V"⟩
abbrev cX2_spread : ByteArray := prog_4_method_8_code
def yX2_spread : MethodName := ⟨RX2, "spread", "(LGivingHeaps$Lists;LGivingHeaps$Row;J)V"⟩
abbrev cX2_land : ByteArray := prog_4_method_9_code
def yX2_land : MethodName := ⟨RX2, "land", "(LGivingHeaps$Lists;IJ)V"⟩
abbrev cX2_nextGift : ByteArray := prog_4_method_10_code
def yX2_nextGift : MethodName := ⟨RX2, "nextGift", "()V"⟩
def RX3 : String := "GivingHeaps$Row"
def TX3 : u_T := fun k => match k with
  | 0 => ("GivingHeaps$Row", "heaps", "[I", true)
  | 1 => ("GivingHeaps$Row", "size", "I", false)
  | _ => ("GivingHeaps$Row", "cards", "I", false)
def tyX3 : Nat → FieldType := fun k => match k with
  | 0 => .array .int
  | 1 => .int
  | _ => .int
abbrev wsX30 : List Cond := u_ws RX3 TX3 3
theorem nmX3 : ∀ a, a < 3 → ∀ b, b < 3 → a ≠ b → (TX3 a).2.1 ≠ (TX3 b).2.1 := by decide +kernel
theorem tyX3_ok : ∀ k, k < 3 → parseFieldDescriptor (TX3 k).2.2.1 = some (tyX3 k) := by decide +kernel
abbrev cX3_init : ByteArray := prog_5_method_1_code
def yX3_init : MethodName := ⟨RX3, "<init>", "()V"⟩
abbrev cX3_clear : ByteArray := prog_5_method_2_code
def yX3_clear : MethodName := ⟨RX3, "clear", "()V"⟩
abbrev cX3_has : ByteArray := prog_5_method_3_code
def yX3_has : MethodName := ⟨RX3, "has", "(I)Z"⟩
abbrev cX3_heapAt : ByteArray := prog_5_method_4_code
def yX3_heapAt : MethodName := ⟨RX3, "heapAt", "(I)I"⟩
abbrev cX3_hasRoomFor : ByteArray := prog_5_method_5_code
def yX3_hasRoomFor : MethodName := ⟨RX3, "hasRoomFor", "(I)Z"⟩
abbrev cX3_put : ByteArray := prog_5_method_6_code
def yX3_put : MethodName := ⟨RX3, "put", "(I)V"⟩
abbrev cX3_putPart : ByteArray := prog_5_method_7_code
def yX3_putPart : MethodName := ⟨RX3, "putPart", "(LGivingHeaps$Row;II)V"⟩
abbrev cX3_drop : ByteArray := prog_5_method_8_code
def yX3_drop : MethodName := ⟨RX3, "drop", "(I)I"⟩
abbrev cX3_heapsFrom : ByteArray := prog_5_method_9_code
def yX3_heapsFrom : MethodName := ⟨RX3, "heapsFrom", "(I)I"⟩
abbrev cX3_unlikeHeaps : ByteArray := prog_5_method_10_code
def yX3_unlikeHeaps : MethodName := ⟨RX3, "unlikeHeaps", "()I"⟩
abbrev cX3_tallyInto : ByteArray := prog_5_method_11_code
def yX3_tallyInto : MethodName := ⟨RX3, "tallyInto", "([I)V"⟩
abbrev cX3_digestOnto : ByteArray := prog_5_method_12_code
def yX3_digestOnto : MethodName := ⟨RX3, "digestOnto", "(J)J"⟩
def RX4 : String := "GivingHeaps"
def TX4 : u_T := fun k => match k with
  | 0 => ("GivingHeaps", "rows", "[LGivingHeaps$Row;", true)
  | 1 => ("GivingHeaps", "there", "[Z", true)
  | 2 => ("GivingHeaps", "timesFound", "[I", true)
  | 3 => ("GivingHeaps", "lists", "LGivingHeaps$Lists;", true)
  | 4 => ("GivingHeaps", "mixer", "LGivingHeaps$Mixer;", true)
  | 5 => ("GivingHeaps", "charts", "[LGivingHeaps$Chart;", true)
  | 6 => ("GivingHeaps", "spare", "LGivingHeaps$Row;", true)
  | 7 => ("GivingHeaps", "otherSpare", "LGivingHeaps$Row;", true)
  | 8 => ("GivingHeaps", "theRule", "I", false)
  | 9 => ("GivingHeaps", "latestFinding", "I", false)
  | _ => ("GivingHeaps", "latestWalks", "J", false)
def tyX4 : Nat → FieldType := fun k => match k with
  | 0 => .array (.object "GivingHeaps$Row")
  | 1 => .array .boolean
  | 2 => .array .int
  | 3 => .object "GivingHeaps$Lists"
  | 4 => .object "GivingHeaps$Mixer"
  | 5 => .array (.object "GivingHeaps$Chart")
  | 6 => .object "GivingHeaps$Row"
  | 7 => .object "GivingHeaps$Row"
  | 8 => .int
  | 9 => .int
  | _ => .long
abbrev wsX40 : List Cond := u_ws RX4 TX4 11
theorem nmX4 : ∀ a, a < 11 → ∀ b, b < 11 → a ≠ b → (TX4 a).2.1 ≠ (TX4 b).2.1 := by decide +kernel
theorem tyX4_ok : ∀ k, k < 11 → parseFieldDescriptor (TX4 k).2.2.1 = some (tyX4 k) := by decide +kernel
abbrev cX4_init : ByteArray := prog_1_method_1_code
def yX4_init : MethodName := ⟨RX4, "<init>", "()V"⟩
abbrev cX4_parting : ByteArray := prog_1_method_2_code
def yX4_parting : MethodName := ⟨RX4, "parting", "(I)I"⟩
abbrev cX4_heap : ByteArray := prog_1_method_3_code
def yX4_heap : MethodName := ⟨RX4, "heap", "(II)I"⟩
abbrev cX4_at : ByteArray := prog_1_method_4_code
def yX4_at : MethodName := ⟨RX4, "at", "(II)I"⟩
abbrev cX4_take : ByteArray := prog_1_method_5_code
def yX4_take : MethodName := ⟨RX4, "take", "(II)I"⟩
abbrev cX4_tear : ByteArray := prog_1_method_6_code
def yX4_tear : MethodName := ⟨RX4, "tear", "(I)I"⟩
abbrev cX4_copy : ByteArray := prog_1_method_7_code
def yX4_copy : MethodName := ⟨RX4, "copy", "(IIII)I"⟩
abbrev cX4_rule : ByteArray := prog_1_method_8_code
def yX4_rule : MethodName := ⟨RX4, "rule", "(I)I"⟩
abbrev cX4_kind : ByteArray := prog_1_method_9_code
def yX4_kind : MethodName := ⟨RX4, "kind", "(I)I"⟩
abbrev cX4_mark : ByteArray := prog_1_method_10_code
def yX4_mark : MethodName := ⟨RX4, "mark", "(II)I"⟩
abbrev cX4_mean : ByteArray := prog_1_method_11_code
def yX4_mean : MethodName := ⟨RX4, "mean", "(I)I"⟩
abbrev cX4_many : ByteArray := prog_1_method_12_code
def yX4_many : MethodName := ⟨RX4, "many", "(I)I"⟩
abbrev cX4_rank : ByteArray := prog_1_method_13_code
def yX4_rank : MethodName := ⟨RX4, "rank", "(I)I"⟩
abbrev cX4_list : ByteArray := prog_1_method_14_code
def yX4_list : MethodName := ⟨RX4, "list", "(III)I"⟩
abbrev cX4_turn : ByteArray := prog_1_method_15_code
def yX4_turn : MethodName := ⟨RX4, "turn", "(I)I"⟩
abbrev cX4_step : ByteArray := prog_1_method_16_code
def yX4_step : MethodName := ⟨RX4, "step", "(II)I"⟩
abbrev cX4_tail : ByteArray := prog_1_method_17_code
def yX4_tail : MethodName := ⟨RX4, "tail", "(I)I"⟩
abbrev cX4_beat : ByteArray := prog_1_method_18_code
def yX4_beat : MethodName := ⟨RX4, "beat", "(I)I"⟩
abbrev cX4_leader : ByteArray := prog_1_method_19_code
def yX4_leader : MethodName := ⟨RX4, "leader", "(I)I"⟩
abbrev cX4_rounds : ByteArray := prog_1_method_20_code
def yX4_rounds : MethodName := ⟨RX4, "rounds", "(II)I"⟩
abbrev cX4_ring : ByteArray := prog_1_method_21_code
def yX4_ring : MethodName := ⟨RX4, "ring", "(II)I"⟩
abbrev cX4_from : ByteArray := prog_1_method_22_code
def yX4_from : MethodName := ⟨RX4, "from", "(I)I"⟩
abbrev cX4_fromAt : ByteArray := prog_1_method_23_code
def yX4_fromAt : MethodName := ⟨RX4, "fromAt", "(II)I"⟩
abbrev cX4_steps : ByteArray := prog_1_method_24_code
def yX4_steps : MethodName := ⟨RX4, "steps", "(II)I"⟩
abbrev cX4_ways : ByteArray := prog_1_method_25_code
def yX4_ways : MethodName := ⟨RX4, "ways", "(II)I"⟩
abbrev cX4_reach : ByteArray := prog_1_method_26_code
def yX4_reach : MethodName := ⟨RX4, "reach", "(I)I"⟩
abbrev cX4_walks : ByteArray := prog_1_method_27_code
def yX4_walks : MethodName := ⟨RX4, "walks", "(III)I"⟩
abbrev cX4_asked : ByteArray := prog_1_method_28_code
def yX4_asked : MethodName := ⟨RX4, "asked", "()J"⟩
abbrev cX4_told : ByteArray := prog_1_method_29_code
def yX4_told : MethodName := ⟨RX4, "told", "(II)I"⟩
abbrev cX4_count : ByteArray := prog_1_method_30_code
def yX4_count : MethodName := ⟨RX4, "count", "(I)I"⟩
abbrev cX4_finding : ByteArray := prog_1_method_31_code
def yX4_finding : MethodName := ⟨RX4, "finding", "()I"⟩
abbrev cX4_findings : ByteArray := prog_1_method_32_code
def yX4_findings : MethodName := ⟨RX4, "findings", "(I)I"⟩
abbrev cX4_digest : ByteArray := prog_1_method_33_code
def yX4_digest : MethodName := ⟨RX4, "digest", "()J"⟩
abbrev cX4_isPlace : ByteArray := prog_1_method_34_code
def yX4_isPlace : MethodName := ⟨RX4, "isPlace", "(I)Z"⟩
abbrev cX4_isCards : ByteArray := prog_1_method_35_code
def yX4_isCards : MethodName := ⟨RX4, "isCards", "(I)Z"⟩
abbrev cX4_rowAt : ByteArray := prog_1_method_36_code
def yX4_rowAt : MethodName := ⟨RX4, "rowAt", "(I)LGivingHeaps$Row;"⟩
abbrev cX4_found : ByteArray := prog_1_method_37_code
def yX4_found : MethodName := ⟨RX4, "found", "(I)I"⟩
abbrev cX4_rowsThere : ByteArray := prog_1_method_38_code
def yX4_rowsThere : MethodName := ⟨RX4, "rowsThere", "()I"⟩
abbrev cX4_cardsInAll : ByteArray := prog_1_method_39_code
def yX4_cardsInAll : MethodName := ⟨RX4, "cardsInAll", "()I"⟩
abbrev cX4_chartOf : ByteArray := prog_1_method_40_code
def yX4_chartOf : MethodName := ⟨RX4, "chartOf", "(I)LGivingHeaps$Chart;"⟩
abbrev cX4_stepInto : ByteArray := prog_1_method_41_code
def yX4_stepInto : MethodName := ⟨RX4, "stepInto", "(LGivingHeaps$Row;LGivingHeaps$Row;I)V"⟩
abbrev cX4_giveFromEach : ByteArray := prog_1_method_42_code
def yX4_giveFromEach : MethodName := ⟨RX4, "giveFromEach", "(LGivingHeaps$Row;LGivingHeaps$Row;I)V"⟩
abbrev cX4_giveFromGreatest : ByteArray := prog_1_method_43_code
def yX4_giveFromGreatest : MethodName := ⟨RX4, "giveFromGreatest", "(LGivingHeaps$Row;LGivingHeaps$Row;)V"⟩
abbrev cX4_giveLeastAway : ByteArray := prog_1_method_44_code
def yX4_giveLeastAway : MethodName := ⟨RX4, "giveLeastAway", "(LGivingHeaps$Row;LGivingHeaps$Row;)V"⟩
def RX5 : String := "GivingHeapsModel"
def TX5 : u_T := fun k => match k with
  | 0 => ("GivingHeapsModel", "finding", "I", false)
  | 1 => ("GivingHeapsModel", "findings", "[I", true)
  | 2 => ("GivingHeapsModel", "asked", "J", false)
  | 3 => ("GivingHeapsModel", "rule", "I", false)
  | 4 => ("GivingHeapsModel", "sizes", "[I", true)
  | 5 => ("GivingHeapsModel", "heaps", "[I", true)
  | 6 => ("GivingHeapsModel", "moving", "[I", true)
  | 7 => ("GivingHeapsModel", "row", "[I", true)
  | 8 => ("GivingHeapsModel", "size", "I", false)
  | 9 => ("GivingHeapsModel", "listed", "I", false)
  | 10 => ("GivingHeapsModel", "listSize", "I", false)
  | 11 => ("GivingHeapsModel", "list", "[I", true)
  | 12 => ("GivingHeapsModel", "lengths", "[I", true)
  | 13 => ("GivingHeapsModel", "next", "[I", true)
  | 14 => ("GivingHeapsModel", "froms", "[I", true)
  | 15 => ("GivingHeapsModel", "tails", "[I", true)
  | 16 => ("GivingHeapsModel", "beats", "[I", true)
  | 17 => ("GivingHeapsModel", "leaders", "[I", true)
  | 18 => ("GivingHeapsModel", "ways", "[J", true)
  | 19 => ("GivingHeapsModel", "unlike", "[I", true)
  | 20 => ("GivingHeapsModel", "often", "[I", true)
  | 21 => ("GivingHeapsModel", "gives", "[I", true)
  | 22 => ("GivingHeapsModel", "kinds", "I", false)
  | _ => ("GivingHeapsModel", "before", "[J", true)
def tyX5 : Nat → FieldType := fun k => match k with
  | 0 => .int
  | 1 => .array .int
  | 2 => .long
  | 3 => .int
  | 4 => .array .int
  | 5 => .array .int
  | 6 => .array .int
  | 7 => .array .int
  | 8 => .int
  | 9 => .int
  | 10 => .int
  | 11 => .array .int
  | 12 => .array .int
  | 13 => .array .int
  | 14 => .array .int
  | 15 => .array .int
  | 16 => .array .int
  | 17 => .array .int
  | 18 => .array .long
  | 19 => .array .int
  | 20 => .array .int
  | 21 => .array .int
  | 22 => .int
  | _ => .array .long
abbrev wsX50 : List Cond := u_ws RX5 TX5 24
theorem nmX5 : ∀ a, a < 24 → ∀ b, b < 24 → a ≠ b → (TX5 a).2.1 ≠ (TX5 b).2.1 := by decide +kernel
theorem tyX5_ok : ∀ k, k < 24 → parseFieldDescriptor (TX5 k).2.2.1 = some (tyX5 k) := by decide +kernel
abbrev cX5_init : ByteArray := prog_7_method_1_code
def yX5_init : MethodName := ⟨RX5, "<init>", "()V"⟩
abbrev cX5_in : ByteArray := prog_7_method_3_code
def yX5_in : MethodName := ⟨RX5, "in", "(III)Z"⟩
abbrev cX5_meets : ByteArray := prog_7_method_4_code
def yX5_meets : MethodName := ⟨RX5, "meets", "(I)I"⟩
abbrev cX5_isParting : ByteArray := prog_7_method_5_code
def yX5_isParting : MethodName := ⟨RX5, "isParting", "(I)Z"⟩
abbrev cX5_looked : ByteArray := prog_7_method_6_code
def yX5_looked : MethodName := ⟨RX5, "looked", "(I)I"⟩
abbrev cX5_cards : ByteArray := prog_7_method_7_code
def yX5_cards : MethodName := ⟨RX5, "cards", "(I)I"⟩
abbrev cX5_parting : ByteArray := prog_7_method_8_code
def yX5_parting : MethodName := ⟨RX5, "parting", "(I)I"⟩
abbrev cX5_put : ByteArray := prog_7_method_9_code
def yX5_put : MethodName := ⟨RX5, "put", "(II)V"⟩
abbrev cX5_heap : ByteArray := prog_7_method_10_code
def yX5_heap : MethodName := ⟨RX5, "heap", "(II)I"⟩
abbrev cX5_at : ByteArray := prog_7_method_11_code
def yX5_at : MethodName := ⟨RX5, "at", "(II)I"⟩
abbrev cX5_take : ByteArray := prog_7_method_12_code
def yX5_take : MethodName := ⟨RX5, "take", "(II)I"⟩
abbrev cX5_tear : ByteArray := prog_7_method_13_code
def yX5_tear : MethodName := ⟨RX5, "tear", "(I)I"⟩
abbrev cX5_copy : ByteArray := prog_7_method_14_code
def yX5_copy : MethodName := ⟨RX5, "copy", "(IIII)I"⟩
abbrev cX5_rule : ByteArray := prog_7_method_15_code
def yX5_rule : MethodName := ⟨RX5, "rule", "(I)I"⟩
abbrev cX5_load : ByteArray := prog_7_method_16_code
def yX5_load : MethodName := ⟨RX5, "load", "(I)V"⟩
abbrev cX5_keep : ByteArray := prog_7_method_17_code
def yX5_keep : MethodName := ⟨RX5, "keep", "(I)V"⟩
abbrev cX5_settle : ByteArray := prog_7_method_18_code
def yX5_settle : MethodName := ⟨RX5, "settle", "()V"⟩
abbrev cX5_give : ByteArray := prog_7_method_19_code
def yX5_give : MethodName := ⟨RX5, "give", "(III)V"⟩
abbrev cX5_goOn : ByteArray := prog_7_method_20_code
def yX5_goOn : MethodName := ⟨RX5, "goOn", "()V"⟩
abbrev cX5_setList : ByteArray := prog_7_method_21_code
def yX5_setList : MethodName := ⟨RX5, "setList", "(I)V"⟩
abbrev cX5_later : ByteArray := prog_7_method_22_code
def yX5_later : MethodName := ⟨RX5, "later", "()Z"⟩
abbrev cX5_against : ByteArray := prog_7_method_23_code
def yX5_against : MethodName := ⟨RX5, "against", "(I)I"⟩
abbrev cX5_rankRow : ByteArray := prog_7_method_24_code
def yX5_rankRow : MethodName := ⟨RX5, "rankRow", "()I"⟩
abbrev cX5_loadListed : ByteArray := prog_7_method_25_code
def yX5_loadListed : MethodName := ⟨RX5, "loadListed", "(I)V"⟩
abbrev cX5_rankOf : ByteArray := prog_7_method_26_code
def yX5_rankOf : MethodName := ⟨RX5, "rankOf", "(I)I"⟩
abbrev cX5_many : ByteArray := prog_7_method_27_code
def yX5_many : MethodName := ⟨RX5, "many", "(I)I"⟩
abbrev cX5_rank : ByteArray := prog_7_method_28_code
def yX5_rank : MethodName := ⟨RX5, "rank", "(I)I"⟩
abbrev cX5_list : ByteArray := prog_7_method_29_code
def yX5_list : MethodName := ⟨RX5, "list", "(III)I"⟩
abbrev cX5_turn : ByteArray := prog_7_method_30_code
def yX5_turn : MethodName := ⟨RX5, "turn", "(I)I"⟩
abbrev cX5_setSteps : ByteArray := prog_7_method_31_code
def yX5_setSteps : MethodName := ⟨RX5, "setSteps", "(I)V"⟩
abbrev cX5_isRound : ByteArray := prog_7_method_32_code
def yX5_isRound : MethodName := ⟨RX5, "isRound", "(I)Z"⟩
abbrev cX5_stepped : ByteArray := prog_7_method_33_code
def yX5_stepped : MethodName := ⟨RX5, "stepped", "(I)I"⟩
abbrev cX5_kindOf : ByteArray := prog_7_method_34_code
def yX5_kindOf : MethodName := ⟨RX5, "kindOf", "(I)I"⟩
abbrev cX5_kind : ByteArray := prog_7_method_35_code
def yX5_kind : MethodName := ⟨RX5, "kind", "(I)I"⟩
abbrev cX5_mark : ByteArray := prog_7_method_36_code
def yX5_mark : MethodName := ⟨RX5, "mark", "(II)I"⟩
abbrev cX5_mean : ByteArray := prog_7_method_37_code
def yX5_mean : MethodName := ⟨RX5, "mean", "(I)I"⟩
abbrev cX5_step : ByteArray := prog_7_method_38_code
def yX5_step : MethodName := ⟨RX5, "step", "(II)I"⟩
abbrev cX5_tail : ByteArray := prog_7_method_39_code
def yX5_tail : MethodName := ⟨RX5, "tail", "(I)I"⟩
abbrev cX5_beat : ByteArray := prog_7_method_40_code
def yX5_beat : MethodName := ⟨RX5, "beat", "(I)I"⟩
abbrev cX5_leader : ByteArray := prog_7_method_41_code
def yX5_leader : MethodName := ⟨RX5, "leader", "(I)I"⟩
abbrev cX5_rounds : ByteArray := prog_7_method_42_code
def yX5_rounds : MethodName := ⟨RX5, "rounds", "(II)I"⟩
abbrev cX5_ring : ByteArray := prog_7_method_43_code
def yX5_ring : MethodName := ⟨RX5, "ring", "(II)I"⟩
abbrev cX5_from : ByteArray := prog_7_method_44_code
def yX5_from : MethodName := ⟨RX5, "from", "(I)I"⟩
abbrev cX5_fromAt : ByteArray := prog_7_method_45_code
def yX5_fromAt : MethodName := ⟨RX5, "fromAt", "(II)I"⟩
abbrev cX5_steps : ByteArray := prog_7_method_46_code
def yX5_steps : MethodName := ⟨RX5, "steps", "(II)I"⟩
abbrev cX5_choices : ByteArray := prog_7_method_47_code
def yX5_choices : MethodName := ⟨RX5, "choices", "(II)J"⟩
abbrev cX5_addWays : ByteArray := prog_7_method_48_code
def yX5_addWays : MethodName := ⟨RX5, "addWays", "(IJ)V"⟩
abbrev cX5_noWays : ByteArray := prog_7_method_49_code
def yX5_noWays : MethodName := ⟨RX5, "noWays", "()V"⟩
abbrev cX5_ways : ByteArray := prog_7_method_50_code
def yX5_ways : MethodName := ⟨RX5, "ways", "(II)I"⟩
abbrev cX5_reach : ByteArray := prog_7_method_51_code
def yX5_reach : MethodName := ⟨RX5, "reach", "(I)I"⟩
abbrev cX5_walks : ByteArray := prog_7_method_52_code
def yX5_walks : MethodName := ⟨RX5, "walks", "(III)I"⟩
abbrev cX5_asked : ByteArray := prog_7_method_53_code
def yX5_asked : MethodName := ⟨RX5, "asked", "()J"⟩
abbrev cX5_told : ByteArray := prog_7_method_54_code
def yX5_told : MethodName := ⟨RX5, "told", "(II)I"⟩
abbrev cX5_count : ByteArray := prog_7_method_55_code
def yX5_count : MethodName := ⟨RX5, "count", "(I)I"⟩
abbrev cX5_finding : ByteArray := prog_7_method_56_code
def yX5_finding : MethodName := ⟨RX5, "finding", "()I"⟩
abbrev cX5_findings : ByteArray := prog_7_method_57_code
def yX5_findings : MethodName := ⟨RX5, "findings", "(I)I"⟩
abbrev cX5_digest : ByteArray := prog_7_method_58_code
def yX5_digest : MethodName := ⟨RX5, "digest", "()J"⟩
def RJ9 : String := "java/lang/Math"
def TJ9 : u_T := fun k => match k with
  | _ => ("", "", "", false)
def tyJ9 : Nat → FieldType := fun k => match k with
  | _ => .int
abbrev wsJ90 : List Cond := u_ws RJ9 TJ9 0
theorem nmJ9 : ∀ a, a < 0 → ∀ b, b < 0 → a ≠ b → (TJ9 a).2.1 ≠ (TJ9 b).2.1 := by decide +kernel
theorem tyJ9_ok : ∀ k, k < 0 → parseFieldDescriptor (TJ9 k).2.2.1 = some (tyJ9 k) := by decide +kernel
abbrev cJ9_max_7cf53 : ByteArray := prog_9_method_65_code
def yJ9_max_7cf53 : MethodName := ⟨RJ9, "max", "(II)I"⟩
abbrev cJ9_min_7cf53 : ByteArray := prog_9_method_69_code
def yJ9_min_7cf53 : MethodName := ⟨RJ9, "min", "(II)I"⟩
def RJ7 : String := "java/util/Arrays"
def TJ7 : u_T := fun k => match k with
  | _ => ("", "", "", false)
def tyJ7 : Nat → FieldType := fun k => match k with
  | _ => .int
abbrev wsJ70 : List Cond := u_ws RJ7 TJ7 0
theorem nmJ7 : ∀ a, a < 0 → ∀ b, b < 0 → a ≠ b → (TJ7 a).2.1 ≠ (TJ7 b).2.1 := by decide +kernel
theorem tyJ7_ok : ∀ k, k < 0 → parseFieldDescriptor (TJ7 k).2.2.1 = some (tyJ7 k) := by decide +kernel
abbrev cJ7_fill_d0a16 : ByteArray := prog_10_method_101_code
def yJ7_fill_d0a16 : MethodName := ⟨RJ7, "fill", "([JJ)V"⟩
abbrev cJ7_fill_53178 : ByteArray := prog_10_method_103_code
def yJ7_fill_53178 : MethodName := ⟨RJ7, "fill", "([II)V"⟩
def RL : String := "GivingHeapsLaw"
abbrev cL_law : ByteArray := code
def yL_law : MethodName := ⟨RL, "law", "([I)Z"⟩
/-! the methods: name, code, locals, answer, rank, cells, slots -/
abbrev mM : Type := MethodName × ByteArray × Nat × Option FieldType × Nat × Nat × Nat
def MX0_init : mM := (yX0_init, cX0_init, 2, none, 1, 5, 1925)
def MX0_has : mM := (yX0_has, cX0_has, 2, some .boolean, 0, 0, 0)
def MX0_link : mM := (yX0_link, cX0_link, 3, none, 1, 0, 0)
def MX0_draw : mM := (yX0_draw, cX0_draw, 5, none, 2, 2, 770)
def MX0_peel : mM := (yX0_peel, cX0_peel, 6, some .int, 0, 0, 0)
def MX0_drawRing : mM := (yX0_drawRing, cX0_drawRing, 6, none, 1, 0, 0)
def MX0_drawTail : mM := (yX0_drawTail, cX0_drawTail, 3, none, 1, 0, 0)
def MX0_kindOf : mM := (yX0_kindOf, cX0_kindOf, 2, some .int, 1, 0, 0)
def MX0_tailOf : mM := (yX0_tailOf, cX0_tailOf, 2, some .int, 1, 0, 0)
def MX0_beatOf : mM := (yX0_beatOf, cX0_beatOf, 2, some .int, 1, 0, 0)
def MX0_leaderOf : mM := (yX0_leaderOf, cX0_leaderOf, 2, some .int, 1, 0, 0)
def MX0_comersTo : mM := (yX0_comersTo, cX0_comersTo, 2, some .int, 1, 0, 0)
def MX0_comerTo : mM := (yX0_comerTo, cX0_comerTo, 5, some .int, 0, 0, 0)
def MX0_leaderOfRing : mM := (yX0_leaderOfRing, cX0_leaderOfRing, 4, some .int, 0, 0, 0)
def MX0_after : mM := (yX0_after, cX0_after, 5, some .int, 1, 0, 0)
def MX0_stepsBetween : mM := (yX0_stepsBetween, cX0_stepsBetween, 5, some .int, 1, 0, 0)
def MX1_init : mM := (yX1_init, cX1_init, 4, none, 1, 1, 361)
def MX1_cappedAt : mM := (yX1_cappedAt, cX1_cappedAt, 3, some .int, 0, 0, 0)
def MX1_length : mM := (yX1_length, cX1_length, 2, some .int, 1, 0, 0)
def MX1_numberOf : mM := (yX1_numberOf, cX1_numberOf, 7, some .int, 1, 0, 0)
def MX1_write : mM := (yX1_write, cX1_write, 9, none, 2, 0, 0)
def MX2_init : mM := (yX2_init, cX2_init, 3, none, 2, 10, 1233)
def MX2_chosenAt : mM := (yX2_chosenAt, cX2_chosenAt, 3, some .int, 0, 0, 0)
def MX2_choicesBetween : mM := (yX2_choicesBetween, cX2_choicesBetween, 5, some .int, 2, 0, 0)
def MX2_choicesGiving : mM := (yX2_choicesGiving, cX2_choicesGiving, 8, some .int, 1, 0, 0)
def MX2_countReached : mM := (yX2_countReached, cX2_countReached, 5, some .int, 4, 0, 0)
def MX2_choicesOfSteps : mM := (yX2_choicesOfSteps, cX2_choicesOfSteps, 9, some .long, 5, 0, 0)
def MX2_spreadAll : mM := (yX2_spreadAll, cX2_spreadAll, 4, none, 4, 0, 0)
def MX2_spread : mM := (yX2_spread, cX2_spread, 7, none, 3, 0, 0)
def MX2_land : mM := (yX2_land, cX2_land, 11, none, 2, 0, 0)
def MX2_nextGift : mM := (yX2_nextGift, cX2_nextGift, 2, none, 0, 0, 0)
def MX3_init : mM := (yX3_init, cX3_init, 1, none, 1, 1, 18)
def MX3_clear : mM := (yX3_clear, cX3_clear, 1, none, 0, 0, 0)
def MX3_has : mM := (yX3_has, cX3_has, 2, some .boolean, 0, 0, 0)
def MX3_heapAt : mM := (yX3_heapAt, cX3_heapAt, 2, some .int, 0, 0, 0)
def MX3_hasRoomFor : mM := (yX3_hasRoomFor, cX3_hasRoomFor, 2, some .boolean, 0, 0, 0)
def MX3_put : mM := (yX3_put, cX3_put, 3, none, 1, 0, 0)
def MX3_putPart : mM := (yX3_putPart, cX3_putPart, 5, none, 2, 0, 0)
def MX3_drop : mM := (yX3_drop, cX3_drop, 4, some .int, 1, 0, 0)
def MX3_heapsFrom : mM := (yX3_heapsFrom, cX3_heapsFrom, 4, some .int, 0, 0, 0)
def MX3_unlikeHeaps : mM := (yX3_unlikeHeaps, cX3_unlikeHeaps, 3, some .int, 0, 0, 0)
def MX3_tallyInto : mM := (yX3_tallyInto, cX3_tallyInto, 4, none, 1, 0, 0)
def MX3_digestOnto : mM := (yX3_digestOnto, cX3_digestOnto, 6, some .long, 0, 0, 0)
def MX4_init : mM := (yX4_init, cX4_init, 2, none, 3, 45, 2003)
def MX4_parting : mM := (yX4_parting, cX4_parting, 3, some .int, 1, 0, 0)
def MX4_heap : mM := (yX4_heap, cX4_heap, 4, some .int, 2, 0, 0)
def MX4_at : mM := (yX4_at, cX4_at, 4, some .int, 2, 0, 0)
def MX4_take : mM := (yX4_take, cX4_take, 4, some .int, 2, 0, 0)
def MX4_tear : mM := (yX4_tear, cX4_tear, 2, some .int, 1, 0, 0)
def MX4_copy : mM := (yX4_copy, cX4_copy, 7, some .int, 3, 0, 0)
def MX4_rule : mM := (yX4_rule, cX4_rule, 3, some .int, 0, 0, 0)
def MX4_kind : mM := (yX4_kind, cX4_kind, 3, some .int, 6, 8, 2706)
def MX4_mark : mM := (yX4_mark, cX4_mark, 8, some .int, 6, 8, 2706)
def MX4_mean : mM := (yX4_mean, cX4_mean, 3, some .int, 2, 0, 0)
def MX4_many : mM := (yX4_many, cX4_many, 2, some .int, 2, 0, 0)
def MX4_rank : mM := (yX4_rank, cX4_rank, 3, some .int, 2, 0, 0)
def MX4_list : mM := (yX4_list, cX4_list, 4, some .int, 3, 0, 0)
def MX4_turn : mM := (yX4_turn, cX4_turn, 4, some .int, 3, 0, 0)
def MX4_step : mM := (yX4_step, cX4_step, 6, some .int, 6, 8, 2706)
def MX4_tail : mM := (yX4_tail, cX4_tail, 3, some .int, 6, 8, 2706)
def MX4_beat : mM := (yX4_beat, cX4_beat, 3, some .int, 6, 8, 2706)
def MX4_leader : mM := (yX4_leader, cX4_leader, 3, some .int, 6, 8, 2706)
def MX4_rounds : mM := (yX4_rounds, cX4_rounds, 3, some .int, 6, 8, 2706)
def MX4_ring : mM := (yX4_ring, cX4_ring, 3, some .int, 6, 8, 2706)
def MX4_from : mM := (yX4_from, cX4_from, 3, some .int, 6, 8, 2706)
def MX4_fromAt : mM := (yX4_fromAt, cX4_fromAt, 4, some .int, 6, 8, 2706)
def MX4_steps : mM := (yX4_steps, cX4_steps, 5, some .int, 6, 8, 2706)
def MX4_ways : mM := (yX4_ways, cX4_ways, 5, some .int, 3, 0, 0)
def MX4_reach : mM := (yX4_reach, cX4_reach, 3, some .int, 5, 0, 0)
def MX4_walks : mM := (yX4_walks, cX4_walks, 6, some .int, 6, 0, 0)
def MX4_asked : mM := (yX4_asked, cX4_asked, 1, some .long, 0, 0, 0)
def MX4_told : mM := (yX4_told, cX4_told, 4, some .int, 2, 0, 0)
def MX4_count : mM := (yX4_count, cX4_count, 2, some .int, 1, 0, 0)
def MX4_finding : mM := (yX4_finding, cX4_finding, 1, some .int, 0, 0, 0)
def MX4_findings : mM := (yX4_findings, cX4_findings, 2, some .int, 0, 0, 0)
def MX4_digest : mM := (yX4_digest, cX4_digest, 5, some .long, 2, 0, 0)
def MX4_isPlace : mM := (yX4_isPlace, cX4_isPlace, 1, some .boolean, 0, 0, 0)
def MX4_isCards : mM := (yX4_isCards, cX4_isCards, 1, some .boolean, 0, 0, 0)
def MX4_rowAt : mM := (yX4_rowAt, cX4_rowAt, 2, some (.object "GivingHeaps$Row"), 1, 0, 0)
def MX4_found : mM := (yX4_found, cX4_found, 2, some .int, 0, 0, 0)
def MX4_rowsThere : mM := (yX4_rowsThere, cX4_rowsThere, 3, some .int, 0, 0, 0)
def MX4_cardsInAll : mM := (yX4_cardsInAll, cX4_cardsInAll, 3, some .int, 0, 0, 0)
def MX4_chartOf : mM := (yX4_chartOf, cX4_chartOf, 5, some (.object "GivingHeaps$Chart"), 5, 8, 2706)
def MX4_stepInto : mM := (yX4_stepInto, cX4_stepInto, 3, none, 4, 0, 0)
def MX4_giveFromEach : mM := (yX4_giveFromEach, cX4_giveFromEach, 6, none, 2, 0, 0)
def MX4_giveFromGreatest : mM := (yX4_giveFromGreatest, cX4_giveFromGreatest, 2, none, 3, 0, 0)
def MX4_giveLeastAway : mM := (yX4_giveLeastAway, cX4_giveLeastAway, 6, none, 2, 0, 0)
def MX5_init : mM := (yX5_init, cX5_init, 2, none, 1, 17, 10336)
def MX5_in : mM := (yX5_in, cX5_in, 3, some .boolean, 0, 0, 0)
def MX5_meets : mM := (yX5_meets, cX5_meets, 2, some .int, 0, 0, 0)
def MX5_isParting : mM := (yX5_isParting, cX5_isParting, 1, some .boolean, 1, 0, 0)
def MX5_looked : mM := (yX5_looked, cX5_looked, 2, some .int, 2, 0, 0)
def MX5_cards : mM := (yX5_cards, cX5_cards, 4, some .int, 0, 0, 0)
def MX5_parting : mM := (yX5_parting, cX5_parting, 3, some .int, 2, 0, 0)
def MX5_put : mM := (yX5_put, cX5_put, 4, none, 0, 0, 0)
def MX5_heap : mM := (yX5_heap, cX5_heap, 4, some .int, 3, 0, 0)
def MX5_at : mM := (yX5_at, cX5_at, 4, some .int, 3, 0, 0)
def MX5_take : mM := (yX5_take, cX5_take, 6, some .int, 3, 0, 0)
def MX5_tear : mM := (yX5_tear, cX5_tear, 3, some .int, 3, 0, 0)
def MX5_copy : mM := (yX5_copy, cX5_copy, 7, some .int, 2, 0, 0)
def MX5_rule : mM := (yX5_rule, cX5_rule, 3, some .int, 1, 0, 0)
def MX5_load : mM := (yX5_load, cX5_load, 3, none, 0, 0, 0)
def MX5_keep : mM := (yX5_keep, cX5_keep, 3, none, 0, 0, 0)
def MX5_settle : mM := (yX5_settle, cX5_settle, 5, none, 0, 0, 0)
def MX5_give : mM := (yX5_give, cX5_give, 7, none, 0, 0, 0)
def MX5_goOn : mM := (yX5_goOn, cX5_goOn, 2, none, 1, 0, 0)
def MX5_setList : mM := (yX5_setList, cX5_setList, 4, none, 1, 0, 0)
def MX5_later : mM := (yX5_later, cX5_later, 3, some .boolean, 0, 0, 0)
def MX5_against : mM := (yX5_against, cX5_against, 3, some .int, 0, 0, 0)
def MX5_rankRow : mM := (yX5_rankRow, cX5_rankRow, 5, some .int, 1, 0, 0)
def MX5_loadListed : mM := (yX5_loadListed, cX5_loadListed, 3, none, 0, 0, 0)
def MX5_rankOf : mM := (yX5_rankOf, cX5_rankOf, 2, some .int, 2, 0, 0)
def MX5_many : mM := (yX5_many, cX5_many, 2, some .int, 2, 0, 0)
def MX5_rank : mM := (yX5_rank, cX5_rank, 3, some .int, 3, 0, 0)
def MX5_list : mM := (yX5_list, cX5_list, 4, some .int, 2, 0, 0)
def MX5_turn : mM := (yX5_turn, cX5_turn, 6, some .int, 3, 0, 0)
def MX5_setSteps : mM := (yX5_setSteps, cX5_setSteps, 7, none, 2, 0, 0)
def MX5_isRound : mM := (yX5_isRound, cX5_isRound, 4, some .boolean, 0, 0, 0)
def MX5_stepped : mM := (yX5_stepped, cX5_stepped, 3, some .int, 3, 0, 0)
def MX5_kindOf : mM := (yX5_kindOf, cX5_kindOf, 2, some .int, 0, 0, 0)
def MX5_kind : mM := (yX5_kind, cX5_kind, 3, some .int, 4, 0, 0)
def MX5_mark : mM := (yX5_mark, cX5_mark, 5, some .int, 4, 0, 0)
def MX5_mean : mM := (yX5_mean, cX5_mean, 3, some .int, 3, 0, 0)
def MX5_step : mM := (yX5_step, cX5_step, 5, some .int, 3, 0, 0)
def MX5_tail : mM := (yX5_tail, cX5_tail, 3, some .int, 4, 0, 0)
def MX5_beat : mM := (yX5_beat, cX5_beat, 3, some .int, 4, 0, 0)
def MX5_leader : mM := (yX5_leader, cX5_leader, 3, some .int, 4, 0, 0)
def MX5_rounds : mM := (yX5_rounds, cX5_rounds, 7, some .int, 3, 0, 0)
def MX5_ring : mM := (yX5_ring, cX5_ring, 5, some .int, 3, 0, 0)
def MX5_from : mM := (yX5_from, cX5_from, 3, some .int, 4, 0, 0)
def MX5_fromAt : mM := (yX5_fromAt, cX5_fromAt, 6, some .int, 4, 0, 0)
def MX5_steps : mM := (yX5_steps, cX5_steps, 6, some .int, 4, 0, 0)
def MX5_choices : mM := (yX5_choices, cX5_choices, 5, some .long, 0, 0, 0)
def MX5_addWays : mM := (yX5_addWays, cX5_addWays, 10, none, 2, 0, 0)
def MX5_noWays : mM := (yX5_noWays, cX5_noWays, 2, none, 0, 0, 0)
def MX5_ways : mM := (yX5_ways, cX5_ways, 3, some .int, 3, 0, 0)
def MX5_reach : mM := (yX5_reach, cX5_reach, 5, some .int, 3, 0, 0)
def MX5_walks : mM := (yX5_walks, cX5_walks, 6, some .int, 3, 0, 0)
def MX5_asked : mM := (yX5_asked, cX5_asked, 1, some .long, 0, 0, 0)
def MX5_told : mM := (yX5_told, cX5_told, 6, some .int, 3, 0, 0)
def MX5_count : mM := (yX5_count, cX5_count, 4, some .int, 1, 0, 0)
def MX5_finding : mM := (yX5_finding, cX5_finding, 1, some .int, 0, 0, 0)
def MX5_findings : mM := (yX5_findings, cX5_findings, 2, some .int, 1, 0, 0)
def MX5_digest : mM := (yX5_digest, cX5_digest, 5, some .long, 0, 0, 0)
def MJ7_fill_d0a16 : mM := (yJ7_fill_d0a16, cJ7_fill_d0a16, 5, none, 0, 0, 0)
def MJ7_fill_53178 : mM := (yJ7_fill_53178, cJ7_fill_53178, 4, none, 0, 0, 0)
def ML_law : mM := (yL_law, cL_law, 4, some .boolean, 9, 600000, 7302250)
end
section
/-! ===== the machine seen from above: addresses count from the law's entry, cells are told by what they hold ===== -/
abbrev mG : Type := Launch × Nat × (Nat → ClassId) × (Nat → Nat → Nat) × (FieldType → ClassId)
abbrev mE : Type := (FieldType × vp_A) ⊕ (Nat × List Value)
abbrev mH : Type := Nat × (Nat → mE)
abbrev mJ : Type := (Array Value → State → Prop) × (List Frame → Array Value → State → State → Prop)
/-- a value as the machine has it: references are moved by b; .retAddr a stands for the very address a -/
def m_sv (b : Nat) (v : Value) : Value := match v with
  | .ref a => .ref (b + a)
  | .int x => .int x
  | .long x => .long x
  | .float x => .float x
  | .double x => .double x
  | .null => .null
  | .retAddr x => .ref x
theorem m_sv_cat (b : Nat) (v : Value) : (m_sv b v).category = v.category := by cases v <;> rfl
def m_sA (b : Nat) (a : vp_A) : vp_A := match a.2 with
  | .inl f => (a.1, .inl f)
  | .inr (.inl f) => (a.1, .inr (.inl f))
  | .inr (.inr (.inl f)) => (a.1, .inr (.inr (.inl f)))
  | .inr (.inr (.inr (.inl f))) => (a.1, .inr (.inr (.inr (.inl f))))
  | .inr (.inr (.inr (.inr f))) => (a.1, .inr (.inr (.inr (.inr (fun j => (f j).map (fun q => b + q))))))
theorem m_sA_1 (b : Nat) (a : vp_A) : (m_sA b a).1 = a.1 := by
  obtain ⟨n, f | f | f | f | f⟩ := a <;> rfl
def m_sE (g : mG) (x : mE) : va_E := match x with
  | .inl a => .inl (g.2.2.2.2 a.1, m_sA g.2.1 a.2)
  | .inr o => .inr (o.1, o.2.map (m_sv g.2.1))
def m_W (g : mG) (h : mH) : va_W := (List.range h.1).map (fun k => (g.2.1 + k, m_sE g (h.2 k)))
def m_D (g : mG) : va_G := (g.2.2.1, g.2.2.2.1)
def m_cl : List vw_C := [(RX0, TX0, 11), (RX1, TX1, 1), (RX2, TX2, 8), (RX3, TX3, 3), (RX4, TX4, 11), (RX5, TX5, 24)]
def m_ty5 : List FieldType := [.int, .long, .boolean, .object RX3, .object RX0]
def m_tys (g : mG) : List (ClassId × FieldType) := m_ty5.map (fun ty => (g.2.2.2.2 ty, ty))
def m_A (g : mG) : Nat → Prop := fun q => g.2.1 ≤ q
def m_P (g : mG) (h : mH) (H : Heap) : Prop := va_P (m_D g) m_cl (m_W g h) H ∧ H.size = g.2.1 + h.1
/-! heaps -/
def hc (h : mH) (a : Nat) : Option mE := if a < h.1 then some (h.2 a) else none
def hs (h : mH) (a : Nat) (x : mE) : mH := (h.1, fun k => if k = a then x else h.2 k)
def hp (h : mH) (x : mE) : mH := (h.1 + 1, fun k => if k = h.1 then x else h.2 k)
theorem hc_lt {h : mH} {a : Nat} {x : mE} (e : hc h a = some x) : a < h.1 ∧ h.2 a = x := by
  unfold hc at e
  split at e
  · exact ⟨by assumption, Option.some.inj e⟩
  · cases e
theorem hc_hs {h : mH} {a : Nat} {x y : mE} (e : hc h a = some y) : hc (hs h a x) a = some x := by
  have := (hc_lt e).1
  simp [hc, hs, this]
theorem hc_hs_ne {h : mH} {a q : Nat} {x : mE} (n : q ≠ a) : hc (hs h a x) q = hc h q := by
  simp [hc, hs, n]
theorem hc_hp {h : mH} {x : mE} : hc (hp h x) h.1 = some x := by simp [hc, hp]
theorem hc_hp_ne {h : mH} {q : Nat} {x : mE} (n : q ≠ h.1) : hc (hp h x) q = hc h q := by
  unfold hc hp
  by_cases c : q < h.1
  · simp [c, n, Nat.lt_succ_of_lt c]
  · have c2 : ¬ q < h.1 + 1 := by omega
    simp [c, c2]
theorem hs_1 (h : mH) (a : Nat) (x : mE) : (hs h a x).1 = h.1 := rfl
theorem hp_1 (h : mH) (x : mE) : (hp h x).1 = h.1 + 1 := rfl
theorem hs_hs (h : mH) (a : Nat) (x y : mE) : hs (hs h a x) a y = hs h a y := by
  unfold hs
  congr 1
  funext k
  by_cases c : k = a <;> simp [c]
theorem hs_comm (h : mH) {a b : Nat} (x y : mE) (n : a ≠ b) : hs (hs h a x) b y = hs (hs h b y) a x := by
  unfold hs
  congr 1
  funext k
  by_cases c : k = a
  · subst c; simp [n]
  · by_cases d : k = b
    · subst d; simp [c]
    · simp [c, d]
theorem hs_id {h : mH} {a : Nat} {x : mE} (e : hc h a = some x) : hs h a x = h := by
  obtain ⟨-, e2⟩ := hc_lt e
  unfold hs
  congr 1
  funext k
  by_cases c : k = a
  · subst c; simp [e2]
  · simp [c]
theorem m_W_get {g : mG} {h : mH} {k : Nat} {x : mE} (e : hc h k = some x) : (m_W g h)[k]? = some (g.2.1 + k, m_sE g x) := by
  obtain ⟨e1, e2⟩ := hc_lt e
  subst e2
  simp [m_W, e1]
theorem m_W_hs (g : mG) (h : mH) (a : Nat) (x : mE) : (m_W g h).set a (g.2.1 + a, m_sE g x) = m_W g (hs h a x) := by
  apply List.ext_getElem?
  intro k
  by_cases c : k = a
  · subst c
    by_cases d : k < h.1 <;> simp [m_W, hs, d]
  · rw [List.getElem?_set_ne (fun q => c q.symm)]
    by_cases d : k < h.1 <;> simp [m_W, hs, d, c]
theorem m_W_hp (g : mG) (h : mH) (x : mE) : m_W g (hp h x) = m_W g h ++ [(g.2.1 + h.1, m_sE g x)] := by
  unfold m_W hp
  rw [List.range_succ, List.map_append]
  congr 1
  · apply List.map_congr_left
    intro k hk
    have := List.mem_range.mp hk
    have n : k ≠ h.1 := by omega
    simp [n]
  · simp
theorem m_W_D (g : mG) (h : mH) : va_D (m_A g) (m_W g h) := by
  have key : ∀ (k : Nat) (q : Nat × va_E), (m_W g h)[k]? = some q → q.1 = g.2.1 + k := by
    intro k q hk
    by_cases d : k < h.1
    · simp [m_W, d] at hk
      rw [← hk]
    · simp [m_W, d] at hk
  refine ⟨fun i j p q hi hj e => ?_, fun k q hk => ?_⟩
  · have a1 := key i p hi
    have a2 := key j q hj
    omega
  · show g.2.1 ≤ q.1
    rw [key k q hk]
    omega
/-! locals: what stands at each place; none: nothing is known -/
def m_at : List (Option Value) → Nat → Option Value
  | [], _ => none
  | a :: _, 0 => a
  | _ :: t, n + 1 => m_at t n
def m_c2 : Option Value → Bool
  | some v => v.category == 2
  | none => false
def m_st : List (Option Value) → Nat → Value → List (Option Value)
  | [], _, _ => []
  | _ :: t, 0, v => some v :: t
  | a :: t, 1, v => (if m_c2 a then none else a) :: m_st t 0 v
  | a :: t, n + 2, v => a :: m_st t (n + 1) v
def m_no : List (Option Value) → Nat → List (Option Value)
  | [], _ => []
  | _ :: t, 0 => none :: t
  | a :: t, n + 1 => a :: m_no t n
def m_L (b : Nat) (ls : Array Slot) (n : Nat) (L : List (Option Value)) : Prop := ls.size = n ∧ lv_wf ls ∧ ∀ i v, m_at L i = some v → ls[i]? = some (.val (m_sv b v))
theorem m_at_0 {L : List (Option Value)} {i : Nat} (h : L = []) : m_at L i = none := by subst h; rfl
theorem m_st_at : ∀ (L : List (Option Value)) (i : Nat) (v : Value) (j : Nat) (w : Value), m_at (m_st L i v) j = some w → (j = i ∧ w = v) ∨ (j ≠ i ∧ m_at L j = some w ∧ ¬ (j + 1 = i ∧ w.category = 2))
  | [], i, v, j, w, h => by cases h
  | a :: t, 0, v, j, w, h => by
    cases j with
    | zero => exact Or.inl ⟨rfl, (Option.some.inj h).symm⟩
    | succ j => exact Or.inr ⟨by omega, h, by omega⟩
  | a :: t, 1, v, j, w, h => by
    cases j with
    | zero =>
      simp only [m_st, m_at] at h
      by_cases c : m_c2 a = true
      · rw [if_pos c] at h; cases h
      · rw [if_neg c] at h
        refine Or.inr ⟨by omega, h, fun q => c ?_⟩
        rw [h]
        simp [m_c2, q.2]
    | succ j =>
      simp only [m_st, m_at] at h
      rcases m_st_at t 0 v j w h with ⟨rfl, e⟩ | ⟨e1, e2, e3⟩
      · exact Or.inl ⟨rfl, e⟩
      · exact Or.inr ⟨by omega, e2, by omega⟩
  | a :: t, n + 2, v, j, w, h => by
    cases j with
    | zero =>
      simp only [m_st, m_at] at h
      exact Or.inr ⟨by omega, h, by omega⟩
    | succ j =>
      simp only [m_st, m_at] at h
      rcases m_st_at t (n + 1) v j w h with ⟨e0, e⟩ | ⟨e1, e2, e3⟩
      · exact Or.inl ⟨by omega, e⟩
      · exact Or.inr ⟨by omega, e2, fun q => e3 ⟨by omega, q.2⟩⟩
theorem m_no_at : ∀ (L : List (Option Value)) (i j : Nat) (w : Value), m_at (m_no L i) j = some w → j ≠ i ∧ m_at L j = some w
  | [], i, j, w, h => by cases h
  | a :: t, 0, j, w, h => by
    cases j with
    | zero => cases h
    | succ j => exact ⟨by omega, h⟩
  | a :: t, n + 1, j, w, h => by
    cases j with
    | zero => exact ⟨by omega, h⟩
    | succ j =>
      obtain ⟨e1, e2⟩ := m_no_at t n j w h
      exact ⟨by omega, e2⟩
def m_al (b : Nat) : Nat → List (Option Value) → List (Nat × Value)
  | _, [] => []
  | i, none :: t => m_al b (i + 1) t
  | i, some v :: t => (i, m_sv b v) :: m_al b (i + 1) t
theorem m_al_mem (b : Nat) : ∀ (L : List (Option Value)) (i0 j : Nat) (v : Value), m_at L j = some v → (i0 + j, m_sv b v) ∈ m_al b i0 L
  | [], i0, j, v, h => by cases h
  | none :: t, i0, j, v, h => by
    cases j with
    | zero => cases h
    | succ j =>
      have := m_al_mem b t (i0 + 1) j v h
      rw [show i0 + (j + 1) = i0 + 1 + j by omega]
      exact this
  | some a :: t, i0, j, v, h => by
    cases j with
    | zero => cases h; exact List.mem_cons_self
    | succ j =>
      have := m_al_mem b t (i0 + 1) j v h
      rw [show i0 + (j + 1) = i0 + 1 + j by omega]
      exact List.mem_cons_of_mem _ this
theorem m_al_of (b : Nat) : ∀ (L : List (Option Value)) (i0 : Nat) (q : Nat × Value), q ∈ m_al b i0 L → ∃ j v, q = (i0 + j, m_sv b v) ∧ m_at L j = some v
  | [], i0, q, h => by cases h
  | none :: t, i0, q, h => by
    obtain ⟨j, v, e1, e2⟩ := m_al_of b t (i0 + 1) q h
    exact ⟨j + 1, v, by rw [e1]; congr 1; omega, e2⟩
  | some a :: t, i0, q, h => by
    rcases List.mem_cons.mp h with rfl | h
    · exact ⟨0, a, rfl, rfl⟩
    · obtain ⟨j, v, e1, e2⟩ := m_al_of b t (i0 + 1) q h
      exact ⟨j + 1, v, by rw [e1]; congr 1; omega, e2⟩
theorem m_L.has {b : Nat} {ls : Array Slot} {n : Nat} {L : List (Option Value)} (h : m_L b ls n L) : lv_has ls n (m_al b 0 L) := by
  refine ⟨h.1, h.2.1, fun q hq => ?_⟩
  obtain ⟨j, v, e1, e2⟩ := m_al_of b L 0 q hq
  subst e1
  rw [Nat.zero_add]
  exact h.2.2 j v e2
theorem m_L.st {b : Nat} {ls : Array Slot} {n i : Nat} {L : List (Option Value)} {v : Value} (h : lv_has ls n ((i, m_sv b v) :: (m_al b 0 L).filter (fun q => !(q.1 == i) && !(q.1 + 1 == i && q.2.category == 2)))) : m_L b ls n (m_st L i v) := by
  refine ⟨h.1, h.2.1, fun j w hj => ?_⟩
  rcases m_st_at L i v j w hj with ⟨rfl, rfl⟩ | ⟨e1, e2, e3⟩
  · exact h.2.2 _ List.mem_cons_self
  · refine h.2.2 (j, m_sv b w) (List.mem_cons_of_mem _ (List.mem_filter.mpr ⟨?_, ?_⟩))
    · have := m_al_mem b L 0 j w e2
      rwa [Nat.zero_add] at this
    · rw [m_sv_cat]
      simp only [Bool.and_eq_true, Bool.not_eq_true', beq_eq_false_iff_ne, ne_eq, Bool.and_eq_false_iff]
      refine ⟨e1, ?_⟩
      by_cases c : j + 1 = i
      · exact Or.inr fun q => e3 ⟨c, q⟩
      · exact Or.inl c
theorem m_L.st2 {b : Nat} {ls : Array Slot} {n i : Nat} {L : List (Option Value)} {v : Value} (h : lv_has ls n ((i, m_sv b v) :: (m_al b 0 L).filter (fun q => !(q.1 == i) && (!(q.1 == i + 1) && !(q.1 + 1 == i && q.2.category == 2))))) : m_L b ls n (m_no (m_st L i v) (i + 1)) := by
  refine ⟨h.1, h.2.1, fun j w hj0 => ?_⟩
  obtain ⟨hn, hj⟩ := m_no_at _ _ _ _ hj0
  rcases m_st_at L i v j w hj with ⟨rfl, rfl⟩ | ⟨e1, e2, e3⟩
  · exact h.2.2 _ List.mem_cons_self
  · refine h.2.2 (j, m_sv b w) (List.mem_cons_of_mem _ (List.mem_filter.mpr ⟨?_, ?_⟩))
    · have := m_al_mem b L 0 j w e2
      rwa [Nat.zero_add] at this
    · rw [m_sv_cat]
      simp only [Bool.and_eq_true, Bool.not_eq_true', beq_eq_false_iff_ne, ne_eq, Bool.and_eq_false_iff]
      refine ⟨e1, hn, ?_⟩
      by_cases c : j + 1 = i
      · exact Or.inr fun q => e3 ⟨c, q⟩
      · exact Or.inl c
/-! the judgement -/
/-- the tables' words that hold wherever a method may begin, and the others that are wanted -/
def m_tb : List Cond := lw_tbl.filter goodWord
theorem m_tb_of {w : Cond} (i : Nat) (h : lw_tbl[i]? = some w) (hg : goodWord w = true) : w ∈ m_tb := List.mem_filter.mpr ⟨List.mem_of_getElem? h, hg⟩
def m_X (U : State) : Prop := va_AO RX3 U ∧ va_AO RX0 U ∧ va_Nw (.methodLinkNest RX2 26 yX3_init RX4) U ∧ va_Nw (.methodLinkNest RX4 43 yX3_init RX4) U ∧ va_Nw (.castable "[I" "java/lang/Cloneable") U
theorem m_X.warm {s U : State} (hW : s.WarmedH U.vm) (h : m_X s) : m_X U := ⟨h.1.moved hW.alike, h.2.1.moved hW.alike, va_Nw.warmM hW h.2.2.1, va_Nw.warmM hW h.2.2.2.1, va_Nw.warmC hW h.2.2.2.2⟩
theorem m_X.same {s U : State} (e : s.vm = U.vm) (h : m_X s) : m_X U := ⟨h.1.moved (e ▸ Vm.Alike.refl s.vm), h.2.1.moved (e ▸ Vm.Alike.refl s.vm), va_Nw.same rfl e h.2.2.1, va_Nw.same rfl e h.2.2.2.1, va_Nw.same rfl e h.2.2.2.2⟩
def m_R (M : mM) : Room := { frames := M.2.2.2.2.1, cells := M.2.2.2.2.2.1, slots := M.2.2.2.2.2.2, locals := 40 * M.2.2.2.2.1 }
def m_Fx (g : mG) (M : mM) (p : Program) (R : Room) (s : State) (m : MethodId) (args : Array Value) (meth : Method) (c : Code) : Prop :=
  p.tables.exec = Jvm.exec ∧ c.code = M.2.1 ∧ c.maxLocals = M.2.2.1 ∧ meth.sig.returnType = M.2.2.2.1 ∧ meth.locks = false ∧ s.vm.findClass M.1.cls = some m.cls ∧ (∀ w ∈ m_tb, w.before args s = true) ∧ (M.1.name = "<init>" → meth.name = "<init>") ∧ R = m_R M ∧ va_K (m_D g) m_cl (m_tys g) s ∧ g.2.1 ≤ s.heap.size ∧ m_X s
/-- from here the method M goes to its end: J's -/
def Ok (g : mG) (M : mM) (J : mJ) (pc : Nat) (L : List (Option Value)) (st : List Value) (h : mH) (uc us : Nat) : Prop :=
  ∀ (p : Program) (e : Env) (R : Room) (s : State) (m : MethodId) (args : Array Value) (below : List Frame) (meth : Method) (c : Code), m_Fx g M p R s m args meth c → J.1 args s →
  ∀ (ls : Array Slot) (H : Heap) (locs : List Loc), m_L g.2.1 ls M.2.2.1 L → m_P g h H → va_S (m_A g) s.heap H locs →
  W p g.1 e R s m args below meth c H locs uc us (J.2 below args s) (F0 m pc ls (st.map (m_sv g.2.1)))
def m_Q (g : mG) (Q : Option Value → mH → Prop) : Array Value → State → Outcome → State → Prop := fun _ st o t =>
  ∃ (v : Option Value) (h' : mH), o = .returned (v.map (m_sv g.2.1)) ∧ Q v h' ∧ m_P g h' t.heap ∧ va_F (m_A g) st t
def m_J (g : mG) (M : mM) (Q : Option Value → mH → Prop) : mJ := (fun _ _ => True, fun below args s => MQ below (m_Q g Q) args s M.2.2.2.2.2.1 M.2.2.2.2.2.2 (m_A g))
section MACH
variable {g : mG} {M : mM} {J : mJ} {pc : Nat} {L L' : List (Option Value)} {st : List Value} {h : mH} {uc us : Nat}
/-! constants, locals -/
theorem ok_iconst {n : Int} {v : Int32} (hd : decode M.2.1 pc = .ok (.iconst n, 1)) (hv : Int32.ofInt n = v) (k : Ok g M J (pc + 1) L (.int v :: st) h uc us) : Ok g M J pc L st h uc us := by
  intro p e R s m args below meth c F C ls H locs hl hP hS
  exact lv_iconst F.1 F.2.1 hd hv (k p e R s m args below meth c F C ls H locs hl hP hS)
theorem ok_bipush {n : Int} {v : Int32} (hd : decode M.2.1 pc = .ok (.bipush n, 2)) (hv : (Int8.ofInt n).toInt32 = v) (k : Ok g M J (pc + 2) L (.int v :: st) h uc us) : Ok g M J pc L st h uc us := by
  intro p e R s m args below meth c F C ls H locs hl hP hS
  exact lv_bipush F.1 F.2.1 hd hv (k p e R s m args below meth c F C ls H locs hl hP hS)
theorem ok_sipush {n : Int} {v : Int32} (hd : decode M.2.1 pc = .ok (.sipush n, 3)) (hv : (Int16.ofInt n).toInt32 = v) (k : Ok g M J (pc + 3) L (.int v :: st) h uc us) : Ok g M J pc L st h uc us := by
  intro p e R s m args below meth c F C ls H locs hl hP hS
  exact lv_sipush F.1 F.2.1 hd hv (k p e R s m args below meth c F C ls H locs hl hP hS)
theorem ok_lconst {n : Fin 2} {v : Int64} (hd : decode M.2.1 pc = .ok (.lconst n, 1)) (hv : Int64.ofNat (n : Nat) = v) (k : Ok g M J (pc + 1) L (.long v :: st) h uc us) : Ok g M J pc L st h uc us := by
  intro p e R s m args below meth c F C ls H locs hl hP hS
  exact lv_lconst F.1 F.2.1 hd hv (k p e R s m args below meth c F C ls H locs hl hP hS)
theorem ok_null (hd : decode M.2.1 pc = .ok (.aconst_null, 1)) (k : Ok g M J (pc + 1) L (.null :: st) h uc us) : Ok g M J pc L st h uc us := by
  intro p e R s m args below meth c F C ls H locs hl hP hS
  exact lv_null F.1 F.2.1 hd (k p e R s m args below meth c F C ls H locs hl hP hS)
theorem ok_ldc2 {idx : Nat} {v : Int64} (hd : decode M.2.1 pc = .ok (.ldc2_w idx, 3)) (hw : Cond.constantLong M.1.cls idx v ∈ m_tb) (k : Ok g M J (pc + 3) L (.long v :: st) h uc us) : Ok g M J pc L st h uc us := by
  intro p e R s m args below meth c F C ls H locs hl hP hS
  exact lv_ldc2 F.1 F.2.1 F.2.2.2.2.2.1 (F.2.2.2.2.2.2.1 _ hw) hd (k p e R s m args below meth c F C ls H locs hl hP hS)
theorem ok_iload {i : Nat} {x : Int32} (hd : decode M.2.1 pc = .ok (.iload i, 2)) (hv : m_at L i = some (.int x)) (k : Ok g M J (pc + 2) L (.int x :: st) h uc us) : Ok g M J pc L st h uc us := by
  intro p e R s m args below meth c F C ls H locs hl hP hS
  exact lv_iload F.1 F.2.1 hd (hl.2.2 i _ hv) (k p e R s m args below meth c F C ls H locs hl hP hS)
theorem ok_iload_n {i : Fin 4} {x : Int32} (hd : decode M.2.1 pc = .ok (.iload_n i, 1)) (hv : m_at L i.val = some (.int x)) (k : Ok g M J (pc + 1) L (.int x :: st) h uc us) : Ok g M J pc L st h uc us := by
  intro p e R s m args below meth c F C ls H locs hl hP hS
  exact lv_iload_n F.1 F.2.1 hd rfl (hl.2.2 i.val _ hv) (k p e R s m args below meth c F C ls H locs hl hP hS)
theorem ok_lload {i : Nat} {x : Int64} (hd : decode M.2.1 pc = .ok (.lload i, 2)) (hv : m_at L i = some (.long x)) (k : Ok g M J (pc + 2) L (.long x :: st) h uc us) : Ok g M J pc L st h uc us := by
  intro p e R s m args below meth c F C ls H locs hl hP hS
  exact lv_lload F.1 F.2.1 hd (hl.2.2 i _ hv) (k p e R s m args below meth c F C ls H locs hl hP hS)
theorem ok_lload_n {i : Fin 4} {x : Int64} (hd : decode M.2.1 pc = .ok (.lload_n i, 1)) (hv : m_at L i.val = some (.long x)) (k : Ok g M J (pc + 1) L (.long x :: st) h uc us) : Ok g M J pc L st h uc us := by
  intro p e R s m args below meth c F C ls H locs hl hP hS
  exact lv_lload_n F.1 F.2.1 hd rfl (hl.2.2 i.val _ hv) (k p e R s m args below meth c F C ls H locs hl hP hS)
def m_isA : Value → Bool
  | .ref _ => true
  | .null => true
  | .retAddr _ => true
  | _ => false
theorem ok_aload {i : Nat} {v : Value} (hd : decode M.2.1 pc = .ok (.aload i, 2)) (hv : m_at L i = some v) (ha : m_isA v = true) (k : Ok g M J (pc + 2) L (v :: st) h uc us) : Ok g M J pc L st h uc us := by
  intro p e R s m args below meth c F C ls H locs hl hP hS
  have k' := k p e R s m args below meth c F C ls H locs hl hP hS
  have hv' := hl.2.2 i _ hv
  cases v with
  | ref a => exact lv_aload F.1 F.2.1 hd hv' k'
  | null => exact lv_aloadN F.1 F.2.1 hd hv' k'
  | retAddr a => exact lv_aload F.1 F.2.1 hd hv' k'
  | int x => cases ha
  | long x => cases ha
  | float x => cases ha
  | double x => cases ha
theorem ok_aload_n {i : Fin 4} {v : Value} (hd : decode M.2.1 pc = .ok (.aload_n i, 1)) (hv : m_at L i.val = some v) (ha : m_isA v = true) (k : Ok g M J (pc + 1) L (v :: st) h uc us) : Ok g M J pc L st h uc us := by
  intro p e R s m args below meth c F C ls H locs hl hP hS
  have k' := k p e R s m args below meth c F C ls H locs hl hP hS
  have hv' := hl.2.2 i.val _ hv
  cases v with
  | ref a => exact lv_aload_n F.1 F.2.1 hd rfl hv' k'
  | null => exact lv_aload_nN F.1 F.2.1 hd rfl hv' k'
  | retAddr a => exact lv_aload_n F.1 F.2.1 hd rfl hv' k'
  | int x => cases ha
  | long x => cases ha
  | float x => cases ha
  | double x => cases ha
theorem ok_istore {i : Nat} {x : Int32} (hd : decode M.2.1 pc = .ok (.istore i, 2)) (hL : m_st L i (.int x) = L') (hi : i < M.2.2.1) (k : Ok g M J (pc + 2) L' st h uc us) : Ok g M J pc L (.int x :: st) h uc us := by
  intro p e R s m args below meth c F C ls H locs hl hP hS
  subst hL
  exact lv_istore F.1 F.2.1 hd hl.has hi rfl (fun ls' hl' => k p e R s m args below meth c F C ls' H locs (m_L.st (v := .int x) hl') hP hS)
theorem ok_istore_n {i : Fin 4} {x : Int32} (hd : decode M.2.1 pc = .ok (.istore_n i, 1)) (hL : m_st L i.val (.int x) = L') (hi : i.val < M.2.2.1) (k : Ok g M J (pc + 1) L' st h uc us) : Ok g M J pc L (.int x :: st) h uc us := by
  intro p e R s m args below meth c F C ls H locs hl hP hS
  subst hL
  exact lv_istore_n F.1 F.2.1 hd rfl hl.has hi rfl (fun ls' hl' => k p e R s m args below meth c F C ls' H locs (m_L.st (v := .int x) hl') hP hS)
theorem ok_lstore {i : Nat} {x : Int64} (hd : decode M.2.1 pc = .ok (.lstore i, 2)) (hL : m_no (m_st L i (.long x)) (i + 1) = L') (hi : i + 1 < M.2.2.1) (k : Ok g M J (pc + 2) L' st h uc us) : Ok g M J pc L (.long x :: st) h uc us := by
  intro p e R s m args below meth c F C ls H locs hl hP hS
  subst hL
  exact lv_lstore F.1 F.2.1 hd hl.has hi rfl (fun ls' hl' => k p e R s m args below meth c F C ls' H locs (m_L.st2 (v := .long x) hl') hP hS)
theorem ok_lstore_n {i : Fin 4} {x : Int64} (hd : decode M.2.1 pc = .ok (.lstore_n i, 1)) (hL : m_no (m_st L i.val (.long x)) (i.val + 1) = L') (hi : i.val + 1 < M.2.2.1) (k : Ok g M J (pc + 1) L' st h uc us) : Ok g M J pc L (.long x :: st) h uc us := by
  intro p e R s m args below meth c F C ls H locs hl hP hS
  subst hL
  exact lv_lstore_n F.1 F.2.1 hd rfl hl.has hi rfl (fun ls' hl' => k p e R s m args below meth c F C ls' H locs (m_L.st2 (v := .long x) hl') hP hS)
theorem ok_astore {i : Nat} {v : Value} (hd : decode M.2.1 pc = .ok (.astore i, 2)) (hL : m_st L i v = L') (hi : i < M.2.2.1) (ha : m_isA v = true) (k : Ok g M J (pc + 2) L' st h uc us) : Ok g M J pc L (v :: st) h uc us := by
  intro p e R s m args below meth c F C ls H locs hl hP hS
  subst hL
  cases v with
  | ref a => exact lv_astore F.1 F.2.1 hd hl.has hi rfl (fun ls' hl' => k p e R s m args below meth c F C ls' H locs (m_L.st (v := .ref a) hl') hP hS)
  | null => exact lv_astoreN F.1 F.2.1 hd hl.has hi rfl (fun ls' hl' => k p e R s m args below meth c F C ls' H locs (m_L.st (v := .null) hl') hP hS)
  | retAddr a => exact lv_astore F.1 F.2.1 hd hl.has hi rfl (fun ls' hl' => k p e R s m args below meth c F C ls' H locs (m_L.st (v := .retAddr a) hl') hP hS)
  | int x => cases ha
  | long x => cases ha
  | float x => cases ha
  | double x => cases ha
theorem ok_astore_n {i : Fin 4} {v : Value} (hd : decode M.2.1 pc = .ok (.astore_n i, 1)) (hL : m_st L i.val v = L') (hi : i.val < M.2.2.1) (ha : m_isA v = true) (k : Ok g M J (pc + 1) L' st h uc us) : Ok g M J pc L (v :: st) h uc us := by
  intro p e R s m args below meth c F C ls H locs hl hP hS
  subst hL
  cases v with
  | ref a => exact lv_astore_n F.1 F.2.1 hd rfl hl.has hi rfl (fun ls' hl' => k p e R s m args below meth c F C ls' H locs (m_L.st (v := .ref a) hl') hP hS)
  | null => exact lv_astore_nN F.1 F.2.1 hd rfl hl.has hi rfl (fun ls' hl' => k p e R s m args below meth c F C ls' H locs (m_L.st (v := .null) hl') hP hS)
  | retAddr a => exact lv_astore_n F.1 F.2.1 hd rfl hl.has hi rfl (fun ls' hl' => k p e R s m args below meth c F C ls' H locs (m_L.st (v := .retAddr a) hl') hP hS)
  | int x => cases ha
  | long x => cases ha
  | float x => cases ha
  | double x => cases ha
theorem ok_iinc {i : Nat} {n : Int} {x v : Int32} (hd : decode M.2.1 pc = .ok (.iinc i n, 3)) (hx : m_at L i = some (.int x)) (hv : x + Int32.ofInt n = v) (hL : m_st L i (.int v) = L') (hi : i < M.2.2.1) (k : Ok g M J (pc + 3) L' st h uc us) : Ok g M J pc L st h uc us := by
  intro p e R s m args below meth c F C ls H locs hl hP hS
  subst hL
  obtain ⟨q, hq⟩ := List.getElem?_of_mem (m_al_mem g.2.1 L 0 i _ hx)
  rw [Nat.zero_add] at hq
  exact lv_iinc F.1 F.2.1 hd hl.has hq hv hi rfl (fun ls' hl' => k p e R s m args below meth c F C ls' H locs (m_L.st (v := .int v) hl') hP hS)
/-! arithmetic -/
theorem ok_iadd {x y : Int32} (hd : decode M.2.1 pc = .ok (.iadd, 1)) (k : Ok g M J (pc + 1) L (.int (x + y) :: st) h uc us) : Ok g M J pc L (.int y :: .int x :: st) h uc us := by
  intro p e R s m args below meth c F C ls H locs hl hP hS
  exact lv_iadd F.1 F.2.1 hd (k p e R s m args below meth c F C ls H locs hl hP hS)
theorem ok_isub {x y : Int32} (hd : decode M.2.1 pc = .ok (.isub, 1)) (k : Ok g M J (pc + 1) L (.int (x - y) :: st) h uc us) : Ok g M J pc L (.int y :: .int x :: st) h uc us := by
  intro p e R s m args below meth c F C ls H locs hl hP hS
  exact lv_isub F.1 F.2.1 hd (k p e R s m args below meth c F C ls H locs hl hP hS)
theorem ok_imul {x y : Int32} (hd : decode M.2.1 pc = .ok (.imul, 1)) (k : Ok g M J (pc + 1) L (.int (x * y) :: st) h uc us) : Ok g M J pc L (.int y :: .int x :: st) h uc us := by
  intro p e R s m args below meth c F C ls H locs hl hP hS
  exact lv_imul F.1 F.2.1 hd (k p e R s m args below meth c F C ls H locs hl hP hS)
theorem ok_iand {x y : Int32} (hd : decode M.2.1 pc = .ok (.iand, 1)) (k : Ok g M J (pc + 1) L (.int (x &&& y) :: st) h uc us) : Ok g M J pc L (.int y :: .int x :: st) h uc us := by
  intro p e R s m args below meth c F C ls H locs hl hP hS
  exact lv_iand F.1 F.2.1 hd (k p e R s m args below meth c F C ls H locs hl hP hS)
theorem ok_idiv {x y : Int32} (hd : decode M.2.1 pc = .ok (.idiv, 1)) (hne : ¬ y = 0) (k : Ok g M J (pc + 1) L (.int (x / y) :: st) h uc us) : Ok g M J pc L (.int y :: .int x :: st) h uc us := by
  intro p e R s m args below meth c F C ls H locs hl hP hS
  exact lv_idiv F.1 F.2.1 hd hne (k p e R s m args below meth c F C ls H locs hl hP hS)
theorem ok_ladd {x y : Int64} (hd : decode M.2.1 pc = .ok (.ladd, 1)) (k : Ok g M J (pc + 1) L (.long (x + y) :: st) h uc us) : Ok g M J pc L (.long y :: .long x :: st) h uc us := by
  intro p e R s m args below meth c F C ls H locs hl hP hS
  exact lv_ladd F.1 F.2.1 hd (k p e R s m args below meth c F C ls H locs hl hP hS)
theorem ok_lsub {x y : Int64} (hd : decode M.2.1 pc = .ok (.lsub, 1)) (k : Ok g M J (pc + 1) L (.long (x - y) :: st) h uc us) : Ok g M J pc L (.long y :: .long x :: st) h uc us := by
  intro p e R s m args below meth c F C ls H locs hl hP hS
  exact lv_lsub F.1 F.2.1 hd (k p e R s m args below meth c F C ls H locs hl hP hS)
theorem ok_lmul {x y : Int64} (hd : decode M.2.1 pc = .ok (.lmul, 1)) (k : Ok g M J (pc + 1) L (.long (x * y) :: st) h uc us) : Ok g M J pc L (.long y :: .long x :: st) h uc us := by
  intro p e R s m args below meth c F C ls H locs hl hP hS
  exact lv_lmul F.1 F.2.1 hd (k p e R s m args below meth c F C ls H locs hl hP hS)
theorem ok_ldiv {x y : Int64} (hd : decode M.2.1 pc = .ok (.ldiv, 1)) (hne : ¬ y = 0) (k : Ok g M J (pc + 1) L (.long (x / y) :: st) h uc us) : Ok g M J pc L (.long y :: .long x :: st) h uc us := by
  intro p e R s m args below meth c F C ls H locs hl hP hS
  exact lv_ldiv F.1 F.2.1 hd hne (k p e R s m args below meth c F C ls H locs hl hP hS)
theorem ok_i2l {x : Int32} (hd : decode M.2.1 pc = .ok (.i2l, 1)) (k : Ok g M J (pc + 1) L (.long x.toInt64 :: st) h uc us) : Ok g M J pc L (.int x :: st) h uc us := by
  intro p e R s m args below meth c F C ls H locs hl hP hS
  exact lv_i2l F.1 F.2.1 hd rfl (k p e R s m args below meth c F C ls H locs hl hP hS)
theorem ok_l2i {x : Int64} (hd : decode M.2.1 pc = .ok (.l2i, 1)) (k : Ok g M J (pc + 1) L (.int x.toInt32 :: st) h uc us) : Ok g M J pc L (.long x :: st) h uc us := by
  intro p e R s m args below meth c F C ls H locs hl hP hS
  exact lv_l2i F.1 F.2.1 hd rfl (k p e R s m args below meth c F C ls H locs hl hP hS)
theorem ok_dup {v : Value} (hd : decode M.2.1 pc = .ok (.dup, 1)) (hv : v.category = 1) (k : Ok g M J (pc + 1) L (v :: v :: st) h uc us) : Ok g M J pc L (v :: st) h uc us := by
  intro p e R s m args below meth c F C ls H locs hl hP hS
  exact lv_dup F.1 F.2.1 hd ((m_sv_cat _ _).trans hv) (k p e R s m args below meth c F C ls H locs hl hP hS)
theorem ok_dup2 {v w : Value} (hd : decode M.2.1 pc = .ok (.dup2, 1)) (hv : v.category = 1) (hw : w.category = 1) (k : Ok g M J (pc + 1) L (v :: w :: v :: w :: st) h uc us) : Ok g M J pc L (v :: w :: st) h uc us := by
  intro p e R s m args below meth c F C ls H locs hl hP hS
  exact lv_dup2_11 F.1 F.2.1 hd ((m_sv_cat _ _).trans hv) ((m_sv_cat _ _).trans hw) (k p e R s m args below meth c F C ls H locs hl hP hS)
/-! branches -/
theorem ok_goto {off : Int} {tgt : Nat} (hd : decode M.2.1 pc = .ok (.goto off, 3)) (ht : (pc : Int) + off = (tgt : Int)) (k : Ok g M J tgt L st h uc us) : Ok g M J pc L st h uc us := by
  intro p e R s m args below meth c F C ls H locs hl hP hS
  exact lv_goto F.1 F.2.1 hd ht (k p e R s m args below meth c F C ls H locs hl hP hS)
theorem ok_if_eq {x : Int32} {off : Int} {tgt : Nat} (hd : decode M.2.1 pc = .ok (.ifCond .eq off, 3)) (ht : (pc : Int) + off = (tgt : Int)) (kt : x = 0 → Ok g M J tgt L st h uc us) (kf : ¬ x = 0 → Ok g M J (pc + 3) L st h uc us) : Ok g M J pc L (.int x :: st) h uc us := by
  intro p e R s m args below meth c F C ls H locs hl hP hS
  exact lv_if_eq F.1 F.2.1 hd ht (fun q => kt q p e R s m args below meth c F C ls H locs hl hP hS) (fun q => kf q p e R s m args below meth c F C ls H locs hl hP hS)
theorem ok_icmp_eq {x y : Int32} {off : Int} {tgt : Nat} (hd : decode M.2.1 pc = .ok (.if_icmp .eq off, 3)) (ht : (pc : Int) + off = (tgt : Int)) (kt : x = y → Ok g M J tgt L st h uc us) (kf : ¬ x = y → Ok g M J (pc + 3) L st h uc us) : Ok g M J pc L (.int y :: .int x :: st) h uc us := by
  intro p e R s m args below meth c F C ls H locs hl hP hS
  exact lv_icmp_eq F.1 F.2.1 hd ht (fun q => kt q p e R s m args below meth c F C ls H locs hl hP hS) (fun q => kf q p e R s m args below meth c F C ls H locs hl hP hS)
theorem ok_if_ne {x : Int32} {off : Int} {tgt : Nat} (hd : decode M.2.1 pc = .ok (.ifCond .ne off, 3)) (ht : (pc : Int) + off = (tgt : Int)) (kt : ¬ x = 0 → Ok g M J tgt L st h uc us) (kf : x = 0 → Ok g M J (pc + 3) L st h uc us) : Ok g M J pc L (.int x :: st) h uc us := by
  intro p e R s m args below meth c F C ls H locs hl hP hS
  exact lv_if_ne F.1 F.2.1 hd ht (fun q => kt q p e R s m args below meth c F C ls H locs hl hP hS) (fun q => kf q p e R s m args below meth c F C ls H locs hl hP hS)
theorem ok_icmp_ne {x y : Int32} {off : Int} {tgt : Nat} (hd : decode M.2.1 pc = .ok (.if_icmp .ne off, 3)) (ht : (pc : Int) + off = (tgt : Int)) (kt : ¬ x = y → Ok g M J tgt L st h uc us) (kf : x = y → Ok g M J (pc + 3) L st h uc us) : Ok g M J pc L (.int y :: .int x :: st) h uc us := by
  intro p e R s m args below meth c F C ls H locs hl hP hS
  exact lv_icmp_ne F.1 F.2.1 hd ht (fun q => kt q p e R s m args below meth c F C ls H locs hl hP hS) (fun q => kf q p e R s m args below meth c F C ls H locs hl hP hS)
theorem ok_if_lt {x : Int32} {off : Int} {tgt : Nat} (hd : decode M.2.1 pc = .ok (.ifCond .lt off, 3)) (ht : (pc : Int) + off = (tgt : Int)) (kt : x < 0 → Ok g M J tgt L st h uc us) (kf : ¬ x < 0 → Ok g M J (pc + 3) L st h uc us) : Ok g M J pc L (.int x :: st) h uc us := by
  intro p e R s m args below meth c F C ls H locs hl hP hS
  exact lv_if_lt F.1 F.2.1 hd ht (fun q => kt q p e R s m args below meth c F C ls H locs hl hP hS) (fun q => kf q p e R s m args below meth c F C ls H locs hl hP hS)
theorem ok_icmp_lt {x y : Int32} {off : Int} {tgt : Nat} (hd : decode M.2.1 pc = .ok (.if_icmp .lt off, 3)) (ht : (pc : Int) + off = (tgt : Int)) (kt : x < y → Ok g M J tgt L st h uc us) (kf : ¬ x < y → Ok g M J (pc + 3) L st h uc us) : Ok g M J pc L (.int y :: .int x :: st) h uc us := by
  intro p e R s m args below meth c F C ls H locs hl hP hS
  exact lv_icmp_lt F.1 F.2.1 hd ht (fun q => kt q p e R s m args below meth c F C ls H locs hl hP hS) (fun q => kf q p e R s m args below meth c F C ls H locs hl hP hS)
theorem ok_if_ge {x : Int32} {off : Int} {tgt : Nat} (hd : decode M.2.1 pc = .ok (.ifCond .ge off, 3)) (ht : (pc : Int) + off = (tgt : Int)) (kt : 0 ≤ x → Ok g M J tgt L st h uc us) (kf : ¬ 0 ≤ x → Ok g M J (pc + 3) L st h uc us) : Ok g M J pc L (.int x :: st) h uc us := by
  intro p e R s m args below meth c F C ls H locs hl hP hS
  exact lv_if_ge F.1 F.2.1 hd ht (fun q => kt q p e R s m args below meth c F C ls H locs hl hP hS) (fun q => kf q p e R s m args below meth c F C ls H locs hl hP hS)
theorem ok_icmp_ge {x y : Int32} {off : Int} {tgt : Nat} (hd : decode M.2.1 pc = .ok (.if_icmp .ge off, 3)) (ht : (pc : Int) + off = (tgt : Int)) (kt : y ≤ x → Ok g M J tgt L st h uc us) (kf : ¬ y ≤ x → Ok g M J (pc + 3) L st h uc us) : Ok g M J pc L (.int y :: .int x :: st) h uc us := by
  intro p e R s m args below meth c F C ls H locs hl hP hS
  exact lv_icmp_ge F.1 F.2.1 hd ht (fun q => kt q p e R s m args below meth c F C ls H locs hl hP hS) (fun q => kf q p e R s m args below meth c F C ls H locs hl hP hS)
theorem ok_if_gt {x : Int32} {off : Int} {tgt : Nat} (hd : decode M.2.1 pc = .ok (.ifCond .gt off, 3)) (ht : (pc : Int) + off = (tgt : Int)) (kt : 0 < x → Ok g M J tgt L st h uc us) (kf : ¬ 0 < x → Ok g M J (pc + 3) L st h uc us) : Ok g M J pc L (.int x :: st) h uc us := by
  intro p e R s m args below meth c F C ls H locs hl hP hS
  exact lv_if_gt F.1 F.2.1 hd ht (fun q => kt q p e R s m args below meth c F C ls H locs hl hP hS) (fun q => kf q p e R s m args below meth c F C ls H locs hl hP hS)
theorem ok_icmp_gt {x y : Int32} {off : Int} {tgt : Nat} (hd : decode M.2.1 pc = .ok (.if_icmp .gt off, 3)) (ht : (pc : Int) + off = (tgt : Int)) (kt : y < x → Ok g M J tgt L st h uc us) (kf : ¬ y < x → Ok g M J (pc + 3) L st h uc us) : Ok g M J pc L (.int y :: .int x :: st) h uc us := by
  intro p e R s m args below meth c F C ls H locs hl hP hS
  exact lv_icmp_gt F.1 F.2.1 hd ht (fun q => kt q p e R s m args below meth c F C ls H locs hl hP hS) (fun q => kf q p e R s m args below meth c F C ls H locs hl hP hS)
theorem ok_if_le {x : Int32} {off : Int} {tgt : Nat} (hd : decode M.2.1 pc = .ok (.ifCond .le off, 3)) (ht : (pc : Int) + off = (tgt : Int)) (kt : x ≤ 0 → Ok g M J tgt L st h uc us) (kf : ¬ x ≤ 0 → Ok g M J (pc + 3) L st h uc us) : Ok g M J pc L (.int x :: st) h uc us := by
  intro p e R s m args below meth c F C ls H locs hl hP hS
  exact lv_if_le F.1 F.2.1 hd ht (fun q => kt q p e R s m args below meth c F C ls H locs hl hP hS) (fun q => kf q p e R s m args below meth c F C ls H locs hl hP hS)
theorem ok_icmp_le {x y : Int32} {off : Int} {tgt : Nat} (hd : decode M.2.1 pc = .ok (.if_icmp .le off, 3)) (ht : (pc : Int) + off = (tgt : Int)) (kt : x ≤ y → Ok g M J tgt L st h uc us) (kf : ¬ x ≤ y → Ok g M J (pc + 3) L st h uc us) : Ok g M J pc L (.int y :: .int x :: st) h uc us := by
  intro p e R s m args below meth c F C ls H locs hl hP hS
  exact lv_icmp_le F.1 F.2.1 hd ht (fun q => kt q p e R s m args below meth c F C ls H locs hl hP hS) (fun q => kf q p e R s m args below meth c F C ls H locs hl hP hS)
theorem ok_ifnull {v : Value} {off : Int} {tgt : Nat} (hd : decode M.2.1 pc = .ok (.ifnull off, 3)) (ht : (pc : Int) + off = (tgt : Int)) (ha : m_isA v = true) (kt : v = .null → Ok g M J tgt L st h uc us) (kf : ¬ v = .null → Ok g M J (pc + 3) L st h uc us) : Ok g M J pc L (v :: st) h uc us := by
  intro p e R s m args below meth c F C ls H locs hl hP hS
  cases v with
  | ref a => exact lv_ifnull F.1 F.2.1 hd (kf (fun q => by cases q) p e R s m args below meth c F C ls H locs hl hP hS)
  | null => exact lv_ifnullN F.1 F.2.1 hd ht (kt rfl p e R s m args below meth c F C ls H locs hl hP hS)
  | retAddr a => exact lv_ifnull F.1 F.2.1 hd (kf (fun q => by cases q) p e R s m args below meth c F C ls H locs hl hP hS)
  | int x => cases ha
  | long x => cases ha
  | float x => cases ha
  | double x => cases ha
theorem ok_ifnonnull {v : Value} {off : Int} {tgt : Nat} (hd : decode M.2.1 pc = .ok (.ifnonnull off, 3)) (ht : (pc : Int) + off = (tgt : Int)) (ha : m_isA v = true) (kt : ¬ v = .null → Ok g M J tgt L st h uc us) (kf : v = .null → Ok g M J (pc + 3) L st h uc us) : Ok g M J pc L (v :: st) h uc us := by
  intro p e R s m args below meth c F C ls H locs hl hP hS
  cases v with
  | ref a => exact lv_ifnonnull F.1 F.2.1 hd ht (kt (fun q => by cases q) p e R s m args below meth c F C ls H locs hl hP hS)
  | null => exact lv_ifnonnullN F.1 F.2.1 hd (kf rfl p e R s m args below meth c F C ls H locs hl hP hS)
  | retAddr a => exact lv_ifnonnull F.1 F.2.1 hd ht (kt (fun q => by cases q) p e R s m args below meth c F C ls H locs hl hP hS)
  | int x => cases ha
  | long x => cases ha
  | float x => cases ha
  | double x => cases ha
theorem ok_lcmp {x y : Int64} (hd : decode M.2.1 pc = .ok (.lcmp, 1)) (k : Ok g M J (pc + 1) L (.int (lg_cmp x y) :: st) h uc us) : Ok g M J pc L (.long y :: .long x :: st) h uc us := by
  intro p e R s m args below meth c F C ls H locs hl hP hS
  exact W.lcmp F.1 F.2.1 hd (k p e R s m args below meth c F C ls H locs hl hP hS)
theorem ok_tableOut {dflt lo hi : Int} {offs : Array Int} {len : Nat} {x : Int32} {tgt : Nat} (hd : decode M.2.1 pc = .ok (.tableswitch dflt lo hi offs, len)) (hx : x.toInt < lo ∨ hi < x.toInt) (ht : (pc : Int) + dflt = (tgt : Int)) (k : Ok g M J tgt L st h uc us) : Ok g M J pc L (.int x :: st) h uc us := by
  intro p e R s m args below meth c F C ls H locs hl hP hS
  exact lv_tableOut F.1 F.2.1 hd hx ht (k p e R s m args below meth c F C ls H locs hl hP hS)
theorem ok_tableIn {dflt lo hi : Int} {offs : Array Int} {len : Nat} {x : Int32} {off : Int} {tgt : Nat} (hd : decode M.2.1 pc = .ok (.tableswitch dflt lo hi offs, len)) (h1 : ¬ x.toInt < lo) (h2 : ¬ hi < x.toInt) (ho : offs[(x.toInt - lo).toNat]? = some off) (ht : (pc : Int) + off = (tgt : Int)) (k : Ok g M J tgt L st h uc us) : Ok g M J pc L (.int x :: st) h uc us := by
  intro p e R s m args below meth c F C ls H locs hl hP hS
  exact lv_tableIn F.1 F.2.1 hd h1 h2 ho ht (k p e R s m args below meth c F C ls H locs hl hP hS)
end MACH
end
section
/-! ===== the machine seen from above: cells and calls ===== -/
def m_in (ws : List Cond) : Prop := ∀ w ∈ ws, w ∈ m_tb
theorem m_in_of {ws : List Cond} (ps : List Nat) (hp : ws = ps.filterMap (fun i => lw_tbl[i]?)) (hg : ws.all goodWord = true) : m_in ws := by
  intro w hw
  refine List.mem_filter.mpr ⟨?_, List.all_eq_true.mp hg w hw⟩
  rw [hp] at hw
  obtain ⟨i, -, hi⟩ := List.mem_filterMap.mp hw
  exact List.mem_of_getElem? hi
/-- field k of class ci, by the entry idx of the class own -/
def m_fl (own : String) (idx ci k : Nat) (ty : FieldType) (fin : Bool) : Prop := ∃ (r : vw_C) (ty0 : Nat → FieldType), m_cl[ci]? = some r ∧ k < r.2.2 ∧ m_in (u_ws r.1 r.2.1 r.2.2) ∧ Cond.fieldLink own idx (r.2.1 k).1 (r.2.1 k).2.1 (r.2.1 k).2.2.1 ∈ m_tb ∧
  (∀ k, k < r.2.2 → parseFieldDescriptor (r.2.1 k).2.2.1 = some (ty0 k)) ∧ (∀ a, a < r.2.2 → ∀ b, b < r.2.2 → a ≠ b → (r.2.1 a).2.1 ≠ (r.2.1 b).2.1) ∧ ty0 k = ty ∧ (r.2.1 k).2.2.2 = fin ∧ (fin = true → (r.2.1 k).1 = own)
theorem m_P_set {g : mG} {h : mH} {H H1 : Heap} {a : Nat} {x0 x : mE} (hP : m_P g h H) (hh : hc h a = some x0) (he : va_at (m_D g) m_cl (g.2.1 + a, m_sE g x) H1) (z : H1.size = H.size) (oq : ∀ q : Nat, q ≠ g.2.1 + a → H1[q]? = H[q]?) : m_P g (hs h a x) H1 :=
  ⟨by rw [← m_W_hs]; exact hP.1.set (m_W_D g h) (m_W_get hh) he oq, by rw [z]; exact hP.2⟩
theorem m_P_push {g : mG} {h : mH} {H H1 : Heap} {x : mE} (hP : m_P g h H) (he : va_at (m_D g) m_cl (g.2.1 + h.1, m_sE g x) H1) (z : H1.size = H.size + 1) (oq : ∀ q : Nat, q < H.size → H1[q]? = H[q]?) : m_P g (hp h x) H1 := by
  refine ⟨?_, by rw [z, hP.2]; rfl⟩
  rw [m_W_hp]
  refine (hP.1.kept (fun k q hk => oq q.1 (hP.1 k q hk).lt)).app ?_
  intro k q hk
  have hz : k < 1 := (List.getElem?_eq_some_iff.mp hk).1
  rw [show k = 0 by omega] at hk
  cases hk
  exact he
theorem m_S_push {g : mG} {H0 H H1 : Heap} {locs : List Loc} (hS : va_S (m_A g) H0 H locs) (z : H1.size = H.size + 1) (oq : ∀ q : Nat, q < H.size → H1[q]? = H[q]?) : va_S (m_A g) H0 H1 locs :=
  ⟨by have := hS.1; omega, fun q h1 h2 => (oq q (Nat.lt_of_lt_of_le h1 hS.1)).trans (hS.2.1 q h1 h2), hS.2.2⟩
theorem m_ty_at (g : mG) {t : Nat} {ty : FieldType} (ht : m_ty5[t]? = some ty) : (m_tys g)[t]? = some (g.2.2.2.2 ty, ty) := by
  simp [m_tys, ht]
theorem m_Ain (g : mG) (a : Nat) : m_A g (g.2.1 + a) := by show g.2.1 ≤ _; omega
def m_rv (r : Option Nat) : Value := match r with
  | none => .null
  | some a => .ref a
theorem m_rv_sv (b : Nat) (r : Option Nat) : m_sv b (m_rv r) = va_rf (r.map (fun q => b + q)) := by cases r <;> rfl
section MACH2
variable {g : mG} {M : mM} {J : mJ} {pc : Nat} {L L' : List (Option Value)} {st : List Value} {h : mH} {uc us : Nat}
theorem ok_get {a ci k idx : Nat} {fs : List Value} {v : Value} {ty : FieldType} {fin : Bool} (hd : decode M.2.1 pc = .ok (.getfield idx, 3)) (hf : m_fl M.1.cls idx ci k ty fin) (hh : hc h a = some (.inr (ci, fs))) (hv : fs[k]? = some v) (kk : Ok g M J (pc + 3) L (v :: st) h uc us) : Ok g M J pc L (.ref a :: st) h uc us := by
  intro p e R s m args below meth c F C ls H locs hl hP hS
  obtain ⟨r, ty0, h1, h2, h3, h4, h5, h6, h7, h8, -⟩ := hf
  exact va_get (cl := m_cl) (C := r.1) (T := r.2.1) (N := r.2.2) F.1 F.2.1 F.2.2.2.2.2.2.1 h3 F.2.2.2.2.2.1 F.2.2.2.2.2.2.2.2.2.1 hP.1 a (m_W_get hh) h1 k h2 (F.2.2.2.2.2.2.1 _ h4) (fun x q => q) (v := m_sv g.2.1 v) (by rw [List.getElem?_map, hv]; rfl) hd (kk p e R s m args below meth c F C ls H locs hl hP hS)
theorem ok_put {a ci k idx : Nat} {fs : List Value} {v : Value} {ty : FieldType} (hd : decode M.2.1 pc = .ok (.putfield idx, 3)) (hf : m_fl M.1.cls idx ci k ty false) (hh : hc h a = some (.inr (ci, fs))) (hk : k < fs.length) (hn : ∀ b, narrow ty (m_sv b v) = m_sv b v ∧ fits ty (m_sv b v) = true) (kk : Ok g M J (pc + 3) L st (hs h a (.inr (ci, fs.set k v))) uc us) : Ok g M J pc L (v :: .ref a :: st) h uc us := by
  intro p e R s m args below meth c F C ls H locs hl hP hS
  obtain ⟨r, ty0, h1, h2, h3, h4, h5, h6, h7, h8, -⟩ := hf
  have hK := F.2.2.2.2.2.2.2.2.2.1
  have hts := F.2.2.2.2.2.2.1
  have hap := va_apart (own := r.1) hts h3 ty0 h5 h6 hK h1
  obtain ⟨r', h1', cell, q1, q2, q3, q4⟩ := hP.1 a _ (m_W_get hh)
  have hr : r' = r := Option.some.inj (h1'.symm.trans h1)
  subst hr
  obtain ⟨hSl, hfc, kC, hkC, hkind⟩ := hK.1 ci _ h1
  obtain ⟨cf, kf, fi, f, hi, hsl⟩ := hSl k h2
  have hlay := hts _ (h3 _ (u_in_lay h2))
  unfold u_lay at hlay
  rw [if_neg (by rw [h8]; decide)] at hlay
  have hst := (u_facts hfc hkC (u_lays hts h3 h2) hi).1
  have hd5 : parseFieldDescriptor (r'.2.1 k).2.2.1 = some ty := (h5 k h2).trans (by rw [h7])
  have hsd := u_store hfc hkC hkind hlay hi hd5 (hn g.2.1).1 (hn g.2.1).2
  have hkl : k < (fs.map (m_sv g.2.1)).length := by rw [List.length_map]; exact hk
  refine W.putK F.1 F.2.1 (f := f) ⟨F.2.2.2.2.2.1, hts _ h4, ⟨_, _, _, hi⟩, hst⟩ (v := m_sv g.2.1 v) (by rw [q2]; exact hsd) q1 q3 (by rw [hsl]; exact k2_hasslot (q4 k h2)) rfl rfl hd fun H' e1 e2 e3 => ?_
  rw [hsl] at e1 ⊢
  refine kk p e R s m args below meth c F C ls H' _ hl (m_P_set hP hh ?_ e2 e3) (hS.put e2 e3 (m_Ain g a))
  refine ⟨_, h1, t_OB.to (V := updV (vp_V (fs.map (m_sv g.2.1))) k (m_sv g.2.1 v)) ⟨_, e1, q2, q3, t_set q4 hap h2 _⟩ (fun j _ => ?_)⟩
  rw [List.map_set]
  exact vp_updV_set hkl _ j
theorem ok_putF {a ci k idx : Nat} {fs : List Value} {v : Value} {ty : FieldType} (hd : decode M.2.1 pc = .ok (.putfield idx, 3)) (hin : M.1.name = "<init>") (hf : m_fl M.1.cls idx ci k ty true) (hh : hc h a = some (.inr (ci, fs))) (hk : k < fs.length) (hn : ∀ b, narrow ty (m_sv b v) = m_sv b v ∧ fits ty (m_sv b v) = true) (kk : Ok g M J (pc + 3) L st (hs h a (.inr (ci, fs.set k v))) uc us) : Ok g M J pc L (v :: .ref a :: st) h uc us := by
  intro p e R s m args below meth c F C ls H locs hl hP hS
  obtain ⟨r, ty0, h1, h2, h3, h4, h5, h6, h7, h8, h9⟩ := hf
  have hK := F.2.2.2.2.2.2.2.2.2.1
  have hts := F.2.2.2.2.2.2.1
  have hown := F.2.2.2.2.2.1
  have hap := va_apart (own := r.1) hts h3 ty0 h5 h6 hK h1
  obtain ⟨r', h1', cell, q1, q2, q3, q4⟩ := hP.1 a _ (m_W_get hh)
  have hr : r' = r := Option.some.inj (h1'.symm.trans h1)
  subst hr
  obtain ⟨hSl, hfc, kC, hkC, hkind⟩ := hK.1 ci _ h1
  obtain ⟨cf, kf, fi, f, hi, hsl⟩ := hSl k h2
  have hlay := hts _ (h3 _ (u_in_lay h2))
  unfold u_lay at hlay
  rw [if_pos h8] at hlay
  have hst := (u_facts hfc hkC (u_lays hts h3 h2) hi).1
  have hcf : m.cls = cf := by
    obtain ⟨_, _, c', _, _, _, -, -, hf', -, -, -, hown2, -⟩ := Cond.laysFinal_spec hlay
    have e1 : c' = cf := by have := hi.symm.trans hf'; simp at this; exact this.1.symm
    rw [h9 rfl] at hown2
    rw [← e1]; exact Option.some.inj (hown.symm.trans hown2)
  have hd5 : parseFieldDescriptor (r'.2.1 k).2.2.1 = some ty := (h5 k h2).trans (by rw [h7])
  have hsd := u_fits hfc hkC hkind (Or.inr hlay) hi hd5 (hn g.2.1).1 (hn g.2.1).2
  have hkl : k < (fs.map (m_sv g.2.1)).length := by rw [List.length_map]; exact hk
  refine W.putFinK F.1 F.2.1 hown (hts _ h4) hi hst hcf (F.2.2.2.2.2.2.2.1 hin) (v := m_sv g.2.1 v) (by rw [q2]; exact hsd) q1 q3 (by rw [hsl]; exact k2_hasslot (q4 k h2)) rfl rfl hd fun H' e1 e2 e3 => ?_
  rw [hsl] at e1 ⊢
  refine kk p e R s m args below meth c F C ls H' _ hl (m_P_set hP hh ?_ e2 e3) (hS.put e2 e3 (m_Ain g a))
  refine ⟨_, h1, t_OB.to (V := updV (vp_V (fs.map (m_sv g.2.1))) k (m_sv g.2.1 v)) ⟨_, e1, q2, q3, t_set q4 hap h2 _⟩ (fun j _ => ?_)⟩
  rw [List.map_set]
  exact vp_updV_set hkl _ j
/-! arrays -/
theorem ok_iald {a n : Nat} {f : Nat → Int32} {i : Int32} (hd : decode M.2.1 pc = .ok (.iaload, 1)) (hh : hc h a = some (.inl (.int, n, .inl f))) (hi : vp_in i n) (kk : Ok g M J (pc + 1) L (.int (f i.toNatClampNeg) :: st) h uc us) : Ok g M J pc L (.int i :: .ref a :: st) h uc us := by
  intro p e R s m args below meth c F C ls H locs hl hP hS
  exact va_iald F.1 F.2.1 F.2.2.2.2.2.2.2.2.2.1 hP.1 a 0 (m_W_get hh) (m_ty_at g rfl) hi hd (kk p e R s m args below meth c F C ls H locs hl hP hS)
theorem ok_lald {a n : Nat} {f : Nat → Int64} {i : Int32} (hd : decode M.2.1 pc = .ok (.laload, 1)) (hh : hc h a = some (.inl (.long, n, .inr (.inl f)))) (hi : vp_in i n) (kk : Ok g M J (pc + 1) L (.long (f i.toNatClampNeg) :: st) h uc us) : Ok g M J pc L (.int i :: .ref a :: st) h uc us := by
  intro p e R s m args below meth c F C ls H locs hl hP hS
  exact va_lald F.1 F.2.1 F.2.2.2.2.2.2.2.2.2.1 hP.1 a 1 (m_W_get hh) (m_ty_at g rfl) hi hd (kk p e R s m args below meth c F C ls H locs hl hP hS)
theorem ok_zald {a n : Nat} {f : Nat → Int32} {i : Int32} (hd : decode M.2.1 pc = .ok (.baload, 1)) (hh : hc h a = some (.inl (.boolean, n, .inl f))) (hi : vp_in i n) (kk : Ok g M J (pc + 1) L (.int (f i.toNatClampNeg) :: st) h uc us) : Ok g M J pc L (.int i :: .ref a :: st) h uc us := by
  intro p e R s m args below meth c F C ls H locs hl hP hS
  exact va_zald F.1 F.2.1 F.2.2.2.2.2.2.2.2.2.1 hP.1 a 2 (m_W_get hh) (m_ty_at g rfl) hi hd (kk p e R s m args below meth c F C ls H locs hl hP hS)
theorem ok_aald {a n t : Nat} {C0 : String} {f : Nat → Option Nat} {i : Int32} (hd : decode M.2.1 pc = .ok (.aaload, 1)) (ht : m_ty5[t]? = some (.object C0)) (hh : hc h a = some (.inl (.object C0, n, .inr (.inr (.inr (.inr f)))))) (hi : vp_in i n) (kk : Ok g M J (pc + 1) L (m_rv (f i.toNatClampNeg) :: st) h uc us) : Ok g M J pc L (.int i :: .ref a :: st) h uc us := by
  intro p e R s m args below meth c F C ls H locs hl hP hS
  refine va_aldq (C := C0) F.1 F.2.1 F.2.2.2.2.2.2.2.2.2.1 hP.1 a t (m_W_get hh) (m_ty_at g ht) hi hd ?_
  have k' := kk p e R s m args below meth c F C ls H locs hl hP hS
  rw [List.map_cons, m_rv_sv] at k'
  exact k'
theorem ok_alen {a n t : Nat} {ty : FieldType} {x : (Nat → Int32) ⊕ (Nat → Int64) ⊕ (Nat → UInt32) ⊕ (Nat → UInt64) ⊕ (Nat → Option Nat)} (hd : decode M.2.1 pc = .ok (.arraylength, 1)) (ht : m_ty5[t]? = some ty) (hh : hc h a = some (.inl (ty, n, x))) (kk : Ok g M J (pc + 1) L (.int (nI n) :: st) h uc us) : Ok g M J pc L (.ref a :: st) h uc us := by
  intro p e R s m args below meth c F C ls H locs hl hP hS
  refine va_alen F.1 F.2.1 F.2.2.2.2.2.2.2.2.2.1 hP.1 a t (m_W_get hh) (m_ty_at g ht) (v := nI n) ?_ hd (kk p e R s m args below meth c F C ls H locs hl hP hS)
  show Int32.ofNat (m_sA g.2.1 (n, x)).1 = nI n
  rw [m_sA_1]
  rfl
theorem m_arr (g : mG) {s : State} (hK : va_K (m_D g) m_cl (m_tys g) s) {t : Nat} {ty : FieldType} (ht : m_ty5[t]? = some ty) (n : Nat) (z : Nat → Value) : s.isArrayOf (arrV (g.2.2.2.2 ty) n z) ty := (hK.2 t _ (m_ty_at g ht)).1 n z
theorem ok_iast {a n : Nat} {f : Nat → Int32} {i x : Int32} (hd : decode M.2.1 pc = .ok (.iastore, 1)) (hh : hc h a = some (.inl (.int, n, .inl f))) (hi : vp_in i n) (kk : Ok g M J (pc + 1) L st (hs h a (.inl (.int, n, .inl (upd f i.toNatClampNeg x)))) uc us) : Ok g M J pc L (.int x :: .int i :: .ref a :: st) h uc us := by
  intro p e R s m args below meth c F C ls H locs hl hP hS
  refine W.iast F.1 F.2.1 (hP.1 a _ (m_W_get hh)) (m_arr g F.2.2.2.2.2.2.2.2.2.1 (t := 0) rfl n (fun j => .int (f j))) (fun q => by cases q) (by show ¬ (i < 0 ∨ (arrV _ _ _).slots.size ≤ _); rw [arrV_size]; exact hi) rfl rfl hd fun H1 e1 z oq => ?_
  refine kk p e R s m args below meth c F C ls H1 _ hl (m_P_set hP hh ?_ z oq) (hS.put z oq (m_Ain g a))
  show H1[g.2.1 + a]? = some (vp_cell _ (n, .inl (upd f i.toNatClampNeg x)))
  rw [e1]
  show some ((vp_cell _ (n, .inl f)).setSlot _ _) = _
  rw [vp_cell_i, vp_cell_i, arrV_store]
  congr 2
  funext q
  by_cases hq : q = i.toNatClampNeg
  · subst hq; simp [updV, upd]
  · simp [updV, upd, hq]
theorem ok_last {a n : Nat} {f : Nat → Int64} {i : Int32} {x : Int64} (hd : decode M.2.1 pc = .ok (.lastore, 1)) (hh : hc h a = some (.inl (.long, n, .inr (.inl f)))) (hi : vp_in i n) (kk : Ok g M J (pc + 1) L st (hs h a (.inl (.long, n, .inr (.inl (vp_updL f i.toNatClampNeg x))))) uc us) : Ok g M J pc L (.long x :: .int i :: .ref a :: st) h uc us := by
  intro p e R s m args below meth c F C ls H locs hl hP hS
  refine W.last F.1 F.2.1 (hP.1 a _ (m_W_get hh)) (m_arr g F.2.2.2.2.2.2.2.2.2.1 (t := 1) rfl n (fun j => .long (f j))) (fun q => by cases q) (by show ¬ (i < 0 ∨ (arrV _ _ _).slots.size ≤ _); rw [arrV_size]; exact hi) rfl rfl hd fun H1 e1 z oq => ?_
  refine kk p e R s m args below meth c F C ls H1 _ hl (m_P_set hP hh ?_ z oq) (hS.put z oq (m_Ain g a))
  show H1[g.2.1 + a]? = some (vp_cell _ (n, .inr (.inl (vp_updL f i.toNatClampNeg x))))
  rw [e1]
  show some ((vp_cell _ (n, .inr (.inl f))).setSlot _ _) = _
  rw [vp_cell_l, vp_cell_l, arrV_store]
  congr 2
  funext q
  by_cases hq : q = i.toNatClampNeg
  · subst hq; simp [updV, vp_updL]
  · simp [updV, vp_updL, hq]
theorem ok_zast {a n : Nat} {f : Nat → Int32} {i x : Int32} (hd : decode M.2.1 pc = .ok (.bastore, 1)) (hx : narrow .boolean (.int x) = .int x) (hh : hc h a = some (.inl (.boolean, n, .inl f))) (hi : vp_in i n) (kk : Ok g M J (pc + 1) L st (hs h a (.inl (.boolean, n, .inl (upd f i.toNatClampNeg x)))) uc us) : Ok g M J pc L (.int x :: .int i :: .ref a :: st) h uc us := by
  intro p e R s m args below meth c F C ls H locs hl hP hS
  refine W.zast F.1 F.2.1 (hP.1 a _ (m_W_get hh)) (m_arr g F.2.2.2.2.2.2.2.2.2.1 (t := 2) rfl n (fun j => .int (f j))) (fun q => by cases q) (by show ¬ (i < 0 ∨ (arrV _ _ _).slots.size ≤ _); rw [arrV_size]; exact hi) rfl rfl hd fun H1 e1 z oq => ?_
  refine kk p e R s m args below meth c F C ls H1 _ hl (m_P_set hP hh ?_ z oq) (hS.put z oq (m_Ain g a))
  show H1[g.2.1 + a]? = some (vp_cell _ (n, .inl (upd f i.toNatClampNeg x)))
  rw [e1, hx]
  show some ((vp_cell _ (n, .inl f)).setSlot _ _) = _
  rw [vp_cell_i, vp_cell_i, arrV_store]
  congr 2
  funext q
  by_cases hq : q = i.toNatClampNeg
  · subst hq; simp [updV, upd]
  · simp [updV, upd, hq]
theorem ok_aast {a n t v ci : Nat} {r : vw_C} {vs : List Value} {f : Nat → Option Nat} {i : Int32} (hd : decode M.2.1 pc = .ok (.aastore, 1)) (ht : m_ty5[t]? = some (.object r.1)) (hc0 : m_cl[ci]? = some r) (hh : hc h a = some (.inl (.object r.1, n, .inr (.inr (.inr (.inr f)))))) (hv : hc h v = some (.inr (ci, vs))) (hi : vp_in i n) (kk : Ok g M J (pc + 1) L st (hs h a (.inl (.object r.1, n, .inr (.inr (.inr (.inr (va_up f i.toNatClampNeg (some v)))))))) uc us) : Ok g M J pc L (.ref v :: .int i :: .ref a :: st) h uc us := by
  intro p e R s m args below meth c F C ls H locs hl hP hS
  have hK := F.2.2.2.2.2.2.2.2.2.1
  have hlt : i.toNatClampNeg < n := Nat.not_le.mp fun q => hi (Or.inr q)
  have h0 : ¬ i < 0 := fun q => hi (Or.inl q)
  obtain ⟨r', hr', cellV, g1, g2, g3, -⟩ := hP.1 v _ (m_W_get hv)
  have hcls := (hK.1 ci r hc0).2
  obtain ⟨kA, comp, k1, k2, k3, -⟩ := (hK.2 t _ (m_ty_at g ht)).2
  have hcomp : comp = (m_D g).1 ci := Option.some.inj (k3.symm.trans hcls.1)
  subst hcomp
  obtain ⟨kC, hkC, -⟩ := hcls.2
  refine W.aast F.1 F.2.1 (hP.1 a _ (m_W_get hh)) (fun q h => by cases h) (fun h => by cases h) k1 k2 rfl hkC ⟨h0, by show _ < (arrV _ _ _).slots.size; rw [arrV_size]; exact hlt⟩ g1 (fun q h => by rw [g3] at h; cases h) (by rw [g2]; exact hkC) (by rw [g2]; exact va_assign hcls) rfl rfl hd fun H1 e1 z oq => ?_
  refine kk p e R s m args below meth c F C ls H1 _ hl (m_P_set hP hh ?_ z oq) (hS.put z oq (m_Ain g a))
  show H1[g.2.1 + a]? = some (vp_cell _ (n, .inr (.inr (.inr (.inr (fun j => ((va_up f i.toNatClampNeg (some v)) j).map (fun q => g.2.1 + q)))))))
  rw [e1]
  show some ((vp_cell _ (n, .inr (.inr (.inr (.inr (fun j => (f j).map (fun q => g.2.1 + q))))))).setSlot _ _) = _
  rw [vp_cell_q, vp_cell_q, arrV_store]
  congr 2
  funext q
  by_cases hq : q = i.toNatClampNeg
  · subst hq; simp [updV, va_up, va_rf]
  · simp [updV, va_up, hq]
end MACH2
end
section
/-! ===== the machine seen from above: new cells, calls, ends ===== -/
def m_push : Option Value → List Value → List Value
  | none, st => st
  | some v, st => v :: st
theorem m_push_sv (b : Nat) (v : Option Value) (st : List Value) : (v.map (m_sv b)).toList ++ st.map (m_sv b) = (m_push v st).map (m_sv b) := by cases v <;> rfl
def m_sl (av : List Value) : List (Option Value) := av.flatMap fun v => if v.category = 2 then [some v, none] else [some v]
def m_ent (n : Nat) (av : List Value) : List (Option Value) := m_sl av ++ List.replicate (n - (m_sl av).length) none
theorem m_at_app : ∀ (a b : List (Option Value)) (i : Nat) (v : Value), m_at (a ++ b) i = some v → m_at a i = some v ∨ ∃ j, m_at b j = some v
  | [], b, i, v, h => Or.inr ⟨i, h⟩
  | x :: t, b, 0, v, h => Or.inl h
  | x :: t, b, i + 1, v, h => m_at_app t b i v h
theorem m_at_rep : ∀ (n j : Nat) (v : Value), m_at (List.replicate n none) j = some v → False
  | 0, j, v, h => by cases h
  | n + 1, 0, v, h => by cases h
  | n + 1, j + 1, v, h => m_at_rep n j v h
theorem m_sl_at (b : Nat) : ∀ (av : List Value) (i0 i : Nat) (v : Value), m_at (m_sl av) i = some v → (i0 + i, m_sv b v) ∈ lv_args i0 (av.map (m_sv b))
  | [], i0, i, v, h => by cases h
  | x :: t, i0, i, v, h => by
    have e : m_sl (x :: t) = (if x.category = 2 then [some x, none] else [some x]) ++ m_sl t := by simp [m_sl]
    rw [e] at h
    by_cases c : x.category = 2
    · rw [if_pos c] at h
      simp only [List.map_cons, lv_args, m_sv_cat, c, if_true]
      match i, h with
      | 0, h => cases h; exact List.mem_cons_self
      | 1, h => cases h
      | i + 2, h =>
        refine List.mem_cons_of_mem _ ?_
        have := m_sl_at b t (i0 + 2) i v h
        rw [show i0 + (i + 2) = i0 + 2 + i by omega]
        exact this
    · rw [if_neg c] at h
      simp only [List.map_cons, lv_args, m_sv_cat, c, if_false]
      match i, h with
      | 0, h => cases h; exact List.mem_cons_self
      | i + 1, h =>
        refine List.mem_cons_of_mem _ ?_
        have := m_sl_at b t (i0 + 1) i v h
        rw [show i0 + (i + 1) = i0 + 1 + i by omega]
        exact this
theorem m_ent_L {b : Nat} {ls : Array Slot} {n : Nat} {av : List Value} (h : lv_has ls n (lv_args 0 (av.map (m_sv b)))) : m_L b ls n (m_ent n av) := by
  refine ⟨h.1, h.2.1, fun i v hv => ?_⟩
  rcases m_at_app _ _ i v hv with h1 | ⟨j, h1⟩
  · have := m_sl_at b av 0 i v h1
    rw [Nat.zero_add] at this
    exact h.2.2 _ this
  · exact (m_at_rep _ _ _ h1).elim
theorem m_good : ∀ w ∈ m_tb, (w.onTables && w.keeps) = true ∨ ∃ ty, w = .arrayClass ty := fun w hw => good_of_word (List.mem_filter.mp hw).2
def m_ws (N : mM) : List Cond := Cond.code N.1 N.2.1 N.2.2.1 N.2.2.2.1 :: m_tb
def m_cd (N : mM) (n : Nat) : Prop := Cond.initialized N.1.cls ∈ m_tb ∧ Cond.code N.1 N.2.1 N.2.2.1 N.2.2.2.1 ∈ m_tb ∧ plainName N.1.cls = true ∧ (N.1.cls ≠ "java/lang/invoke/MethodHandle" ∧ N.1.cls ≠ "java/lang/invoke/VarHandle" ∧ (parseMethodDescriptor N.1.desc).map (fun d => d.parameters.length) = some n) ∧ N.2.2.1 ≤ 21
theorem m_gd {N : mM} {n : Nat} (hN : m_cd N n) : GoodIn m_tb (m_ws N) := by
  intro w hw
  rcases List.mem_cons.mp hw with rfl | hw
  · exact ⟨hN.2.1, m_good _ hN.2.1⟩
  · exact ⟨hw, m_good _ hw⟩
def m_B (g : mG) (h : mH) (U : State) : Prop := m_P g h U.heap ∧ va_K (m_D g) m_cl (m_tys g) U ∧ g.2.1 ≤ U.heap.size ∧ m_X U
theorem Ok.met {g : mG} {N : mM} {av : List Value} {h : mH} {Q : Option Value → mH → Prop} (hp : plainName N.1.cls = true) (hlen : (lg_sl (av.map (m_sv g.2.1))).length ≤ N.2.2.1) (hk : Ok g N (m_J g N Q) 0 (m_ent N.2.2.1 av) [] h 0 0) :
    Met g.1 N.1 (m_ws N) (m_R N) (va_Pc (av.map (m_sv g.2.1)) (m_B g h)) (m_Q g Q) N.2.2.2.2.2.1 N.2.2.2.2.2.2 (m_A g) := by
  refine Met.ofW (cc := N.2.1) (maxL := N.2.2.1) (ret := N.2.2.2.1) hp rfl ?_
  intro p e s m args below meth c s₁ B hml hv
  obtain ⟨rfl, hP, hK, hsz, hXx⟩ := hv
  have hts := atoms_spec (ws := m_ws N) B.pre
  have F : m_Fx g N p (m_R N) s m (av.map (m_sv g.2.1)).toArray meth c := ⟨B.exec, B.bytes, hml, B.returns, B.notSynchronized, findClass_of_methodNamed B.named, fun w hw => hts w (List.mem_cons_of_mem _ hw), fun hi => by rw [(name_of_methodNamed B.named B.method).1]; exact hi, rfl, hK, hsz, hXx⟩
  have hl := lv_entry (av.map (m_sv g.2.1)) hlen
  rw [lg_entry_eq]
  exact hk p e _ s m _ below meth c F trivial _ s.heap [] (m_ent_L hl) hP va_S.rf
theorem m_slen (b : Nat) (av : List Value) : (lg_sl (av.map (m_sv b))).length = (m_sl av).length := by
  induction av with
  | nil => rfl
  | cons x t ih =>
    have e1 : m_sl (x :: t) = (if x.category = 2 then [some x, none] else [some x]) ++ m_sl t := by simp [m_sl]
    have e2 : lg_sl ((x :: t).map (m_sv b)) = (if x.category = 2 then [.val (m_sv b x), .second] else [.val (m_sv b x)]) ++ lg_sl (t.map (m_sv b)) := by simp [lg_sl, m_sv_cat]
    rw [e1, e2, List.length_append, List.length_append, ih]
    by_cases c : x.category = 2 <;> simp [c]
section MACH3
variable {g : mG} {M : mM} {J : mJ} {pc : Nat} {L L' : List (Option Value)} {st : List Value} {h : mH} {uc us : Nat}
theorem m_go {p : Program} {e : Env} {R : Room} {s : State} {m : MethodId} {args a : Array Value} {below : List Frame} {meth : Method} {c : Code} {H : Heap} {locs : List Loc} {mc ms : Nat} {ls : Array Slot} {st0 rest : List Value} {Q : Option Value → mH → Prop} {Z : State → Prop}
    (hr : va_Run p g.1 e R s m args below meth c H locs uc us mc ms (F0 m pc ls st0) rest (m_Q g Q a) (m_A g)) (hS : va_S (m_A g) s.heap H locs)
    (kk : ∀ (v : Option Value) (h' : mH) (H1 : Heap) (locs1 : List Loc), Q v h' → m_P g h' H1 → va_S (m_A g) s.heap H1 locs1 → W p g.1 e R s m args below meth c H1 locs1 (uc + mc) (us + ms) Z (F0 m (pc + 3) ls ((v.map (m_sv g.2.1)).toList ++ rest))) : W p g.1 e R s m args below meth c H locs uc us Z (F0 m pc ls st0) := by
  intro T hT X
  obtain ⟨v, st₀, t, T', L, h0, X', hL, e1, e2, ⟨v', h', hv, hQ, hP, hz, hk⟩, stp⟩ := hr T hT X
  cases hv
  rw [h0] at hz hk
  obtain ⟨t2, a1, b1⟩ := kk v' h' T'.heap (locs ++ L) hQ (by rw [e1]; exact hP) ⟨Nat.le_trans hS.1 (by rw [e1]; exact hz), fun q h1 h2 => by rw [e1, hk q (Nat.lt_of_lt_of_le h1 hS.1) h2]; exact hS.2.1 q h1 h2, fun q hq => by
      rcases List.mem_append.mp hq with h | h
      · exact hS.2.2 q h
      · exact hL q h⟩ T' rfl X'
  exact ⟨t2, stp t2 a1, b1⟩
theorem m_blind (av : List Value) : FrameBlind (va_Pc (av.map (m_sv g.2.1)) (m_B g h)) := fun a U f mk q => ⟨q.1, q.2.1, va_K.moved (u := U) (U := U.calling f mk a) (Vm.Alike.refl U.vm) q.2.2.1, q.2.2.2.1, m_X.same (s := U) rfl q.2.2.2.2⟩
theorem m_startB {s : State} {H : Heap} {locs : List Loc} (hP : m_P g h H) (hK : va_K (m_D g) m_cl (m_tys g) s) (hsz : g.2.1 ≤ s.heap.size) (hXx : m_X s) (hS : va_S (m_A g) s.heap H locs) (U : State) (hU : U.heap = H) (hW : s.WarmedH U.vm) : m_B g h U :=
  ⟨by rw [hU]; exact hP, va_K.moved hW.alike hK, by rw [hU]; exact Nat.le_trans hsz hS.1, hXx.warm hW⟩
def m_lkV (own : String) (idx : Nat) (N : mM) : Prop := Cond.methodLink own idx N.1 ∈ m_tb ∧ Cond.instanceMethod N.1 ∈ m_tb ∧ Cond.selects N.1.cls N.1 N.1 ∈ m_tb
def m_lkS (own : String) (idx : Nat) (N : mM) : Prop := Cond.methodLink own idx N.1 ∈ m_tb ∧ Cond.static N.1 ∈ m_tb
def m_lkI (own : String) (idx : Nat) (N : mM) : Prop := Cond.methodLink own idx N.1 ∈ m_tb ∧ Cond.instanceMethod N.1 ∈ m_tb ∧ N.1.name = "<init>"
def m_lkN (own : String) (idx : Nat) (N : mM) : Prop := (∃ host, ∀ U, m_X U → va_Nw (.methodLinkNest own idx N.1 host) U) ∧ Cond.instanceMethod N.1 ∈ m_tb ∧ N.1.name = "<init>"
/-- the callee's room within the caller's -/
def m_fit (M N : mM) (uc us : Nat) : Prop := N.2.2.2.2.1 + 1 ≤ M.2.2.2.2.1 ∧ uc + N.2.2.2.2.2.1 ≤ M.2.2.2.2.2.1 ∧ us + N.2.2.2.2.2.2 ≤ M.2.2.2.2.2.2
theorem m_callB {p : Program} {R : Room} {s : State} {m : MethodId} {args : Array Value} {meth : Method} {c : Code} {N : mM} {n idx : Nat} (F : m_Fx g M p R s m args meth c) (hN : m_cd N n) (hfit : m_fit M N uc us) (hl : Cond.methodLink M.1.cls idx N.1 ∈ m_tb) :
    CallB R s args M.1.cls idx N.1 N.2.1 N.2.2.1 N.2.2.2.1 (m_ws N) (m_R N) N.2.2.2.2.2.1 N.2.2.2.2.2.2 n := by
  have hR : R = m_R M := F.2.2.2.2.2.2.2.2.1
  have h1 := hfit.1
  have h2 := hN.2.2.2.2
  exact callB_of n F.2.2.2.2.2.2.1 (m_gd hN) rfl rfl rfl (F.2.2.2.2.2.2.1 _ hN.1) (F.2.2.2.2.2.2.1 _ hl) hN.2.2.2.1 ⟨by rw [hR]; exact h1, by rw [hR]; show 8 + (N.2.2.1 + 11) + 40 * N.2.2.2.2.1 ≤ 40 * M.2.2.2.2.1; omega⟩
theorem m_fits {p : Program} {R : Room} {s : State} {m : MethodId} {args : Array Value} {meth : Method} {c : Code} {N : mM} (F : m_Fx g M p R s m args meth c) (hfit : m_fit M N uc us) : uc + N.2.2.2.2.2.1 ≤ R.cells ∧ us + N.2.2.2.2.2.2 ≤ R.slots := by
  have hR : R = m_R M := F.2.2.2.2.2.2.2.2.1
  rw [hR]
  exact hfit.2
theorem m_room (b : Nat) {m : MethodId} {ls : Array Slot} {st0 : List Value} (hw : (st.map fun v => v.category).sum ≤ 8) : 2 * (F0 m pc ls st0).monitorRoom + ((st.map (m_sv b)).map fun v => v.category).sum ≤ 8 := by
  refine lv_room ?_
  rw [List.map_map]
  have : ((fun v : Value => v.category) ∘ m_sv b) = fun v => v.category := by funext v; exact m_sv_cat b v
  rw [this]
  exact hw
theorem ok_callV {N : mM} {a ci n idx : Nat} {fs av : List Value} {r : vw_C} {L0 : List (Option Value)} (hd : decode M.2.1 pc = .ok (.invokevirtual idx, 3)) (hl : m_lkV M.1.cls idx N) (hN : m_cd N n) (hfit : m_fit M N uc us) (hh : hc h a = some (.inr (ci, fs))) (hr : m_cl[ci]? = some r) (hrn : r.1 = N.1.cls) (hn : av.length = n) (hw : (st.map fun v => v.category).sum ≤ 8) (hle : (m_sl (.ref a :: av)).length ≤ N.2.2.1) (hL0 : m_ent N.2.2.1 (.ref a :: av) = L0)
    (k : Ok g N (m_J g N (fun v h' => Ok g M J (pc + 3) L (m_push v st) h' (uc + N.2.2.2.2.2.1) (us + N.2.2.2.2.2.2))) 0 L0 [] h 0 0) : Ok g M J pc L (av.reverse ++ .ref a :: st) h uc us := by
  intro p e R s m args below meth c F C ls H locs hlo hP hS
  subst hL0
  have hts := F.2.2.2.2.2.2.1
  have hK := F.2.2.2.2.2.2.2.2.2.1
  have hM := Ok.met hN.2.2.1 (by rw [m_slen]; exact hle) k
  refine m_go (va_runV (As := av.map (m_sv g.2.1)) (rest := st.map (m_sv g.2.1)) (nL := M.2.2.1) (C := N.1.cls) (b := g.2.1 + a) ⟨F.1, F.2.1, F.2.2.1, F.2.2.2.2.2.1, hts⟩ hM ⟨m_callB F hN hfit hl.1, hts _ hl.2.1, hts _ hl.2.2⟩ ⟨m_blind (.ref a :: av), ?_, fun U hU hW => ⟨rfl, m_startB hP hK F.2.2.2.2.2.2.2.2.2.2.1 F.2.2.2.2.2.2.2.2.2.2.2 hS U hU hW⟩⟩ rfl (by rw [List.length_map]; exact hn) hlo.1 (by simp [m_sv]) (m_room _ hw) hd (m_fits F hfit)) hS ?_
  · rw [← hrn]
    exact va_recv hK hP.1 hr (m_W_get hh)
  · intro v h' H1 locs1 hQ hP1 hS1
    rw [m_push_sv]
    exact hQ p e R s m args below meth c F C ls H1 locs1 hlo hP1 hS1
theorem ok_callS {N : mM} {n idx : Nat} {av : List Value} {L0 : List (Option Value)} (hd : decode M.2.1 pc = .ok (.invokestatic idx, 3)) (hl : m_lkS M.1.cls idx N) (hN : m_cd N n) (hfit : m_fit M N uc us) (hn : av.length = n) (hw : (st.map fun v => v.category).sum ≤ 8) (hle : (m_sl av).length ≤ N.2.2.1) (hL0 : m_ent N.2.2.1 av = L0)
    (k : Ok g N (m_J g N (fun v h' => Ok g M J (pc + 3) L (m_push v st) h' (uc + N.2.2.2.2.2.1) (us + N.2.2.2.2.2.2))) 0 L0 [] h 0 0) : Ok g M J pc L (av.reverse ++ st) h uc us := by
  intro p e R s m args below meth c F C ls H locs hlo hP hS
  subst hL0
  have hts := F.2.2.2.2.2.2.1
  have hK := F.2.2.2.2.2.2.2.2.2.1
  have hM := Ok.met hN.2.2.1 (by rw [m_slen]; exact hle) k
  refine m_go (va_runS (As := av.map (m_sv g.2.1)) (rest := st.map (m_sv g.2.1)) (nL := M.2.2.1) ⟨F.1, F.2.1, F.2.2.1, F.2.2.2.2.2.1, hts⟩ hM ⟨m_callB F hN hfit hl.1, hts _ hl.2⟩ ⟨m_blind av, fun U hU hW => ⟨rfl, m_startB hP hK F.2.2.2.2.2.2.2.2.2.2.1 F.2.2.2.2.2.2.2.2.2.2.2 hS U hU hW⟩⟩ rfl (by rw [List.length_map]; exact hn) hlo.1 (by simp) (m_room _ hw) hd (m_fits F hfit)) hS ?_
  intro v h' H1 locs1 hQ hP1 hS1
  rw [m_push_sv]
  exact hQ p e R s m args below meth c F C ls H1 locs1 hlo hP1 hS1
theorem ok_callI {N : mM} {a n idx : Nat} {av : List Value} {L0 : List (Option Value)} (hd : decode M.2.1 pc = .ok (.invokespecial idx, 3)) (hl : m_lkI M.1.cls idx N) (hN : m_cd N n) (hret : N.2.2.2.1 = none) (hfit : m_fit M N uc us) (hn : av.length = n) (hw : (st.map fun v => v.category).sum ≤ 8) (hle : (m_sl (.ref a :: av)).length ≤ N.2.2.1) (hL0 : m_ent N.2.2.1 (.ref a :: av) = L0)
    (k : Ok g N (m_J g N (fun v h' => Ok g M J (pc + 3) L (m_push v st) h' (uc + N.2.2.2.2.2.1) (us + N.2.2.2.2.2.2))) 0 L0 [] h 0 0) : Ok g M J pc L (av.reverse ++ .ref a :: st) h uc us := by
  intro p e R s m args below meth c F C ls H locs hlo hP hS
  subst hL0
  have hts := F.2.2.2.2.2.2.1
  have hK := F.2.2.2.2.2.2.2.2.2.1
  have hM := Ok.met hN.2.2.1 (by rw [m_slen]; exact hle) k
  have hB := m_callB F hN hfit hl.1
  rw [hret] at hB
  refine m_go (va_runI (As := av.map (m_sv g.2.1)) (rest := st.map (m_sv g.2.1)) (nL := M.2.2.1) (b := g.2.1 + a) ⟨F.1, F.2.1, F.2.2.1, F.2.2.2.2.2.1, hts⟩ hM ⟨hB, hl.2.2, hts _ hl.2.1⟩ ⟨m_blind (.ref a :: av), fun U hU hW => ⟨rfl, m_startB hP hK F.2.2.2.2.2.2.2.2.2.2.1 F.2.2.2.2.2.2.2.2.2.2.2 hS U hU hW⟩⟩ rfl (by rw [List.length_map]; exact hn) hlo.1 (by simp [m_sv]) (m_room _ hw) hd (m_fits F hfit)) hS ?_
  intro v h' H1 locs1 hQ hP1 hS1
  rw [m_push_sv]
  exact hQ p e R s m args below meth c F C ls H1 locs1 hlo hP1 hS1
theorem ok_callN {N : mM} {a n idx : Nat} {av : List Value} {L0 : List (Option Value)} (hd : decode M.2.1 pc = .ok (.invokespecial idx, 3)) (hl : m_lkN M.1.cls idx N) (hN : m_cd N n) (hret : N.2.2.2.1 = none) (hfit : m_fit M N uc us) (hn : av.length = n) (hw : (st.map fun v => v.category).sum ≤ 8) (hle : (m_sl (.ref a :: av)).length ≤ N.2.2.1) (hL0 : m_ent N.2.2.1 (.ref a :: av) = L0)
    (k : Ok g N (m_J g N (fun v h' => Ok g M J (pc + 3) L (m_push v st) h' (uc + N.2.2.2.2.2.1) (us + N.2.2.2.2.2.2))) 0 L0 [] h 0 0) : Ok g M J pc L (av.reverse ++ .ref a :: st) h uc us := by
  intro p e R s m args below meth c F C ls H locs hlo hP hS
  subst hL0
  have hts := F.2.2.2.2.2.2.1
  have hK := F.2.2.2.2.2.2.2.2.2.1
  have hM := Ok.met hN.2.2.1 (by rw [m_slen]; exact hle) k
  obtain ⟨⟨host, hl1⟩, hl2, hl3⟩ := hl
  have hR : R = m_R M := F.2.2.2.2.2.2.2.2.1
  have q1 := hfit.1
  have q2 := hN.2.2.2.2
  have hB : va_CN R s args M.1.cls idx N.1 host N.2.1 N.2.2.1 N.2.2.2.1 (m_ws N) (m_R N) N.2.2.2.2.2.1 N.2.2.2.2.2.2 n := va_cnB n hts (m_gd hN) rfl rfl rfl (hl1 s F.2.2.2.2.2.2.2.2.2.2.2) (hts _ hN.1) hN.2.2.2.1 ⟨by rw [hR]; exact q1, by rw [hR]; show 8 + (N.2.2.1 + 11) + 40 * N.2.2.2.2.1 ≤ 40 * M.2.2.2.2.1; omega⟩
  rw [hret] at hB
  refine m_go (va_runIN (As := av.map (m_sv g.2.1)) (rest := st.map (m_sv g.2.1)) (nL := M.2.2.1) (b := g.2.1 + a) ⟨F.1, F.2.1, F.2.2.1, F.2.2.2.2.2.1, hts⟩ hM ⟨hB, hl3, hts _ hl2⟩ ⟨m_blind (.ref a :: av), fun U hU hW => ⟨rfl, m_startB hP hK F.2.2.2.2.2.2.2.2.2.2.1 F.2.2.2.2.2.2.2.2.2.2.2 hS U hU hW⟩⟩ rfl (by rw [List.length_map]; exact hn) hlo.1 (by simp [m_sv]) (m_room _ hw) hd (m_fits F hfit)) hS ?_
  intro v h' H1 locs1 hQ hP1 hS1
  rw [m_push_sv]
  exact hQ p e R s m args below meth c F C ls H1 locs1 hlo hP1 hS1
/-! ends -/
theorem ok_iret {Q : Option Value → mH → Prop} {v : Int32} {ty : FieldType} (hd : decode M.2.1 pc = .ok (.ireturn, 1)) (hr : M.2.2.2.1 = some ty) (hn : narrow ty (.int v) = .int v) (hu : uc ≤ M.2.2.2.2.2.1 ∧ us ≤ M.2.2.2.2.2.2) (hq : Q (some (.int v)) h) : Ok g M (m_J g M Q) pc L [.int v] h uc us := by
  intro p e R s m args below meth c F C ls H locs hl hP hS
  refine W.widen hu.1 hu.2 ?_
  exact W.zret F.1 F.2.1 (F.2.2.2.1.trans hr) hn (fun t ht hW => ⟨some (.int v), h, rfl, hq, by rw [ht]; exact hP, hS.F ht⟩) hS.2.2 hd F.2.2.2.2.1
theorem ok_lret {Q : Option Value → mH → Prop} {v : Int64} (hd : decode M.2.1 pc = .ok (.lreturn, 1)) (hr : M.2.2.2.1 = some .long) (hu : uc ≤ M.2.2.2.2.2.1 ∧ us ≤ M.2.2.2.2.2.2) (hq : Q (some (.long v)) h) : Ok g M (m_J g M Q) pc L [.long v] h uc us := by
  intro p e R s m args below meth c F C ls H locs hl hP hS
  refine W.widen hu.1 hu.2 ?_
  exact W.lret F.1 F.2.1 (F.2.2.2.1.trans hr) (fun t ht hW => ⟨some (.long v), h, rfl, hq, by rw [ht]; exact hP, hS.F ht⟩) hS.2.2 hd F.2.2.2.2.1
theorem ok_vret {Q : Option Value → mH → Prop} (hd : decode M.2.1 pc = .ok (.return_, 1)) (hr : M.2.2.2.1 = none) (hu : uc ≤ M.2.2.2.2.2.1 ∧ us ≤ M.2.2.2.2.2.2) (hq : Q none h) : Ok g M (m_J g M Q) pc L [] h uc us := by
  intro p e R s m args below meth c F C ls H locs hl hP hS
  refine W.widen hu.1 hu.2 ?_
  exact W.vret F.1 F.2.1 (F.2.2.2.1.trans hr) (fun t ht hW => ⟨none, h, rfl, hq, by rw [ht]; exact hP, hS.F ht⟩) hS.2.2 hd F.2.2.2.2.1
theorem ok_aret {Q : Option Value → mH → Prop} {v : Value} {C0 : String} (hd : decode M.2.1 pc = .ok (.areturn, 1)) (hr : M.2.2.2.1 = some (.object C0)) (ha : m_isA v = true) (hu : uc ≤ M.2.2.2.2.2.1 ∧ us ≤ M.2.2.2.2.2.2) (hq : Q (some v) h) : Ok g M (m_J g M Q) pc L [v] h uc us := by
  intro p e R s m args below meth c F C ls H locs hl hP hS
  refine W.widen hu.1 hu.2 ?_
  have hv : m_sv g.2.1 v = .null ∨ ∃ a, m_sv g.2.1 v = .ref a := by
    cases v with
    | ref a => exact Or.inr ⟨_, rfl⟩
    | null => exact Or.inl rfl
    | retAddr a => exact Or.inr ⟨_, rfl⟩
    | int x => cases ha
    | long x => cases ha
    | float x => cases ha
    | double x => cases ha
  exact W.aret F.1 F.2.1 (F.2.2.2.1.trans hr) (Or.inl ⟨C0, rfl⟩) hv (fun t ht hW => ⟨some v, h, rfl, hq, by rw [ht]; exact hP, hS.F ht⟩) hS.2.2 hd F.2.2.2.2.1
/-! Object's constructor, Math -/
theorem ok_obj {a idx : Nat} (hd : decode M.2.1 pc = .ok (.invokespecial idx, 3)) (hl : Cond.methodLink M.1.cls idx Lib.objectInit ∈ m_tb ∧ Cond.instanceMethod Lib.objectInit ∈ m_tb ∧ Cond.code Lib.objectInit ⟨#[0xb1]⟩ 1 none ∈ m_tb) (hrk : 1 ≤ M.2.2.2.2.1) (hw : (st.map fun v => v.category).sum ≤ 8) (k : Ok g M J (pc + 3) L st h uc us) : Ok g M J pc L (.ref a :: st) h uc us := by
  intro p e R s m args below meth c F C ls H locs hlo hP hS
  have hR : R = m_R M := F.2.2.2.2.2.2.2.2.1
  have hts := F.2.2.2.2.2.2.1
  have hw2 := m_room (st := st) (pc := pc) (m := m) (ls := ls) (st0 := st) g.2.1 hw
  exact W.objInit F.1 F.2.1 F.2.2.2.2.2.1 (hts _ hl.1) (hts _ hl.2.1) (hts _ hl.2.2) rfl (hlo.1.trans F.2.2.1.symm) (a := g.2.1 + a) (rest := st.map (m_sv g.2.1)) rfl hd (by rw [hR]; exact hrk) (by rw [hR]; show 2 * (F0 m pc ls _).monitorRoom + _ + 12 ≤ 40 * _; have : 2 * (F0 m pc ls ((Value.ref a :: st).map (m_sv g.2.1))).monitorRoom = 0 := rfl; have e2 : 2 * (F0 m pc ls st).monitorRoom = 0 := rfl; omega) (k p e R s m args below meth c F C ls H locs hlo hP hS)
theorem ok_max {idx : Nat} {x y : Int32} (hd : decode M.2.1 pc = .ok (.invokestatic idx, 3)) (hl : Cond.methodLink M.1.cls idx Lib.Math.max.name ∈ m_tb ∧ Cond.static Lib.Math.max.name ∈ m_tb ∧ Cond.initialized "java/lang/Math" ∈ m_tb ∧ Cond.code Lib.Math.max.name Lib.Math.max.code 2 (some .int) ∈ m_tb) (hrk : 1 ≤ M.2.2.2.2.1) (hu : uc ≤ M.2.2.2.2.2.1 ∧ us ≤ M.2.2.2.2.2.2) (hw : (st.map fun v => v.category).sum ≤ 8) (k : Ok g M J (pc + 3) L (.int (if x < y then y else x) :: st) h uc us) : Ok g M J pc L (.int y :: .int x :: st) h uc us := by
  intro p e R s m args below meth c F C ls H locs hlo hP hS
  have hR : R = m_R M := F.2.2.2.2.2.2.2.2.1
  have hts := F.2.2.2.2.2.2.1
  have hw2 := m_room (st := st) (pc := pc) (m := m) (ls := ls) (st0 := st) g.2.1 hw
  have e2 : 2 * (F0 m pc ls st).monitorRoom = 0 := rfl
  exact va_mmax F.1 F.2.1 (F.2.2.1.trans hlo.1.symm) F.2.2.2.2.2.1 (hts _ hl.1) (hts _ hl.2.1) (hts _ hl.2.2.1) (hts _ hl.2.2.2) (by rw [hR]; exact hrk) (by rw [hR]; show _ ≤ 40 * _; omega) (by rw [hR]; exact hu.1) (by rw [hR]; exact hu.2) hd (k p e R s m args below meth c F C ls H locs hlo hP hS)
theorem ok_min {idx : Nat} {x y : Int32} (hd : decode M.2.1 pc = .ok (.invokestatic idx, 3)) (hl : Cond.methodLink M.1.cls idx Lib.Math.min.name ∈ m_tb ∧ Cond.static Lib.Math.min.name ∈ m_tb ∧ Cond.initialized "java/lang/Math" ∈ m_tb ∧ Cond.code Lib.Math.min.name Lib.Math.min.code 2 (some .int) ∈ m_tb) (hrk : 1 ≤ M.2.2.2.2.1) (hu : uc ≤ M.2.2.2.2.2.1 ∧ us ≤ M.2.2.2.2.2.2) (hw : (st.map fun v => v.category).sum ≤ 8) (k : Ok g M J (pc + 3) L (.int (if y < x then y else x) :: st) h uc us) : Ok g M J pc L (.int y :: .int x :: st) h uc us := by
  intro p e R s m args below meth c F C ls H locs hlo hP hS
  have hR : R = m_R M := F.2.2.2.2.2.2.2.2.1
  have hts := F.2.2.2.2.2.2.1
  have hw2 := m_room (st := st) (pc := pc) (m := m) (ls := ls) (st0 := st) g.2.1 hw
  have e2 : 2 * (F0 m pc ls st).monitorRoom = 0 := rfl
  exact va_mmin F.1 F.2.1 (F.2.2.1.trans hlo.1.symm) F.2.2.2.2.2.1 (hts _ hl.1) (hts _ hl.2.1) (hts _ hl.2.2.1) (hts _ hl.2.2.2) (by rw [hR]; exact hrk) (by rw [hR]; show _ ≤ 40 * _; omega) (by rw [hR]; exact hu.1) (by rw [hR]; exact hu.2) hd (k p e R s m args below meth c F C ls H locs hlo hP hS)
end MACH3
end
section
/-! ===== the machine seen from above: cells that are made ===== -/
theorem m_nmA {g : mG} {s : State} (hK : va_K (m_D g) m_cl (m_tys g) s) {t : Nat} {ty : FieldType} (ht : m_ty5[t]? = some ty) : va_RA s (g.2.2.2.2 ty) ty := (hK.2 t _ (m_ty_at g ht)).2
section MACH4
variable {g : mG} {M : mM} {J : mJ} {pc : Nat} {L L' : List (Option Value)} {st : List Value} {h : mH} {uc us : Nat}
theorem ok_newarr {n : Int32} {N t : Nat} {at0 : ArrayType} {ty : FieldType} {x : (Nat → Int32) ⊕ (Nat → Int64) ⊕ (Nat → UInt32) ⊕ (Nat → UInt64) ⊕ (Nat → Option Nat)} (hd : decode M.2.1 pc = .ok (.newarray at0, 2)) (hty : newarray.typeOf at0 = ty) (ht : m_ty5[t]? = some ty) (hprim : ∀ (s : State) (c : ClassId), va_RA s c ty → s.vm.findClass ("[" ++ ty.toString) = some c) (hx : ∀ cA b, vp_cell cA (m_sA b (N, x)) = arrV cA N (fun _ => defaultValue ty)) (hw : Cond.arrayClass ty ∈ m_tb) (hn : ¬ n < 0) (hN : n.toNatClampNeg = N) (hb : N * componentBytes ty ≤ 536870912) (hu : uc + 1 ≤ M.2.2.2.2.2.1 ∧ us + N ≤ M.2.2.2.2.2.2)
    (k : Ok g M J (pc + 2) L (.ref h.1 :: st) (hp h (.inl (ty, N, x))) (uc + 1) (us + N)) : Ok g M J pc L (.int n :: st) h uc us := by
  intro p e R s m args below meth c F C ls H locs hl hP hS
  subst hty
  have hR : R = m_R M := F.2.2.2.2.2.2.2.2.1
  refine va_newaK F.1 F.2.1 (F.2.2.2.2.2.2.1 _ hw) rfl hd rfl hn hN hb (by rw [hR]; exact hu.1) (by rw [hR]; exact hu.2) hP.2 fun H1 cA e1 z1 o1 hAr hNm => ?_
  have hc : cA = g.2.2.2.2 (newarray.typeOf at0) := Option.some.inj (hNm.symm.trans (hprim s _ (m_nmA F.2.2.2.2.2.2.2.2.2.1 ht)))
  subst hc
  have z2 : H1.size = H.size + 1 := by rw [z1, hP.2]
  have o2 : ∀ q : Nat, q < H.size → H1[q]? = H[q]? := fun q hq => o1 q (by rw [← hP.2]; exact hq)
  refine k p e R s m args below meth c F C ls H1 locs hl (m_P_push hP ?_ z2 o2) (m_S_push hS z2 o2)
  show H1[g.2.1 + h.1]? = some (vp_cell _ (m_sA g.2.1 (N, x)))
  rw [hx]
  exact e1
theorem ok_newI {n : Int32} {N : Nat} (hd : decode M.2.1 pc = .ok (.newarray .int, 2)) (hw : Cond.arrayClass .int ∈ m_tb) (hn : ¬ n < 0) (hN : n.toNatClampNeg = N) (hb : N * 4 ≤ 536870912) (hu : uc + 1 ≤ M.2.2.2.2.2.1 ∧ us + N ≤ M.2.2.2.2.2.2)
    (k : Ok g M J (pc + 2) L (.ref h.1 :: st) (hp h (.inl (.int, N, .inl (fun _ => 0)))) (uc + 1) (us + N)) : Ok g M J pc L (.int n :: st) h uc us :=
  ok_newarr (t := 0) hd rfl rfl (fun s c h => h) (fun _ _ => rfl) hw hn hN hb hu k
theorem ok_newJ {n : Int32} {N : Nat} (hd : decode M.2.1 pc = .ok (.newarray .long, 2)) (hw : Cond.arrayClass .long ∈ m_tb) (hn : ¬ n < 0) (hN : n.toNatClampNeg = N) (hb : N * 8 ≤ 536870912) (hu : uc + 1 ≤ M.2.2.2.2.2.1 ∧ us + N ≤ M.2.2.2.2.2.2)
    (k : Ok g M J (pc + 2) L (.ref h.1 :: st) (hp h (.inl (.long, N, .inr (.inl (fun _ => 0))))) (uc + 1) (us + N)) : Ok g M J pc L (.int n :: st) h uc us :=
  ok_newarr (t := 1) hd rfl rfl (fun s c h => h) (fun _ _ => rfl) hw hn hN hb hu k
theorem ok_newZ {n : Int32} {N : Nat} (hd : decode M.2.1 pc = .ok (.newarray .boolean, 2)) (hw : Cond.arrayClass .boolean ∈ m_tb) (hn : ¬ n < 0) (hN : n.toNatClampNeg = N) (hb : N * 1 ≤ 536870912) (hu : uc + 1 ≤ M.2.2.2.2.2.1 ∧ us + N ≤ M.2.2.2.2.2.2)
    (k : Ok g M J (pc + 2) L (.ref h.1 :: st) (hp h (.inl (.boolean, N, .inl (fun _ => 0)))) (uc + 1) (us + N)) : Ok g M J pc L (.int n :: st) h uc us :=
  ok_newarr (t := 2) hd rfl rfl (fun s c h => h) (fun _ _ => rfl) hw hn hN hb hu k
theorem ok_newA {n : Int32} {N t idx : Nat} {C0 : String} (hd : decode M.2.1 pc = .ok (.anewarray idx, 3)) (ht : m_ty5[t]? = some (.object C0)) (hl : Cond.classLink M.1.cls idx C0 ∈ m_tb) (ho : ∀ U, m_X U → va_AO C0 U) (hn : ¬ n < 0) (hN : n.toNatClampNeg = N) (hb : N * 4 ≤ 536870912) (hu : uc + 1 ≤ M.2.2.2.2.2.1 ∧ us + N ≤ M.2.2.2.2.2.2)
    (k : Ok g M J (pc + 3) L (.ref h.1 :: st) (hp h (.inl (.object C0, N, .inr (.inr (.inr (.inr (fun _ => none))))))) (uc + 1) (us + N)) : Ok g M J pc L (.int n :: st) h uc us := by
  intro p e R s m args below meth c F C ls H locs hlo hP hS
  subst hN
  have hR : R = m_R M := F.2.2.2.2.2.2.2.2.1
  have hts := F.2.2.2.2.2.2.1
  refine W.anew F.1 F.2.1 F.2.2.2.2.2.1 (hts _ hl) (va_AO.use (ho s F.2.2.2.2.2.2.2.2.2.2.2)) rfl hd rfl hn hb (by rw [hR]; exact hu.1) (by rw [hR]; exact hu.2) fun cA kA comp f1 f2 f3 f4 => ?_
  obtain ⟨kA', comp', g1, g2, g3, g4⟩ := m_nmA F.2.2.2.2.2.2.2.2.2.1 ht
  have hc : cA = g.2.2.2.2 (.object C0) := Option.some.inj (f1.symm.trans g4)
  subst hc
  generalize hH1 : H.push ({ cls := g.2.2.2.2 (.object C0), slots := Array.replicate n.toNatClampNeg .null, vm := .none } : Cell) = H1
  have z1 : H1.size = H.size + 1 := by rw [← hH1, Array.size_push]
  have e1 : H1[H.size]? = some (arrV (g.2.2.2.2 (.object C0)) n.toNatClampNeg (fun _ => .null)) := by rw [← hH1, Array.getElem?_push_size, ← arrV_new]
  have o1 : ∀ q : Nat, q < H.size → H1[q]? = H[q]? := fun q hq => by rw [← hH1, Array.getElem?_push, if_neg (Nat.ne_of_lt hq)]
  have k' := k p e R s m args below meth c F C ls H1 locs hlo (m_P_push hP (by show H1[g.2.1 + h.1]? = some (vp_cell _ (n.toNatClampNeg, .inr (.inr (.inr (.inr (fun _ => none)))))); rw [vp_cell_q, ← hP.2]; exact e1) z1 o1) (m_S_push hS z1 o1)
  rw [hP.2]
  exact k'
theorem ok_new {ci idx : Nat} {r : vw_C} {fs : List Value} (ty0 : Nat → FieldType) (hd : decode M.2.1 pc = .ok (.new idx, 3)) (hr : m_cl[ci]? = some r) (hin : m_in (u_ws r.1 r.2.1 r.2.2)) (hty : ∀ k, k < r.2.2 → parseFieldDescriptor (r.2.1 k).2.2.1 = some (ty0 k)) (hl : Cond.classLink M.1.cls idx r.1 ∈ m_tb ∧ Cond.instantiable r.1 r.2.2 ∈ m_tb ∧ Cond.initialized r.1 ∈ m_tb) (hfs : ∀ j, j < r.2.2 → defaultValue (ty0 j) = vp_V fs j) (hsv : ∀ b, fs.map (m_sv b) = fs) (hu : uc + 1 ≤ M.2.2.2.2.2.1 ∧ us + r.2.2 ≤ M.2.2.2.2.2.2)
    (k : Ok g M J (pc + 3) L (.ref h.1 :: st) (hp h (.inr (ci, fs))) (uc + 1) (us + r.2.2)) : Ok g M J pc L st h uc us := by
  intro p e R s m args below meth c F C ls H locs hlo hP hS
  have hR : R = m_R M := F.2.2.2.2.2.2.2.2.1
  have hts := F.2.2.2.2.2.2.1
  have hKn := F.2.2.2.2.2.2.2.2.2.1.1 ci _ hr
  refine W.newcK F.1 F.2.1 F.2.2.2.2.2.1 (hts _ hl.1) (hts _ hl.2.1) (hts _ hl.2.2) rfl hd (by rw [hR]; exact hu.1) (by rw [hR]; exact hu.2) hKn.2.1 hP.2 fun H1 kC hkC e1 z1 o1 => ?_
  have z2 : H1.size = H.size + 1 := by rw [z1, hP.2]
  have o2 : ∀ q : Nat, q < H.size → H1[q]? = H[q]? := fun q hq => o1 q (by rw [← hP.2]; exact hq)
  refine k p e R s m args below meth c F C ls H1 locs hlo (m_P_push hP ?_ z2 o2) (m_S_push hS z2 o2)
  refine ⟨_, hr, (u_born ty0 hts hin hKn hkC e1 hty).to fun j hj => ?_⟩
  rw [hsv]
  exact hfs j hj
theorem ok_cloneI {a n idx : Nat} {f : Nat → Int32} (hd : decode M.2.1 pc = .ok (.invokevirtual idx, 3))
    (hl : Cond.methodLink M.1.cls idx ⟨"[I", "clone", "()Ljava/lang/Object;"⟩ ∈ m_tb ∧ Cond.sameMethod "[I" "java/lang/Object" "clone" "()Ljava/lang/Object;" ∈ m_tb ∧ Cond.native ⟨"java/lang/Object", "clone", "()Ljava/lang/Object;"⟩ ∈ m_tb ∧ Cond.instanceMethod ⟨"java/lang/Object", "clone", "()Ljava/lang/Object;"⟩ ∈ m_tb ∧ Cond.selects "[I" ⟨"[I", "clone", "()Ljava/lang/Object;"⟩ ⟨"java/lang/Object", "clone", "()Ljava/lang/Object;"⟩ ∈ m_tb)
    (hh : hc h a = some (.inl (.int, n, .inl f))) (hrk : 1 ≤ M.2.2.2.2.1) (hw : (st.map fun v => v.category).sum ≤ 8) (hu : uc + 1 ≤ M.2.2.2.2.2.1 ∧ us + n ≤ M.2.2.2.2.2.2)
    (k : Ok g M J (pc + 3) L (.ref h.1 :: st) (hp h (.inl (.int, n, .inl f))) (uc + 1) (us + n)) : Ok g M J pc L (.ref a :: st) h uc us := by
  intro p e R s m args below meth c F C ls H locs hlo hP hS
  have hR : R = m_R M := F.2.2.2.2.2.2.2.2.1
  have hts := F.2.2.2.2.2.2.1
  have hK := F.2.2.2.2.2.2.2.2.2.1
  have hnm : s.vm.findClass "[I" = some (g.2.2.2.2 .int) := m_nmA hK (t := 0) rfl
  have hw2 := m_room (st := st) (pc := pc) (m := m) (ls := ls) (st0 := st) g.2.1 hw
  have e2 : 2 * (F0 m pc ls st).monitorRoom = 0 := rfl
  have hcell : H[g.2.1 + a]? = some (arrV (g.2.2.2.2 .int) n (fun j => .int (f j))) := hP.1 a _ (m_W_get hh)
  obtain ⟨c0, t0', f1, f2, f3⟩ := Cond.castable_spec (va_Nw.use (A := args) rfl F.2.2.2.2.2.2.2.2.2.2.2.2.2.2.2)
  cases hnm.symm.trans f1
  intro T hT X
  obtain ⟨-, kA, hkA, comp, hkind⟩ := State.isArrayOf_alike X.warmed.alike (m_arr g hK (t := 0) rfl 0 (fun _ => .null))
  obtain ⟨-, kS, hkS, compS, hkindS⟩ := m_arr g hK (t := 0) rfl 0 (fun _ => .null)
  have hcellT : T.heap[g.2.1 + a]? = some (arrV (g.2.2.2.2 .int) n (fun j => .int (f j))) := by rw [hT]; exact hcell
  obtain ⟨vm', X', stp⟩ := X.cloneArray F.1 F.2.2.2.2.2.1 (hts _ hl.1) (hts _ hl.2.1) (hts _ hl.2.2.1) (hts _ hl.2.2.2.1) (hts _ hl.2.2.2.2) (a := g.2.1 + a) (cell := arrV (g.2.2.2.2 .int) n (fun j => .int (f j))) hcellT (fun k h => by cases h) (fun h => by cases h) hnm f2 f3
    (fun i v hv => by
      have hk' : T.vm.classes[g.2.2.2.2 .int]? = some kA := hkA
      have := va_fit (ty := .int) (fun i _ => rfl) i v hv
      simpa [arrV, State.fitsSlot, State.slotType?, hk', hkind] using this)
    (g := F0 m pc ls (.ref (g.2.1 + a) :: st.map (m_sv g.2.1))) rfl (hlo.1.trans F.2.2.1.symm) rfl (by rw [F.2.1]; exact hd) (by rw [hR]; exact hrk) (by rw [hR]; show 2 * 0 + _ + 14 ≤ 40 * _; omega) (by rw [hR]; exact hu.1) (by rw [arrV_size, hR]; exact hu.2) (hloader := Vm.clonesLoader_of_array hkS hkindS)
  rw [arrV_size] at X'
  have z1 : (H.push (arrV (g.2.2.2.2 .int) n (fun j => .int (f j)))).size = H.size + 1 := by rw [Array.size_push]
  have o1 : ∀ q : Nat, q < H.size → (H.push (arrV (g.2.2.2.2 .int) n (fun j => .int (f j))))[q]? = H[q]? := fun q hq => by rw [Array.getElem?_push, if_neg (Nat.ne_of_lt hq)]
  obtain ⟨t, b1, b2⟩ := k p e R s m args below meth c F C ls _ locs hlo (m_P_push hP (by show (H.push (arrV (g.2.2.2.2 .int) n (fun j => .int (f j))))[g.2.1 + h.1]? = some (vp_cell _ (n, .inl f)); rw [vp_cell_i, ← hP.2, Array.getElem?_push_size]) z1 o1) (m_S_push hS z1 o1)
    ((T.setVm vm').pushCell (arrV (g.2.2.2.2 .int) n (fun j => .int (f j)))) (by rw [← hT]; rfl) X'
  refine ⟨t, stp t ?_, b2⟩
  rw [hT, hP.2]
  exact b1
theorem ok_castI {a n idx : Nat} {f : Nat → Int32} (hd : decode M.2.1 pc = .ok (.checkcast idx, 3)) (hl : Cond.classLink M.1.cls idx "[I" ∈ m_tb) (hh : hc h a = some (.inl (.int, n, .inl f))) (k : Ok g M J (pc + 3) L (.ref a :: st) h uc us) : Ok g M J pc L (.ref a :: st) h uc us := by
  intro p e R s m args below meth c F C ls H locs hlo hP hS
  exact va_castA F.1 F.2.1 F.2.2.2.2.2.1 (F.2.2.2.2.2.2.1 _ hl) hP.1 a (m_W_get hh) (m_nmA F.2.2.2.2.2.2.2.2.2.1 (t := 0) rfl) hd (k p e R s m args below meth c F C ls H locs hlo hP hS)
/-! the law's script -/
theorem ok_sald {b Ls : Nat} {xs : Nat → Int32} {i : Int32} (hd : decode M.2.1 pc = .ok (.iaload, 1)) (hJ : ∀ args s, J.1 args s → va_X b Ls xs s s.heap ∧ b < g.2.1) (hi : vp_in i Ls) (k : Ok g M J (pc + 1) L (.int (xs i.toNatClampNeg) :: st) h uc us) : Ok g M J pc L (.int i :: .retAddr b :: st) h uc us := by
  intro p e R s m args below meth c F C ls H locs hlo hP hS
  obtain ⟨hX, hb⟩ := hJ args s C
  exact va_sld F.1 F.2.1 hX (Nat.lt_of_lt_of_le hb F.2.2.2.2.2.2.2.2.2.2.1) (Nat.not_le.mpr hb) hS hi hd (k p e R s m args below meth c F C ls H locs hlo hP hS)
theorem ok_slen {b Ls : Nat} {xs : Nat → Int32} (hd : decode M.2.1 pc = .ok (.arraylength, 1)) (hJ : ∀ args s, J.1 args s → va_X b Ls xs s s.heap ∧ b < g.2.1) (k : Ok g M J (pc + 1) L (.int (nI Ls) :: st) h uc us) : Ok g M J pc L (.retAddr b :: st) h uc us := by
  intro p e R s m args below meth c F C ls H locs hlo hP hS
  obtain ⟨hX, hb⟩ := hJ args s C
  exact va_slen F.1 F.2.1 hX (Nat.lt_of_lt_of_le hb F.2.2.2.2.2.2.2.2.2.2.1) (Nat.not_le.mpr hb) hS hd (k p e R s m args below meth c F C ls H locs hlo hP hS)
end MACH4
end
section
/-- field k of class ci, only to be read -/
def m_flR (own : String) (idx ci k : Nat) : Prop := ∃ (r : vw_C), m_cl[ci]? = some r ∧ k < r.2.2 ∧ m_in (u_ws r.1 r.2.1 r.2.2) ∧ Cond.fieldLink own idx (r.2.1 k).1 (r.2.1 k).2.1 (r.2.1 k).2.2.1 ∈ m_tb
theorem ok_getR {g : mG} {M : mM} {J : mJ} {pc : Nat} {L : List (Option Value)} {st : List Value} {h : mH} {uc us : Nat} {a ci k idx : Nat} {fs : List Value} {v : Value} (hd : decode M.2.1 pc = .ok (.getfield idx, 3)) (hf : m_flR M.1.cls idx ci k) (hh : hc h a = some (.inr (ci, fs))) (hv : fs[k]? = some v) (kk : Ok g M J (pc + 3) L (v :: st) h uc us) : Ok g M J pc L (.ref a :: st) h uc us := by
  intro p e R s m args below meth c F C ls H locs hl hP hS
  obtain ⟨r, h1, h2, h3, h4⟩ := hf
  exact va_get (cl := m_cl) (C := r.1) (T := r.2.1) (N := r.2.2) F.1 F.2.1 F.2.2.2.2.2.2.1 h3 F.2.2.2.2.2.1 F.2.2.2.2.2.2.2.2.2.1 hP.1 a (m_W_get hh) h1 k h2 (F.2.2.2.2.2.2.1 _ h4) (fun x q => q) (v := m_sv g.2.1 v) (by rw [List.getElem?_map, hv]; rfl) hd (kk p e R s m args below meth c F C ls H locs hl hP hS)
theorem inX0 : m_in (u_ws RX0 TX0 11) := m_in_of [271, 273, 275, 277, 279, 281, 283, 285, 287, 289, 291] (by decide +kernel) (by decide +kernel)
theorem inX1 : m_in (u_ws RX1 TX1 1) := m_in_of [63] (by decide +kernel) (by decide +kernel)
theorem inX2 : m_in (u_ws RX2 TX2 8) := m_in_of [104, 106, 108, 110, 112, 114, 116, 118] (by decide +kernel) (by decide +kernel)
theorem inX3 : m_in (u_ws RX3 TX3 3) := m_in_of [89, 91, 93] (by decide +kernel) (by decide +kernel)
theorem inX4 : m_in (u_ws RX4 TX4 11) := m_in_of [136, 138, 140, 142, 144, 146, 148, 150, 152, 154, 156] (by decide +kernel) (by decide +kernel)
theorem inX5 : m_in (u_ws RX5 TX5 24) := m_in_of [592, 594, 596, 598, 600, 602, 604, 606, 608, 610, 612, 614, 616, 618, 620, 622, 624, 626, 628, 630, 632, 634, 636, 638] (by decide +kernel) (by decide +kernel)
theorem fl_X1_9 : m_fl RX1 9 1 0 (.array .int) true := ⟨(RX1, TX1, 1), tyX1, rfl, by decide, inX1, (m_tb_of 62 (by decide +kernel) (by decide +kernel)), tyX1_ok, nmX1, rfl, rfl, (fun _ => rfl)⟩
theorem fl_X3_9 : m_fl RX3 9 3 0 (.array .int) true := ⟨(RX3, TX3, 3), tyX3, rfl, by decide, inX3, (m_tb_of 80 (by decide +kernel) (by decide +kernel)), tyX3_ok, nmX3, rfl, rfl, (fun _ => rfl)⟩
theorem fl_X3_15 : m_fl RX3 15 3 1 (.int) false := ⟨(RX3, TX3, 3), tyX3, rfl, by decide, inX3, (m_tb_of 81 (by decide +kernel) (by decide +kernel)), tyX3_ok, nmX3, rfl, rfl, (fun e => absurd e (by decide))⟩
theorem fl_X2_49 : m_fl RX2 49 3 1 (.int) false := ⟨(RX3, TX3, 3), tyX3, rfl, by decide, inX3, (m_tb_of 82 (by decide +kernel) (by decide +kernel)), tyX3_ok, nmX3, rfl, rfl, (fun e => absurd e (by decide))⟩
theorem fl_X4_73 : m_fl RX4 73 3 1 (.int) false := ⟨(RX3, TX3, 3), tyX3, rfl, by decide, inX3, (m_tb_of 83 (by decide +kernel) (by decide +kernel)), tyX3_ok, nmX3, rfl, rfl, (fun e => absurd e (by decide))⟩
theorem fl_X1_25 : m_fl RX1 25 3 1 (.int) false := ⟨(RX3, TX3, 3), tyX3, rfl, by decide, inX3, (m_tb_of 84 (by decide +kernel) (by decide +kernel)), tyX3_ok, nmX3, rfl, rfl, (fun e => absurd e (by decide))⟩
theorem fl_X3_19 : m_fl RX3 19 3 2 (.int) false := ⟨(RX3, TX3, 3), tyX3, rfl, by decide, inX3, (m_tb_of 85 (by decide +kernel) (by decide +kernel)), tyX3_ok, nmX3, rfl, rfl, (fun e => absurd e (by decide))⟩
theorem fl_X2_41 : m_fl RX2 41 3 2 (.int) false := ⟨(RX3, TX3, 3), tyX3, rfl, by decide, inX3, (m_tb_of 86 (by decide +kernel) (by decide +kernel)), tyX3_ok, nmX3, rfl, rfl, (fun e => absurd e (by decide))⟩
theorem fl_X1_19 : m_fl RX1 19 3 2 (.int) false := ⟨(RX3, TX3, 3), tyX3, rfl, by decide, inX3, (m_tb_of 87 (by decide +kernel) (by decide +kernel)), tyX3_ok, nmX3, rfl, rfl, (fun e => absurd e (by decide))⟩
theorem fl_X4_90 : m_fl RX4 90 3 2 (.int) false := ⟨(RX3, TX3, 3), tyX3, rfl, by decide, inX3, (m_tb_of 88 (by decide +kernel) (by decide +kernel)), tyX3_ok, nmX3, rfl, rfl, (fun e => absurd e (by decide))⟩
theorem fl_X2_9 : m_fl RX2 9 2 0 (.array .int) true := ⟨(RX2, TX2, 8), tyX2, rfl, by decide, inX2, (m_tb_of 96 (by decide +kernel) (by decide +kernel)), tyX2_ok, nmX2, rfl, rfl, (fun _ => rfl)⟩
theorem fl_X2_15 : m_fl RX2 15 2 1 (.array .int) true := ⟨(RX2, TX2, 8), tyX2, rfl, by decide, inX2, (m_tb_of 97 (by decide +kernel) (by decide +kernel)), tyX2_ok, nmX2, rfl, rfl, (fun _ => rfl)⟩
theorem fl_X2_18 : m_fl RX2 18 2 2 (.array .int) true := ⟨(RX2, TX2, 8), tyX2, rfl, by decide, inX2, (m_tb_of 98 (by decide +kernel) (by decide +kernel)), tyX2_ok, nmX2, rfl, rfl, (fun _ => rfl)⟩
theorem fl_X2_21 : m_fl RX2 21 2 3 (.array .int) true := ⟨(RX2, TX2, 8), tyX2, rfl, by decide, inX2, (m_tb_of 99 (by decide +kernel) (by decide +kernel)), tyX2_ok, nmX2, rfl, rfl, (fun _ => rfl)⟩
theorem fl_X2_27 : m_fl RX2 27 2 4 (.object "GivingHeaps$Row") true := ⟨(RX2, TX2, 8), tyX2, rfl, by decide, inX2, (m_tb_of 100 (by decide +kernel) (by decide +kernel)), tyX2_ok, nmX2, rfl, rfl, (fun _ => rfl)⟩
theorem fl_X2_31 : m_fl RX2 31 2 5 (.object "GivingHeaps$Row") true := ⟨(RX2, TX2, 8), tyX2, rfl, by decide, inX2, (m_tb_of 101 (by decide +kernel) (by decide +kernel)), tyX2_ok, nmX2, rfl, rfl, (fun _ => rfl)⟩
theorem fl_X2_34 : m_fl RX2 34 2 6 (.array .long) false := ⟨(RX2, TX2, 8), tyX2, rfl, by decide, inX2, (m_tb_of 102 (by decide +kernel) (by decide +kernel)), tyX2_ok, nmX2, rfl, rfl, (fun e => absurd e (by decide))⟩
theorem fl_X2_38 : m_fl RX2 38 2 7 (.array .long) false := ⟨(RX2, TX2, 8), tyX2, rfl, by decide, inX2, (m_tb_of 103 (by decide +kernel) (by decide +kernel)), tyX2_ok, nmX2, rfl, rfl, (fun e => absurd e (by decide))⟩
theorem fl_X4_11 : m_fl RX4 11 4 0 (.array (.object "GivingHeaps$Row")) true := ⟨(RX4, TX4, 11), tyX4, rfl, by decide, inX4, (m_tb_of 125 (by decide +kernel) (by decide +kernel)), tyX4_ok, nmX4, rfl, rfl, (fun _ => rfl)⟩
theorem fl_X4_15 : m_fl RX4 15 4 1 (.array .boolean) true := ⟨(RX4, TX4, 11), tyX4, rfl, by decide, inX4, (m_tb_of 126 (by decide +kernel) (by decide +kernel)), tyX4_ok, nmX4, rfl, rfl, (fun _ => rfl)⟩
theorem fl_X4_19 : m_fl RX4 19 4 2 (.array .int) true := ⟨(RX4, TX4, 11), tyX4, rfl, by decide, inX4, (m_tb_of 127 (by decide +kernel) (by decide +kernel)), tyX4_ok, nmX4, rfl, rfl, (fun _ => rfl)⟩
theorem fl_X4_26 : m_fl RX4 26 4 3 (.object "GivingHeaps$Lists") true := ⟨(RX4, TX4, 11), tyX4, rfl, by decide, inX4, (m_tb_of 128 (by decide +kernel) (by decide +kernel)), tyX4_ok, nmX4, rfl, rfl, (fun _ => rfl)⟩
theorem fl_X4_33 : m_fl RX4 33 4 4 (.object "GivingHeaps$Mixer") true := ⟨(RX4, TX4, 11), tyX4, rfl, by decide, inX4, (m_tb_of 129 (by decide +kernel) (by decide +kernel)), tyX4_ok, nmX4, rfl, rfl, (fun _ => rfl)⟩
theorem fl_X4_39 : m_fl RX4 39 4 5 (.array (.object "GivingHeaps$Chart")) true := ⟨(RX4, TX4, 11), tyX4, rfl, by decide, inX4, (m_tb_of 130 (by decide +kernel) (by decide +kernel)), tyX4_ok, nmX4, rfl, rfl, (fun _ => rfl)⟩
theorem fl_X4_44 : m_fl RX4 44 4 6 (.object "GivingHeaps$Row") true := ⟨(RX4, TX4, 11), tyX4, rfl, by decide, inX4, (m_tb_of 131 (by decide +kernel) (by decide +kernel)), tyX4_ok, nmX4, rfl, rfl, (fun _ => rfl)⟩
theorem fl_X4_48 : m_fl RX4 48 4 7 (.object "GivingHeaps$Row") true := ⟨(RX4, TX4, 11), tyX4, rfl, by decide, inX4, (m_tb_of 132 (by decide +kernel) (by decide +kernel)), tyX4_ok, nmX4, rfl, rfl, (fun _ => rfl)⟩
theorem fl_X4_93 : m_fl RX4 93 4 8 (.int) false := ⟨(RX4, TX4, 11), tyX4, rfl, by decide, inX4, (m_tb_of 133 (by decide +kernel) (by decide +kernel)), tyX4_ok, nmX4, rfl, rfl, (fun e => absurd e (by decide))⟩
theorem fl_X4_185 : m_fl RX4 185 4 9 (.int) false := ⟨(RX4, TX4, 11), tyX4, rfl, by decide, inX4, (m_tb_of 134 (by decide +kernel) (by decide +kernel)), tyX4_ok, nmX4, rfl, rfl, (fun e => absurd e (by decide))⟩
theorem fl_X4_171 : m_fl RX4 171 4 10 (.long) false := ⟨(RX4, TX4, 11), tyX4, rfl, by decide, inX4, (m_tb_of 135 (by decide +kernel) (by decide +kernel)), tyX4_ok, nmX4, rfl, rfl, (fun e => absurd e (by decide))⟩
theorem fl_X0_15 : m_fl RX0 15 0 0 (.int) true := ⟨(RX0, TX0, 11), tyX0, rfl, by decide, inX0, (m_tb_of 254 (by decide +kernel) (by decide +kernel)), tyX0_ok, nmX0, rfl, rfl, (fun _ => rfl)⟩
theorem fl_X4_198 : m_flR RX4 198 0 0 := ⟨(RX0, TX0, 11), rfl, by decide, inX0, (m_tb_of 255 (by decide +kernel) (by decide +kernel))⟩
theorem fl_X0_21 : m_fl RX0 21 0 1 (.array .int) true := ⟨(RX0, TX0, 11), tyX0, rfl, by decide, inX0, (m_tb_of 256 (by decide +kernel) (by decide +kernel)), tyX0_ok, nmX0, rfl, rfl, (fun _ => rfl)⟩
theorem fl_X0_25 : m_fl RX0 25 0 2 (.array .int) true := ⟨(RX0, TX0, 11), tyX0, rfl, by decide, inX0, (m_tb_of 257 (by decide +kernel) (by decide +kernel)), tyX0_ok, nmX0, rfl, rfl, (fun _ => rfl)⟩
theorem fl_X0_28 : m_fl RX0 28 0 3 (.array .int) true := ⟨(RX0, TX0, 11), tyX0, rfl, by decide, inX0, (m_tb_of 258 (by decide +kernel) (by decide +kernel)), tyX0_ok, nmX0, rfl, rfl, (fun _ => rfl)⟩
theorem fl_X0_31 : m_fl RX0 31 0 4 (.array .int) true := ⟨(RX0, TX0, 11), tyX0, rfl, by decide, inX0, (m_tb_of 259 (by decide +kernel) (by decide +kernel)), tyX0_ok, nmX0, rfl, rfl, (fun _ => rfl)⟩
theorem fl_X0_34 : m_fl RX0 34 0 5 (.array .int) true := ⟨(RX0, TX0, 11), tyX0, rfl, by decide, inX0, (m_tb_of 260 (by decide +kernel) (by decide +kernel)), tyX0_ok, nmX0, rfl, rfl, (fun _ => rfl)⟩
theorem fl_X0_61 : m_fl RX0 61 0 6 (.int) false := ⟨(RX0, TX0, 11), tyX0, rfl, by decide, inX0, (m_tb_of 261 (by decide +kernel) (by decide +kernel)), tyX0_ok, nmX0, rfl, rfl, (fun e => absurd e (by decide))⟩
theorem fl_X4_132 : m_fl RX4 132 0 6 (.int) false := ⟨(RX0, TX0, 11), tyX0, rfl, by decide, inX0, (m_tb_of 262 (by decide +kernel) (by decide +kernel)), tyX0_ok, nmX0, rfl, rfl, (fun e => absurd e (by decide))⟩
theorem fl_X0_64 : m_fl RX0 64 0 7 (.int) false := ⟨(RX0, TX0, 11), tyX0, rfl, by decide, inX0, (m_tb_of 263 (by decide +kernel) (by decide +kernel)), tyX0_ok, nmX0, rfl, rfl, (fun e => absurd e (by decide))⟩
theorem fl_X4_135 : m_fl RX4 135 0 7 (.int) false := ⟨(RX0, TX0, 11), tyX0, rfl, by decide, inX0, (m_tb_of 264 (by decide +kernel) (by decide +kernel)), tyX0_ok, nmX0, rfl, rfl, (fun e => absurd e (by decide))⟩
theorem fl_X0_70 : m_fl RX0 70 0 8 (.int) false := ⟨(RX0, TX0, 11), tyX0, rfl, by decide, inX0, (m_tb_of 265 (by decide +kernel) (by decide +kernel)), tyX0_ok, nmX0, rfl, rfl, (fun e => absurd e (by decide))⟩
theorem fl_X4_138 : m_fl RX4 138 0 8 (.int) false := ⟨(RX0, TX0, 11), tyX0, rfl, by decide, inX0, (m_tb_of 266 (by decide +kernel) (by decide +kernel)), tyX0_ok, nmX0, rfl, rfl, (fun e => absurd e (by decide))⟩
theorem fl_X0_50 : m_fl RX0 50 0 9 (.int) false := ⟨(RX0, TX0, 11), tyX0, rfl, by decide, inX0, (m_tb_of 267 (by decide +kernel) (by decide +kernel)), tyX0_ok, nmX0, rfl, rfl, (fun e => absurd e (by decide))⟩
theorem fl_X4_141 : m_fl RX4 141 0 9 (.int) false := ⟨(RX0, TX0, 11), tyX0, rfl, by decide, inX0, (m_tb_of 268 (by decide +kernel) (by decide +kernel)), tyX0_ok, nmX0, rfl, rfl, (fun e => absurd e (by decide))⟩
theorem fl_X0_67 : m_fl RX0 67 0 10 (.int) false := ⟨(RX0, TX0, 11), tyX0, rfl, by decide, inX0, (m_tb_of 269 (by decide +kernel) (by decide +kernel)), tyX0_ok, nmX0, rfl, rfl, (fun e => absurd e (by decide))⟩
theorem fl_X4_144 : m_fl RX4 144 0 10 (.int) false := ⟨(RX0, TX0, 11), tyX0, rfl, by decide, inX0, (m_tb_of 270 (by decide +kernel) (by decide +kernel)), tyX0_ok, nmX0, rfl, rfl, (fun e => absurd e (by decide))⟩
theorem fl_X5_66 : m_fl RX5 66 5 0 (.int) false := ⟨(RX5, TX5, 24), tyX5, rfl, by decide, inX5, (m_tb_of 568 (by decide +kernel) (by decide +kernel)), tyX5_ok, nmX5, rfl, rfl, (fun e => absurd e (by decide))⟩
theorem fl_X5_7 : m_fl RX5 7 5 1 (.array .int) true := ⟨(RX5, TX5, 24), tyX5, rfl, by decide, inX5, (m_tb_of 569 (by decide +kernel) (by decide +kernel)), tyX5_ok, nmX5, rfl, rfl, (fun _ => rfl)⟩
theorem fl_X5_163 : m_fl RX5 163 5 2 (.long) false := ⟨(RX5, TX5, 24), tyX5, rfl, by decide, inX5, (m_tb_of 570 (by decide +kernel) (by decide +kernel)), tyX5_ok, nmX5, rfl, rfl, (fun e => absurd e (by decide))⟩
theorem fl_X5_91 : m_fl RX5 91 5 3 (.int) false := ⟨(RX5, TX5, 24), tyX5, rfl, by decide, inX5, (m_tb_of 571 (by decide +kernel) (by decide +kernel)), tyX5_ok, nmX5, rfl, rfl, (fun e => absurd e (by decide))⟩
theorem fl_X5_13 : m_fl RX5 13 5 4 (.array .int) true := ⟨(RX5, TX5, 24), tyX5, rfl, by decide, inX5, (m_tb_of 572 (by decide +kernel) (by decide +kernel)), tyX5_ok, nmX5, rfl, rfl, (fun _ => rfl)⟩
theorem fl_X5_16 : m_fl RX5 16 5 5 (.array .int) true := ⟨(RX5, TX5, 24), tyX5, rfl, by decide, inX5, (m_tb_of 573 (by decide +kernel) (by decide +kernel)), tyX5_ok, nmX5, rfl, rfl, (fun _ => rfl)⟩
theorem fl_X5_19 : m_fl RX5 19 5 6 (.array .int) true := ⟨(RX5, TX5, 24), tyX5, rfl, by decide, inX5, (m_tb_of 574 (by decide +kernel) (by decide +kernel)), tyX5_ok, nmX5, rfl, rfl, (fun _ => rfl)⟩
theorem fl_X5_22 : m_fl RX5 22 5 7 (.array .int) true := ⟨(RX5, TX5, 24), tyX5, rfl, by decide, inX5, (m_tb_of 575 (by decide +kernel) (by decide +kernel)), tyX5_ok, nmX5, rfl, rfl, (fun _ => rfl)⟩
theorem fl_X5_94 : m_fl RX5 94 5 8 (.int) false := ⟨(RX5, TX5, 24), tyX5, rfl, by decide, inX5, (m_tb_of 576 (by decide +kernel) (by decide +kernel)), tyX5_ok, nmX5, rfl, rfl, (fun e => absurd e (by decide))⟩
theorem fl_X5_25 : m_fl RX5 25 5 9 (.int) false := ⟨(RX5, TX5, 24), tyX5, rfl, by decide, inX5, (m_tb_of 577 (by decide +kernel) (by decide +kernel)), tyX5_ok, nmX5, rfl, rfl, (fun e => absurd e (by decide))⟩
theorem fl_X5_104 : m_fl RX5 104 5 10 (.int) false := ⟨(RX5, TX5, 24), tyX5, rfl, by decide, inX5, (m_tb_of 578 (by decide +kernel) (by decide +kernel)), tyX5_ok, nmX5, rfl, rfl, (fun e => absurd e (by decide))⟩
theorem fl_X5_29 : m_fl RX5 29 5 11 (.array .int) true := ⟨(RX5, TX5, 24), tyX5, rfl, by decide, inX5, (m_tb_of 579 (by decide +kernel) (by decide +kernel)), tyX5_ok, nmX5, rfl, rfl, (fun _ => rfl)⟩
theorem fl_X5_32 : m_fl RX5 32 5 12 (.array .int) true := ⟨(RX5, TX5, 24), tyX5, rfl, by decide, inX5, (m_tb_of 580 (by decide +kernel) (by decide +kernel)), tyX5_ok, nmX5, rfl, rfl, (fun _ => rfl)⟩
theorem fl_X5_35 : m_fl RX5 35 5 13 (.array .int) true := ⟨(RX5, TX5, 24), tyX5, rfl, by decide, inX5, (m_tb_of 581 (by decide +kernel) (by decide +kernel)), tyX5_ok, nmX5, rfl, rfl, (fun _ => rfl)⟩
theorem fl_X5_38 : m_fl RX5 38 5 14 (.array .int) true := ⟨(RX5, TX5, 24), tyX5, rfl, by decide, inX5, (m_tb_of 582 (by decide +kernel) (by decide +kernel)), tyX5_ok, nmX5, rfl, rfl, (fun _ => rfl)⟩
theorem fl_X5_41 : m_fl RX5 41 5 15 (.array .int) true := ⟨(RX5, TX5, 24), tyX5, rfl, by decide, inX5, (m_tb_of 583 (by decide +kernel) (by decide +kernel)), tyX5_ok, nmX5, rfl, rfl, (fun _ => rfl)⟩
theorem fl_X5_44 : m_fl RX5 44 5 16 (.array .int) true := ⟨(RX5, TX5, 24), tyX5, rfl, by decide, inX5, (m_tb_of 584 (by decide +kernel) (by decide +kernel)), tyX5_ok, nmX5, rfl, rfl, (fun _ => rfl)⟩
theorem fl_X5_47 : m_fl RX5 47 5 17 (.array .int) true := ⟨(RX5, TX5, 24), tyX5, rfl, by decide, inX5, (m_tb_of 585 (by decide +kernel) (by decide +kernel)), tyX5_ok, nmX5, rfl, rfl, (fun _ => rfl)⟩
theorem fl_X5_50 : m_fl RX5 50 5 18 (.array .long) true := ⟨(RX5, TX5, 24), tyX5, rfl, by decide, inX5, (m_tb_of 586 (by decide +kernel) (by decide +kernel)), tyX5_ok, nmX5, rfl, rfl, (fun _ => rfl)⟩
theorem fl_X5_54 : m_fl RX5 54 5 19 (.array .int) true := ⟨(RX5, TX5, 24), tyX5, rfl, by decide, inX5, (m_tb_of 587 (by decide +kernel) (by decide +kernel)), tyX5_ok, nmX5, rfl, rfl, (fun _ => rfl)⟩
theorem fl_X5_57 : m_fl RX5 57 5 20 (.array .int) true := ⟨(RX5, TX5, 24), tyX5, rfl, by decide, inX5, (m_tb_of 588 (by decide +kernel) (by decide +kernel)), tyX5_ok, nmX5, rfl, rfl, (fun _ => rfl)⟩
theorem fl_X5_60 : m_fl RX5 60 5 21 (.array .int) true := ⟨(RX5, TX5, 24), tyX5, rfl, by decide, inX5, (m_tb_of 589 (by decide +kernel) (by decide +kernel)), tyX5_ok, nmX5, rfl, rfl, (fun _ => rfl)⟩
theorem fl_X5_149 : m_fl RX5 149 5 22 (.int) false := ⟨(RX5, TX5, 24), tyX5, rfl, by decide, inX5, (m_tb_of 590 (by decide +kernel) (by decide +kernel)), tyX5_ok, nmX5, rfl, rfl, (fun e => absurd e (by decide))⟩
theorem fl_X5_63 : m_fl RX5 63 5 23 (.array .long) true := ⟨(RX5, TX5, 24), tyX5, rfl, by decide, inX5, (m_tb_of 591 (by decide +kernel) (by decide +kernel)), tyX5_ok, nmX5, rfl, rfl, (fun _ => rfl)⟩
end
section
theorem cdX0_init : m_cd MX0_init 1 := ⟨(m_tb_of 43 (by decide +kernel) (by decide +kernel)), (m_tb_of 249 (by decide +kernel) (by decide +kernel)), by decide +kernel, ⟨by decide +kernel, by decide +kernel, by decide +kernel⟩, by decide⟩
theorem cdX0_has : m_cd MX0_has 1 := ⟨(m_tb_of 43 (by decide +kernel) (by decide +kernel)), (m_tb_of 327 (by decide +kernel) (by decide +kernel)), by decide +kernel, ⟨by decide +kernel, by decide +kernel, by decide +kernel⟩, by decide⟩
theorem cdX0_link : m_cd MX0_link 2 := ⟨(m_tb_of 43 (by decide +kernel) (by decide +kernel)), (m_tb_of 323 (by decide +kernel) (by decide +kernel)), by decide +kernel, ⟨by decide +kernel, by decide +kernel, by decide +kernel⟩, by decide⟩
theorem cdX0_draw : m_cd MX0_draw 0 := ⟨(m_tb_of 43 (by decide +kernel) (by decide +kernel)), (m_tb_of 331 (by decide +kernel) (by decide +kernel)), by decide +kernel, ⟨by decide +kernel, by decide +kernel, by decide +kernel⟩, by decide⟩
theorem cdX0_peel : m_cd MX0_peel 2 := ⟨(m_tb_of 43 (by decide +kernel) (by decide +kernel)), (m_tb_of 342 (by decide +kernel) (by decide +kernel)), by decide +kernel, ⟨by decide +kernel, by decide +kernel, by decide +kernel⟩, by decide⟩
theorem cdX0_drawRing : m_cd MX0_drawRing 2 := ⟨(m_tb_of 43 (by decide +kernel) (by decide +kernel)), (m_tb_of 346 (by decide +kernel) (by decide +kernel)), by decide +kernel, ⟨by decide +kernel, by decide +kernel, by decide +kernel⟩, by decide⟩
theorem cdX0_drawTail : m_cd MX0_drawTail 1 := ⟨(m_tb_of 43 (by decide +kernel) (by decide +kernel)), (m_tb_of 350 (by decide +kernel) (by decide +kernel)), by decide +kernel, ⟨by decide +kernel, by decide +kernel, by decide +kernel⟩, by decide⟩
theorem cdX0_kindOf : m_cd MX0_kindOf 1 := ⟨(m_tb_of 43 (by decide +kernel) (by decide +kernel)), (m_tb_of 354 (by decide +kernel) (by decide +kernel)), by decide +kernel, ⟨by decide +kernel, by decide +kernel, by decide +kernel⟩, by decide⟩
theorem cdX0_tailOf : m_cd MX0_tailOf 1 := ⟨(m_tb_of 43 (by decide +kernel) (by decide +kernel)), (m_tb_of 366 (by decide +kernel) (by decide +kernel)), by decide +kernel, ⟨by decide +kernel, by decide +kernel, by decide +kernel⟩, by decide⟩
theorem cdX0_beatOf : m_cd MX0_beatOf 1 := ⟨(m_tb_of 43 (by decide +kernel) (by decide +kernel)), (m_tb_of 362 (by decide +kernel) (by decide +kernel)), by decide +kernel, ⟨by decide +kernel, by decide +kernel, by decide +kernel⟩, by decide⟩
theorem cdX0_leaderOf : m_cd MX0_leaderOf 1 := ⟨(m_tb_of 43 (by decide +kernel) (by decide +kernel)), (m_tb_of 417 (by decide +kernel) (by decide +kernel)), by decide +kernel, ⟨by decide +kernel, by decide +kernel, by decide +kernel⟩, by decide⟩
theorem cdX0_comersTo : m_cd MX0_comersTo 1 := ⟨(m_tb_of 43 (by decide +kernel) (by decide +kernel)), (m_tb_of 437 (by decide +kernel) (by decide +kernel)), by decide +kernel, ⟨by decide +kernel, by decide +kernel, by decide +kernel⟩, by decide⟩
theorem cdX0_comerTo : m_cd MX0_comerTo 2 := ⟨(m_tb_of 43 (by decide +kernel) (by decide +kernel)), (m_tb_of 445 (by decide +kernel) (by decide +kernel)), by decide +kernel, ⟨by decide +kernel, by decide +kernel, by decide +kernel⟩, by decide⟩
theorem cdX0_leaderOfRing : m_cd MX0_leaderOfRing 1 := ⟨(m_tb_of 43 (by decide +kernel) (by decide +kernel)), (m_tb_of 429 (by decide +kernel) (by decide +kernel)), by decide +kernel, ⟨by decide +kernel, by decide +kernel, by decide +kernel⟩, by decide⟩
theorem cdX0_after : m_cd MX0_after 2 := ⟨(m_tb_of 43 (by decide +kernel) (by decide +kernel)), (m_tb_of 401 (by decide +kernel) (by decide +kernel)), by decide +kernel, ⟨by decide +kernel, by decide +kernel, by decide +kernel⟩, by decide⟩
theorem cdX0_stepsBetween : m_cd MX0_stepsBetween 2 := ⟨(m_tb_of 43 (by decide +kernel) (by decide +kernel)), (m_tb_of 453 (by decide +kernel) (by decide +kernel)), by decide +kernel, ⟨by decide +kernel, by decide +kernel, by decide +kernel⟩, by decide⟩
theorem cdX1_init : m_cd MX1_init 0 := ⟨(m_tb_of 39 (by decide +kernel) (by decide +kernel)), (m_tb_of 60 (by decide +kernel) (by decide +kernel)), by decide +kernel, ⟨by decide +kernel, by decide +kernel, by decide +kernel⟩, by decide⟩
theorem cdX1_cappedAt : m_cd MX1_cappedAt 2 := ⟨(m_tb_of 39 (by decide +kernel) (by decide +kernel)), (m_tb_of 246 (by decide +kernel) (by decide +kernel)), by decide +kernel, ⟨by decide +kernel, by decide +kernel, by decide +kernel⟩, by decide⟩
theorem cdX1_length : m_cd MX1_length 1 := ⟨(m_tb_of 39 (by decide +kernel) (by decide +kernel)), (m_tb_of 242 (by decide +kernel) (by decide +kernel)), by decide +kernel, ⟨by decide +kernel, by decide +kernel, by decide +kernel⟩, by decide⟩
theorem cdX1_numberOf : m_cd MX1_numberOf 1 := ⟨(m_tb_of 39 (by decide +kernel) (by decide +kernel)), (m_tb_of 318 (by decide +kernel) (by decide +kernel)), by decide +kernel, ⟨by decide +kernel, by decide +kernel, by decide +kernel⟩, by decide⟩
theorem cdX1_write : m_cd MX1_write 3 := ⟨(m_tb_of 39 (by decide +kernel) (by decide +kernel)), (m_tb_of 297 (by decide +kernel) (by decide +kernel)), by decide +kernel, ⟨by decide +kernel, by decide +kernel, by decide +kernel⟩, by decide⟩
theorem cdX2_init : m_cd MX2_init 0 := ⟨(m_tb_of 40 (by decide +kernel) (by decide +kernel)), (m_tb_of 72 (by decide +kernel) (by decide +kernel)), by decide +kernel, ⟨by decide +kernel, by decide +kernel, by decide +kernel⟩, by decide⟩
theorem cdX2_chosenAt : m_cd MX2_chosenAt 2 := ⟨(m_tb_of 40 (by decide +kernel) (by decide +kernel)), (m_tb_of 477 (by decide +kernel) (by decide +kernel)), by decide +kernel, ⟨by decide +kernel, by decide +kernel, by decide +kernel⟩, by decide⟩
theorem cdX2_choicesBetween : m_cd MX2_choicesBetween 2 := ⟨(m_tb_of 40 (by decide +kernel) (by decide +kernel)), (m_tb_of 461 (by decide +kernel) (by decide +kernel)), by decide +kernel, ⟨by decide +kernel, by decide +kernel, by decide +kernel⟩, by decide⟩
theorem cdX2_choicesGiving : m_cd MX2_choicesGiving 2 := ⟨(m_tb_of 40 (by decide +kernel) (by decide +kernel)), (m_tb_of 472 (by decide +kernel) (by decide +kernel)), by decide +kernel, ⟨by decide +kernel, by decide +kernel, by decide +kernel⟩, by decide⟩
theorem cdX2_countReached : m_cd MX2_countReached 2 := ⟨(m_tb_of 40 (by decide +kernel) (by decide +kernel)), (m_tb_of 485 (by decide +kernel) (by decide +kernel)), by decide +kernel, ⟨by decide +kernel, by decide +kernel, by decide +kernel⟩, by decide⟩
theorem cdX2_choicesOfSteps : m_cd MX2_choicesOfSteps 4 := ⟨(m_tb_of 40 (by decide +kernel) (by decide +kernel)), (m_tb_of 512 (by decide +kernel) (by decide +kernel)), by decide +kernel, ⟨by decide +kernel, by decide +kernel, by decide +kernel⟩, by decide⟩
theorem cdX2_spreadAll : m_cd MX2_spreadAll 2 := ⟨(m_tb_of 40 (by decide +kernel) (by decide +kernel)), (m_tb_of 516 (by decide +kernel) (by decide +kernel)), by decide +kernel, ⟨by decide +kernel, by decide +kernel, by decide +kernel⟩, by decide⟩
theorem cdX2_spread : m_cd MX2_spread 3 := ⟨(m_tb_of 40 (by decide +kernel) (by decide +kernel)), (m_tb_of 492 (by decide +kernel) (by decide +kernel)), by decide +kernel, ⟨by decide +kernel, by decide +kernel, by decide +kernel⟩, by decide⟩
theorem cdX2_land : m_cd MX2_land 3 := ⟨(m_tb_of 40 (by decide +kernel) (by decide +kernel)), (m_tb_of 497 (by decide +kernel) (by decide +kernel)), by decide +kernel, ⟨by decide +kernel, by decide +kernel, by decide +kernel⟩, by decide⟩
theorem cdX2_nextGift : m_cd MX2_nextGift 0 := ⟨(m_tb_of 40 (by decide +kernel) (by decide +kernel)), (m_tb_of 504 (by decide +kernel) (by decide +kernel)), by decide +kernel, ⟨by decide +kernel, by decide +kernel, by decide +kernel⟩, by decide⟩
theorem cdX3_init : m_cd MX3_init 0 := ⟨(m_tb_of 41 (by decide +kernel) (by decide +kernel)), (m_tb_of 78 (by decide +kernel) (by decide +kernel)), by decide +kernel, ⟨by decide +kernel, by decide +kernel, by decide +kernel⟩, by decide⟩
theorem cdX3_clear : m_cd MX3_clear 0 := ⟨(m_tb_of 41 (by decide +kernel) (by decide +kernel)), (m_tb_of 169 (by decide +kernel) (by decide +kernel)), by decide +kernel, ⟨by decide +kernel, by decide +kernel, by decide +kernel⟩, by decide⟩
theorem cdX3_has : m_cd MX3_has 1 := ⟨(m_tb_of 41 (by decide +kernel) (by decide +kernel)), (m_tb_of 198 (by decide +kernel) (by decide +kernel)), by decide +kernel, ⟨by decide +kernel, by decide +kernel, by decide +kernel⟩, by decide⟩
theorem cdX3_heapAt : m_cd MX3_heapAt 1 := ⟨(m_tb_of 41 (by decide +kernel) (by decide +kernel)), (m_tb_of 202 (by decide +kernel) (by decide +kernel)), by decide +kernel, ⟨by decide +kernel, by decide +kernel, by decide +kernel⟩, by decide⟩
theorem cdX3_hasRoomFor : m_cd MX3_hasRoomFor 1 := ⟨(m_tb_of 41 (by decide +kernel) (by decide +kernel)), (m_tb_of 185 (by decide +kernel) (by decide +kernel)), by decide +kernel, ⟨by decide +kernel, by decide +kernel, by decide +kernel⟩, by decide⟩
theorem cdX3_put : m_cd MX3_put 1 := ⟨(m_tb_of 41 (by decide +kernel) (by decide +kernel)), (m_tb_of 189 (by decide +kernel) (by decide +kernel)), by decide +kernel, ⟨by decide +kernel, by decide +kernel, by decide +kernel⟩, by decide⟩
theorem cdX3_putPart : m_cd MX3_putPart 3 := ⟨(m_tb_of 41 (by decide +kernel) (by decide +kernel)), (m_tb_of 223 (by decide +kernel) (by decide +kernel)), by decide +kernel, ⟨by decide +kernel, by decide +kernel, by decide +kernel⟩, by decide⟩
theorem cdX3_drop : m_cd MX3_drop 1 := ⟨(m_tb_of 41 (by decide +kernel) (by decide +kernel)), (m_tb_of 210 (by decide +kernel) (by decide +kernel)), by decide +kernel, ⟨by decide +kernel, by decide +kernel, by decide +kernel⟩, by decide⟩
theorem cdX3_heapsFrom : m_cd MX3_heapsFrom 1 := ⟨(m_tb_of 41 (by decide +kernel) (by decide +kernel)), (m_tb_of 393 (by decide +kernel) (by decide +kernel)), by decide +kernel, ⟨by decide +kernel, by decide +kernel, by decide +kernel⟩, by decide⟩
theorem cdX3_unlikeHeaps : m_cd MX3_unlikeHeaps 0 := ⟨(m_tb_of 41 (by decide +kernel) (by decide +kernel)), (m_tb_of 530 (by decide +kernel) (by decide +kernel)), by decide +kernel, ⟨by decide +kernel, by decide +kernel, by decide +kernel⟩, by decide⟩
theorem cdX3_tallyInto : m_cd MX3_tallyInto 1 := ⟨(m_tb_of 41 (by decide +kernel) (by decide +kernel)), (m_tb_of 465 (by decide +kernel) (by decide +kernel)), by decide +kernel, ⟨by decide +kernel, by decide +kernel, by decide +kernel⟩, by decide⟩
theorem cdX3_digestOnto : m_cd MX3_digestOnto 1 := ⟨(m_tb_of 41 (by decide +kernel) (by decide +kernel)), (m_tb_of 560 (by decide +kernel) (by decide +kernel)), by decide +kernel, ⟨by decide +kernel, by decide +kernel, by decide +kernel⟩, by decide⟩
theorem cdX4_init : m_cd MX4_init 0 := ⟨(m_tb_of 38 (by decide +kernel) (by decide +kernel)), (m_tb_of 50 (by decide +kernel) (by decide +kernel)), by decide +kernel, ⟨by decide +kernel, by decide +kernel, by decide +kernel⟩, by decide⟩
theorem cdX4_parting : m_cd MX4_parting 1 := ⟨(m_tb_of 38 (by decide +kernel) (by decide +kernel)), (m_tb_of 162 (by decide +kernel) (by decide +kernel)), by decide +kernel, ⟨by decide +kernel, by decide +kernel, by decide +kernel⟩, by decide⟩
theorem cdX4_heap : m_cd MX4_heap 2 := ⟨(m_tb_of 38 (by decide +kernel) (by decide +kernel)), (m_tb_of 173 (by decide +kernel) (by decide +kernel)), by decide +kernel, ⟨by decide +kernel, by decide +kernel, by decide +kernel⟩, by decide⟩
theorem cdX4_at : m_cd MX4_at 2 := ⟨(m_tb_of 38 (by decide +kernel) (by decide +kernel)), (m_tb_of 194 (by decide +kernel) (by decide +kernel)), by decide +kernel, ⟨by decide +kernel, by decide +kernel, by decide +kernel⟩, by decide⟩
theorem cdX4_take : m_cd MX4_take 2 := ⟨(m_tb_of 38 (by decide +kernel) (by decide +kernel)), (m_tb_of 206 (by decide +kernel) (by decide +kernel)), by decide +kernel, ⟨by decide +kernel, by decide +kernel, by decide +kernel⟩, by decide⟩
theorem cdX4_tear : m_cd MX4_tear 1 := ⟨(m_tb_of 38 (by decide +kernel) (by decide +kernel)), (m_tb_of 215 (by decide +kernel) (by decide +kernel)), by decide +kernel, ⟨by decide +kernel, by decide +kernel, by decide +kernel⟩, by decide⟩
theorem cdX4_copy : m_cd MX4_copy 4 := ⟨(m_tb_of 38 (by decide +kernel) (by decide +kernel)), (m_tb_of 219 (by decide +kernel) (by decide +kernel)), by decide +kernel, ⟨by decide +kernel, by decide +kernel, by decide +kernel⟩, by decide⟩
theorem cdX4_rule : m_cd MX4_rule 1 := ⟨(m_tb_of 38 (by decide +kernel) (by decide +kernel)), (m_tb_of 229 (by decide +kernel) (by decide +kernel)), by decide +kernel, ⟨by decide +kernel, by decide +kernel, by decide +kernel⟩, by decide⟩
theorem cdX4_kind : m_cd MX4_kind 1 := ⟨(m_tb_of 38 (by decide +kernel) (by decide +kernel)), (m_tb_of 233 (by decide +kernel) (by decide +kernel)), by decide +kernel, ⟨by decide +kernel, by decide +kernel, by decide +kernel⟩, by decide⟩
theorem cdX4_mark : m_cd MX4_mark 2 := ⟨(m_tb_of 38 (by decide +kernel) (by decide +kernel)), (m_tb_of 358 (by decide +kernel) (by decide +kernel)), by decide +kernel, ⟨by decide +kernel, by decide +kernel, by decide +kernel⟩, by decide⟩
theorem cdX4_mean : m_cd MX4_mean 1 := ⟨(m_tb_of 38 (by decide +kernel) (by decide +kernel)), (m_tb_of 370 (by decide +kernel) (by decide +kernel)), by decide +kernel, ⟨by decide +kernel, by decide +kernel, by decide +kernel⟩, by decide⟩
theorem cdX4_many : m_cd MX4_many 1 := ⟨(m_tb_of 38 (by decide +kernel) (by decide +kernel)), (m_tb_of 374 (by decide +kernel) (by decide +kernel)), by decide +kernel, ⟨by decide +kernel, by decide +kernel, by decide +kernel⟩, by decide⟩
theorem cdX4_rank : m_cd MX4_rank 1 := ⟨(m_tb_of 38 (by decide +kernel) (by decide +kernel)), (m_tb_of 381 (by decide +kernel) (by decide +kernel)), by decide +kernel, ⟨by decide +kernel, by decide +kernel, by decide +kernel⟩, by decide⟩
theorem cdX4_list : m_cd MX4_list 3 := ⟨(m_tb_of 38 (by decide +kernel) (by decide +kernel)), (m_tb_of 385 (by decide +kernel) (by decide +kernel)), by decide +kernel, ⟨by decide +kernel, by decide +kernel, by decide +kernel⟩, by decide⟩
theorem cdX4_turn : m_cd MX4_turn 1 := ⟨(m_tb_of 38 (by decide +kernel) (by decide +kernel)), (m_tb_of 389 (by decide +kernel) (by decide +kernel)), by decide +kernel, ⟨by decide +kernel, by decide +kernel, by decide +kernel⟩, by decide⟩
theorem cdX4_step : m_cd MX4_step 2 := ⟨(m_tb_of 38 (by decide +kernel) (by decide +kernel)), (m_tb_of 397 (by decide +kernel) (by decide +kernel)), by decide +kernel, ⟨by decide +kernel, by decide +kernel, by decide +kernel⟩, by decide⟩
theorem cdX4_tail : m_cd MX4_tail 1 := ⟨(m_tb_of 38 (by decide +kernel) (by decide +kernel)), (m_tb_of 405 (by decide +kernel) (by decide +kernel)), by decide +kernel, ⟨by decide +kernel, by decide +kernel, by decide +kernel⟩, by decide⟩
theorem cdX4_beat : m_cd MX4_beat 1 := ⟨(m_tb_of 38 (by decide +kernel) (by decide +kernel)), (m_tb_of 409 (by decide +kernel) (by decide +kernel)), by decide +kernel, ⟨by decide +kernel, by decide +kernel, by decide +kernel⟩, by decide⟩
theorem cdX4_leader : m_cd MX4_leader 1 := ⟨(m_tb_of 38 (by decide +kernel) (by decide +kernel)), (m_tb_of 413 (by decide +kernel) (by decide +kernel)), by decide +kernel, ⟨by decide +kernel, by decide +kernel, by decide +kernel⟩, by decide⟩
theorem cdX4_rounds : m_cd MX4_rounds 2 := ⟨(m_tb_of 38 (by decide +kernel) (by decide +kernel)), (m_tb_of 421 (by decide +kernel) (by decide +kernel)), by decide +kernel, ⟨by decide +kernel, by decide +kernel, by decide +kernel⟩, by decide⟩
theorem cdX4_ring : m_cd MX4_ring 2 := ⟨(m_tb_of 38 (by decide +kernel) (by decide +kernel)), (m_tb_of 425 (by decide +kernel) (by decide +kernel)), by decide +kernel, ⟨by decide +kernel, by decide +kernel, by decide +kernel⟩, by decide⟩
theorem cdX4_from : m_cd MX4_from 1 := ⟨(m_tb_of 38 (by decide +kernel) (by decide +kernel)), (m_tb_of 433 (by decide +kernel) (by decide +kernel)), by decide +kernel, ⟨by decide +kernel, by decide +kernel, by decide +kernel⟩, by decide⟩
theorem cdX4_fromAt : m_cd MX4_fromAt 2 := ⟨(m_tb_of 38 (by decide +kernel) (by decide +kernel)), (m_tb_of 441 (by decide +kernel) (by decide +kernel)), by decide +kernel, ⟨by decide +kernel, by decide +kernel, by decide +kernel⟩, by decide⟩
theorem cdX4_steps : m_cd MX4_steps 2 := ⟨(m_tb_of 38 (by decide +kernel) (by decide +kernel)), (m_tb_of 449 (by decide +kernel) (by decide +kernel)), by decide +kernel, ⟨by decide +kernel, by decide +kernel, by decide +kernel⟩, by decide⟩
theorem cdX4_ways : m_cd MX4_ways 2 := ⟨(m_tb_of 38 (by decide +kernel) (by decide +kernel)), (m_tb_of 457 (by decide +kernel) (by decide +kernel)), by decide +kernel, ⟨by decide +kernel, by decide +kernel, by decide +kernel⟩, by decide⟩
theorem cdX4_reach : m_cd MX4_reach 1 := ⟨(m_tb_of 38 (by decide +kernel) (by decide +kernel)), (m_tb_of 481 (by decide +kernel) (by decide +kernel)), by decide +kernel, ⟨by decide +kernel, by decide +kernel, by decide +kernel⟩, by decide⟩
theorem cdX4_walks : m_cd MX4_walks 3 := ⟨(m_tb_of 38 (by decide +kernel) (by decide +kernel)), (m_tb_of 508 (by decide +kernel) (by decide +kernel)), by decide +kernel, ⟨by decide +kernel, by decide +kernel, by decide +kernel⟩, by decide⟩
theorem cdX4_asked : m_cd MX4_asked 0 := ⟨(m_tb_of 38 (by decide +kernel) (by decide +kernel)), (m_tb_of 522 (by decide +kernel) (by decide +kernel)), by decide +kernel, ⟨by decide +kernel, by decide +kernel, by decide +kernel⟩, by decide⟩
theorem cdX4_told : m_cd MX4_told 2 := ⟨(m_tb_of 38 (by decide +kernel) (by decide +kernel)), (m_tb_of 526 (by decide +kernel) (by decide +kernel)), by decide +kernel, ⟨by decide +kernel, by decide +kernel, by decide +kernel⟩, by decide⟩
theorem cdX4_count : m_cd MX4_count 1 := ⟨(m_tb_of 38 (by decide +kernel) (by decide +kernel)), (m_tb_of 534 (by decide +kernel) (by decide +kernel)), by decide +kernel, ⟨by decide +kernel, by decide +kernel, by decide +kernel⟩, by decide⟩
theorem cdX4_finding : m_cd MX4_finding 0 := ⟨(m_tb_of 38 (by decide +kernel) (by decide +kernel)), (m_tb_of 546 (by decide +kernel) (by decide +kernel)), by decide +kernel, ⟨by decide +kernel, by decide +kernel, by decide +kernel⟩, by decide⟩
theorem cdX4_findings : m_cd MX4_findings 1 := ⟨(m_tb_of 38 (by decide +kernel) (by decide +kernel)), (m_tb_of 550 (by decide +kernel) (by decide +kernel)), by decide +kernel, ⟨by decide +kernel, by decide +kernel, by decide +kernel⟩, by decide⟩
theorem cdX4_digest : m_cd MX4_digest 0 := ⟨(m_tb_of 38 (by decide +kernel) (by decide +kernel)), (m_tb_of 554 (by decide +kernel) (by decide +kernel)), by decide +kernel, ⟨by decide +kernel, by decide +kernel, by decide +kernel⟩, by decide⟩
theorem cdX4_isPlace : m_cd MX4_isPlace 1 := ⟨(m_tb_of 38 (by decide +kernel) (by decide +kernel)), (m_tb_of 165 (by decide +kernel) (by decide +kernel)), by decide +kernel, ⟨by decide +kernel, by decide +kernel, by decide +kernel⟩, by decide⟩
theorem cdX4_isCards : m_cd MX4_isCards 1 := ⟨(m_tb_of 38 (by decide +kernel) (by decide +kernel)), (m_tb_of 377 (by decide +kernel) (by decide +kernel)), by decide +kernel, ⟨by decide +kernel, by decide +kernel, by decide +kernel⟩, by decide⟩
theorem cdX4_rowAt : m_cd MX4_rowAt 1 := ⟨(m_tb_of 38 (by decide +kernel) (by decide +kernel)), (m_tb_of 177 (by decide +kernel) (by decide +kernel)), by decide +kernel, ⟨by decide +kernel, by decide +kernel, by decide +kernel⟩, by decide⟩
theorem cdX4_found : m_cd MX4_found 1 := ⟨(m_tb_of 38 (by decide +kernel) (by decide +kernel)), (m_tb_of 181 (by decide +kernel) (by decide +kernel)), by decide +kernel, ⟨by decide +kernel, by decide +kernel, by decide +kernel⟩, by decide⟩
theorem cdX4_rowsThere : m_cd MX4_rowsThere 0 := ⟨(m_tb_of 38 (by decide +kernel) (by decide +kernel)), (m_tb_of 538 (by decide +kernel) (by decide +kernel)), by decide +kernel, ⟨by decide +kernel, by decide +kernel, by decide +kernel⟩, by decide⟩
theorem cdX4_cardsInAll : m_cd MX4_cardsInAll 0 := ⟨(m_tb_of 38 (by decide +kernel) (by decide +kernel)), (m_tb_of 542 (by decide +kernel) (by decide +kernel)), by decide +kernel, ⟨by decide +kernel, by decide +kernel, by decide +kernel⟩, by decide⟩
theorem cdX4_chartOf : m_cd MX4_chartOf 1 := ⟨(m_tb_of 38 (by decide +kernel) (by decide +kernel)), (m_tb_of 237 (by decide +kernel) (by decide +kernel)), by decide +kernel, ⟨by decide +kernel, by decide +kernel, by decide +kernel⟩, by decide⟩
theorem cdX4_stepInto : m_cd MX4_stepInto 3 := ⟨(m_tb_of 38 (by decide +kernel) (by decide +kernel)), (m_tb_of 302 (by decide +kernel) (by decide +kernel)), by decide +kernel, ⟨by decide +kernel, by decide +kernel, by decide +kernel⟩, by decide⟩
theorem cdX4_giveFromEach : m_cd MX4_giveFromEach 3 := ⟨(m_tb_of 38 (by decide +kernel) (by decide +kernel)), (m_tb_of 308 (by decide +kernel) (by decide +kernel)), by decide +kernel, ⟨by decide +kernel, by decide +kernel, by decide +kernel⟩, by decide⟩
theorem cdX4_giveFromGreatest : m_cd MX4_giveFromGreatest 2 := ⟨(m_tb_of 38 (by decide +kernel) (by decide +kernel)), (m_tb_of 305 (by decide +kernel) (by decide +kernel)), by decide +kernel, ⟨by decide +kernel, by decide +kernel, by decide +kernel⟩, by decide⟩
theorem cdX4_giveLeastAway : m_cd MX4_giveLeastAway 2 := ⟨(m_tb_of 38 (by decide +kernel) (by decide +kernel)), (m_tb_of 314 (by decide +kernel) (by decide +kernel)), by decide +kernel, ⟨by decide +kernel, by decide +kernel, by decide +kernel⟩, by decide⟩
theorem cdX5_init : m_cd MX5_init 0 := ⟨(m_tb_of 42 (by decide +kernel) (by decide +kernel)), (m_tb_of 566 (by decide +kernel) (by decide +kernel)), by decide +kernel, ⟨by decide +kernel, by decide +kernel, by decide +kernel⟩, by decide⟩
theorem cdX5_in : m_cd MX5_in 3 := ⟨(m_tb_of 42 (by decide +kernel) (by decide +kernel)), (m_tb_of 650 (by decide +kernel) (by decide +kernel)), by decide +kernel, ⟨by decide +kernel, by decide +kernel, by decide +kernel⟩, by decide⟩
theorem cdX5_meets : m_cd MX5_meets 1 := ⟨(m_tb_of 42 (by decide +kernel) (by decide +kernel)), (m_tb_of 662 (by decide +kernel) (by decide +kernel)), by decide +kernel, ⟨by decide +kernel, by decide +kernel, by decide +kernel⟩, by decide⟩
theorem cdX5_isParting : m_cd MX5_isParting 1 := ⟨(m_tb_of 42 (by decide +kernel) (by decide +kernel)), (m_tb_of 647 (by decide +kernel) (by decide +kernel)), by decide +kernel, ⟨by decide +kernel, by decide +kernel, by decide +kernel⟩, by decide⟩
theorem cdX5_looked : m_cd MX5_looked 1 := ⟨(m_tb_of 42 (by decide +kernel) (by decide +kernel)), (m_tb_of 658 (by decide +kernel) (by decide +kernel)), by decide +kernel, ⟨by decide +kernel, by decide +kernel, by decide +kernel⟩, by decide⟩
theorem cdX5_cards : m_cd MX5_cards 1 := ⟨(m_tb_of 42 (by decide +kernel) (by decide +kernel)), (m_tb_of 666 (by decide +kernel) (by decide +kernel)), by decide +kernel, ⟨by decide +kernel, by decide +kernel, by decide +kernel⟩, by decide⟩
theorem cdX5_parting : m_cd MX5_parting 1 := ⟨(m_tb_of 42 (by decide +kernel) (by decide +kernel)), (m_tb_of 644 (by decide +kernel) (by decide +kernel)), by decide +kernel, ⟨by decide +kernel, by decide +kernel, by decide +kernel⟩, by decide⟩
theorem cdX5_put : m_cd MX5_put 2 := ⟨(m_tb_of 42 (by decide +kernel) (by decide +kernel)), (m_tb_of 670 (by decide +kernel) (by decide +kernel)), by decide +kernel, ⟨by decide +kernel, by decide +kernel, by decide +kernel⟩, by decide⟩
theorem cdX5_heap : m_cd MX5_heap 2 := ⟨(m_tb_of 42 (by decide +kernel) (by decide +kernel)), (m_tb_of 654 (by decide +kernel) (by decide +kernel)), by decide +kernel, ⟨by decide +kernel, by decide +kernel, by decide +kernel⟩, by decide⟩
theorem cdX5_at : m_cd MX5_at 2 := ⟨(m_tb_of 42 (by decide +kernel) (by decide +kernel)), (m_tb_of 674 (by decide +kernel) (by decide +kernel)), by decide +kernel, ⟨by decide +kernel, by decide +kernel, by decide +kernel⟩, by decide⟩
theorem cdX5_take : m_cd MX5_take 2 := ⟨(m_tb_of 42 (by decide +kernel) (by decide +kernel)), (m_tb_of 678 (by decide +kernel) (by decide +kernel)), by decide +kernel, ⟨by decide +kernel, by decide +kernel, by decide +kernel⟩, by decide⟩
theorem cdX5_tear : m_cd MX5_tear 1 := ⟨(m_tb_of 42 (by decide +kernel) (by decide +kernel)), (m_tb_of 682 (by decide +kernel) (by decide +kernel)), by decide +kernel, ⟨by decide +kernel, by decide +kernel, by decide +kernel⟩, by decide⟩
theorem cdX5_copy : m_cd MX5_copy 4 := ⟨(m_tb_of 42 (by decide +kernel) (by decide +kernel)), (m_tb_of 686 (by decide +kernel) (by decide +kernel)), by decide +kernel, ⟨by decide +kernel, by decide +kernel, by decide +kernel⟩, by decide⟩
theorem cdX5_rule : m_cd MX5_rule 1 := ⟨(m_tb_of 42 (by decide +kernel) (by decide +kernel)), (m_tb_of 690 (by decide +kernel) (by decide +kernel)), by decide +kernel, ⟨by decide +kernel, by decide +kernel, by decide +kernel⟩, by decide⟩
theorem cdX5_load : m_cd MX5_load 1 := ⟨(m_tb_of 42 (by decide +kernel) (by decide +kernel)), (m_tb_of 714 (by decide +kernel) (by decide +kernel)), by decide +kernel, ⟨by decide +kernel, by decide +kernel, by decide +kernel⟩, by decide⟩
theorem cdX5_keep : m_cd MX5_keep 1 := ⟨(m_tb_of 42 (by decide +kernel) (by decide +kernel)), (m_tb_of 734 (by decide +kernel) (by decide +kernel)), by decide +kernel, ⟨by decide +kernel, by decide +kernel, by decide +kernel⟩, by decide⟩
theorem cdX5_settle : m_cd MX5_settle 0 := ⟨(m_tb_of 42 (by decide +kernel) (by decide +kernel)), (m_tb_of 762 (by decide +kernel) (by decide +kernel)), by decide +kernel, ⟨by decide +kernel, by decide +kernel, by decide +kernel⟩, by decide⟩
theorem cdX5_give : m_cd MX5_give 3 := ⟨(m_tb_of 42 (by decide +kernel) (by decide +kernel)), (m_tb_of 758 (by decide +kernel) (by decide +kernel)), by decide +kernel, ⟨by decide +kernel, by decide +kernel, by decide +kernel⟩, by decide⟩
theorem cdX5_goOn : m_cd MX5_goOn 0 := ⟨(m_tb_of 42 (by decide +kernel) (by decide +kernel)), (m_tb_of 754 (by decide +kernel) (by decide +kernel)), by decide +kernel, ⟨by decide +kernel, by decide +kernel, by decide +kernel⟩, by decide⟩
theorem cdX5_setList : m_cd MX5_setList 1 := ⟨(m_tb_of 42 (by decide +kernel) (by decide +kernel)), (m_tb_of 698 (by decide +kernel) (by decide +kernel)), by decide +kernel, ⟨by decide +kernel, by decide +kernel, by decide +kernel⟩, by decide⟩
theorem cdX5_later : m_cd MX5_later 0 := ⟨(m_tb_of 42 (by decide +kernel) (by decide +kernel)), (m_tb_of 702 (by decide +kernel) (by decide +kernel)), by decide +kernel, ⟨by decide +kernel, by decide +kernel, by decide +kernel⟩, by decide⟩
theorem cdX5_against : m_cd MX5_against 1 := ⟨(m_tb_of 42 (by decide +kernel) (by decide +kernel)), (m_tb_of 722 (by decide +kernel) (by decide +kernel)), by decide +kernel, ⟨by decide +kernel, by decide +kernel, by decide +kernel⟩, by decide⟩
theorem cdX5_rankRow : m_cd MX5_rankRow 0 := ⟨(m_tb_of 42 (by decide +kernel) (by decide +kernel)), (m_tb_of 718 (by decide +kernel) (by decide +kernel)), by decide +kernel, ⟨by decide +kernel, by decide +kernel, by decide +kernel⟩, by decide⟩
theorem cdX5_loadListed : m_cd MX5_loadListed 1 := ⟨(m_tb_of 42 (by decide +kernel) (by decide +kernel)), (m_tb_of 730 (by decide +kernel) (by decide +kernel)), by decide +kernel, ⟨by decide +kernel, by decide +kernel, by decide +kernel⟩, by decide⟩
theorem cdX5_rankOf : m_cd MX5_rankOf 1 := ⟨(m_tb_of 42 (by decide +kernel) (by decide +kernel)), (m_tb_of 710 (by decide +kernel) (by decide +kernel)), by decide +kernel, ⟨by decide +kernel, by decide +kernel, by decide +kernel⟩, by decide⟩
theorem cdX5_many : m_cd MX5_many 1 := ⟨(m_tb_of 42 (by decide +kernel) (by decide +kernel)), (m_tb_of 694 (by decide +kernel) (by decide +kernel)), by decide +kernel, ⟨by decide +kernel, by decide +kernel, by decide +kernel⟩, by decide⟩
theorem cdX5_rank : m_cd MX5_rank 1 := ⟨(m_tb_of 42 (by decide +kernel) (by decide +kernel)), (m_tb_of 706 (by decide +kernel) (by decide +kernel)), by decide +kernel, ⟨by decide +kernel, by decide +kernel, by decide +kernel⟩, by decide⟩
theorem cdX5_list : m_cd MX5_list 3 := ⟨(m_tb_of 42 (by decide +kernel) (by decide +kernel)), (m_tb_of 726 (by decide +kernel) (by decide +kernel)), by decide +kernel, ⟨by decide +kernel, by decide +kernel, by decide +kernel⟩, by decide⟩
theorem cdX5_turn : m_cd MX5_turn 1 := ⟨(m_tb_of 42 (by decide +kernel) (by decide +kernel)), (m_tb_of 738 (by decide +kernel) (by decide +kernel)), by decide +kernel, ⟨by decide +kernel, by decide +kernel, by decide +kernel⟩, by decide⟩
theorem cdX5_setSteps : m_cd MX5_setSteps 1 := ⟨(m_tb_of 42 (by decide +kernel) (by decide +kernel)), (m_tb_of 750 (by decide +kernel) (by decide +kernel)), by decide +kernel, ⟨by decide +kernel, by decide +kernel, by decide +kernel⟩, by decide⟩
theorem cdX5_isRound : m_cd MX5_isRound 1 := ⟨(m_tb_of 42 (by decide +kernel) (by decide +kernel)), (m_tb_of 766 (by decide +kernel) (by decide +kernel)), by decide +kernel, ⟨by decide +kernel, by decide +kernel, by decide +kernel⟩, by decide⟩
theorem cdX5_stepped : m_cd MX5_stepped 1 := ⟨(m_tb_of 42 (by decide +kernel) (by decide +kernel)), (m_tb_of 746 (by decide +kernel) (by decide +kernel)), by decide +kernel, ⟨by decide +kernel, by decide +kernel, by decide +kernel⟩, by decide⟩
theorem cdX5_kindOf : m_cd MX5_kindOf 1 := ⟨(m_tb_of 42 (by decide +kernel) (by decide +kernel)), (m_tb_of 770 (by decide +kernel) (by decide +kernel)), by decide +kernel, ⟨by decide +kernel, by decide +kernel, by decide +kernel⟩, by decide⟩
theorem cdX5_kind : m_cd MX5_kind 1 := ⟨(m_tb_of 42 (by decide +kernel) (by decide +kernel)), (m_tb_of 742 (by decide +kernel) (by decide +kernel)), by decide +kernel, ⟨by decide +kernel, by decide +kernel, by decide +kernel⟩, by decide⟩
theorem cdX5_mark : m_cd MX5_mark 2 := ⟨(m_tb_of 42 (by decide +kernel) (by decide +kernel)), (m_tb_of 774 (by decide +kernel) (by decide +kernel)), by decide +kernel, ⟨by decide +kernel, by decide +kernel, by decide +kernel⟩, by decide⟩
theorem cdX5_mean : m_cd MX5_mean 1 := ⟨(m_tb_of 42 (by decide +kernel) (by decide +kernel)), (m_tb_of 778 (by decide +kernel) (by decide +kernel)), by decide +kernel, ⟨by decide +kernel, by decide +kernel, by decide +kernel⟩, by decide⟩
theorem cdX5_step : m_cd MX5_step 2 := ⟨(m_tb_of 42 (by decide +kernel) (by decide +kernel)), (m_tb_of 782 (by decide +kernel) (by decide +kernel)), by decide +kernel, ⟨by decide +kernel, by decide +kernel, by decide +kernel⟩, by decide⟩
theorem cdX5_tail : m_cd MX5_tail 1 := ⟨(m_tb_of 42 (by decide +kernel) (by decide +kernel)), (m_tb_of 786 (by decide +kernel) (by decide +kernel)), by decide +kernel, ⟨by decide +kernel, by decide +kernel, by decide +kernel⟩, by decide⟩
theorem cdX5_beat : m_cd MX5_beat 1 := ⟨(m_tb_of 42 (by decide +kernel) (by decide +kernel)), (m_tb_of 790 (by decide +kernel) (by decide +kernel)), by decide +kernel, ⟨by decide +kernel, by decide +kernel, by decide +kernel⟩, by decide⟩
theorem cdX5_leader : m_cd MX5_leader 1 := ⟨(m_tb_of 42 (by decide +kernel) (by decide +kernel)), (m_tb_of 794 (by decide +kernel) (by decide +kernel)), by decide +kernel, ⟨by decide +kernel, by decide +kernel, by decide +kernel⟩, by decide⟩
theorem cdX5_rounds : m_cd MX5_rounds 2 := ⟨(m_tb_of 42 (by decide +kernel) (by decide +kernel)), (m_tb_of 798 (by decide +kernel) (by decide +kernel)), by decide +kernel, ⟨by decide +kernel, by decide +kernel, by decide +kernel⟩, by decide⟩
theorem cdX5_ring : m_cd MX5_ring 2 := ⟨(m_tb_of 42 (by decide +kernel) (by decide +kernel)), (m_tb_of 802 (by decide +kernel) (by decide +kernel)), by decide +kernel, ⟨by decide +kernel, by decide +kernel, by decide +kernel⟩, by decide⟩
theorem cdX5_from : m_cd MX5_from 1 := ⟨(m_tb_of 42 (by decide +kernel) (by decide +kernel)), (m_tb_of 806 (by decide +kernel) (by decide +kernel)), by decide +kernel, ⟨by decide +kernel, by decide +kernel, by decide +kernel⟩, by decide⟩
theorem cdX5_fromAt : m_cd MX5_fromAt 2 := ⟨(m_tb_of 42 (by decide +kernel) (by decide +kernel)), (m_tb_of 810 (by decide +kernel) (by decide +kernel)), by decide +kernel, ⟨by decide +kernel, by decide +kernel, by decide +kernel⟩, by decide⟩
theorem cdX5_steps : m_cd MX5_steps 2 := ⟨(m_tb_of 42 (by decide +kernel) (by decide +kernel)), (m_tb_of 814 (by decide +kernel) (by decide +kernel)), by decide +kernel, ⟨by decide +kernel, by decide +kernel, by decide +kernel⟩, by decide⟩
theorem cdX5_choices : m_cd MX5_choices 2 := ⟨(m_tb_of 42 (by decide +kernel) (by decide +kernel)), (m_tb_of 829 (by decide +kernel) (by decide +kernel)), by decide +kernel, ⟨by decide +kernel, by decide +kernel, by decide +kernel⟩, by decide⟩
theorem cdX5_addWays : m_cd MX5_addWays 2 := ⟨(m_tb_of 42 (by decide +kernel) (by decide +kernel)), (m_tb_of 826 (by decide +kernel) (by decide +kernel)), by decide +kernel, ⟨by decide +kernel, by decide +kernel, by decide +kernel⟩, by decide⟩
theorem cdX5_noWays : m_cd MX5_noWays 0 := ⟨(m_tb_of 42 (by decide +kernel) (by decide +kernel)), (m_tb_of 822 (by decide +kernel) (by decide +kernel)), by decide +kernel, ⟨by decide +kernel, by decide +kernel, by decide +kernel⟩, by decide⟩
theorem cdX5_ways : m_cd MX5_ways 2 := ⟨(m_tb_of 42 (by decide +kernel) (by decide +kernel)), (m_tb_of 818 (by decide +kernel) (by decide +kernel)), by decide +kernel, ⟨by decide +kernel, by decide +kernel, by decide +kernel⟩, by decide⟩
theorem cdX5_reach : m_cd MX5_reach 1 := ⟨(m_tb_of 42 (by decide +kernel) (by decide +kernel)), (m_tb_of 833 (by decide +kernel) (by decide +kernel)), by decide +kernel, ⟨by decide +kernel, by decide +kernel, by decide +kernel⟩, by decide⟩
theorem cdX5_walks : m_cd MX5_walks 3 := ⟨(m_tb_of 42 (by decide +kernel) (by decide +kernel)), (m_tb_of 837 (by decide +kernel) (by decide +kernel)), by decide +kernel, ⟨by decide +kernel, by decide +kernel, by decide +kernel⟩, by decide⟩
theorem cdX5_asked : m_cd MX5_asked 0 := ⟨(m_tb_of 42 (by decide +kernel) (by decide +kernel)), (m_tb_of 841 (by decide +kernel) (by decide +kernel)), by decide +kernel, ⟨by decide +kernel, by decide +kernel, by decide +kernel⟩, by decide⟩
theorem cdX5_told : m_cd MX5_told 2 := ⟨(m_tb_of 42 (by decide +kernel) (by decide +kernel)), (m_tb_of 845 (by decide +kernel) (by decide +kernel)), by decide +kernel, ⟨by decide +kernel, by decide +kernel, by decide +kernel⟩, by decide⟩
theorem cdX5_count : m_cd MX5_count 1 := ⟨(m_tb_of 42 (by decide +kernel) (by decide +kernel)), (m_tb_of 849 (by decide +kernel) (by decide +kernel)), by decide +kernel, ⟨by decide +kernel, by decide +kernel, by decide +kernel⟩, by decide⟩
theorem cdX5_finding : m_cd MX5_finding 0 := ⟨(m_tb_of 42 (by decide +kernel) (by decide +kernel)), (m_tb_of 853 (by decide +kernel) (by decide +kernel)), by decide +kernel, ⟨by decide +kernel, by decide +kernel, by decide +kernel⟩, by decide⟩
theorem cdX5_findings : m_cd MX5_findings 1 := ⟨(m_tb_of 42 (by decide +kernel) (by decide +kernel)), (m_tb_of 857 (by decide +kernel) (by decide +kernel)), by decide +kernel, ⟨by decide +kernel, by decide +kernel, by decide +kernel⟩, by decide⟩
theorem cdX5_digest : m_cd MX5_digest 0 := ⟨(m_tb_of 42 (by decide +kernel) (by decide +kernel)), (m_tb_of 861 (by decide +kernel) (by decide +kernel)), by decide +kernel, ⟨by decide +kernel, by decide +kernel, by decide +kernel⟩, by decide⟩
theorem cdJ7_fill_d0a16 : m_cd MJ7_fill_d0a16 2 := ⟨(m_tb_of 45 (by decide +kernel) (by decide +kernel)), (m_tb_of 488 (by decide +kernel) (by decide +kernel)), by decide +kernel, ⟨by decide +kernel, by decide +kernel, by decide +kernel⟩, by decide⟩
theorem cdJ7_fill_53178 : m_cd MJ7_fill_53178 2 := ⟨(m_tb_of 45 (by decide +kernel) (by decide +kernel)), (m_tb_of 468 (by decide +kernel) (by decide +kernel)), by decide +kernel, ⟨by decide +kernel, by decide +kernel, by decide +kernel⟩, by decide⟩
end
section
theorem cc_L_7 : Cond.classLink RL 7 RX4 ∈ m_tb := (m_tb_of 46 (by decide +kernel) (by decide +kernel))
theorem nw_L_7 : Cond.classLink RL 7 RX4 ∈ m_tb ∧ Cond.instantiable RX4 11 ∈ m_tb ∧ Cond.initialized RX4 ∈ m_tb := ⟨(m_tb_of 46 (by decide +kernel) (by decide +kernel)), (m_tb_of 47 (by decide +kernel) (by decide +kernel)), (m_tb_of 38 (by decide +kernel) (by decide +kernel))⟩
theorem lk_L_9 : m_lkI RL 9 MX4_init := ⟨(m_tb_of 48 (by decide +kernel) (by decide +kernel)), (m_tb_of 49 (by decide +kernel) (by decide +kernel)), rfl⟩
theorem ob_X4_3 : Cond.methodLink RX4 3 Lib.objectInit ∈ m_tb ∧ Cond.instanceMethod Lib.objectInit ∈ m_tb ∧ Cond.code Lib.objectInit ⟨#[0xb1]⟩ 1 none ∈ m_tb := ⟨(m_tb_of 51 (by decide +kernel) (by decide +kernel)), (m_tb_of 52 (by decide +kernel) (by decide +kernel)), (m_tb_of 53 (by decide +kernel) (by decide +kernel))⟩
theorem cc_X4_9 : Cond.classLink RX4 9 RX3 ∈ m_tb := (m_tb_of 54 (by decide +kernel) (by decide +kernel))
theorem nw_X4_9 : Cond.classLink RX4 9 RX3 ∈ m_tb ∧ Cond.instantiable RX3 3 ∈ m_tb ∧ Cond.initialized RX3 ∈ m_tb := ⟨(m_tb_of 54 (by decide +kernel) (by decide +kernel)), (m_tb_of 75 (by decide +kernel) (by decide +kernel)), (m_tb_of 41 (by decide +kernel) (by decide +kernel))⟩
theorem cc_X4_23 : Cond.classLink RX4 23 RX1 ∈ m_tb := (m_tb_of 56 (by decide +kernel) (by decide +kernel))
theorem nw_X4_23 : Cond.classLink RX4 23 RX1 ∈ m_tb ∧ Cond.instantiable RX1 1 ∈ m_tb ∧ Cond.initialized RX1 ∈ m_tb := ⟨(m_tb_of 56 (by decide +kernel) (by decide +kernel)), (m_tb_of 57 (by decide +kernel) (by decide +kernel)), (m_tb_of 39 (by decide +kernel) (by decide +kernel))⟩
theorem lk_X4_25 : m_lkI RX4 25 MX1_init := ⟨(m_tb_of 58 (by decide +kernel) (by decide +kernel)), (m_tb_of 59 (by decide +kernel) (by decide +kernel)), rfl⟩
theorem ob_X1_3 : Cond.methodLink RX1 3 Lib.objectInit ∈ m_tb ∧ Cond.instanceMethod Lib.objectInit ∈ m_tb ∧ Cond.code Lib.objectInit ⟨#[0xb1]⟩ 1 none ∈ m_tb := ⟨(m_tb_of 61 (by decide +kernel) (by decide +kernel)), (m_tb_of 52 (by decide +kernel) (by decide +kernel)), (m_tb_of 53 (by decide +kernel) (by decide +kernel))⟩
theorem ac_boolean : Cond.arrayClass .boolean ∈ m_tb := (m_tb_of 66 (by decide +kernel) (by decide +kernel))
theorem ac_int : Cond.arrayClass .int ∈ m_tb := (m_tb_of 67 (by decide +kernel) (by decide +kernel))
theorem cc_X4_30 : Cond.classLink RX4 30 RX2 ∈ m_tb := (m_tb_of 68 (by decide +kernel) (by decide +kernel))
theorem nw_X4_30 : Cond.classLink RX4 30 RX2 ∈ m_tb ∧ Cond.instantiable RX2 8 ∈ m_tb ∧ Cond.initialized RX2 ∈ m_tb := ⟨(m_tb_of 68 (by decide +kernel) (by decide +kernel)), (m_tb_of 69 (by decide +kernel) (by decide +kernel)), (m_tb_of 40 (by decide +kernel) (by decide +kernel))⟩
theorem lk_X4_32 : m_lkI RX4 32 MX2_init := ⟨(m_tb_of 70 (by decide +kernel) (by decide +kernel)), (m_tb_of 71 (by decide +kernel) (by decide +kernel)), rfl⟩
theorem ob_X2_3 : Cond.methodLink RX2 3 Lib.objectInit ∈ m_tb ∧ Cond.instanceMethod Lib.objectInit ∈ m_tb ∧ Cond.code Lib.objectInit ⟨#[0xb1]⟩ 1 none ∈ m_tb := ⟨(m_tb_of 73 (by decide +kernel) (by decide +kernel)), (m_tb_of 52 (by decide +kernel) (by decide +kernel)), (m_tb_of 53 (by decide +kernel) (by decide +kernel))⟩
theorem cc_X2_24 : Cond.classLink RX2 24 RX3 ∈ m_tb := (m_tb_of 74 (by decide +kernel) (by decide +kernel))
theorem nw_X2_24 : Cond.classLink RX2 24 RX3 ∈ m_tb ∧ Cond.instantiable RX3 3 ∈ m_tb ∧ Cond.initialized RX3 ∈ m_tb := ⟨(m_tb_of 74 (by decide +kernel) (by decide +kernel)), (m_tb_of 75 (by decide +kernel) (by decide +kernel)), (m_tb_of 41 (by decide +kernel) (by decide +kernel))⟩
theorem lk_X2_26 : m_lkN RX2 26 MX3_init := ⟨⟨RX4, fun U h => h.2.2.1⟩, (m_tb_of 77 (by decide +kernel) (by decide +kernel)), rfl⟩
theorem ob_X3_3 : Cond.methodLink RX3 3 Lib.objectInit ∈ m_tb ∧ Cond.instanceMethod Lib.objectInit ∈ m_tb ∧ Cond.code Lib.objectInit ⟨#[0xb1]⟩ 1 none ∈ m_tb := ⟨(m_tb_of 79 (by decide +kernel) (by decide +kernel)), (m_tb_of 52 (by decide +kernel) (by decide +kernel)), (m_tb_of 53 (by decide +kernel) (by decide +kernel))⟩
theorem ac_long : Cond.arrayClass .long ∈ m_tb := (m_tb_of 121 (by decide +kernel) (by decide +kernel))
theorem cc_X4_37 : Cond.classLink RX4 37 RX0 ∈ m_tb := (m_tb_of 122 (by decide +kernel) (by decide +kernel))
theorem nw_X4_37 : Cond.classLink RX4 37 RX0 ∈ m_tb ∧ Cond.instantiable RX0 11 ∈ m_tb ∧ Cond.initialized RX0 ∈ m_tb := ⟨(m_tb_of 122 (by decide +kernel) (by decide +kernel)), (m_tb_of 238 (by decide +kernel) (by decide +kernel)), (m_tb_of 43 (by decide +kernel) (by decide +kernel))⟩
theorem lk_X4_43 : m_lkN RX4 43 MX3_init := ⟨⟨RX4, fun U h => h.2.2.2.1⟩, (m_tb_of 77 (by decide +kernel) (by decide +kernel)), rfl⟩
theorem lk_L_13 : m_lkV RL 13 MX4_parting := ⟨(m_tb_of 159 (by decide +kernel) (by decide +kernel)), (m_tb_of 160 (by decide +kernel) (by decide +kernel)), (m_tb_of 161 (by decide +kernel) (by decide +kernel))⟩
theorem lk_X4_51 : m_lkS RX4 51 MX4_isPlace := ⟨(m_tb_of 163 (by decide +kernel) (by decide +kernel)), (m_tb_of 164 (by decide +kernel) (by decide +kernel))⟩
theorem lk_X4_55 : m_lkV RX4 55 MX3_clear := ⟨(m_tb_of 166 (by decide +kernel) (by decide +kernel)), (m_tb_of 167 (by decide +kernel) (by decide +kernel)), (m_tb_of 168 (by decide +kernel) (by decide +kernel))⟩
theorem lk_L_18 : m_lkV RL 18 MX4_heap := ⟨(m_tb_of 170 (by decide +kernel) (by decide +kernel)), (m_tb_of 171 (by decide +kernel) (by decide +kernel)), (m_tb_of 172 (by decide +kernel) (by decide +kernel))⟩
theorem lk_X4_58 : m_lkV RX4 58 MX4_rowAt := ⟨(m_tb_of 174 (by decide +kernel) (by decide +kernel)), (m_tb_of 176 (by decide +kernel) (by decide +kernel)), (m_tb_of 0 (by decide +kernel) (by decide +kernel))⟩
theorem lk_X4_62 : m_lkV RX4 62 MX4_found := ⟨(m_tb_of 178 (by decide +kernel) (by decide +kernel)), (m_tb_of 180 (by decide +kernel) (by decide +kernel)), (m_tb_of 1 (by decide +kernel) (by decide +kernel))⟩
theorem lk_X4_66 : m_lkV RX4 66 MX3_hasRoomFor := ⟨(m_tb_of 182 (by decide +kernel) (by decide +kernel)), (m_tb_of 183 (by decide +kernel) (by decide +kernel)), (m_tb_of 184 (by decide +kernel) (by decide +kernel))⟩
theorem lk_X4_69 : m_lkV RX4 69 MX3_put := ⟨(m_tb_of 186 (by decide +kernel) (by decide +kernel)), (m_tb_of 187 (by decide +kernel) (by decide +kernel)), (m_tb_of 188 (by decide +kernel) (by decide +kernel))⟩
theorem lk_X3_22 : m_lkV RX3 22 MX3_hasRoomFor := ⟨(m_tb_of 190 (by decide +kernel) (by decide +kernel)), (m_tb_of 183 (by decide +kernel) (by decide +kernel)), (m_tb_of 184 (by decide +kernel) (by decide +kernel))⟩
theorem lk_L_23 : m_lkV RL 23 MX4_at := ⟨(m_tb_of 191 (by decide +kernel) (by decide +kernel)), (m_tb_of 192 (by decide +kernel) (by decide +kernel)), (m_tb_of 193 (by decide +kernel) (by decide +kernel))⟩
theorem lk_X4_77 : m_lkV RX4 77 MX3_has := ⟨(m_tb_of 195 (by decide +kernel) (by decide +kernel)), (m_tb_of 196 (by decide +kernel) (by decide +kernel)), (m_tb_of 197 (by decide +kernel) (by decide +kernel))⟩
theorem lk_X4_80 : m_lkV RX4 80 MX3_heapAt := ⟨(m_tb_of 199 (by decide +kernel) (by decide +kernel)), (m_tb_of 200 (by decide +kernel) (by decide +kernel)), (m_tb_of 201 (by decide +kernel) (by decide +kernel))⟩
theorem lk_L_27 : m_lkV RL 27 MX4_take := ⟨(m_tb_of 203 (by decide +kernel) (by decide +kernel)), (m_tb_of 204 (by decide +kernel) (by decide +kernel)), (m_tb_of 205 (by decide +kernel) (by decide +kernel))⟩
theorem lk_X4_83 : m_lkV RX4 83 MX3_drop := ⟨(m_tb_of 207 (by decide +kernel) (by decide +kernel)), (m_tb_of 208 (by decide +kernel) (by decide +kernel)), (m_tb_of 209 (by decide +kernel) (by decide +kernel))⟩
theorem lk_X3_34 : m_lkV RX3 34 MX3_has := ⟨(m_tb_of 211 (by decide +kernel) (by decide +kernel)), (m_tb_of 196 (by decide +kernel) (by decide +kernel)), (m_tb_of 197 (by decide +kernel) (by decide +kernel))⟩
theorem lk_L_31 : m_lkV RL 31 MX4_tear := ⟨(m_tb_of 212 (by decide +kernel) (by decide +kernel)), (m_tb_of 213 (by decide +kernel) (by decide +kernel)), (m_tb_of 214 (by decide +kernel) (by decide +kernel))⟩
theorem lk_L_35 : m_lkV RL 35 MX4_copy := ⟨(m_tb_of 216 (by decide +kernel) (by decide +kernel)), (m_tb_of 217 (by decide +kernel) (by decide +kernel)), (m_tb_of 218 (by decide +kernel) (by decide +kernel))⟩
theorem lk_X4_86 : m_lkV RX4 86 MX3_putPart := ⟨(m_tb_of 220 (by decide +kernel) (by decide +kernel)), (m_tb_of 221 (by decide +kernel) (by decide +kernel)), (m_tb_of 222 (by decide +kernel) (by decide +kernel))⟩
theorem lk_X3_26 : m_lkV RX3 26 MX3_heapAt := ⟨(m_tb_of 224 (by decide +kernel) (by decide +kernel)), (m_tb_of 200 (by decide +kernel) (by decide +kernel)), (m_tb_of 201 (by decide +kernel) (by decide +kernel))⟩
theorem lk_X3_30 : m_lkV RX3 30 MX3_put := ⟨(m_tb_of 225 (by decide +kernel) (by decide +kernel)), (m_tb_of 187 (by decide +kernel) (by decide +kernel)), (m_tb_of 188 (by decide +kernel) (by decide +kernel))⟩
theorem lk_L_40 : m_lkV RL 40 MX4_rule := ⟨(m_tb_of 226 (by decide +kernel) (by decide +kernel)), (m_tb_of 227 (by decide +kernel) (by decide +kernel)), (m_tb_of 228 (by decide +kernel) (by decide +kernel))⟩
theorem lk_L_44 : m_lkV RL 44 MX4_kind := ⟨(m_tb_of 230 (by decide +kernel) (by decide +kernel)), (m_tb_of 231 (by decide +kernel) (by decide +kernel)), (m_tb_of 232 (by decide +kernel) (by decide +kernel))⟩
theorem lk_X4_96 : m_lkV RX4 96 MX4_chartOf := ⟨(m_tb_of 234 (by decide +kernel) (by decide +kernel)), (m_tb_of 236 (by decide +kernel) (by decide +kernel)), (m_tb_of 2 (by decide +kernel) (by decide +kernel))⟩
theorem lk_X4_116 : m_lkV RX4 116 MX1_length := ⟨(m_tb_of 239 (by decide +kernel) (by decide +kernel)), (m_tb_of 240 (by decide +kernel) (by decide +kernel)), (m_tb_of 241 (by decide +kernel) (by decide +kernel))⟩
theorem lk_X1_15 : m_lkV RX1 15 MX1_cappedAt := ⟨(m_tb_of 243 (by decide +kernel) (by decide +kernel)), (m_tb_of 245 (by decide +kernel) (by decide +kernel)), (m_tb_of 3 (by decide +kernel) (by decide +kernel))⟩
theorem lk_X4_196 : m_lkI RX4 196 MX0_init := ⟨(m_tb_of 247 (by decide +kernel) (by decide +kernel)), (m_tb_of 248 (by decide +kernel) (by decide +kernel)), rfl⟩
theorem ob_X0_3 : Cond.methodLink RX0 3 Lib.objectInit ∈ m_tb ∧ Cond.instanceMethod Lib.objectInit ∈ m_tb ∧ Cond.code Lib.objectInit ⟨#[0xb1]⟩ 1 none ∈ m_tb := ⟨(m_tb_of 250 (by decide +kernel) (by decide +kernel)), (m_tb_of 52 (by decide +kernel) (by decide +kernel)), (m_tb_of 53 (by decide +kernel) (by decide +kernel))⟩
theorem mmax_X0_9 : Cond.methodLink RX0 9 Lib.Math.max.name ∈ m_tb ∧ Cond.static Lib.Math.max.name ∈ m_tb ∧ Cond.initialized "java/lang/Math" ∈ m_tb ∧ Cond.code Lib.Math.max.name Lib.Math.max.code 2 (some .int) ∈ m_tb := ⟨(m_tb_of 251 (by decide +kernel) (by decide +kernel)), (m_tb_of 252 (by decide +kernel) (by decide +kernel)), (m_tb_of 44 (by decide +kernel) (by decide +kernel)), (m_tb_of 253 (by decide +kernel) (by decide +kernel))⟩
theorem lk_X4_119 : m_lkV RX4 119 MX1_write := ⟨(m_tb_of 294 (by decide +kernel) (by decide +kernel)), (m_tb_of 295 (by decide +kernel) (by decide +kernel)), (m_tb_of 296 (by decide +kernel) (by decide +kernel))⟩
theorem lk_X1_32 : m_lkV RX1 32 MX3_clear := ⟨(m_tb_of 298 (by decide +kernel) (by decide +kernel)), (m_tb_of 167 (by decide +kernel) (by decide +kernel)), (m_tb_of 168 (by decide +kernel) (by decide +kernel))⟩
theorem lk_X1_35 : m_lkV RX1 35 MX3_put := ⟨(m_tb_of 299 (by decide +kernel) (by decide +kernel)), (m_tb_of 187 (by decide +kernel) (by decide +kernel)), (m_tb_of 188 (by decide +kernel) (by decide +kernel))⟩
theorem lk_X4_200 : m_lkS RX4 200 MX4_stepInto := ⟨(m_tb_of 300 (by decide +kernel) (by decide +kernel)), (m_tb_of 301 (by decide +kernel) (by decide +kernel))⟩
theorem lk_X4_211 : m_lkS RX4 211 MX4_giveFromGreatest := ⟨(m_tb_of 303 (by decide +kernel) (by decide +kernel)), (m_tb_of 304 (by decide +kernel) (by decide +kernel))⟩
theorem lk_X4_215 : m_lkS RX4 215 MX4_giveFromEach := ⟨(m_tb_of 306 (by decide +kernel) (by decide +kernel)), (m_tb_of 307 (by decide +kernel) (by decide +kernel))⟩
theorem mmin_X4_221 : Cond.methodLink RX4 221 Lib.Math.min.name ∈ m_tb ∧ Cond.static Lib.Math.min.name ∈ m_tb ∧ Cond.initialized "java/lang/Math" ∈ m_tb ∧ Cond.code Lib.Math.min.name Lib.Math.min.code 2 (some .int) ∈ m_tb := ⟨(m_tb_of 309 (by decide +kernel) (by decide +kernel)), (m_tb_of 310 (by decide +kernel) (by decide +kernel)), (m_tb_of 44 (by decide +kernel) (by decide +kernel)), (m_tb_of 311 (by decide +kernel) (by decide +kernel))⟩
theorem lk_X4_218 : m_lkS RX4 218 MX4_giveLeastAway := ⟨(m_tb_of 312 (by decide +kernel) (by decide +kernel)), (m_tb_of 313 (by decide +kernel) (by decide +kernel))⟩
theorem lk_X4_100 : m_lkV RX4 100 MX1_numberOf := ⟨(m_tb_of 315 (by decide +kernel) (by decide +kernel)), (m_tb_of 316 (by decide +kernel) (by decide +kernel)), (m_tb_of 317 (by decide +kernel) (by decide +kernel))⟩
theorem lk_X1_28 : m_lkV RX1 28 MX3_heapAt := ⟨(m_tb_of 319 (by decide +kernel) (by decide +kernel)), (m_tb_of 200 (by decide +kernel) (by decide +kernel)), (m_tb_of 201 (by decide +kernel) (by decide +kernel))⟩
theorem lk_X4_204 : m_lkV RX4 204 MX0_link := ⟨(m_tb_of 320 (by decide +kernel) (by decide +kernel)), (m_tb_of 321 (by decide +kernel) (by decide +kernel)), (m_tb_of 322 (by decide +kernel) (by decide +kernel))⟩
theorem lk_X0_37 : m_lkV RX0 37 MX0_has := ⟨(m_tb_of 324 (by decide +kernel) (by decide +kernel)), (m_tb_of 326 (by decide +kernel) (by decide +kernel)), (m_tb_of 4 (by decide +kernel) (by decide +kernel))⟩
theorem lk_X4_208 : m_lkV RX4 208 MX0_draw := ⟨(m_tb_of 328 (by decide +kernel) (by decide +kernel)), (m_tb_of 329 (by decide +kernel) (by decide +kernel)), (m_tb_of 330 (by decide +kernel) (by decide +kernel))⟩
theorem cl_X0_41 : Cond.methodLink RX0 41 ⟨"[I", "clone", "()Ljava/lang/Object;"⟩ ∈ m_tb ∧ Cond.sameMethod "[I" "java/lang/Object" "clone" "()Ljava/lang/Object;" ∈ m_tb ∧ Cond.native ⟨"java/lang/Object", "clone", "()Ljava/lang/Object;"⟩ ∈ m_tb ∧ Cond.instanceMethod ⟨"java/lang/Object", "clone", "()Ljava/lang/Object;"⟩ ∈ m_tb ∧ Cond.selects "[I" ⟨"[I", "clone", "()Ljava/lang/Object;"⟩ ⟨"java/lang/Object", "clone", "()Ljava/lang/Object;"⟩ ∈ m_tb := ⟨(m_tb_of 332 (by decide +kernel) (by decide +kernel)), (m_tb_of 333 (by decide +kernel) (by decide +kernel)), (m_tb_of 334 (by decide +kernel) (by decide +kernel)), (m_tb_of 335 (by decide +kernel) (by decide +kernel)), (m_tb_of 336 (by decide +kernel) (by decide +kernel))⟩
theorem cc_X0_42 : Cond.classLink RX0 42 "[I" ∈ m_tb := (m_tb_of 338 (by decide +kernel) (by decide +kernel))
theorem lk_X0_46 : m_lkV RX0 46 MX0_peel := ⟨(m_tb_of 339 (by decide +kernel) (by decide +kernel)), (m_tb_of 341 (by decide +kernel) (by decide +kernel)), (m_tb_of 5 (by decide +kernel) (by decide +kernel))⟩
theorem lk_X0_53 : m_lkV RX0 53 MX0_drawRing := ⟨(m_tb_of 343 (by decide +kernel) (by decide +kernel)), (m_tb_of 345 (by decide +kernel) (by decide +kernel)), (m_tb_of 6 (by decide +kernel) (by decide +kernel))⟩
theorem lk_X0_57 : m_lkV RX0 57 MX0_drawTail := ⟨(m_tb_of 347 (by decide +kernel) (by decide +kernel)), (m_tb_of 349 (by decide +kernel) (by decide +kernel)), (m_tb_of 7 (by decide +kernel) (by decide +kernel))⟩
theorem lk_X4_104 : m_lkV RX4 104 MX0_kindOf := ⟨(m_tb_of 351 (by decide +kernel) (by decide +kernel)), (m_tb_of 352 (by decide +kernel) (by decide +kernel)), (m_tb_of 353 (by decide +kernel) (by decide +kernel))⟩
theorem lk_L_48 : m_lkV RL 48 MX4_mark := ⟨(m_tb_of 355 (by decide +kernel) (by decide +kernel)), (m_tb_of 356 (by decide +kernel) (by decide +kernel)), (m_tb_of 357 (by decide +kernel) (by decide +kernel))⟩
theorem lk_X4_107 : m_lkV RX4 107 MX0_beatOf := ⟨(m_tb_of 359 (by decide +kernel) (by decide +kernel)), (m_tb_of 360 (by decide +kernel) (by decide +kernel)), (m_tb_of 361 (by decide +kernel) (by decide +kernel))⟩
theorem lk_X4_110 : m_lkV RX4 110 MX0_tailOf := ⟨(m_tb_of 363 (by decide +kernel) (by decide +kernel)), (m_tb_of 364 (by decide +kernel) (by decide +kernel)), (m_tb_of 365 (by decide +kernel) (by decide +kernel))⟩
theorem lk_L_52 : m_lkV RL 52 MX4_mean := ⟨(m_tb_of 367 (by decide +kernel) (by decide +kernel)), (m_tb_of 368 (by decide +kernel) (by decide +kernel)), (m_tb_of 369 (by decide +kernel) (by decide +kernel))⟩
theorem lk_L_56 : m_lkV RL 56 MX4_many := ⟨(m_tb_of 371 (by decide +kernel) (by decide +kernel)), (m_tb_of 372 (by decide +kernel) (by decide +kernel)), (m_tb_of 373 (by decide +kernel) (by decide +kernel))⟩
theorem lk_X4_113 : m_lkS RX4 113 MX4_isCards := ⟨(m_tb_of 375 (by decide +kernel) (by decide +kernel)), (m_tb_of 376 (by decide +kernel) (by decide +kernel))⟩
theorem lk_L_60 : m_lkV RL 60 MX4_rank := ⟨(m_tb_of 378 (by decide +kernel) (by decide +kernel)), (m_tb_of 379 (by decide +kernel) (by decide +kernel)), (m_tb_of 380 (by decide +kernel) (by decide +kernel))⟩
theorem lk_L_64 : m_lkV RL 64 MX4_list := ⟨(m_tb_of 382 (by decide +kernel) (by decide +kernel)), (m_tb_of 383 (by decide +kernel) (by decide +kernel)), (m_tb_of 384 (by decide +kernel) (by decide +kernel))⟩
theorem lk_L_69 : m_lkV RL 69 MX4_turn := ⟨(m_tb_of 386 (by decide +kernel) (by decide +kernel)), (m_tb_of 387 (by decide +kernel) (by decide +kernel)), (m_tb_of 388 (by decide +kernel) (by decide +kernel))⟩
theorem lk_X4_122 : m_lkV RX4 122 MX3_heapsFrom := ⟨(m_tb_of 390 (by decide +kernel) (by decide +kernel)), (m_tb_of 391 (by decide +kernel) (by decide +kernel)), (m_tb_of 392 (by decide +kernel) (by decide +kernel))⟩
theorem lk_L_73 : m_lkV RL 73 MX4_step := ⟨(m_tb_of 394 (by decide +kernel) (by decide +kernel)), (m_tb_of 395 (by decide +kernel) (by decide +kernel)), (m_tb_of 396 (by decide +kernel) (by decide +kernel))⟩
theorem lk_X4_125 : m_lkV RX4 125 MX0_after := ⟨(m_tb_of 398 (by decide +kernel) (by decide +kernel)), (m_tb_of 399 (by decide +kernel) (by decide +kernel)), (m_tb_of 400 (by decide +kernel) (by decide +kernel))⟩
theorem lk_L_77 : m_lkV RL 77 MX4_tail := ⟨(m_tb_of 402 (by decide +kernel) (by decide +kernel)), (m_tb_of 403 (by decide +kernel) (by decide +kernel)), (m_tb_of 404 (by decide +kernel) (by decide +kernel))⟩
theorem lk_L_81 : m_lkV RL 81 MX4_beat := ⟨(m_tb_of 406 (by decide +kernel) (by decide +kernel)), (m_tb_of 407 (by decide +kernel) (by decide +kernel)), (m_tb_of 408 (by decide +kernel) (by decide +kernel))⟩
theorem lk_L_85 : m_lkV RL 85 MX4_leader := ⟨(m_tb_of 410 (by decide +kernel) (by decide +kernel)), (m_tb_of 411 (by decide +kernel) (by decide +kernel)), (m_tb_of 412 (by decide +kernel) (by decide +kernel))⟩
theorem lk_X4_129 : m_lkV RX4 129 MX0_leaderOf := ⟨(m_tb_of 414 (by decide +kernel) (by decide +kernel)), (m_tb_of 415 (by decide +kernel) (by decide +kernel)), (m_tb_of 416 (by decide +kernel) (by decide +kernel))⟩
theorem lk_L_89 : m_lkV RL 89 MX4_rounds := ⟨(m_tb_of 418 (by decide +kernel) (by decide +kernel)), (m_tb_of 419 (by decide +kernel) (by decide +kernel)), (m_tb_of 420 (by decide +kernel) (by decide +kernel))⟩
theorem lk_L_93 : m_lkV RL 93 MX4_ring := ⟨(m_tb_of 422 (by decide +kernel) (by decide +kernel)), (m_tb_of 423 (by decide +kernel) (by decide +kernel)), (m_tb_of 424 (by decide +kernel) (by decide +kernel))⟩
theorem lk_X4_147 : m_lkV RX4 147 MX0_leaderOfRing := ⟨(m_tb_of 426 (by decide +kernel) (by decide +kernel)), (m_tb_of 427 (by decide +kernel) (by decide +kernel)), (m_tb_of 428 (by decide +kernel) (by decide +kernel))⟩
theorem lk_L_97 : m_lkV RL 97 MX4_from := ⟨(m_tb_of 430 (by decide +kernel) (by decide +kernel)), (m_tb_of 431 (by decide +kernel) (by decide +kernel)), (m_tb_of 432 (by decide +kernel) (by decide +kernel))⟩
theorem lk_X4_150 : m_lkV RX4 150 MX0_comersTo := ⟨(m_tb_of 434 (by decide +kernel) (by decide +kernel)), (m_tb_of 435 (by decide +kernel) (by decide +kernel)), (m_tb_of 436 (by decide +kernel) (by decide +kernel))⟩
theorem lk_L_101 : m_lkV RL 101 MX4_fromAt := ⟨(m_tb_of 438 (by decide +kernel) (by decide +kernel)), (m_tb_of 439 (by decide +kernel) (by decide +kernel)), (m_tb_of 440 (by decide +kernel) (by decide +kernel))⟩
theorem lk_X4_153 : m_lkV RX4 153 MX0_comerTo := ⟨(m_tb_of 442 (by decide +kernel) (by decide +kernel)), (m_tb_of 443 (by decide +kernel) (by decide +kernel)), (m_tb_of 444 (by decide +kernel) (by decide +kernel))⟩
theorem lk_L_105 : m_lkV RL 105 MX4_steps := ⟨(m_tb_of 446 (by decide +kernel) (by decide +kernel)), (m_tb_of 447 (by decide +kernel) (by decide +kernel)), (m_tb_of 448 (by decide +kernel) (by decide +kernel))⟩
theorem lk_X4_156 : m_lkV RX4 156 MX0_stepsBetween := ⟨(m_tb_of 450 (by decide +kernel) (by decide +kernel)), (m_tb_of 451 (by decide +kernel) (by decide +kernel)), (m_tb_of 452 (by decide +kernel) (by decide +kernel))⟩
theorem lk_L_109 : m_lkV RL 109 MX4_ways := ⟨(m_tb_of 454 (by decide +kernel) (by decide +kernel)), (m_tb_of 455 (by decide +kernel) (by decide +kernel)), (m_tb_of 456 (by decide +kernel) (by decide +kernel))⟩
theorem lk_X4_159 : m_lkV RX4 159 MX2_choicesBetween := ⟨(m_tb_of 458 (by decide +kernel) (by decide +kernel)), (m_tb_of 459 (by decide +kernel) (by decide +kernel)), (m_tb_of 460 (by decide +kernel) (by decide +kernel))⟩
theorem lk_X2_45 : m_lkV RX2 45 MX3_tallyInto := ⟨(m_tb_of 462 (by decide +kernel) (by decide +kernel)), (m_tb_of 463 (by decide +kernel) (by decide +kernel)), (m_tb_of 464 (by decide +kernel) (by decide +kernel))⟩
theorem lk_X3_37 : m_lkS RX3 37 MJ7_fill_53178 := ⟨(m_tb_of 466 (by decide +kernel) (by decide +kernel)), (m_tb_of 467 (by decide +kernel) (by decide +kernel))⟩
theorem lk_X2_52 : m_lkV RX2 52 MX2_choicesGiving := ⟨(m_tb_of 469 (by decide +kernel) (by decide +kernel)), (m_tb_of 471 (by decide +kernel) (by decide +kernel)), (m_tb_of 8 (by decide +kernel) (by decide +kernel))⟩
theorem mmin_X2_56 : Cond.methodLink RX2 56 Lib.Math.min.name ∈ m_tb ∧ Cond.static Lib.Math.min.name ∈ m_tb ∧ Cond.initialized "java/lang/Math" ∈ m_tb ∧ Cond.code Lib.Math.min.name Lib.Math.min.code 2 (some .int) ∈ m_tb := ⟨(m_tb_of 473 (by decide +kernel) (by decide +kernel)), (m_tb_of 310 (by decide +kernel) (by decide +kernel)), (m_tb_of 44 (by decide +kernel) (by decide +kernel)), (m_tb_of 311 (by decide +kernel) (by decide +kernel))⟩
theorem lk_X2_61 : m_lkV RX2 61 MX2_chosenAt := ⟨(m_tb_of 474 (by decide +kernel) (by decide +kernel)), (m_tb_of 476 (by decide +kernel) (by decide +kernel)), (m_tb_of 9 (by decide +kernel) (by decide +kernel))⟩
theorem lk_L_113 : m_lkV RL 113 MX4_reach := ⟨(m_tb_of 478 (by decide +kernel) (by decide +kernel)), (m_tb_of 479 (by decide +kernel) (by decide +kernel)), (m_tb_of 480 (by decide +kernel) (by decide +kernel))⟩
theorem lk_X4_163 : m_lkV RX4 163 MX2_countReached := ⟨(m_tb_of 482 (by decide +kernel) (by decide +kernel)), (m_tb_of 483 (by decide +kernel) (by decide +kernel)), (m_tb_of 484 (by decide +kernel) (by decide +kernel))⟩
theorem lk_X2_64 : m_lkS RX2 64 MJ7_fill_d0a16 := ⟨(m_tb_of 486 (by decide +kernel) (by decide +kernel)), (m_tb_of 487 (by decide +kernel) (by decide +kernel))⟩
theorem lk_X2_70 : m_lkV RX2 70 MX2_spread := ⟨(m_tb_of 489 (by decide +kernel) (by decide +kernel)), (m_tb_of 491 (by decide +kernel) (by decide +kernel)), (m_tb_of 10 (by decide +kernel) (by decide +kernel))⟩
theorem lk_X2_92 : m_lkS RX2 92 MJ7_fill_53178 := ⟨(m_tb_of 493 (by decide +kernel) (by decide +kernel)), (m_tb_of 467 (by decide +kernel) (by decide +kernel))⟩
theorem lk_X2_95 : m_lkV RX2 95 MX2_land := ⟨(m_tb_of 494 (by decide +kernel) (by decide +kernel)), (m_tb_of 496 (by decide +kernel) (by decide +kernel)), (m_tb_of 11 (by decide +kernel) (by decide +kernel))⟩
theorem lk_X2_102 : m_lkV RX2 102 MX3_clear := ⟨(m_tb_of 498 (by decide +kernel) (by decide +kernel)), (m_tb_of 167 (by decide +kernel) (by decide +kernel)), (m_tb_of 168 (by decide +kernel) (by decide +kernel))⟩
theorem lk_X2_105 : m_lkV RX2 105 MX3_put := ⟨(m_tb_of 499 (by decide +kernel) (by decide +kernel)), (m_tb_of 187 (by decide +kernel) (by decide +kernel)), (m_tb_of 188 (by decide +kernel) (by decide +kernel))⟩
theorem lk_X2_74 : m_lkV RX2 74 MX1_numberOf := ⟨(m_tb_of 500 (by decide +kernel) (by decide +kernel)), (m_tb_of 316 (by decide +kernel) (by decide +kernel)), (m_tb_of 317 (by decide +kernel) (by decide +kernel))⟩
theorem lk_X2_99 : m_lkV RX2 99 MX2_nextGift := ⟨(m_tb_of 501 (by decide +kernel) (by decide +kernel)), (m_tb_of 503 (by decide +kernel) (by decide +kernel)), (m_tb_of 12 (by decide +kernel) (by decide +kernel))⟩
theorem lk_L_117 : m_lkV RL 117 MX4_walks := ⟨(m_tb_of 505 (by decide +kernel) (by decide +kernel)), (m_tb_of 506 (by decide +kernel) (by decide +kernel)), (m_tb_of 507 (by decide +kernel) (by decide +kernel))⟩
theorem lk_X4_167 : m_lkV RX4 167 MX2_choicesOfSteps := ⟨(m_tb_of 509 (by decide +kernel) (by decide +kernel)), (m_tb_of 510 (by decide +kernel) (by decide +kernel)), (m_tb_of 511 (by decide +kernel) (by decide +kernel))⟩
theorem lk_X2_80 : m_lkV RX2 80 MX2_spreadAll := ⟨(m_tb_of 513 (by decide +kernel) (by decide +kernel)), (m_tb_of 515 (by decide +kernel) (by decide +kernel)), (m_tb_of 13 (by decide +kernel) (by decide +kernel))⟩
theorem lk_X2_84 : m_lkV RX2 84 MX1_write := ⟨(m_tb_of 517 (by decide +kernel) (by decide +kernel)), (m_tb_of 295 (by decide +kernel) (by decide +kernel)), (m_tb_of 296 (by decide +kernel) (by decide +kernel))⟩
theorem lk_X2_88 : m_lkV RX2 88 MX2_choicesBetween := ⟨(m_tb_of 518 (by decide +kernel) (by decide +kernel)), (m_tb_of 459 (by decide +kernel) (by decide +kernel)), (m_tb_of 460 (by decide +kernel) (by decide +kernel))⟩
theorem lk_L_121 : m_lkV RL 121 MX4_asked := ⟨(m_tb_of 519 (by decide +kernel) (by decide +kernel)), (m_tb_of 520 (by decide +kernel) (by decide +kernel)), (m_tb_of 521 (by decide +kernel) (by decide +kernel))⟩
theorem lk_L_126 : m_lkV RL 126 MX4_told := ⟨(m_tb_of 523 (by decide +kernel) (by decide +kernel)), (m_tb_of 524 (by decide +kernel) (by decide +kernel)), (m_tb_of 525 (by decide +kernel) (by decide +kernel))⟩
theorem lk_X4_175 : m_lkV RX4 175 MX3_unlikeHeaps := ⟨(m_tb_of 527 (by decide +kernel) (by decide +kernel)), (m_tb_of 528 (by decide +kernel) (by decide +kernel)), (m_tb_of 529 (by decide +kernel) (by decide +kernel))⟩
theorem lk_L_130 : m_lkV RL 130 MX4_count := ⟨(m_tb_of 531 (by decide +kernel) (by decide +kernel)), (m_tb_of 532 (by decide +kernel) (by decide +kernel)), (m_tb_of 533 (by decide +kernel) (by decide +kernel))⟩
theorem lk_X4_179 : m_lkV RX4 179 MX4_rowsThere := ⟨(m_tb_of 535 (by decide +kernel) (by decide +kernel)), (m_tb_of 537 (by decide +kernel) (by decide +kernel)), (m_tb_of 14 (by decide +kernel) (by decide +kernel))⟩
theorem lk_X4_182 : m_lkV RX4 182 MX4_cardsInAll := ⟨(m_tb_of 539 (by decide +kernel) (by decide +kernel)), (m_tb_of 541 (by decide +kernel) (by decide +kernel)), (m_tb_of 15 (by decide +kernel) (by decide +kernel))⟩
theorem lk_L_134 : m_lkV RL 134 MX4_finding := ⟨(m_tb_of 543 (by decide +kernel) (by decide +kernel)), (m_tb_of 544 (by decide +kernel) (by decide +kernel)), (m_tb_of 545 (by decide +kernel) (by decide +kernel))⟩
theorem lk_L_139 : m_lkV RL 139 MX4_findings := ⟨(m_tb_of 547 (by decide +kernel) (by decide +kernel)), (m_tb_of 548 (by decide +kernel) (by decide +kernel)), (m_tb_of 549 (by decide +kernel) (by decide +kernel))⟩
theorem lk_L_143 : m_lkV RL 143 MX4_digest := ⟨(m_tb_of 551 (by decide +kernel) (by decide +kernel)), (m_tb_of 552 (by decide +kernel) (by decide +kernel)), (m_tb_of 553 (by decide +kernel) (by decide +kernel))⟩
theorem kl_X4_188 : Cond.constantLong RX4 188 (527 : Int64) ∈ m_tb := (m_tb_of 555 (by decide +kernel) (by decide +kernel))
theorem kl_X4_190 : Cond.constantLong RX4 190 (31 : Int64) ∈ m_tb := (m_tb_of 556 (by decide +kernel) (by decide +kernel))
theorem lk_X4_192 : m_lkV RX4 192 MX3_digestOnto := ⟨(m_tb_of 557 (by decide +kernel) (by decide +kernel)), (m_tb_of 558 (by decide +kernel) (by decide +kernel)), (m_tb_of 559 (by decide +kernel) (by decide +kernel))⟩
theorem kl_X3_43 : Cond.constantLong RX3 43 (31 : Int64) ∈ m_tb := (m_tb_of 561 (by decide +kernel) (by decide +kernel))
theorem cc_L_10 : Cond.classLink RL 10 RX5 ∈ m_tb := (m_tb_of 562 (by decide +kernel) (by decide +kernel))
theorem nw_L_10 : Cond.classLink RL 10 RX5 ∈ m_tb ∧ Cond.instantiable RX5 24 ∈ m_tb ∧ Cond.initialized RX5 ∈ m_tb := ⟨(m_tb_of 562 (by decide +kernel) (by decide +kernel)), (m_tb_of 563 (by decide +kernel) (by decide +kernel)), (m_tb_of 42 (by decide +kernel) (by decide +kernel))⟩
theorem lk_L_12 : m_lkI RL 12 MX5_init := ⟨(m_tb_of 564 (by decide +kernel) (by decide +kernel)), (m_tb_of 565 (by decide +kernel) (by decide +kernel)), rfl⟩
theorem ob_X5_1 : Cond.methodLink RX5 1 Lib.objectInit ∈ m_tb ∧ Cond.instanceMethod Lib.objectInit ∈ m_tb ∧ Cond.code Lib.objectInit ⟨#[0xb1]⟩ 1 none ∈ m_tb := ⟨(m_tb_of 567 (by decide +kernel) (by decide +kernel)), (m_tb_of 52 (by decide +kernel) (by decide +kernel)), (m_tb_of 53 (by decide +kernel) (by decide +kernel))⟩
theorem lk_L_17 : m_lkV RL 17 MX5_parting := ⟨(m_tb_of 641 (by decide +kernel) (by decide +kernel)), (m_tb_of 642 (by decide +kernel) (by decide +kernel)), (m_tb_of 643 (by decide +kernel) (by decide +kernel))⟩
theorem lk_X5_73 : m_lkS RX5 73 MX5_isParting := ⟨(m_tb_of 645 (by decide +kernel) (by decide +kernel)), (m_tb_of 646 (by decide +kernel) (by decide +kernel))⟩
theorem lk_X5_69 : m_lkS RX5 69 MX5_in := ⟨(m_tb_of 648 (by decide +kernel) (by decide +kernel)), (m_tb_of 649 (by decide +kernel) (by decide +kernel))⟩
theorem lk_L_22 : m_lkV RL 22 MX5_heap := ⟨(m_tb_of 651 (by decide +kernel) (by decide +kernel)), (m_tb_of 652 (by decide +kernel) (by decide +kernel)), (m_tb_of 653 (by decide +kernel) (by decide +kernel))⟩
theorem lk_X5_81 : m_lkV RX5 81 MX5_looked := ⟨(m_tb_of 655 (by decide +kernel) (by decide +kernel)), (m_tb_of 657 (by decide +kernel) (by decide +kernel)), (m_tb_of 16 (by decide +kernel) (by decide +kernel))⟩
theorem lk_X5_77 : m_lkV RX5 77 MX5_meets := ⟨(m_tb_of 659 (by decide +kernel) (by decide +kernel)), (m_tb_of 661 (by decide +kernel) (by decide +kernel)), (m_tb_of 17 (by decide +kernel) (by decide +kernel))⟩
theorem lk_X5_84 : m_lkV RX5 84 MX5_cards := ⟨(m_tb_of 663 (by decide +kernel) (by decide +kernel)), (m_tb_of 665 (by decide +kernel) (by decide +kernel)), (m_tb_of 18 (by decide +kernel) (by decide +kernel))⟩
theorem lk_X5_87 : m_lkV RX5 87 MX5_put := ⟨(m_tb_of 667 (by decide +kernel) (by decide +kernel)), (m_tb_of 669 (by decide +kernel) (by decide +kernel)), (m_tb_of 19 (by decide +kernel) (by decide +kernel))⟩
theorem lk_L_26 : m_lkV RL 26 MX5_at := ⟨(m_tb_of 671 (by decide +kernel) (by decide +kernel)), (m_tb_of 672 (by decide +kernel) (by decide +kernel)), (m_tb_of 673 (by decide +kernel) (by decide +kernel))⟩
theorem lk_L_30 : m_lkV RL 30 MX5_take := ⟨(m_tb_of 675 (by decide +kernel) (by decide +kernel)), (m_tb_of 676 (by decide +kernel) (by decide +kernel)), (m_tb_of 677 (by decide +kernel) (by decide +kernel))⟩
theorem lk_L_34 : m_lkV RL 34 MX5_tear := ⟨(m_tb_of 679 (by decide +kernel) (by decide +kernel)), (m_tb_of 680 (by decide +kernel) (by decide +kernel)), (m_tb_of 681 (by decide +kernel) (by decide +kernel))⟩
theorem lk_L_39 : m_lkV RL 39 MX5_copy := ⟨(m_tb_of 683 (by decide +kernel) (by decide +kernel)), (m_tb_of 684 (by decide +kernel) (by decide +kernel)), (m_tb_of 685 (by decide +kernel) (by decide +kernel))⟩
theorem lk_L_43 : m_lkV RL 43 MX5_rule := ⟨(m_tb_of 687 (by decide +kernel) (by decide +kernel)), (m_tb_of 688 (by decide +kernel) (by decide +kernel)), (m_tb_of 689 (by decide +kernel) (by decide +kernel))⟩
theorem lk_L_59 : m_lkV RL 59 MX5_many := ⟨(m_tb_of 691 (by decide +kernel) (by decide +kernel)), (m_tb_of 692 (by decide +kernel) (by decide +kernel)), (m_tb_of 693 (by decide +kernel) (by decide +kernel))⟩
theorem lk_X5_114 : m_lkV RX5 114 MX5_setList := ⟨(m_tb_of 695 (by decide +kernel) (by decide +kernel)), (m_tb_of 697 (by decide +kernel) (by decide +kernel)), (m_tb_of 20 (by decide +kernel) (by decide +kernel))⟩
theorem lk_X5_107 : m_lkV RX5 107 MX5_later := ⟨(m_tb_of 699 (by decide +kernel) (by decide +kernel)), (m_tb_of 701 (by decide +kernel) (by decide +kernel)), (m_tb_of 21 (by decide +kernel) (by decide +kernel))⟩
theorem lk_L_63 : m_lkV RL 63 MX5_rank := ⟨(m_tb_of 703 (by decide +kernel) (by decide +kernel)), (m_tb_of 704 (by decide +kernel) (by decide +kernel)), (m_tb_of 705 (by decide +kernel) (by decide +kernel))⟩
theorem lk_X5_125 : m_lkV RX5 125 MX5_rankOf := ⟨(m_tb_of 707 (by decide +kernel) (by decide +kernel)), (m_tb_of 709 (by decide +kernel) (by decide +kernel)), (m_tb_of 22 (by decide +kernel) (by decide +kernel))⟩
theorem lk_X5_118 : m_lkV RX5 118 MX5_load := ⟨(m_tb_of 711 (by decide +kernel) (by decide +kernel)), (m_tb_of 713 (by decide +kernel) (by decide +kernel)), (m_tb_of 23 (by decide +kernel) (by decide +kernel))⟩
theorem lk_X5_121 : m_lkV RX5 121 MX5_rankRow := ⟨(m_tb_of 715 (by decide +kernel) (by decide +kernel)), (m_tb_of 717 (by decide +kernel) (by decide +kernel)), (m_tb_of 24 (by decide +kernel) (by decide +kernel))⟩
theorem lk_X5_111 : m_lkV RX5 111 MX5_against := ⟨(m_tb_of 719 (by decide +kernel) (by decide +kernel)), (m_tb_of 721 (by decide +kernel) (by decide +kernel)), (m_tb_of 25 (by decide +kernel) (by decide +kernel))⟩
theorem lk_L_68 : m_lkV RL 68 MX5_list := ⟨(m_tb_of 723 (by decide +kernel) (by decide +kernel)), (m_tb_of 724 (by decide +kernel) (by decide +kernel)), (m_tb_of 725 (by decide +kernel) (by decide +kernel))⟩
theorem lk_X5_128 : m_lkV RX5 128 MX5_loadListed := ⟨(m_tb_of 727 (by decide +kernel) (by decide +kernel)), (m_tb_of 729 (by decide +kernel) (by decide +kernel)), (m_tb_of 26 (by decide +kernel) (by decide +kernel))⟩
theorem lk_X5_131 : m_lkV RX5 131 MX5_keep := ⟨(m_tb_of 731 (by decide +kernel) (by decide +kernel)), (m_tb_of 733 (by decide +kernel) (by decide +kernel)), (m_tb_of 27 (by decide +kernel) (by decide +kernel))⟩
theorem lk_L_72 : m_lkV RL 72 MX5_turn := ⟨(m_tb_of 735 (by decide +kernel) (by decide +kernel)), (m_tb_of 736 (by decide +kernel) (by decide +kernel)), (m_tb_of 737 (by decide +kernel) (by decide +kernel))⟩
theorem lk_L_47 : m_lkV RL 47 MX5_kind := ⟨(m_tb_of 739 (by decide +kernel) (by decide +kernel)), (m_tb_of 740 (by decide +kernel) (by decide +kernel)), (m_tb_of 741 (by decide +kernel) (by decide +kernel))⟩
theorem lk_X5_143 : m_lkV RX5 143 MX5_stepped := ⟨(m_tb_of 743 (by decide +kernel) (by decide +kernel)), (m_tb_of 745 (by decide +kernel) (by decide +kernel)), (m_tb_of 28 (by decide +kernel) (by decide +kernel))⟩
theorem lk_X5_140 : m_lkV RX5 140 MX5_setSteps := ⟨(m_tb_of 747 (by decide +kernel) (by decide +kernel)), (m_tb_of 749 (by decide +kernel) (by decide +kernel)), (m_tb_of 29 (by decide +kernel) (by decide +kernel))⟩
theorem lk_X5_134 : m_lkV RX5 134 MX5_goOn := ⟨(m_tb_of 751 (by decide +kernel) (by decide +kernel)), (m_tb_of 753 (by decide +kernel) (by decide +kernel)), (m_tb_of 30 (by decide +kernel) (by decide +kernel))⟩
theorem lk_X5_97 : m_lkV RX5 97 MX5_give := ⟨(m_tb_of 755 (by decide +kernel) (by decide +kernel)), (m_tb_of 757 (by decide +kernel) (by decide +kernel)), (m_tb_of 31 (by decide +kernel) (by decide +kernel))⟩
theorem lk_X5_101 : m_lkV RX5 101 MX5_settle := ⟨(m_tb_of 759 (by decide +kernel) (by decide +kernel)), (m_tb_of 761 (by decide +kernel) (by decide +kernel)), (m_tb_of 32 (by decide +kernel) (by decide +kernel))⟩
theorem lk_X5_137 : m_lkV RX5 137 MX5_isRound := ⟨(m_tb_of 763 (by decide +kernel) (by decide +kernel)), (m_tb_of 765 (by decide +kernel) (by decide +kernel)), (m_tb_of 33 (by decide +kernel) (by decide +kernel))⟩
theorem lk_X5_146 : m_lkV RX5 146 MX5_kindOf := ⟨(m_tb_of 767 (by decide +kernel) (by decide +kernel)), (m_tb_of 769 (by decide +kernel) (by decide +kernel)), (m_tb_of 34 (by decide +kernel) (by decide +kernel))⟩
theorem lk_L_51 : m_lkV RL 51 MX5_mark := ⟨(m_tb_of 771 (by decide +kernel) (by decide +kernel)), (m_tb_of 772 (by decide +kernel) (by decide +kernel)), (m_tb_of 773 (by decide +kernel) (by decide +kernel))⟩
theorem lk_L_55 : m_lkV RL 55 MX5_mean := ⟨(m_tb_of 775 (by decide +kernel) (by decide +kernel)), (m_tb_of 776 (by decide +kernel) (by decide +kernel)), (m_tb_of 777 (by decide +kernel) (by decide +kernel))⟩
theorem lk_L_76 : m_lkV RL 76 MX5_step := ⟨(m_tb_of 779 (by decide +kernel) (by decide +kernel)), (m_tb_of 780 (by decide +kernel) (by decide +kernel)), (m_tb_of 781 (by decide +kernel) (by decide +kernel))⟩
theorem lk_L_80 : m_lkV RL 80 MX5_tail := ⟨(m_tb_of 783 (by decide +kernel) (by decide +kernel)), (m_tb_of 784 (by decide +kernel) (by decide +kernel)), (m_tb_of 785 (by decide +kernel) (by decide +kernel))⟩
theorem lk_L_84 : m_lkV RL 84 MX5_beat := ⟨(m_tb_of 787 (by decide +kernel) (by decide +kernel)), (m_tb_of 788 (by decide +kernel) (by decide +kernel)), (m_tb_of 789 (by decide +kernel) (by decide +kernel))⟩
theorem lk_L_88 : m_lkV RL 88 MX5_leader := ⟨(m_tb_of 791 (by decide +kernel) (by decide +kernel)), (m_tb_of 792 (by decide +kernel) (by decide +kernel)), (m_tb_of 793 (by decide +kernel) (by decide +kernel))⟩
theorem lk_L_92 : m_lkV RL 92 MX5_rounds := ⟨(m_tb_of 795 (by decide +kernel) (by decide +kernel)), (m_tb_of 796 (by decide +kernel) (by decide +kernel)), (m_tb_of 797 (by decide +kernel) (by decide +kernel))⟩
theorem lk_L_96 : m_lkV RL 96 MX5_ring := ⟨(m_tb_of 799 (by decide +kernel) (by decide +kernel)), (m_tb_of 800 (by decide +kernel) (by decide +kernel)), (m_tb_of 801 (by decide +kernel) (by decide +kernel))⟩
theorem lk_L_100 : m_lkV RL 100 MX5_from := ⟨(m_tb_of 803 (by decide +kernel) (by decide +kernel)), (m_tb_of 804 (by decide +kernel) (by decide +kernel)), (m_tb_of 805 (by decide +kernel) (by decide +kernel))⟩
theorem lk_L_104 : m_lkV RL 104 MX5_fromAt := ⟨(m_tb_of 807 (by decide +kernel) (by decide +kernel)), (m_tb_of 808 (by decide +kernel) (by decide +kernel)), (m_tb_of 809 (by decide +kernel) (by decide +kernel))⟩
theorem lk_L_108 : m_lkV RL 108 MX5_steps := ⟨(m_tb_of 811 (by decide +kernel) (by decide +kernel)), (m_tb_of 812 (by decide +kernel) (by decide +kernel)), (m_tb_of 813 (by decide +kernel) (by decide +kernel))⟩
theorem lk_L_112 : m_lkV RL 112 MX5_ways := ⟨(m_tb_of 815 (by decide +kernel) (by decide +kernel)), (m_tb_of 816 (by decide +kernel) (by decide +kernel)), (m_tb_of 817 (by decide +kernel) (by decide +kernel))⟩
theorem lk_X5_156 : m_lkV RX5 156 MX5_noWays := ⟨(m_tb_of 819 (by decide +kernel) (by decide +kernel)), (m_tb_of 821 (by decide +kernel) (by decide +kernel)), (m_tb_of 35 (by decide +kernel) (by decide +kernel))⟩
theorem lk_X5_159 : m_lkV RX5 159 MX5_addWays := ⟨(m_tb_of 823 (by decide +kernel) (by decide +kernel)), (m_tb_of 825 (by decide +kernel) (by decide +kernel)), (m_tb_of 36 (by decide +kernel) (by decide +kernel))⟩
theorem lk_X5_152 : m_lkS RX5 152 MX5_choices := ⟨(m_tb_of 827 (by decide +kernel) (by decide +kernel)), (m_tb_of 828 (by decide +kernel) (by decide +kernel))⟩
theorem lk_L_116 : m_lkV RL 116 MX5_reach := ⟨(m_tb_of 830 (by decide +kernel) (by decide +kernel)), (m_tb_of 831 (by decide +kernel) (by decide +kernel)), (m_tb_of 832 (by decide +kernel) (by decide +kernel))⟩
theorem lk_L_120 : m_lkV RL 120 MX5_walks := ⟨(m_tb_of 834 (by decide +kernel) (by decide +kernel)), (m_tb_of 835 (by decide +kernel) (by decide +kernel)), (m_tb_of 836 (by decide +kernel) (by decide +kernel))⟩
theorem lk_L_125 : m_lkV RL 125 MX5_asked := ⟨(m_tb_of 838 (by decide +kernel) (by decide +kernel)), (m_tb_of 839 (by decide +kernel) (by decide +kernel)), (m_tb_of 840 (by decide +kernel) (by decide +kernel))⟩
theorem lk_L_129 : m_lkV RL 129 MX5_told := ⟨(m_tb_of 842 (by decide +kernel) (by decide +kernel)), (m_tb_of 843 (by decide +kernel) (by decide +kernel)), (m_tb_of 844 (by decide +kernel) (by decide +kernel))⟩
theorem lk_L_133 : m_lkV RL 133 MX5_count := ⟨(m_tb_of 846 (by decide +kernel) (by decide +kernel)), (m_tb_of 847 (by decide +kernel) (by decide +kernel)), (m_tb_of 848 (by decide +kernel) (by decide +kernel))⟩
theorem lk_L_138 : m_lkV RL 138 MX5_finding := ⟨(m_tb_of 850 (by decide +kernel) (by decide +kernel)), (m_tb_of 851 (by decide +kernel) (by decide +kernel)), (m_tb_of 852 (by decide +kernel) (by decide +kernel))⟩
theorem lk_L_142 : m_lkV RL 142 MX5_findings := ⟨(m_tb_of 854 (by decide +kernel) (by decide +kernel)), (m_tb_of 855 (by decide +kernel) (by decide +kernel)), (m_tb_of 856 (by decide +kernel) (by decide +kernel))⟩
theorem lk_L_146 : m_lkV RL 146 MX5_digest := ⟨(m_tb_of 858 (by decide +kernel) (by decide +kernel)), (m_tb_of 859 (by decide +kernel) (by decide +kernel)), (m_tb_of 860 (by decide +kernel) (by decide +kernel))⟩
theorem kl_X5_167 : Cond.constantLong RX5 167 (527 : Int64) ∈ m_tb := (m_tb_of 862 (by decide +kernel) (by decide +kernel))
theorem kl_X5_169 : Cond.constantLong RX5 169 (31 : Int64) ∈ m_tb := (m_tb_of 863 (by decide +kernel) (by decide +kernel))
end
section
theorem st_1_0 {a0 : Option Value} {v : Value} : m_st [a0] 0 v = [some v] := rfl
theorem st_2_0 {a0 a1 : Option Value} {v : Value} : m_st [a0, a1] 0 v = [some v, a1] := rfl
theorem st2_2_0 {a0 a1 : Option Value} {v : Value} : m_no (m_st [a0, a1] 0 v) 1 = [some v, none] := rfl
theorem st_2_1 {a0 a1 : Option Value} {v : Value} (q : m_c2 a0 = false) : m_st [a0, a1] 1 v = [a0, some v] := by simp [m_st, q]
theorem stL_2_1 {a1 : Option Value} {v : Value} {w : Int64} : m_st [some (.long w), a1] 1 v = [none, some v] := rfl
theorem st_3_0 {a0 a1 a2 : Option Value} {v : Value} : m_st [a0, a1, a2] 0 v = [some v, a1, a2] := rfl
theorem st2_3_0 {a0 a1 a2 : Option Value} {v : Value} : m_no (m_st [a0, a1, a2] 0 v) 1 = [some v, none, a2] := rfl
theorem st_3_1 {a0 a1 a2 : Option Value} {v : Value} (q : m_c2 a0 = false) : m_st [a0, a1, a2] 1 v = [a0, some v, a2] := by simp [m_st, q]
theorem stL_3_1 {a1 a2 : Option Value} {v : Value} {w : Int64} : m_st [some (.long w), a1, a2] 1 v = [none, some v, a2] := rfl
theorem st2_3_1 {a0 a1 a2 : Option Value} {v : Value} (q : m_c2 a0 = false) : m_no (m_st [a0, a1, a2] 1 v) 2 = [a0, some v, none] := by simp [m_st, m_no, q]
theorem st_3_2 {a0 a1 a2 : Option Value} {v : Value} (q : m_c2 a1 = false) : m_st [a0, a1, a2] 2 v = [a0, a1, some v] := by simp [m_st, q]
theorem stL_3_2 {a0 a2 : Option Value} {v : Value} {w : Int64} : m_st [a0, some (.long w), a2] 2 v = [a0, none, some v] := rfl
theorem st_4_0 {a0 a1 a2 a3 : Option Value} {v : Value} : m_st [a0, a1, a2, a3] 0 v = [some v, a1, a2, a3] := rfl
theorem st2_4_0 {a0 a1 a2 a3 : Option Value} {v : Value} : m_no (m_st [a0, a1, a2, a3] 0 v) 1 = [some v, none, a2, a3] := rfl
theorem st_4_1 {a0 a1 a2 a3 : Option Value} {v : Value} (q : m_c2 a0 = false) : m_st [a0, a1, a2, a3] 1 v = [a0, some v, a2, a3] := by simp [m_st, q]
theorem stL_4_1 {a1 a2 a3 : Option Value} {v : Value} {w : Int64} : m_st [some (.long w), a1, a2, a3] 1 v = [none, some v, a2, a3] := rfl
theorem st2_4_1 {a0 a1 a2 a3 : Option Value} {v : Value} (q : m_c2 a0 = false) : m_no (m_st [a0, a1, a2, a3] 1 v) 2 = [a0, some v, none, a3] := by simp [m_st, m_no, q]
theorem st_4_2 {a0 a1 a2 a3 : Option Value} {v : Value} (q : m_c2 a1 = false) : m_st [a0, a1, a2, a3] 2 v = [a0, a1, some v, a3] := by simp [m_st, q]
theorem stL_4_2 {a0 a2 a3 : Option Value} {v : Value} {w : Int64} : m_st [a0, some (.long w), a2, a3] 2 v = [a0, none, some v, a3] := rfl
theorem st2_4_2 {a0 a1 a2 a3 : Option Value} {v : Value} (q : m_c2 a1 = false) : m_no (m_st [a0, a1, a2, a3] 2 v) 3 = [a0, a1, some v, none] := by simp [m_st, m_no, q]
theorem st_4_3 {a0 a1 a2 a3 : Option Value} {v : Value} (q : m_c2 a2 = false) : m_st [a0, a1, a2, a3] 3 v = [a0, a1, a2, some v] := by simp [m_st, q]
theorem stL_4_3 {a0 a1 a3 : Option Value} {v : Value} {w : Int64} : m_st [a0, a1, some (.long w), a3] 3 v = [a0, a1, none, some v] := rfl
theorem st_5_0 {a0 a1 a2 a3 a4 : Option Value} {v : Value} : m_st [a0, a1, a2, a3, a4] 0 v = [some v, a1, a2, a3, a4] := rfl
theorem st2_5_0 {a0 a1 a2 a3 a4 : Option Value} {v : Value} : m_no (m_st [a0, a1, a2, a3, a4] 0 v) 1 = [some v, none, a2, a3, a4] := rfl
theorem st_5_1 {a0 a1 a2 a3 a4 : Option Value} {v : Value} (q : m_c2 a0 = false) : m_st [a0, a1, a2, a3, a4] 1 v = [a0, some v, a2, a3, a4] := by simp [m_st, q]
theorem stL_5_1 {a1 a2 a3 a4 : Option Value} {v : Value} {w : Int64} : m_st [some (.long w), a1, a2, a3, a4] 1 v = [none, some v, a2, a3, a4] := rfl
theorem st2_5_1 {a0 a1 a2 a3 a4 : Option Value} {v : Value} (q : m_c2 a0 = false) : m_no (m_st [a0, a1, a2, a3, a4] 1 v) 2 = [a0, some v, none, a3, a4] := by simp [m_st, m_no, q]
theorem st_5_2 {a0 a1 a2 a3 a4 : Option Value} {v : Value} (q : m_c2 a1 = false) : m_st [a0, a1, a2, a3, a4] 2 v = [a0, a1, some v, a3, a4] := by simp [m_st, q]
theorem stL_5_2 {a0 a2 a3 a4 : Option Value} {v : Value} {w : Int64} : m_st [a0, some (.long w), a2, a3, a4] 2 v = [a0, none, some v, a3, a4] := rfl
theorem st2_5_2 {a0 a1 a2 a3 a4 : Option Value} {v : Value} (q : m_c2 a1 = false) : m_no (m_st [a0, a1, a2, a3, a4] 2 v) 3 = [a0, a1, some v, none, a4] := by simp [m_st, m_no, q]
theorem st_5_3 {a0 a1 a2 a3 a4 : Option Value} {v : Value} (q : m_c2 a2 = false) : m_st [a0, a1, a2, a3, a4] 3 v = [a0, a1, a2, some v, a4] := by simp [m_st, q]
theorem stL_5_3 {a0 a1 a3 a4 : Option Value} {v : Value} {w : Int64} : m_st [a0, a1, some (.long w), a3, a4] 3 v = [a0, a1, none, some v, a4] := rfl
theorem st2_5_3 {a0 a1 a2 a3 a4 : Option Value} {v : Value} (q : m_c2 a2 = false) : m_no (m_st [a0, a1, a2, a3, a4] 3 v) 4 = [a0, a1, a2, some v, none] := by simp [m_st, m_no, q]
theorem st_5_4 {a0 a1 a2 a3 a4 : Option Value} {v : Value} (q : m_c2 a3 = false) : m_st [a0, a1, a2, a3, a4] 4 v = [a0, a1, a2, a3, some v] := by simp [m_st, q]
theorem stL_5_4 {a0 a1 a2 a4 : Option Value} {v : Value} {w : Int64} : m_st [a0, a1, a2, some (.long w), a4] 4 v = [a0, a1, a2, none, some v] := rfl
theorem st_6_0 {a0 a1 a2 a3 a4 a5 : Option Value} {v : Value} : m_st [a0, a1, a2, a3, a4, a5] 0 v = [some v, a1, a2, a3, a4, a5] := rfl
theorem st2_6_0 {a0 a1 a2 a3 a4 a5 : Option Value} {v : Value} : m_no (m_st [a0, a1, a2, a3, a4, a5] 0 v) 1 = [some v, none, a2, a3, a4, a5] := rfl
theorem st_6_1 {a0 a1 a2 a3 a4 a5 : Option Value} {v : Value} (q : m_c2 a0 = false) : m_st [a0, a1, a2, a3, a4, a5] 1 v = [a0, some v, a2, a3, a4, a5] := by simp [m_st, q]
theorem stL_6_1 {a1 a2 a3 a4 a5 : Option Value} {v : Value} {w : Int64} : m_st [some (.long w), a1, a2, a3, a4, a5] 1 v = [none, some v, a2, a3, a4, a5] := rfl
theorem st2_6_1 {a0 a1 a2 a3 a4 a5 : Option Value} {v : Value} (q : m_c2 a0 = false) : m_no (m_st [a0, a1, a2, a3, a4, a5] 1 v) 2 = [a0, some v, none, a3, a4, a5] := by simp [m_st, m_no, q]
theorem st_6_2 {a0 a1 a2 a3 a4 a5 : Option Value} {v : Value} (q : m_c2 a1 = false) : m_st [a0, a1, a2, a3, a4, a5] 2 v = [a0, a1, some v, a3, a4, a5] := by simp [m_st, q]
theorem stL_6_2 {a0 a2 a3 a4 a5 : Option Value} {v : Value} {w : Int64} : m_st [a0, some (.long w), a2, a3, a4, a5] 2 v = [a0, none, some v, a3, a4, a5] := rfl
theorem st2_6_2 {a0 a1 a2 a3 a4 a5 : Option Value} {v : Value} (q : m_c2 a1 = false) : m_no (m_st [a0, a1, a2, a3, a4, a5] 2 v) 3 = [a0, a1, some v, none, a4, a5] := by simp [m_st, m_no, q]
theorem st_6_3 {a0 a1 a2 a3 a4 a5 : Option Value} {v : Value} (q : m_c2 a2 = false) : m_st [a0, a1, a2, a3, a4, a5] 3 v = [a0, a1, a2, some v, a4, a5] := by simp [m_st, q]
theorem stL_6_3 {a0 a1 a3 a4 a5 : Option Value} {v : Value} {w : Int64} : m_st [a0, a1, some (.long w), a3, a4, a5] 3 v = [a0, a1, none, some v, a4, a5] := rfl
theorem st2_6_3 {a0 a1 a2 a3 a4 a5 : Option Value} {v : Value} (q : m_c2 a2 = false) : m_no (m_st [a0, a1, a2, a3, a4, a5] 3 v) 4 = [a0, a1, a2, some v, none, a5] := by simp [m_st, m_no, q]
theorem st_6_4 {a0 a1 a2 a3 a4 a5 : Option Value} {v : Value} (q : m_c2 a3 = false) : m_st [a0, a1, a2, a3, a4, a5] 4 v = [a0, a1, a2, a3, some v, a5] := by simp [m_st, q]
theorem stL_6_4 {a0 a1 a2 a4 a5 : Option Value} {v : Value} {w : Int64} : m_st [a0, a1, a2, some (.long w), a4, a5] 4 v = [a0, a1, a2, none, some v, a5] := rfl
theorem st2_6_4 {a0 a1 a2 a3 a4 a5 : Option Value} {v : Value} (q : m_c2 a3 = false) : m_no (m_st [a0, a1, a2, a3, a4, a5] 4 v) 5 = [a0, a1, a2, a3, some v, none] := by simp [m_st, m_no, q]
theorem st_6_5 {a0 a1 a2 a3 a4 a5 : Option Value} {v : Value} (q : m_c2 a4 = false) : m_st [a0, a1, a2, a3, a4, a5] 5 v = [a0, a1, a2, a3, a4, some v] := by simp [m_st, q]
theorem stL_6_5 {a0 a1 a2 a3 a5 : Option Value} {v : Value} {w : Int64} : m_st [a0, a1, a2, a3, some (.long w), a5] 5 v = [a0, a1, a2, a3, none, some v] := rfl
theorem st_7_0 {a0 a1 a2 a3 a4 a5 a6 : Option Value} {v : Value} : m_st [a0, a1, a2, a3, a4, a5, a6] 0 v = [some v, a1, a2, a3, a4, a5, a6] := rfl
theorem st2_7_0 {a0 a1 a2 a3 a4 a5 a6 : Option Value} {v : Value} : m_no (m_st [a0, a1, a2, a3, a4, a5, a6] 0 v) 1 = [some v, none, a2, a3, a4, a5, a6] := rfl
theorem st_7_1 {a0 a1 a2 a3 a4 a5 a6 : Option Value} {v : Value} (q : m_c2 a0 = false) : m_st [a0, a1, a2, a3, a4, a5, a6] 1 v = [a0, some v, a2, a3, a4, a5, a6] := by simp [m_st, q]
theorem stL_7_1 {a1 a2 a3 a4 a5 a6 : Option Value} {v : Value} {w : Int64} : m_st [some (.long w), a1, a2, a3, a4, a5, a6] 1 v = [none, some v, a2, a3, a4, a5, a6] := rfl
theorem st2_7_1 {a0 a1 a2 a3 a4 a5 a6 : Option Value} {v : Value} (q : m_c2 a0 = false) : m_no (m_st [a0, a1, a2, a3, a4, a5, a6] 1 v) 2 = [a0, some v, none, a3, a4, a5, a6] := by simp [m_st, m_no, q]
theorem st_7_2 {a0 a1 a2 a3 a4 a5 a6 : Option Value} {v : Value} (q : m_c2 a1 = false) : m_st [a0, a1, a2, a3, a4, a5, a6] 2 v = [a0, a1, some v, a3, a4, a5, a6] := by simp [m_st, q]
theorem stL_7_2 {a0 a2 a3 a4 a5 a6 : Option Value} {v : Value} {w : Int64} : m_st [a0, some (.long w), a2, a3, a4, a5, a6] 2 v = [a0, none, some v, a3, a4, a5, a6] := rfl
theorem st2_7_2 {a0 a1 a2 a3 a4 a5 a6 : Option Value} {v : Value} (q : m_c2 a1 = false) : m_no (m_st [a0, a1, a2, a3, a4, a5, a6] 2 v) 3 = [a0, a1, some v, none, a4, a5, a6] := by simp [m_st, m_no, q]
theorem st_7_3 {a0 a1 a2 a3 a4 a5 a6 : Option Value} {v : Value} (q : m_c2 a2 = false) : m_st [a0, a1, a2, a3, a4, a5, a6] 3 v = [a0, a1, a2, some v, a4, a5, a6] := by simp [m_st, q]
theorem stL_7_3 {a0 a1 a3 a4 a5 a6 : Option Value} {v : Value} {w : Int64} : m_st [a0, a1, some (.long w), a3, a4, a5, a6] 3 v = [a0, a1, none, some v, a4, a5, a6] := rfl
theorem st2_7_3 {a0 a1 a2 a3 a4 a5 a6 : Option Value} {v : Value} (q : m_c2 a2 = false) : m_no (m_st [a0, a1, a2, a3, a4, a5, a6] 3 v) 4 = [a0, a1, a2, some v, none, a5, a6] := by simp [m_st, m_no, q]
theorem st_7_4 {a0 a1 a2 a3 a4 a5 a6 : Option Value} {v : Value} (q : m_c2 a3 = false) : m_st [a0, a1, a2, a3, a4, a5, a6] 4 v = [a0, a1, a2, a3, some v, a5, a6] := by simp [m_st, q]
theorem stL_7_4 {a0 a1 a2 a4 a5 a6 : Option Value} {v : Value} {w : Int64} : m_st [a0, a1, a2, some (.long w), a4, a5, a6] 4 v = [a0, a1, a2, none, some v, a5, a6] := rfl
theorem st2_7_4 {a0 a1 a2 a3 a4 a5 a6 : Option Value} {v : Value} (q : m_c2 a3 = false) : m_no (m_st [a0, a1, a2, a3, a4, a5, a6] 4 v) 5 = [a0, a1, a2, a3, some v, none, a6] := by simp [m_st, m_no, q]
theorem st_7_5 {a0 a1 a2 a3 a4 a5 a6 : Option Value} {v : Value} (q : m_c2 a4 = false) : m_st [a0, a1, a2, a3, a4, a5, a6] 5 v = [a0, a1, a2, a3, a4, some v, a6] := by simp [m_st, q]
theorem stL_7_5 {a0 a1 a2 a3 a5 a6 : Option Value} {v : Value} {w : Int64} : m_st [a0, a1, a2, a3, some (.long w), a5, a6] 5 v = [a0, a1, a2, a3, none, some v, a6] := rfl
theorem st2_7_5 {a0 a1 a2 a3 a4 a5 a6 : Option Value} {v : Value} (q : m_c2 a4 = false) : m_no (m_st [a0, a1, a2, a3, a4, a5, a6] 5 v) 6 = [a0, a1, a2, a3, a4, some v, none] := by simp [m_st, m_no, q]
theorem st_7_6 {a0 a1 a2 a3 a4 a5 a6 : Option Value} {v : Value} (q : m_c2 a5 = false) : m_st [a0, a1, a2, a3, a4, a5, a6] 6 v = [a0, a1, a2, a3, a4, a5, some v] := by simp [m_st, q]
theorem stL_7_6 {a0 a1 a2 a3 a4 a6 : Option Value} {v : Value} {w : Int64} : m_st [a0, a1, a2, a3, a4, some (.long w), a6] 6 v = [a0, a1, a2, a3, a4, none, some v] := rfl
theorem st_8_0 {a0 a1 a2 a3 a4 a5 a6 a7 : Option Value} {v : Value} : m_st [a0, a1, a2, a3, a4, a5, a6, a7] 0 v = [some v, a1, a2, a3, a4, a5, a6, a7] := rfl
theorem st2_8_0 {a0 a1 a2 a3 a4 a5 a6 a7 : Option Value} {v : Value} : m_no (m_st [a0, a1, a2, a3, a4, a5, a6, a7] 0 v) 1 = [some v, none, a2, a3, a4, a5, a6, a7] := rfl
theorem st_8_1 {a0 a1 a2 a3 a4 a5 a6 a7 : Option Value} {v : Value} (q : m_c2 a0 = false) : m_st [a0, a1, a2, a3, a4, a5, a6, a7] 1 v = [a0, some v, a2, a3, a4, a5, a6, a7] := by simp [m_st, q]
theorem stL_8_1 {a1 a2 a3 a4 a5 a6 a7 : Option Value} {v : Value} {w : Int64} : m_st [some (.long w), a1, a2, a3, a4, a5, a6, a7] 1 v = [none, some v, a2, a3, a4, a5, a6, a7] := rfl
theorem st2_8_1 {a0 a1 a2 a3 a4 a5 a6 a7 : Option Value} {v : Value} (q : m_c2 a0 = false) : m_no (m_st [a0, a1, a2, a3, a4, a5, a6, a7] 1 v) 2 = [a0, some v, none, a3, a4, a5, a6, a7] := by simp [m_st, m_no, q]
theorem st_8_2 {a0 a1 a2 a3 a4 a5 a6 a7 : Option Value} {v : Value} (q : m_c2 a1 = false) : m_st [a0, a1, a2, a3, a4, a5, a6, a7] 2 v = [a0, a1, some v, a3, a4, a5, a6, a7] := by simp [m_st, q]
theorem stL_8_2 {a0 a2 a3 a4 a5 a6 a7 : Option Value} {v : Value} {w : Int64} : m_st [a0, some (.long w), a2, a3, a4, a5, a6, a7] 2 v = [a0, none, some v, a3, a4, a5, a6, a7] := rfl
theorem st2_8_2 {a0 a1 a2 a3 a4 a5 a6 a7 : Option Value} {v : Value} (q : m_c2 a1 = false) : m_no (m_st [a0, a1, a2, a3, a4, a5, a6, a7] 2 v) 3 = [a0, a1, some v, none, a4, a5, a6, a7] := by simp [m_st, m_no, q]
theorem st_8_3 {a0 a1 a2 a3 a4 a5 a6 a7 : Option Value} {v : Value} (q : m_c2 a2 = false) : m_st [a0, a1, a2, a3, a4, a5, a6, a7] 3 v = [a0, a1, a2, some v, a4, a5, a6, a7] := by simp [m_st, q]
theorem stL_8_3 {a0 a1 a3 a4 a5 a6 a7 : Option Value} {v : Value} {w : Int64} : m_st [a0, a1, some (.long w), a3, a4, a5, a6, a7] 3 v = [a0, a1, none, some v, a4, a5, a6, a7] := rfl
theorem st2_8_3 {a0 a1 a2 a3 a4 a5 a6 a7 : Option Value} {v : Value} (q : m_c2 a2 = false) : m_no (m_st [a0, a1, a2, a3, a4, a5, a6, a7] 3 v) 4 = [a0, a1, a2, some v, none, a5, a6, a7] := by simp [m_st, m_no, q]
theorem st_8_4 {a0 a1 a2 a3 a4 a5 a6 a7 : Option Value} {v : Value} (q : m_c2 a3 = false) : m_st [a0, a1, a2, a3, a4, a5, a6, a7] 4 v = [a0, a1, a2, a3, some v, a5, a6, a7] := by simp [m_st, q]
theorem stL_8_4 {a0 a1 a2 a4 a5 a6 a7 : Option Value} {v : Value} {w : Int64} : m_st [a0, a1, a2, some (.long w), a4, a5, a6, a7] 4 v = [a0, a1, a2, none, some v, a5, a6, a7] := rfl
theorem st2_8_4 {a0 a1 a2 a3 a4 a5 a6 a7 : Option Value} {v : Value} (q : m_c2 a3 = false) : m_no (m_st [a0, a1, a2, a3, a4, a5, a6, a7] 4 v) 5 = [a0, a1, a2, a3, some v, none, a6, a7] := by simp [m_st, m_no, q]
theorem st_8_5 {a0 a1 a2 a3 a4 a5 a6 a7 : Option Value} {v : Value} (q : m_c2 a4 = false) : m_st [a0, a1, a2, a3, a4, a5, a6, a7] 5 v = [a0, a1, a2, a3, a4, some v, a6, a7] := by simp [m_st, q]
theorem stL_8_5 {a0 a1 a2 a3 a5 a6 a7 : Option Value} {v : Value} {w : Int64} : m_st [a0, a1, a2, a3, some (.long w), a5, a6, a7] 5 v = [a0, a1, a2, a3, none, some v, a6, a7] := rfl
theorem st2_8_5 {a0 a1 a2 a3 a4 a5 a6 a7 : Option Value} {v : Value} (q : m_c2 a4 = false) : m_no (m_st [a0, a1, a2, a3, a4, a5, a6, a7] 5 v) 6 = [a0, a1, a2, a3, a4, some v, none, a7] := by simp [m_st, m_no, q]
theorem st_8_6 {a0 a1 a2 a3 a4 a5 a6 a7 : Option Value} {v : Value} (q : m_c2 a5 = false) : m_st [a0, a1, a2, a3, a4, a5, a6, a7] 6 v = [a0, a1, a2, a3, a4, a5, some v, a7] := by simp [m_st, q]
theorem stL_8_6 {a0 a1 a2 a3 a4 a6 a7 : Option Value} {v : Value} {w : Int64} : m_st [a0, a1, a2, a3, a4, some (.long w), a6, a7] 6 v = [a0, a1, a2, a3, a4, none, some v, a7] := rfl
theorem st2_8_6 {a0 a1 a2 a3 a4 a5 a6 a7 : Option Value} {v : Value} (q : m_c2 a5 = false) : m_no (m_st [a0, a1, a2, a3, a4, a5, a6, a7] 6 v) 7 = [a0, a1, a2, a3, a4, a5, some v, none] := by simp [m_st, m_no, q]
theorem st_8_7 {a0 a1 a2 a3 a4 a5 a6 a7 : Option Value} {v : Value} (q : m_c2 a6 = false) : m_st [a0, a1, a2, a3, a4, a5, a6, a7] 7 v = [a0, a1, a2, a3, a4, a5, a6, some v] := by simp [m_st, q]
theorem stL_8_7 {a0 a1 a2 a3 a4 a5 a7 : Option Value} {v : Value} {w : Int64} : m_st [a0, a1, a2, a3, a4, a5, some (.long w), a7] 7 v = [a0, a1, a2, a3, a4, a5, none, some v] := rfl
theorem st_9_0 {a0 a1 a2 a3 a4 a5 a6 a7 a8 : Option Value} {v : Value} : m_st [a0, a1, a2, a3, a4, a5, a6, a7, a8] 0 v = [some v, a1, a2, a3, a4, a5, a6, a7, a8] := rfl
theorem st2_9_0 {a0 a1 a2 a3 a4 a5 a6 a7 a8 : Option Value} {v : Value} : m_no (m_st [a0, a1, a2, a3, a4, a5, a6, a7, a8] 0 v) 1 = [some v, none, a2, a3, a4, a5, a6, a7, a8] := rfl
theorem st_9_1 {a0 a1 a2 a3 a4 a5 a6 a7 a8 : Option Value} {v : Value} (q : m_c2 a0 = false) : m_st [a0, a1, a2, a3, a4, a5, a6, a7, a8] 1 v = [a0, some v, a2, a3, a4, a5, a6, a7, a8] := by simp [m_st, q]
theorem stL_9_1 {a1 a2 a3 a4 a5 a6 a7 a8 : Option Value} {v : Value} {w : Int64} : m_st [some (.long w), a1, a2, a3, a4, a5, a6, a7, a8] 1 v = [none, some v, a2, a3, a4, a5, a6, a7, a8] := rfl
theorem st2_9_1 {a0 a1 a2 a3 a4 a5 a6 a7 a8 : Option Value} {v : Value} (q : m_c2 a0 = false) : m_no (m_st [a0, a1, a2, a3, a4, a5, a6, a7, a8] 1 v) 2 = [a0, some v, none, a3, a4, a5, a6, a7, a8] := by simp [m_st, m_no, q]
theorem st_9_2 {a0 a1 a2 a3 a4 a5 a6 a7 a8 : Option Value} {v : Value} (q : m_c2 a1 = false) : m_st [a0, a1, a2, a3, a4, a5, a6, a7, a8] 2 v = [a0, a1, some v, a3, a4, a5, a6, a7, a8] := by simp [m_st, q]
theorem stL_9_2 {a0 a2 a3 a4 a5 a6 a7 a8 : Option Value} {v : Value} {w : Int64} : m_st [a0, some (.long w), a2, a3, a4, a5, a6, a7, a8] 2 v = [a0, none, some v, a3, a4, a5, a6, a7, a8] := rfl
theorem st2_9_2 {a0 a1 a2 a3 a4 a5 a6 a7 a8 : Option Value} {v : Value} (q : m_c2 a1 = false) : m_no (m_st [a0, a1, a2, a3, a4, a5, a6, a7, a8] 2 v) 3 = [a0, a1, some v, none, a4, a5, a6, a7, a8] := by simp [m_st, m_no, q]
theorem st_9_3 {a0 a1 a2 a3 a4 a5 a6 a7 a8 : Option Value} {v : Value} (q : m_c2 a2 = false) : m_st [a0, a1, a2, a3, a4, a5, a6, a7, a8] 3 v = [a0, a1, a2, some v, a4, a5, a6, a7, a8] := by simp [m_st, q]
theorem stL_9_3 {a0 a1 a3 a4 a5 a6 a7 a8 : Option Value} {v : Value} {w : Int64} : m_st [a0, a1, some (.long w), a3, a4, a5, a6, a7, a8] 3 v = [a0, a1, none, some v, a4, a5, a6, a7, a8] := rfl
theorem st2_9_3 {a0 a1 a2 a3 a4 a5 a6 a7 a8 : Option Value} {v : Value} (q : m_c2 a2 = false) : m_no (m_st [a0, a1, a2, a3, a4, a5, a6, a7, a8] 3 v) 4 = [a0, a1, a2, some v, none, a5, a6, a7, a8] := by simp [m_st, m_no, q]
theorem st_9_4 {a0 a1 a2 a3 a4 a5 a6 a7 a8 : Option Value} {v : Value} (q : m_c2 a3 = false) : m_st [a0, a1, a2, a3, a4, a5, a6, a7, a8] 4 v = [a0, a1, a2, a3, some v, a5, a6, a7, a8] := by simp [m_st, q]
theorem stL_9_4 {a0 a1 a2 a4 a5 a6 a7 a8 : Option Value} {v : Value} {w : Int64} : m_st [a0, a1, a2, some (.long w), a4, a5, a6, a7, a8] 4 v = [a0, a1, a2, none, some v, a5, a6, a7, a8] := rfl
theorem st2_9_4 {a0 a1 a2 a3 a4 a5 a6 a7 a8 : Option Value} {v : Value} (q : m_c2 a3 = false) : m_no (m_st [a0, a1, a2, a3, a4, a5, a6, a7, a8] 4 v) 5 = [a0, a1, a2, a3, some v, none, a6, a7, a8] := by simp [m_st, m_no, q]
theorem st_9_5 {a0 a1 a2 a3 a4 a5 a6 a7 a8 : Option Value} {v : Value} (q : m_c2 a4 = false) : m_st [a0, a1, a2, a3, a4, a5, a6, a7, a8] 5 v = [a0, a1, a2, a3, a4, some v, a6, a7, a8] := by simp [m_st, q]
theorem stL_9_5 {a0 a1 a2 a3 a5 a6 a7 a8 : Option Value} {v : Value} {w : Int64} : m_st [a0, a1, a2, a3, some (.long w), a5, a6, a7, a8] 5 v = [a0, a1, a2, a3, none, some v, a6, a7, a8] := rfl
theorem st2_9_5 {a0 a1 a2 a3 a4 a5 a6 a7 a8 : Option Value} {v : Value} (q : m_c2 a4 = false) : m_no (m_st [a0, a1, a2, a3, a4, a5, a6, a7, a8] 5 v) 6 = [a0, a1, a2, a3, a4, some v, none, a7, a8] := by simp [m_st, m_no, q]
theorem st_9_6 {a0 a1 a2 a3 a4 a5 a6 a7 a8 : Option Value} {v : Value} (q : m_c2 a5 = false) : m_st [a0, a1, a2, a3, a4, a5, a6, a7, a8] 6 v = [a0, a1, a2, a3, a4, a5, some v, a7, a8] := by simp [m_st, q]
theorem stL_9_6 {a0 a1 a2 a3 a4 a6 a7 a8 : Option Value} {v : Value} {w : Int64} : m_st [a0, a1, a2, a3, a4, some (.long w), a6, a7, a8] 6 v = [a0, a1, a2, a3, a4, none, some v, a7, a8] := rfl
theorem st2_9_6 {a0 a1 a2 a3 a4 a5 a6 a7 a8 : Option Value} {v : Value} (q : m_c2 a5 = false) : m_no (m_st [a0, a1, a2, a3, a4, a5, a6, a7, a8] 6 v) 7 = [a0, a1, a2, a3, a4, a5, some v, none, a8] := by simp [m_st, m_no, q]
theorem st_9_7 {a0 a1 a2 a3 a4 a5 a6 a7 a8 : Option Value} {v : Value} (q : m_c2 a6 = false) : m_st [a0, a1, a2, a3, a4, a5, a6, a7, a8] 7 v = [a0, a1, a2, a3, a4, a5, a6, some v, a8] := by simp [m_st, q]
theorem stL_9_7 {a0 a1 a2 a3 a4 a5 a7 a8 : Option Value} {v : Value} {w : Int64} : m_st [a0, a1, a2, a3, a4, a5, some (.long w), a7, a8] 7 v = [a0, a1, a2, a3, a4, a5, none, some v, a8] := rfl
theorem st2_9_7 {a0 a1 a2 a3 a4 a5 a6 a7 a8 : Option Value} {v : Value} (q : m_c2 a6 = false) : m_no (m_st [a0, a1, a2, a3, a4, a5, a6, a7, a8] 7 v) 8 = [a0, a1, a2, a3, a4, a5, a6, some v, none] := by simp [m_st, m_no, q]
theorem st_9_8 {a0 a1 a2 a3 a4 a5 a6 a7 a8 : Option Value} {v : Value} (q : m_c2 a7 = false) : m_st [a0, a1, a2, a3, a4, a5, a6, a7, a8] 8 v = [a0, a1, a2, a3, a4, a5, a6, a7, some v] := by simp [m_st, q]
theorem stL_9_8 {a0 a1 a2 a3 a4 a5 a6 a8 : Option Value} {v : Value} {w : Int64} : m_st [a0, a1, a2, a3, a4, a5, a6, some (.long w), a8] 8 v = [a0, a1, a2, a3, a4, a5, a6, none, some v] := rfl
theorem st_10_0 {a0 a1 a2 a3 a4 a5 a6 a7 a8 a9 : Option Value} {v : Value} : m_st [a0, a1, a2, a3, a4, a5, a6, a7, a8, a9] 0 v = [some v, a1, a2, a3, a4, a5, a6, a7, a8, a9] := rfl
theorem st2_10_0 {a0 a1 a2 a3 a4 a5 a6 a7 a8 a9 : Option Value} {v : Value} : m_no (m_st [a0, a1, a2, a3, a4, a5, a6, a7, a8, a9] 0 v) 1 = [some v, none, a2, a3, a4, a5, a6, a7, a8, a9] := rfl
theorem st_10_1 {a0 a1 a2 a3 a4 a5 a6 a7 a8 a9 : Option Value} {v : Value} (q : m_c2 a0 = false) : m_st [a0, a1, a2, a3, a4, a5, a6, a7, a8, a9] 1 v = [a0, some v, a2, a3, a4, a5, a6, a7, a8, a9] := by simp [m_st, q]
theorem stL_10_1 {a1 a2 a3 a4 a5 a6 a7 a8 a9 : Option Value} {v : Value} {w : Int64} : m_st [some (.long w), a1, a2, a3, a4, a5, a6, a7, a8, a9] 1 v = [none, some v, a2, a3, a4, a5, a6, a7, a8, a9] := rfl
theorem st2_10_1 {a0 a1 a2 a3 a4 a5 a6 a7 a8 a9 : Option Value} {v : Value} (q : m_c2 a0 = false) : m_no (m_st [a0, a1, a2, a3, a4, a5, a6, a7, a8, a9] 1 v) 2 = [a0, some v, none, a3, a4, a5, a6, a7, a8, a9] := by simp [m_st, m_no, q]
theorem st_10_2 {a0 a1 a2 a3 a4 a5 a6 a7 a8 a9 : Option Value} {v : Value} (q : m_c2 a1 = false) : m_st [a0, a1, a2, a3, a4, a5, a6, a7, a8, a9] 2 v = [a0, a1, some v, a3, a4, a5, a6, a7, a8, a9] := by simp [m_st, q]
theorem stL_10_2 {a0 a2 a3 a4 a5 a6 a7 a8 a9 : Option Value} {v : Value} {w : Int64} : m_st [a0, some (.long w), a2, a3, a4, a5, a6, a7, a8, a9] 2 v = [a0, none, some v, a3, a4, a5, a6, a7, a8, a9] := rfl
theorem st2_10_2 {a0 a1 a2 a3 a4 a5 a6 a7 a8 a9 : Option Value} {v : Value} (q : m_c2 a1 = false) : m_no (m_st [a0, a1, a2, a3, a4, a5, a6, a7, a8, a9] 2 v) 3 = [a0, a1, some v, none, a4, a5, a6, a7, a8, a9] := by simp [m_st, m_no, q]
theorem st_10_3 {a0 a1 a2 a3 a4 a5 a6 a7 a8 a9 : Option Value} {v : Value} (q : m_c2 a2 = false) : m_st [a0, a1, a2, a3, a4, a5, a6, a7, a8, a9] 3 v = [a0, a1, a2, some v, a4, a5, a6, a7, a8, a9] := by simp [m_st, q]
theorem stL_10_3 {a0 a1 a3 a4 a5 a6 a7 a8 a9 : Option Value} {v : Value} {w : Int64} : m_st [a0, a1, some (.long w), a3, a4, a5, a6, a7, a8, a9] 3 v = [a0, a1, none, some v, a4, a5, a6, a7, a8, a9] := rfl
theorem st2_10_3 {a0 a1 a2 a3 a4 a5 a6 a7 a8 a9 : Option Value} {v : Value} (q : m_c2 a2 = false) : m_no (m_st [a0, a1, a2, a3, a4, a5, a6, a7, a8, a9] 3 v) 4 = [a0, a1, a2, some v, none, a5, a6, a7, a8, a9] := by simp [m_st, m_no, q]
theorem st_10_4 {a0 a1 a2 a3 a4 a5 a6 a7 a8 a9 : Option Value} {v : Value} (q : m_c2 a3 = false) : m_st [a0, a1, a2, a3, a4, a5, a6, a7, a8, a9] 4 v = [a0, a1, a2, a3, some v, a5, a6, a7, a8, a9] := by simp [m_st, q]
theorem stL_10_4 {a0 a1 a2 a4 a5 a6 a7 a8 a9 : Option Value} {v : Value} {w : Int64} : m_st [a0, a1, a2, some (.long w), a4, a5, a6, a7, a8, a9] 4 v = [a0, a1, a2, none, some v, a5, a6, a7, a8, a9] := rfl
theorem st2_10_4 {a0 a1 a2 a3 a4 a5 a6 a7 a8 a9 : Option Value} {v : Value} (q : m_c2 a3 = false) : m_no (m_st [a0, a1, a2, a3, a4, a5, a6, a7, a8, a9] 4 v) 5 = [a0, a1, a2, a3, some v, none, a6, a7, a8, a9] := by simp [m_st, m_no, q]
theorem st_10_5 {a0 a1 a2 a3 a4 a5 a6 a7 a8 a9 : Option Value} {v : Value} (q : m_c2 a4 = false) : m_st [a0, a1, a2, a3, a4, a5, a6, a7, a8, a9] 5 v = [a0, a1, a2, a3, a4, some v, a6, a7, a8, a9] := by simp [m_st, q]
theorem stL_10_5 {a0 a1 a2 a3 a5 a6 a7 a8 a9 : Option Value} {v : Value} {w : Int64} : m_st [a0, a1, a2, a3, some (.long w), a5, a6, a7, a8, a9] 5 v = [a0, a1, a2, a3, none, some v, a6, a7, a8, a9] := rfl
theorem st2_10_5 {a0 a1 a2 a3 a4 a5 a6 a7 a8 a9 : Option Value} {v : Value} (q : m_c2 a4 = false) : m_no (m_st [a0, a1, a2, a3, a4, a5, a6, a7, a8, a9] 5 v) 6 = [a0, a1, a2, a3, a4, some v, none, a7, a8, a9] := by simp [m_st, m_no, q]
theorem st_10_6 {a0 a1 a2 a3 a4 a5 a6 a7 a8 a9 : Option Value} {v : Value} (q : m_c2 a5 = false) : m_st [a0, a1, a2, a3, a4, a5, a6, a7, a8, a9] 6 v = [a0, a1, a2, a3, a4, a5, some v, a7, a8, a9] := by simp [m_st, q]
theorem stL_10_6 {a0 a1 a2 a3 a4 a6 a7 a8 a9 : Option Value} {v : Value} {w : Int64} : m_st [a0, a1, a2, a3, a4, some (.long w), a6, a7, a8, a9] 6 v = [a0, a1, a2, a3, a4, none, some v, a7, a8, a9] := rfl
theorem st2_10_6 {a0 a1 a2 a3 a4 a5 a6 a7 a8 a9 : Option Value} {v : Value} (q : m_c2 a5 = false) : m_no (m_st [a0, a1, a2, a3, a4, a5, a6, a7, a8, a9] 6 v) 7 = [a0, a1, a2, a3, a4, a5, some v, none, a8, a9] := by simp [m_st, m_no, q]
theorem st_10_7 {a0 a1 a2 a3 a4 a5 a6 a7 a8 a9 : Option Value} {v : Value} (q : m_c2 a6 = false) : m_st [a0, a1, a2, a3, a4, a5, a6, a7, a8, a9] 7 v = [a0, a1, a2, a3, a4, a5, a6, some v, a8, a9] := by simp [m_st, q]
theorem stL_10_7 {a0 a1 a2 a3 a4 a5 a7 a8 a9 : Option Value} {v : Value} {w : Int64} : m_st [a0, a1, a2, a3, a4, a5, some (.long w), a7, a8, a9] 7 v = [a0, a1, a2, a3, a4, a5, none, some v, a8, a9] := rfl
theorem st2_10_7 {a0 a1 a2 a3 a4 a5 a6 a7 a8 a9 : Option Value} {v : Value} (q : m_c2 a6 = false) : m_no (m_st [a0, a1, a2, a3, a4, a5, a6, a7, a8, a9] 7 v) 8 = [a0, a1, a2, a3, a4, a5, a6, some v, none, a9] := by simp [m_st, m_no, q]
theorem st_10_8 {a0 a1 a2 a3 a4 a5 a6 a7 a8 a9 : Option Value} {v : Value} (q : m_c2 a7 = false) : m_st [a0, a1, a2, a3, a4, a5, a6, a7, a8, a9] 8 v = [a0, a1, a2, a3, a4, a5, a6, a7, some v, a9] := by simp [m_st, q]
theorem stL_10_8 {a0 a1 a2 a3 a4 a5 a6 a8 a9 : Option Value} {v : Value} {w : Int64} : m_st [a0, a1, a2, a3, a4, a5, a6, some (.long w), a8, a9] 8 v = [a0, a1, a2, a3, a4, a5, a6, none, some v, a9] := rfl
theorem st2_10_8 {a0 a1 a2 a3 a4 a5 a6 a7 a8 a9 : Option Value} {v : Value} (q : m_c2 a7 = false) : m_no (m_st [a0, a1, a2, a3, a4, a5, a6, a7, a8, a9] 8 v) 9 = [a0, a1, a2, a3, a4, a5, a6, a7, some v, none] := by simp [m_st, m_no, q]
theorem st_10_9 {a0 a1 a2 a3 a4 a5 a6 a7 a8 a9 : Option Value} {v : Value} (q : m_c2 a8 = false) : m_st [a0, a1, a2, a3, a4, a5, a6, a7, a8, a9] 9 v = [a0, a1, a2, a3, a4, a5, a6, a7, a8, some v] := by simp [m_st, q]
theorem stL_10_9 {a0 a1 a2 a3 a4 a5 a6 a7 a9 : Option Value} {v : Value} {w : Int64} : m_st [a0, a1, a2, a3, a4, a5, a6, a7, some (.long w), a9] 9 v = [a0, a1, a2, a3, a4, a5, a6, a7, none, some v] := rfl
theorem st_11_0 {a0 a1 a2 a3 a4 a5 a6 a7 a8 a9 a10 : Option Value} {v : Value} : m_st [a0, a1, a2, a3, a4, a5, a6, a7, a8, a9, a10] 0 v = [some v, a1, a2, a3, a4, a5, a6, a7, a8, a9, a10] := rfl
theorem st2_11_0 {a0 a1 a2 a3 a4 a5 a6 a7 a8 a9 a10 : Option Value} {v : Value} : m_no (m_st [a0, a1, a2, a3, a4, a5, a6, a7, a8, a9, a10] 0 v) 1 = [some v, none, a2, a3, a4, a5, a6, a7, a8, a9, a10] := rfl
theorem st_11_1 {a0 a1 a2 a3 a4 a5 a6 a7 a8 a9 a10 : Option Value} {v : Value} (q : m_c2 a0 = false) : m_st [a0, a1, a2, a3, a4, a5, a6, a7, a8, a9, a10] 1 v = [a0, some v, a2, a3, a4, a5, a6, a7, a8, a9, a10] := by simp [m_st, q]
theorem stL_11_1 {a1 a2 a3 a4 a5 a6 a7 a8 a9 a10 : Option Value} {v : Value} {w : Int64} : m_st [some (.long w), a1, a2, a3, a4, a5, a6, a7, a8, a9, a10] 1 v = [none, some v, a2, a3, a4, a5, a6, a7, a8, a9, a10] := rfl
theorem st2_11_1 {a0 a1 a2 a3 a4 a5 a6 a7 a8 a9 a10 : Option Value} {v : Value} (q : m_c2 a0 = false) : m_no (m_st [a0, a1, a2, a3, a4, a5, a6, a7, a8, a9, a10] 1 v) 2 = [a0, some v, none, a3, a4, a5, a6, a7, a8, a9, a10] := by simp [m_st, m_no, q]
theorem st_11_2 {a0 a1 a2 a3 a4 a5 a6 a7 a8 a9 a10 : Option Value} {v : Value} (q : m_c2 a1 = false) : m_st [a0, a1, a2, a3, a4, a5, a6, a7, a8, a9, a10] 2 v = [a0, a1, some v, a3, a4, a5, a6, a7, a8, a9, a10] := by simp [m_st, q]
theorem stL_11_2 {a0 a2 a3 a4 a5 a6 a7 a8 a9 a10 : Option Value} {v : Value} {w : Int64} : m_st [a0, some (.long w), a2, a3, a4, a5, a6, a7, a8, a9, a10] 2 v = [a0, none, some v, a3, a4, a5, a6, a7, a8, a9, a10] := rfl
theorem st2_11_2 {a0 a1 a2 a3 a4 a5 a6 a7 a8 a9 a10 : Option Value} {v : Value} (q : m_c2 a1 = false) : m_no (m_st [a0, a1, a2, a3, a4, a5, a6, a7, a8, a9, a10] 2 v) 3 = [a0, a1, some v, none, a4, a5, a6, a7, a8, a9, a10] := by simp [m_st, m_no, q]
theorem st_11_3 {a0 a1 a2 a3 a4 a5 a6 a7 a8 a9 a10 : Option Value} {v : Value} (q : m_c2 a2 = false) : m_st [a0, a1, a2, a3, a4, a5, a6, a7, a8, a9, a10] 3 v = [a0, a1, a2, some v, a4, a5, a6, a7, a8, a9, a10] := by simp [m_st, q]
theorem stL_11_3 {a0 a1 a3 a4 a5 a6 a7 a8 a9 a10 : Option Value} {v : Value} {w : Int64} : m_st [a0, a1, some (.long w), a3, a4, a5, a6, a7, a8, a9, a10] 3 v = [a0, a1, none, some v, a4, a5, a6, a7, a8, a9, a10] := rfl
theorem st2_11_3 {a0 a1 a2 a3 a4 a5 a6 a7 a8 a9 a10 : Option Value} {v : Value} (q : m_c2 a2 = false) : m_no (m_st [a0, a1, a2, a3, a4, a5, a6, a7, a8, a9, a10] 3 v) 4 = [a0, a1, a2, some v, none, a5, a6, a7, a8, a9, a10] := by simp [m_st, m_no, q]
theorem st_11_4 {a0 a1 a2 a3 a4 a5 a6 a7 a8 a9 a10 : Option Value} {v : Value} (q : m_c2 a3 = false) : m_st [a0, a1, a2, a3, a4, a5, a6, a7, a8, a9, a10] 4 v = [a0, a1, a2, a3, some v, a5, a6, a7, a8, a9, a10] := by simp [m_st, q]
theorem stL_11_4 {a0 a1 a2 a4 a5 a6 a7 a8 a9 a10 : Option Value} {v : Value} {w : Int64} : m_st [a0, a1, a2, some (.long w), a4, a5, a6, a7, a8, a9, a10] 4 v = [a0, a1, a2, none, some v, a5, a6, a7, a8, a9, a10] := rfl
theorem st2_11_4 {a0 a1 a2 a3 a4 a5 a6 a7 a8 a9 a10 : Option Value} {v : Value} (q : m_c2 a3 = false) : m_no (m_st [a0, a1, a2, a3, a4, a5, a6, a7, a8, a9, a10] 4 v) 5 = [a0, a1, a2, a3, some v, none, a6, a7, a8, a9, a10] := by simp [m_st, m_no, q]
theorem st_11_5 {a0 a1 a2 a3 a4 a5 a6 a7 a8 a9 a10 : Option Value} {v : Value} (q : m_c2 a4 = false) : m_st [a0, a1, a2, a3, a4, a5, a6, a7, a8, a9, a10] 5 v = [a0, a1, a2, a3, a4, some v, a6, a7, a8, a9, a10] := by simp [m_st, q]
theorem stL_11_5 {a0 a1 a2 a3 a5 a6 a7 a8 a9 a10 : Option Value} {v : Value} {w : Int64} : m_st [a0, a1, a2, a3, some (.long w), a5, a6, a7, a8, a9, a10] 5 v = [a0, a1, a2, a3, none, some v, a6, a7, a8, a9, a10] := rfl
theorem st2_11_5 {a0 a1 a2 a3 a4 a5 a6 a7 a8 a9 a10 : Option Value} {v : Value} (q : m_c2 a4 = false) : m_no (m_st [a0, a1, a2, a3, a4, a5, a6, a7, a8, a9, a10] 5 v) 6 = [a0, a1, a2, a3, a4, some v, none, a7, a8, a9, a10] := by simp [m_st, m_no, q]
theorem st_11_6 {a0 a1 a2 a3 a4 a5 a6 a7 a8 a9 a10 : Option Value} {v : Value} (q : m_c2 a5 = false) : m_st [a0, a1, a2, a3, a4, a5, a6, a7, a8, a9, a10] 6 v = [a0, a1, a2, a3, a4, a5, some v, a7, a8, a9, a10] := by simp [m_st, q]
theorem stL_11_6 {a0 a1 a2 a3 a4 a6 a7 a8 a9 a10 : Option Value} {v : Value} {w : Int64} : m_st [a0, a1, a2, a3, a4, some (.long w), a6, a7, a8, a9, a10] 6 v = [a0, a1, a2, a3, a4, none, some v, a7, a8, a9, a10] := rfl
theorem st2_11_6 {a0 a1 a2 a3 a4 a5 a6 a7 a8 a9 a10 : Option Value} {v : Value} (q : m_c2 a5 = false) : m_no (m_st [a0, a1, a2, a3, a4, a5, a6, a7, a8, a9, a10] 6 v) 7 = [a0, a1, a2, a3, a4, a5, some v, none, a8, a9, a10] := by simp [m_st, m_no, q]
theorem st_11_7 {a0 a1 a2 a3 a4 a5 a6 a7 a8 a9 a10 : Option Value} {v : Value} (q : m_c2 a6 = false) : m_st [a0, a1, a2, a3, a4, a5, a6, a7, a8, a9, a10] 7 v = [a0, a1, a2, a3, a4, a5, a6, some v, a8, a9, a10] := by simp [m_st, q]
theorem stL_11_7 {a0 a1 a2 a3 a4 a5 a7 a8 a9 a10 : Option Value} {v : Value} {w : Int64} : m_st [a0, a1, a2, a3, a4, a5, some (.long w), a7, a8, a9, a10] 7 v = [a0, a1, a2, a3, a4, a5, none, some v, a8, a9, a10] := rfl
theorem st2_11_7 {a0 a1 a2 a3 a4 a5 a6 a7 a8 a9 a10 : Option Value} {v : Value} (q : m_c2 a6 = false) : m_no (m_st [a0, a1, a2, a3, a4, a5, a6, a7, a8, a9, a10] 7 v) 8 = [a0, a1, a2, a3, a4, a5, a6, some v, none, a9, a10] := by simp [m_st, m_no, q]
theorem st_11_8 {a0 a1 a2 a3 a4 a5 a6 a7 a8 a9 a10 : Option Value} {v : Value} (q : m_c2 a7 = false) : m_st [a0, a1, a2, a3, a4, a5, a6, a7, a8, a9, a10] 8 v = [a0, a1, a2, a3, a4, a5, a6, a7, some v, a9, a10] := by simp [m_st, q]
theorem stL_11_8 {a0 a1 a2 a3 a4 a5 a6 a8 a9 a10 : Option Value} {v : Value} {w : Int64} : m_st [a0, a1, a2, a3, a4, a5, a6, some (.long w), a8, a9, a10] 8 v = [a0, a1, a2, a3, a4, a5, a6, none, some v, a9, a10] := rfl
theorem st2_11_8 {a0 a1 a2 a3 a4 a5 a6 a7 a8 a9 a10 : Option Value} {v : Value} (q : m_c2 a7 = false) : m_no (m_st [a0, a1, a2, a3, a4, a5, a6, a7, a8, a9, a10] 8 v) 9 = [a0, a1, a2, a3, a4, a5, a6, a7, some v, none, a10] := by simp [m_st, m_no, q]
theorem st_11_9 {a0 a1 a2 a3 a4 a5 a6 a7 a8 a9 a10 : Option Value} {v : Value} (q : m_c2 a8 = false) : m_st [a0, a1, a2, a3, a4, a5, a6, a7, a8, a9, a10] 9 v = [a0, a1, a2, a3, a4, a5, a6, a7, a8, some v, a10] := by simp [m_st, q]
theorem stL_11_9 {a0 a1 a2 a3 a4 a5 a6 a7 a9 a10 : Option Value} {v : Value} {w : Int64} : m_st [a0, a1, a2, a3, a4, a5, a6, a7, some (.long w), a9, a10] 9 v = [a0, a1, a2, a3, a4, a5, a6, a7, none, some v, a10] := rfl
theorem st2_11_9 {a0 a1 a2 a3 a4 a5 a6 a7 a8 a9 a10 : Option Value} {v : Value} (q : m_c2 a8 = false) : m_no (m_st [a0, a1, a2, a3, a4, a5, a6, a7, a8, a9, a10] 9 v) 10 = [a0, a1, a2, a3, a4, a5, a6, a7, a8, some v, none] := by simp [m_st, m_no, q]
theorem st_11_10 {a0 a1 a2 a3 a4 a5 a6 a7 a8 a9 a10 : Option Value} {v : Value} (q : m_c2 a9 = false) : m_st [a0, a1, a2, a3, a4, a5, a6, a7, a8, a9, a10] 10 v = [a0, a1, a2, a3, a4, a5, a6, a7, a8, a9, some v] := by simp [m_st, q]
theorem stL_11_10 {a0 a1 a2 a3 a4 a5 a6 a7 a8 a10 : Option Value} {v : Value} {w : Int64} : m_st [a0, a1, a2, a3, a4, a5, a6, a7, a8, some (.long w), a10] 10 v = [a0, a1, a2, a3, a4, a5, a6, a7, a8, none, some v] := rfl
theorem st_12_0 {a0 a1 a2 a3 a4 a5 a6 a7 a8 a9 a10 a11 : Option Value} {v : Value} : m_st [a0, a1, a2, a3, a4, a5, a6, a7, a8, a9, a10, a11] 0 v = [some v, a1, a2, a3, a4, a5, a6, a7, a8, a9, a10, a11] := rfl
theorem st2_12_0 {a0 a1 a2 a3 a4 a5 a6 a7 a8 a9 a10 a11 : Option Value} {v : Value} : m_no (m_st [a0, a1, a2, a3, a4, a5, a6, a7, a8, a9, a10, a11] 0 v) 1 = [some v, none, a2, a3, a4, a5, a6, a7, a8, a9, a10, a11] := rfl
theorem st_12_1 {a0 a1 a2 a3 a4 a5 a6 a7 a8 a9 a10 a11 : Option Value} {v : Value} (q : m_c2 a0 = false) : m_st [a0, a1, a2, a3, a4, a5, a6, a7, a8, a9, a10, a11] 1 v = [a0, some v, a2, a3, a4, a5, a6, a7, a8, a9, a10, a11] := by simp [m_st, q]
theorem stL_12_1 {a1 a2 a3 a4 a5 a6 a7 a8 a9 a10 a11 : Option Value} {v : Value} {w : Int64} : m_st [some (.long w), a1, a2, a3, a4, a5, a6, a7, a8, a9, a10, a11] 1 v = [none, some v, a2, a3, a4, a5, a6, a7, a8, a9, a10, a11] := rfl
theorem st2_12_1 {a0 a1 a2 a3 a4 a5 a6 a7 a8 a9 a10 a11 : Option Value} {v : Value} (q : m_c2 a0 = false) : m_no (m_st [a0, a1, a2, a3, a4, a5, a6, a7, a8, a9, a10, a11] 1 v) 2 = [a0, some v, none, a3, a4, a5, a6, a7, a8, a9, a10, a11] := by simp [m_st, m_no, q]
theorem st_12_2 {a0 a1 a2 a3 a4 a5 a6 a7 a8 a9 a10 a11 : Option Value} {v : Value} (q : m_c2 a1 = false) : m_st [a0, a1, a2, a3, a4, a5, a6, a7, a8, a9, a10, a11] 2 v = [a0, a1, some v, a3, a4, a5, a6, a7, a8, a9, a10, a11] := by simp [m_st, q]
theorem stL_12_2 {a0 a2 a3 a4 a5 a6 a7 a8 a9 a10 a11 : Option Value} {v : Value} {w : Int64} : m_st [a0, some (.long w), a2, a3, a4, a5, a6, a7, a8, a9, a10, a11] 2 v = [a0, none, some v, a3, a4, a5, a6, a7, a8, a9, a10, a11] := rfl
theorem st2_12_2 {a0 a1 a2 a3 a4 a5 a6 a7 a8 a9 a10 a11 : Option Value} {v : Value} (q : m_c2 a1 = false) : m_no (m_st [a0, a1, a2, a3, a4, a5, a6, a7, a8, a9, a10, a11] 2 v) 3 = [a0, a1, some v, none, a4, a5, a6, a7, a8, a9, a10, a11] := by simp [m_st, m_no, q]
theorem st_12_3 {a0 a1 a2 a3 a4 a5 a6 a7 a8 a9 a10 a11 : Option Value} {v : Value} (q : m_c2 a2 = false) : m_st [a0, a1, a2, a3, a4, a5, a6, a7, a8, a9, a10, a11] 3 v = [a0, a1, a2, some v, a4, a5, a6, a7, a8, a9, a10, a11] := by simp [m_st, q]
theorem stL_12_3 {a0 a1 a3 a4 a5 a6 a7 a8 a9 a10 a11 : Option Value} {v : Value} {w : Int64} : m_st [a0, a1, some (.long w), a3, a4, a5, a6, a7, a8, a9, a10, a11] 3 v = [a0, a1, none, some v, a4, a5, a6, a7, a8, a9, a10, a11] := rfl
theorem st2_12_3 {a0 a1 a2 a3 a4 a5 a6 a7 a8 a9 a10 a11 : Option Value} {v : Value} (q : m_c2 a2 = false) : m_no (m_st [a0, a1, a2, a3, a4, a5, a6, a7, a8, a9, a10, a11] 3 v) 4 = [a0, a1, a2, some v, none, a5, a6, a7, a8, a9, a10, a11] := by simp [m_st, m_no, q]
theorem st_12_4 {a0 a1 a2 a3 a4 a5 a6 a7 a8 a9 a10 a11 : Option Value} {v : Value} (q : m_c2 a3 = false) : m_st [a0, a1, a2, a3, a4, a5, a6, a7, a8, a9, a10, a11] 4 v = [a0, a1, a2, a3, some v, a5, a6, a7, a8, a9, a10, a11] := by simp [m_st, q]
theorem stL_12_4 {a0 a1 a2 a4 a5 a6 a7 a8 a9 a10 a11 : Option Value} {v : Value} {w : Int64} : m_st [a0, a1, a2, some (.long w), a4, a5, a6, a7, a8, a9, a10, a11] 4 v = [a0, a1, a2, none, some v, a5, a6, a7, a8, a9, a10, a11] := rfl
theorem st2_12_4 {a0 a1 a2 a3 a4 a5 a6 a7 a8 a9 a10 a11 : Option Value} {v : Value} (q : m_c2 a3 = false) : m_no (m_st [a0, a1, a2, a3, a4, a5, a6, a7, a8, a9, a10, a11] 4 v) 5 = [a0, a1, a2, a3, some v, none, a6, a7, a8, a9, a10, a11] := by simp [m_st, m_no, q]
theorem st_12_5 {a0 a1 a2 a3 a4 a5 a6 a7 a8 a9 a10 a11 : Option Value} {v : Value} (q : m_c2 a4 = false) : m_st [a0, a1, a2, a3, a4, a5, a6, a7, a8, a9, a10, a11] 5 v = [a0, a1, a2, a3, a4, some v, a6, a7, a8, a9, a10, a11] := by simp [m_st, q]
theorem stL_12_5 {a0 a1 a2 a3 a5 a6 a7 a8 a9 a10 a11 : Option Value} {v : Value} {w : Int64} : m_st [a0, a1, a2, a3, some (.long w), a5, a6, a7, a8, a9, a10, a11] 5 v = [a0, a1, a2, a3, none, some v, a6, a7, a8, a9, a10, a11] := rfl
theorem st2_12_5 {a0 a1 a2 a3 a4 a5 a6 a7 a8 a9 a10 a11 : Option Value} {v : Value} (q : m_c2 a4 = false) : m_no (m_st [a0, a1, a2, a3, a4, a5, a6, a7, a8, a9, a10, a11] 5 v) 6 = [a0, a1, a2, a3, a4, some v, none, a7, a8, a9, a10, a11] := by simp [m_st, m_no, q]
theorem st_12_6 {a0 a1 a2 a3 a4 a5 a6 a7 a8 a9 a10 a11 : Option Value} {v : Value} (q : m_c2 a5 = false) : m_st [a0, a1, a2, a3, a4, a5, a6, a7, a8, a9, a10, a11] 6 v = [a0, a1, a2, a3, a4, a5, some v, a7, a8, a9, a10, a11] := by simp [m_st, q]
theorem stL_12_6 {a0 a1 a2 a3 a4 a6 a7 a8 a9 a10 a11 : Option Value} {v : Value} {w : Int64} : m_st [a0, a1, a2, a3, a4, some (.long w), a6, a7, a8, a9, a10, a11] 6 v = [a0, a1, a2, a3, a4, none, some v, a7, a8, a9, a10, a11] := rfl
theorem st2_12_6 {a0 a1 a2 a3 a4 a5 a6 a7 a8 a9 a10 a11 : Option Value} {v : Value} (q : m_c2 a5 = false) : m_no (m_st [a0, a1, a2, a3, a4, a5, a6, a7, a8, a9, a10, a11] 6 v) 7 = [a0, a1, a2, a3, a4, a5, some v, none, a8, a9, a10, a11] := by simp [m_st, m_no, q]
theorem st_12_7 {a0 a1 a2 a3 a4 a5 a6 a7 a8 a9 a10 a11 : Option Value} {v : Value} (q : m_c2 a6 = false) : m_st [a0, a1, a2, a3, a4, a5, a6, a7, a8, a9, a10, a11] 7 v = [a0, a1, a2, a3, a4, a5, a6, some v, a8, a9, a10, a11] := by simp [m_st, q]
theorem stL_12_7 {a0 a1 a2 a3 a4 a5 a7 a8 a9 a10 a11 : Option Value} {v : Value} {w : Int64} : m_st [a0, a1, a2, a3, a4, a5, some (.long w), a7, a8, a9, a10, a11] 7 v = [a0, a1, a2, a3, a4, a5, none, some v, a8, a9, a10, a11] := rfl
theorem st2_12_7 {a0 a1 a2 a3 a4 a5 a6 a7 a8 a9 a10 a11 : Option Value} {v : Value} (q : m_c2 a6 = false) : m_no (m_st [a0, a1, a2, a3, a4, a5, a6, a7, a8, a9, a10, a11] 7 v) 8 = [a0, a1, a2, a3, a4, a5, a6, some v, none, a9, a10, a11] := by simp [m_st, m_no, q]
theorem st_12_8 {a0 a1 a2 a3 a4 a5 a6 a7 a8 a9 a10 a11 : Option Value} {v : Value} (q : m_c2 a7 = false) : m_st [a0, a1, a2, a3, a4, a5, a6, a7, a8, a9, a10, a11] 8 v = [a0, a1, a2, a3, a4, a5, a6, a7, some v, a9, a10, a11] := by simp [m_st, q]
theorem stL_12_8 {a0 a1 a2 a3 a4 a5 a6 a8 a9 a10 a11 : Option Value} {v : Value} {w : Int64} : m_st [a0, a1, a2, a3, a4, a5, a6, some (.long w), a8, a9, a10, a11] 8 v = [a0, a1, a2, a3, a4, a5, a6, none, some v, a9, a10, a11] := rfl
theorem st2_12_8 {a0 a1 a2 a3 a4 a5 a6 a7 a8 a9 a10 a11 : Option Value} {v : Value} (q : m_c2 a7 = false) : m_no (m_st [a0, a1, a2, a3, a4, a5, a6, a7, a8, a9, a10, a11] 8 v) 9 = [a0, a1, a2, a3, a4, a5, a6, a7, some v, none, a10, a11] := by simp [m_st, m_no, q]
theorem st_12_9 {a0 a1 a2 a3 a4 a5 a6 a7 a8 a9 a10 a11 : Option Value} {v : Value} (q : m_c2 a8 = false) : m_st [a0, a1, a2, a3, a4, a5, a6, a7, a8, a9, a10, a11] 9 v = [a0, a1, a2, a3, a4, a5, a6, a7, a8, some v, a10, a11] := by simp [m_st, q]
theorem stL_12_9 {a0 a1 a2 a3 a4 a5 a6 a7 a9 a10 a11 : Option Value} {v : Value} {w : Int64} : m_st [a0, a1, a2, a3, a4, a5, a6, a7, some (.long w), a9, a10, a11] 9 v = [a0, a1, a2, a3, a4, a5, a6, a7, none, some v, a10, a11] := rfl
theorem st2_12_9 {a0 a1 a2 a3 a4 a5 a6 a7 a8 a9 a10 a11 : Option Value} {v : Value} (q : m_c2 a8 = false) : m_no (m_st [a0, a1, a2, a3, a4, a5, a6, a7, a8, a9, a10, a11] 9 v) 10 = [a0, a1, a2, a3, a4, a5, a6, a7, a8, some v, none, a11] := by simp [m_st, m_no, q]
theorem st_12_10 {a0 a1 a2 a3 a4 a5 a6 a7 a8 a9 a10 a11 : Option Value} {v : Value} (q : m_c2 a9 = false) : m_st [a0, a1, a2, a3, a4, a5, a6, a7, a8, a9, a10, a11] 10 v = [a0, a1, a2, a3, a4, a5, a6, a7, a8, a9, some v, a11] := by simp [m_st, q]
theorem stL_12_10 {a0 a1 a2 a3 a4 a5 a6 a7 a8 a10 a11 : Option Value} {v : Value} {w : Int64} : m_st [a0, a1, a2, a3, a4, a5, a6, a7, a8, some (.long w), a10, a11] 10 v = [a0, a1, a2, a3, a4, a5, a6, a7, a8, none, some v, a11] := rfl
theorem st2_12_10 {a0 a1 a2 a3 a4 a5 a6 a7 a8 a9 a10 a11 : Option Value} {v : Value} (q : m_c2 a9 = false) : m_no (m_st [a0, a1, a2, a3, a4, a5, a6, a7, a8, a9, a10, a11] 10 v) 11 = [a0, a1, a2, a3, a4, a5, a6, a7, a8, a9, some v, none] := by simp [m_st, m_no, q]
theorem st_12_11 {a0 a1 a2 a3 a4 a5 a6 a7 a8 a9 a10 a11 : Option Value} {v : Value} (q : m_c2 a10 = false) : m_st [a0, a1, a2, a3, a4, a5, a6, a7, a8, a9, a10, a11] 11 v = [a0, a1, a2, a3, a4, a5, a6, a7, a8, a9, a10, some v] := by simp [m_st, q]
theorem stL_12_11 {a0 a1 a2 a3 a4 a5 a6 a7 a8 a9 a11 : Option Value} {v : Value} {w : Int64} : m_st [a0, a1, a2, a3, a4, a5, a6, a7, a8, a9, some (.long w), a11] 11 v = [a0, a1, a2, a3, a4, a5, a6, a7, a8, a9, none, some v] := rfl
end
section
theorem dX0_init_0 : decode cX0_init 0 = .ok (.aload_n 0, 1) := by decide +kernel
theorem dX0_init_1 : decode cX0_init 1 = .ok (.invokespecial 3, 3) := by decide +kernel
theorem dX0_init_4 : decode cX0_init 4 = .ok (.aload_n 0, 1) := by decide +kernel
theorem dX0_init_5 : decode cX0_init 5 = .ok (.iload_n 1, 1) := by decide +kernel
theorem dX0_init_6 : decode cX0_init 6 = .ok (.iconst 0, 1) := by decide +kernel
theorem dX0_init_7 : decode cX0_init 7 = .ok (.invokestatic 9, 3) := by decide +kernel
theorem dX0_init_10 : decode cX0_init 10 = .ok (.putfield 15, 3) := by decide +kernel
theorem dX0_init_13 : decode cX0_init 13 = .ok (.aload_n 0, 1) := by decide +kernel
theorem dX0_init_14 : decode cX0_init 14 = .ok (.aload_n 0, 1) := by decide +kernel
theorem dX0_init_15 : decode cX0_init 15 = .ok (.getfield 15, 3) := by decide +kernel
theorem dX0_init_18 : decode cX0_init 18 = .ok (.newarray .int, 2) := by decide +kernel
theorem dX0_init_20 : decode cX0_init 20 = .ok (.putfield 21, 3) := by decide +kernel
theorem dX0_init_23 : decode cX0_init 23 = .ok (.aload_n 0, 1) := by decide +kernel
theorem dX0_init_24 : decode cX0_init 24 = .ok (.aload_n 0, 1) := by decide +kernel
theorem dX0_init_25 : decode cX0_init 25 = .ok (.getfield 15, 3) := by decide +kernel
theorem dX0_init_28 : decode cX0_init 28 = .ok (.newarray .int, 2) := by decide +kernel
theorem dX0_init_30 : decode cX0_init 30 = .ok (.putfield 25, 3) := by decide +kernel
theorem dX0_init_33 : decode cX0_init 33 = .ok (.aload_n 0, 1) := by decide +kernel
theorem dX0_init_34 : decode cX0_init 34 = .ok (.aload_n 0, 1) := by decide +kernel
theorem dX0_init_35 : decode cX0_init 35 = .ok (.getfield 15, 3) := by decide +kernel
theorem dX0_init_38 : decode cX0_init 38 = .ok (.newarray .int, 2) := by decide +kernel
theorem dX0_init_40 : decode cX0_init 40 = .ok (.putfield 28, 3) := by decide +kernel
theorem dX0_init_43 : decode cX0_init 43 = .ok (.aload_n 0, 1) := by decide +kernel
theorem dX0_init_44 : decode cX0_init 44 = .ok (.aload_n 0, 1) := by decide +kernel
theorem dX0_init_45 : decode cX0_init 45 = .ok (.getfield 15, 3) := by decide +kernel
theorem dX0_init_48 : decode cX0_init 48 = .ok (.newarray .int, 2) := by decide +kernel
theorem dX0_init_50 : decode cX0_init 50 = .ok (.putfield 31, 3) := by decide +kernel
theorem dX0_init_53 : decode cX0_init 53 = .ok (.aload_n 0, 1) := by decide +kernel
theorem dX0_init_54 : decode cX0_init 54 = .ok (.aload_n 0, 1) := by decide +kernel
theorem dX0_init_55 : decode cX0_init 55 = .ok (.getfield 15, 3) := by decide +kernel
theorem dX0_init_58 : decode cX0_init 58 = .ok (.newarray .int, 2) := by decide +kernel
theorem dX0_init_60 : decode cX0_init 60 = .ok (.putfield 34, 3) := by decide +kernel
theorem dX0_init_63 : decode cX0_init 63 = .ok (.return_, 1) := by decide +kernel
theorem dX0_has_0 : decode cX0_has 0 = .ok (.iload_n 1, 1) := by decide +kernel
theorem dX0_has_1 : decode cX0_has 1 = .ok (.ifCond .lt 15, 3) := by decide +kernel
theorem dX0_has_4 : decode cX0_has 4 = .ok (.iload_n 1, 1) := by decide +kernel
theorem dX0_has_5 : decode cX0_has 5 = .ok (.aload_n 0, 1) := by decide +kernel
theorem dX0_has_6 : decode cX0_has 6 = .ok (.getfield 15, 3) := by decide +kernel
theorem dX0_has_9 : decode cX0_has 9 = .ok (.if_icmp .ge 7, 3) := by decide +kernel
theorem dX0_has_12 : decode cX0_has 12 = .ok (.iconst 1, 1) := by decide +kernel
theorem dX0_has_13 : decode cX0_has 13 = .ok (.goto 4, 3) := by decide +kernel
theorem dX0_has_16 : decode cX0_has 16 = .ok (.iconst 0, 1) := by decide +kernel
theorem dX0_has_17 : decode cX0_has 17 = .ok (.ireturn, 1) := by decide +kernel
theorem dX0_link_0 : decode cX0_link 0 = .ok (.aload_n 0, 1) := by decide +kernel
theorem dX0_link_1 : decode cX0_link 1 = .ok (.iload_n 1, 1) := by decide +kernel
theorem dX0_link_2 : decode cX0_link 2 = .ok (.invokevirtual 37, 3) := by decide +kernel
theorem dX0_link_5 : decode cX0_link 5 = .ok (.ifCond .eq 28, 3) := by decide +kernel
theorem dX0_link_8 : decode cX0_link 8 = .ok (.aload_n 0, 1) := by decide +kernel
theorem dX0_link_9 : decode cX0_link 9 = .ok (.iload_n 2, 1) := by decide +kernel
theorem dX0_link_10 : decode cX0_link 10 = .ok (.invokevirtual 37, 3) := by decide +kernel
theorem dX0_link_13 : decode cX0_link 13 = .ok (.ifCond .eq 20, 3) := by decide +kernel
theorem dX0_link_16 : decode cX0_link 16 = .ok (.aload_n 0, 1) := by decide +kernel
theorem dX0_link_17 : decode cX0_link 17 = .ok (.getfield 21, 3) := by decide +kernel
theorem dX0_link_20 : decode cX0_link 20 = .ok (.iload_n 1, 1) := by decide +kernel
theorem dX0_link_21 : decode cX0_link 21 = .ok (.iload_n 2, 1) := by decide +kernel
theorem dX0_link_22 : decode cX0_link 22 = .ok (.iastore, 1) := by decide +kernel
theorem dX0_link_23 : decode cX0_link 23 = .ok (.aload_n 0, 1) := by decide +kernel
theorem dX0_link_24 : decode cX0_link 24 = .ok (.getfield 25, 3) := by decide +kernel
theorem dX0_link_27 : decode cX0_link 27 = .ok (.iload_n 2, 1) := by decide +kernel
theorem dX0_link_28 : decode cX0_link 28 = .ok (.dup2, 1) := by decide +kernel
theorem dX0_link_29 : decode cX0_link 29 = .ok (.iaload, 1) := by decide +kernel
theorem dX0_link_30 : decode cX0_link 30 = .ok (.iconst 1, 1) := by decide +kernel
theorem dX0_link_31 : decode cX0_link 31 = .ok (.iadd, 1) := by decide +kernel
theorem dX0_link_32 : decode cX0_link 32 = .ok (.iastore, 1) := by decide +kernel
theorem dX0_link_33 : decode cX0_link 33 = .ok (.return_, 1) := by decide +kernel
theorem dX0_draw_0 : decode cX0_draw 0 = .ok (.aload_n 0, 1) := by decide +kernel
theorem dX0_draw_1 : decode cX0_draw 1 = .ok (.getfield 25, 3) := by decide +kernel
theorem dX0_draw_4 : decode cX0_draw 4 = .ok (.invokevirtual 41, 3) := by decide +kernel
theorem dX0_draw_7 : decode cX0_draw 7 = .ok (.checkcast 42, 3) := by decide +kernel
theorem dX0_draw_10 : decode cX0_draw 10 = .ok (.astore_n 1, 1) := by decide +kernel
theorem dX0_draw_11 : decode cX0_draw 11 = .ok (.aload_n 0, 1) := by decide +kernel
theorem dX0_draw_12 : decode cX0_draw 12 = .ok (.getfield 15, 3) := by decide +kernel
theorem dX0_draw_15 : decode cX0_draw 15 = .ok (.newarray .int, 2) := by decide +kernel
theorem dX0_draw_17 : decode cX0_draw 17 = .ok (.astore_n 2, 1) := by decide +kernel
theorem dX0_draw_18 : decode cX0_draw 18 = .ok (.aload_n 0, 1) := by decide +kernel
theorem dX0_draw_19 : decode cX0_draw 19 = .ok (.aload_n 1, 1) := by decide +kernel
theorem dX0_draw_20 : decode cX0_draw 20 = .ok (.aload_n 2, 1) := by decide +kernel
theorem dX0_draw_21 : decode cX0_draw 21 = .ok (.invokevirtual 46, 3) := by decide +kernel
theorem dX0_draw_24 : decode cX0_draw 24 = .ok (.istore_n 3, 1) := by decide +kernel
theorem dX0_draw_25 : decode cX0_draw 25 = .ok (.iconst 0, 1) := by decide +kernel
theorem dX0_draw_26 : decode cX0_draw 26 = .ok (.istore 4, 2) := by decide +kernel
theorem dX0_draw_28 : decode cX0_draw 28 = .ok (.iload 4, 2) := by decide +kernel
theorem dX0_draw_30 : decode cX0_draw 30 = .ok (.aload_n 0, 1) := by decide +kernel
theorem dX0_draw_31 : decode cX0_draw 31 = .ok (.getfield 15, 3) := by decide +kernel
theorem dX0_draw_34 : decode cX0_draw 34 = .ok (.if_icmp .ge 47, 3) := by decide +kernel
theorem dX0_draw_37 : decode cX0_draw 37 = .ok (.aload_n 0, 1) := by decide +kernel
theorem dX0_draw_38 : decode cX0_draw 38 = .ok (.dup, 1) := by decide +kernel
theorem dX0_draw_39 : decode cX0_draw 39 = .ok (.getfield 50, 3) := by decide +kernel
theorem dX0_draw_42 : decode cX0_draw 42 = .ok (.aload_n 0, 1) := by decide +kernel
theorem dX0_draw_43 : decode cX0_draw 43 = .ok (.getfield 25, 3) := by decide +kernel
theorem dX0_draw_46 : decode cX0_draw 46 = .ok (.iload 4, 2) := by decide +kernel
theorem dX0_draw_48 : decode cX0_draw 48 = .ok (.iaload, 1) := by decide +kernel
theorem dX0_draw_49 : decode cX0_draw 49 = .ok (.ifCond .ne 7, 3) := by decide +kernel
theorem dX0_draw_52 : decode cX0_draw 52 = .ok (.iconst 1, 1) := by decide +kernel
theorem dX0_draw_53 : decode cX0_draw 53 = .ok (.goto 4, 3) := by decide +kernel
theorem dX0_draw_56 : decode cX0_draw 56 = .ok (.iconst 0, 1) := by decide +kernel
theorem dX0_draw_57 : decode cX0_draw 57 = .ok (.iadd, 1) := by decide +kernel
theorem dX0_draw_58 : decode cX0_draw 58 = .ok (.putfield 50, 3) := by decide +kernel
theorem dX0_draw_61 : decode cX0_draw 61 = .ok (.aload_n 1, 1) := by decide +kernel
theorem dX0_draw_62 : decode cX0_draw 62 = .ok (.iload 4, 2) := by decide +kernel
theorem dX0_draw_64 : decode cX0_draw 64 = .ok (.iaload, 1) := by decide +kernel
theorem dX0_draw_65 : decode cX0_draw 65 = .ok (.ifCond .le 10, 3) := by decide +kernel
theorem dX0_draw_68 : decode cX0_draw 68 = .ok (.aload_n 0, 1) := by decide +kernel
theorem dX0_draw_69 : decode cX0_draw 69 = .ok (.iload 4, 2) := by decide +kernel
theorem dX0_draw_71 : decode cX0_draw 71 = .ok (.aload_n 1, 1) := by decide +kernel
theorem dX0_draw_72 : decode cX0_draw 72 = .ok (.invokevirtual 53, 3) := by decide +kernel
theorem dX0_draw_75 : decode cX0_draw 75 = .ok (.iinc 4 1, 3) := by decide +kernel
theorem dX0_draw_78 : decode cX0_draw 78 = .ok (.goto (-50), 3) := by decide +kernel
theorem dX0_draw_81 : decode cX0_draw 81 = .ok (.iload_n 3, 1) := by decide +kernel
theorem dX0_draw_82 : decode cX0_draw 82 = .ok (.iconst 1, 1) := by decide +kernel
theorem dX0_draw_83 : decode cX0_draw 83 = .ok (.isub, 1) := by decide +kernel
theorem dX0_draw_84 : decode cX0_draw 84 = .ok (.istore 4, 2) := by decide +kernel
theorem dX0_draw_86 : decode cX0_draw 86 = .ok (.iload 4, 2) := by decide +kernel
theorem dX0_draw_88 : decode cX0_draw 88 = .ok (.ifCond .lt 17, 3) := by decide +kernel
theorem dX0_draw_91 : decode cX0_draw 91 = .ok (.aload_n 0, 1) := by decide +kernel
theorem dX0_draw_92 : decode cX0_draw 92 = .ok (.aload_n 2, 1) := by decide +kernel
theorem dX0_draw_93 : decode cX0_draw 93 = .ok (.iload 4, 2) := by decide +kernel
theorem dX0_draw_95 : decode cX0_draw 95 = .ok (.iaload, 1) := by decide +kernel
theorem dX0_draw_96 : decode cX0_draw 96 = .ok (.invokevirtual 57, 3) := by decide +kernel
theorem dX0_draw_99 : decode cX0_draw 99 = .ok (.iinc 4 (-1), 3) := by decide +kernel
theorem dX0_draw_102 : decode cX0_draw 102 = .ok (.goto (-16), 3) := by decide +kernel
theorem dX0_draw_105 : decode cX0_draw 105 = .ok (.return_, 1) := by decide +kernel
theorem dX0_peel_0 : decode cX0_peel 0 = .ok (.iconst 0, 1) := by decide +kernel
theorem dX0_peel_1 : decode cX0_peel 1 = .ok (.istore_n 3, 1) := by decide +kernel
theorem dX0_peel_2 : decode cX0_peel 2 = .ok (.iconst 0, 1) := by decide +kernel
theorem dX0_peel_3 : decode cX0_peel 3 = .ok (.istore 4, 2) := by decide +kernel
theorem dX0_peel_5 : decode cX0_peel 5 = .ok (.iload 4, 2) := by decide +kernel
theorem dX0_peel_7 : decode cX0_peel 7 = .ok (.aload_n 0, 1) := by decide +kernel
theorem dX0_peel_8 : decode cX0_peel 8 = .ok (.getfield 15, 3) := by decide +kernel
theorem dX0_peel_11 : decode cX0_peel 11 = .ok (.if_icmp .ge 24, 3) := by decide +kernel
theorem dX0_peel_14 : decode cX0_peel 14 = .ok (.aload_n 1, 1) := by decide +kernel
theorem dX0_peel_15 : decode cX0_peel 15 = .ok (.iload 4, 2) := by decide +kernel
theorem dX0_peel_17 : decode cX0_peel 17 = .ok (.iaload, 1) := by decide +kernel
theorem dX0_peel_18 : decode cX0_peel 18 = .ok (.ifCond .ne 11, 3) := by decide +kernel
theorem dX0_peel_21 : decode cX0_peel 21 = .ok (.aload_n 2, 1) := by decide +kernel
theorem dX0_peel_22 : decode cX0_peel 22 = .ok (.iload_n 3, 1) := by decide +kernel
theorem dX0_peel_23 : decode cX0_peel 23 = .ok (.iload 4, 2) := by decide +kernel
theorem dX0_peel_25 : decode cX0_peel 25 = .ok (.iastore, 1) := by decide +kernel
theorem dX0_peel_26 : decode cX0_peel 26 = .ok (.iinc 3 1, 3) := by decide +kernel
theorem dX0_peel_29 : decode cX0_peel 29 = .ok (.iinc 4 1, 3) := by decide +kernel
theorem dX0_peel_32 : decode cX0_peel 32 = .ok (.goto (-27), 3) := by decide +kernel
theorem dX0_peel_35 : decode cX0_peel 35 = .ok (.iconst 0, 1) := by decide +kernel
theorem dX0_peel_36 : decode cX0_peel 36 = .ok (.istore 4, 2) := by decide +kernel
theorem dX0_peel_38 : decode cX0_peel 38 = .ok (.iload 4, 2) := by decide +kernel
theorem dX0_peel_40 : decode cX0_peel 40 = .ok (.iload_n 3, 1) := by decide +kernel
theorem dX0_peel_41 : decode cX0_peel 41 = .ok (.if_icmp .ge 60, 3) := by decide +kernel
theorem dX0_peel_44 : decode cX0_peel 44 = .ok (.iload 4, 2) := by decide +kernel
theorem dX0_peel_46 : decode cX0_peel 46 = .ok (.aload_n 0, 1) := by decide +kernel
theorem dX0_peel_47 : decode cX0_peel 47 = .ok (.getfield 15, 3) := by decide +kernel
theorem dX0_peel_50 : decode cX0_peel 50 = .ok (.if_icmp .ge 51, 3) := by decide +kernel
theorem dX0_peel_53 : decode cX0_peel 53 = .ok (.aload_n 0, 1) := by decide +kernel
theorem dX0_peel_54 : decode cX0_peel 54 = .ok (.getfield 21, 3) := by decide +kernel
theorem dX0_peel_57 : decode cX0_peel 57 = .ok (.aload_n 2, 1) := by decide +kernel
theorem dX0_peel_58 : decode cX0_peel 58 = .ok (.iload 4, 2) := by decide +kernel
theorem dX0_peel_60 : decode cX0_peel 60 = .ok (.iaload, 1) := by decide +kernel
theorem dX0_peel_61 : decode cX0_peel 61 = .ok (.iaload, 1) := by decide +kernel
theorem dX0_peel_62 : decode cX0_peel 62 = .ok (.istore 5, 2) := by decide +kernel
theorem dX0_peel_64 : decode cX0_peel 64 = .ok (.aload_n 1, 1) := by decide +kernel
theorem dX0_peel_65 : decode cX0_peel 65 = .ok (.iload 5, 2) := by decide +kernel
theorem dX0_peel_67 : decode cX0_peel 67 = .ok (.dup2, 1) := by decide +kernel
theorem dX0_peel_68 : decode cX0_peel 68 = .ok (.iaload, 1) := by decide +kernel
theorem dX0_peel_69 : decode cX0_peel 69 = .ok (.iconst 1, 1) := by decide +kernel
theorem dX0_peel_70 : decode cX0_peel 70 = .ok (.isub, 1) := by decide +kernel
theorem dX0_peel_71 : decode cX0_peel 71 = .ok (.iastore, 1) := by decide +kernel
theorem dX0_peel_72 : decode cX0_peel 72 = .ok (.aload_n 1, 1) := by decide +kernel
theorem dX0_peel_73 : decode cX0_peel 73 = .ok (.iload 5, 2) := by decide +kernel
theorem dX0_peel_75 : decode cX0_peel 75 = .ok (.iaload, 1) := by decide +kernel
theorem dX0_peel_76 : decode cX0_peel 76 = .ok (.ifCond .ne 19, 3) := by decide +kernel
theorem dX0_peel_79 : decode cX0_peel 79 = .ok (.iload_n 3, 1) := by decide +kernel
theorem dX0_peel_80 : decode cX0_peel 80 = .ok (.aload_n 0, 1) := by decide +kernel
theorem dX0_peel_81 : decode cX0_peel 81 = .ok (.getfield 15, 3) := by decide +kernel
theorem dX0_peel_84 : decode cX0_peel 84 = .ok (.if_icmp .ge 11, 3) := by decide +kernel
theorem dX0_peel_87 : decode cX0_peel 87 = .ok (.aload_n 2, 1) := by decide +kernel
theorem dX0_peel_88 : decode cX0_peel 88 = .ok (.iload_n 3, 1) := by decide +kernel
theorem dX0_peel_89 : decode cX0_peel 89 = .ok (.iload 5, 2) := by decide +kernel
theorem dX0_peel_91 : decode cX0_peel 91 = .ok (.iastore, 1) := by decide +kernel
theorem dX0_peel_92 : decode cX0_peel 92 = .ok (.iinc 3 1, 3) := by decide +kernel
theorem dX0_peel_95 : decode cX0_peel 95 = .ok (.iinc 4 1, 3) := by decide +kernel
theorem dX0_peel_98 : decode cX0_peel 98 = .ok (.goto (-60), 3) := by decide +kernel
theorem dX0_peel_101 : decode cX0_peel 101 = .ok (.iload_n 3, 1) := by decide +kernel
theorem dX0_peel_102 : decode cX0_peel 102 = .ok (.ireturn, 1) := by decide +kernel
theorem dX0_drawRing_0 : decode cX0_drawRing 0 = .ok (.iconst 0, 1) := by decide +kernel
theorem dX0_drawRing_1 : decode cX0_drawRing 1 = .ok (.istore_n 3, 1) := by decide +kernel
theorem dX0_drawRing_2 : decode cX0_drawRing 2 = .ok (.iload_n 1, 1) := by decide +kernel
theorem dX0_drawRing_3 : decode cX0_drawRing 3 = .ok (.istore 4, 2) := by decide +kernel
theorem dX0_drawRing_5 : decode cX0_drawRing 5 = .ok (.iload_n 3, 1) := by decide +kernel
theorem dX0_drawRing_6 : decode cX0_drawRing 6 = .ok (.aload_n 0, 1) := by decide +kernel
theorem dX0_drawRing_7 : decode cX0_drawRing 7 = .ok (.getfield 15, 3) := by decide +kernel
theorem dX0_drawRing_10 : decode cX0_drawRing 10 = .ok (.if_icmp .ge 38, 3) := by decide +kernel
theorem dX0_drawRing_13 : decode cX0_drawRing 13 = .ok (.aload_n 2, 1) := by decide +kernel
theorem dX0_drawRing_14 : decode cX0_drawRing 14 = .ok (.iload 4, 2) := by decide +kernel
theorem dX0_drawRing_16 : decode cX0_drawRing 16 = .ok (.iaload, 1) := by decide +kernel
theorem dX0_drawRing_17 : decode cX0_drawRing 17 = .ok (.ifCond .le 31, 3) := by decide +kernel
theorem dX0_drawRing_20 : decode cX0_drawRing 20 = .ok (.aload_n 2, 1) := by decide +kernel
theorem dX0_drawRing_21 : decode cX0_drawRing 21 = .ok (.iload 4, 2) := by decide +kernel
theorem dX0_drawRing_23 : decode cX0_drawRing 23 = .ok (.iconst 0, 1) := by decide +kernel
theorem dX0_drawRing_24 : decode cX0_drawRing 24 = .ok (.iastore, 1) := by decide +kernel
theorem dX0_drawRing_25 : decode cX0_drawRing 25 = .ok (.aload_n 0, 1) := by decide +kernel
theorem dX0_drawRing_26 : decode cX0_drawRing 26 = .ok (.getfield 34, 3) := by decide +kernel
theorem dX0_drawRing_29 : decode cX0_drawRing 29 = .ok (.iload 4, 2) := by decide +kernel
theorem dX0_drawRing_31 : decode cX0_drawRing 31 = .ok (.iload_n 1, 1) := by decide +kernel
theorem dX0_drawRing_32 : decode cX0_drawRing 32 = .ok (.iastore, 1) := by decide +kernel
theorem dX0_drawRing_33 : decode cX0_drawRing 33 = .ok (.iinc 3 1, 3) := by decide +kernel
theorem dX0_drawRing_36 : decode cX0_drawRing 36 = .ok (.aload_n 0, 1) := by decide +kernel
theorem dX0_drawRing_37 : decode cX0_drawRing 37 = .ok (.getfield 21, 3) := by decide +kernel
theorem dX0_drawRing_40 : decode cX0_drawRing 40 = .ok (.iload 4, 2) := by decide +kernel
theorem dX0_drawRing_42 : decode cX0_drawRing 42 = .ok (.iaload, 1) := by decide +kernel
theorem dX0_drawRing_43 : decode cX0_drawRing 43 = .ok (.istore 4, 2) := by decide +kernel
theorem dX0_drawRing_45 : decode cX0_drawRing 45 = .ok (.goto (-40), 3) := by decide +kernel
theorem dX0_drawRing_48 : decode cX0_drawRing 48 = .ok (.iconst 0, 1) := by decide +kernel
theorem dX0_drawRing_49 : decode cX0_drawRing 49 = .ok (.istore 5, 2) := by decide +kernel
theorem dX0_drawRing_51 : decode cX0_drawRing 51 = .ok (.iload 5, 2) := by decide +kernel
theorem dX0_drawRing_53 : decode cX0_drawRing 53 = .ok (.iload_n 3, 1) := by decide +kernel
theorem dX0_drawRing_54 : decode cX0_drawRing 54 = .ok (.if_icmp .ge 26, 3) := by decide +kernel
theorem dX0_drawRing_57 : decode cX0_drawRing 57 = .ok (.aload_n 0, 1) := by decide +kernel
theorem dX0_drawRing_58 : decode cX0_drawRing 58 = .ok (.getfield 31, 3) := by decide +kernel
theorem dX0_drawRing_61 : decode cX0_drawRing 61 = .ok (.iload 4, 2) := by decide +kernel
theorem dX0_drawRing_63 : decode cX0_drawRing 63 = .ok (.iload_n 3, 1) := by decide +kernel
theorem dX0_drawRing_64 : decode cX0_drawRing 64 = .ok (.iastore, 1) := by decide +kernel
theorem dX0_drawRing_65 : decode cX0_drawRing 65 = .ok (.aload_n 0, 1) := by decide +kernel
theorem dX0_drawRing_66 : decode cX0_drawRing 66 = .ok (.getfield 21, 3) := by decide +kernel
theorem dX0_drawRing_69 : decode cX0_drawRing 69 = .ok (.iload 4, 2) := by decide +kernel
theorem dX0_drawRing_71 : decode cX0_drawRing 71 = .ok (.iaload, 1) := by decide +kernel
theorem dX0_drawRing_72 : decode cX0_drawRing 72 = .ok (.istore 4, 2) := by decide +kernel
theorem dX0_drawRing_74 : decode cX0_drawRing 74 = .ok (.iinc 5 1, 3) := by decide +kernel
theorem dX0_drawRing_77 : decode cX0_drawRing 77 = .ok (.goto (-26), 3) := by decide +kernel
theorem dX0_drawRing_80 : decode cX0_drawRing 80 = .ok (.aload_n 0, 1) := by decide +kernel
theorem dX0_drawRing_81 : decode cX0_drawRing 81 = .ok (.dup, 1) := by decide +kernel
theorem dX0_drawRing_82 : decode cX0_drawRing 82 = .ok (.getfield 61, 3) := by decide +kernel
theorem dX0_drawRing_85 : decode cX0_drawRing 85 = .ok (.iconst 1, 1) := by decide +kernel
theorem dX0_drawRing_86 : decode cX0_drawRing 86 = .ok (.iadd, 1) := by decide +kernel
theorem dX0_drawRing_87 : decode cX0_drawRing 87 = .ok (.putfield 61, 3) := by decide +kernel
theorem dX0_drawRing_90 : decode cX0_drawRing 90 = .ok (.aload_n 0, 1) := by decide +kernel
theorem dX0_drawRing_91 : decode cX0_drawRing 91 = .ok (.dup, 1) := by decide +kernel
theorem dX0_drawRing_92 : decode cX0_drawRing 92 = .ok (.getfield 64, 3) := by decide +kernel
theorem dX0_drawRing_95 : decode cX0_drawRing 95 = .ok (.iload_n 3, 1) := by decide +kernel
theorem dX0_drawRing_96 : decode cX0_drawRing 96 = .ok (.iadd, 1) := by decide +kernel
theorem dX0_drawRing_97 : decode cX0_drawRing 97 = .ok (.putfield 64, 3) := by decide +kernel
theorem dX0_drawRing_100 : decode cX0_drawRing 100 = .ok (.aload_n 0, 1) := by decide +kernel
theorem dX0_drawRing_101 : decode cX0_drawRing 101 = .ok (.aload_n 0, 1) := by decide +kernel
theorem dX0_drawRing_102 : decode cX0_drawRing 102 = .ok (.getfield 67, 3) := by decide +kernel
theorem dX0_drawRing_105 : decode cX0_drawRing 105 = .ok (.iload_n 3, 1) := by decide +kernel
theorem dX0_drawRing_106 : decode cX0_drawRing 106 = .ok (.invokestatic 9, 3) := by decide +kernel
theorem dX0_drawRing_109 : decode cX0_drawRing 109 = .ok (.putfield 67, 3) := by decide +kernel
theorem dX0_drawRing_112 : decode cX0_drawRing 112 = .ok (.return_, 1) := by decide +kernel
theorem dX0_drawTail_0 : decode cX0_drawTail 0 = .ok (.aload_n 0, 1) := by decide +kernel
theorem dX0_drawTail_1 : decode cX0_drawTail 1 = .ok (.getfield 21, 3) := by decide +kernel
theorem dX0_drawTail_4 : decode cX0_drawTail 4 = .ok (.iload_n 1, 1) := by decide +kernel
theorem dX0_drawTail_5 : decode cX0_drawTail 5 = .ok (.iaload, 1) := by decide +kernel
theorem dX0_drawTail_6 : decode cX0_drawTail 6 = .ok (.istore_n 2, 1) := by decide +kernel
theorem dX0_drawTail_7 : decode cX0_drawTail 7 = .ok (.aload_n 0, 1) := by decide +kernel
theorem dX0_drawTail_8 : decode cX0_drawTail 8 = .ok (.getfield 28, 3) := by decide +kernel
theorem dX0_drawTail_11 : decode cX0_drawTail 11 = .ok (.iload_n 1, 1) := by decide +kernel
theorem dX0_drawTail_12 : decode cX0_drawTail 12 = .ok (.aload_n 0, 1) := by decide +kernel
theorem dX0_drawTail_13 : decode cX0_drawTail 13 = .ok (.getfield 28, 3) := by decide +kernel
theorem dX0_drawTail_16 : decode cX0_drawTail 16 = .ok (.iload_n 2, 1) := by decide +kernel
theorem dX0_drawTail_17 : decode cX0_drawTail 17 = .ok (.iaload, 1) := by decide +kernel
theorem dX0_drawTail_18 : decode cX0_drawTail 18 = .ok (.iconst 1, 1) := by decide +kernel
theorem dX0_drawTail_19 : decode cX0_drawTail 19 = .ok (.iadd, 1) := by decide +kernel
theorem dX0_drawTail_20 : decode cX0_drawTail 20 = .ok (.iastore, 1) := by decide +kernel
theorem dX0_drawTail_21 : decode cX0_drawTail 21 = .ok (.aload_n 0, 1) := by decide +kernel
theorem dX0_drawTail_22 : decode cX0_drawTail 22 = .ok (.getfield 31, 3) := by decide +kernel
theorem dX0_drawTail_25 : decode cX0_drawTail 25 = .ok (.iload_n 1, 1) := by decide +kernel
theorem dX0_drawTail_26 : decode cX0_drawTail 26 = .ok (.aload_n 0, 1) := by decide +kernel
theorem dX0_drawTail_27 : decode cX0_drawTail 27 = .ok (.getfield 31, 3) := by decide +kernel
theorem dX0_drawTail_30 : decode cX0_drawTail 30 = .ok (.iload_n 2, 1) := by decide +kernel
theorem dX0_drawTail_31 : decode cX0_drawTail 31 = .ok (.iaload, 1) := by decide +kernel
theorem dX0_drawTail_32 : decode cX0_drawTail 32 = .ok (.iastore, 1) := by decide +kernel
theorem dX0_drawTail_33 : decode cX0_drawTail 33 = .ok (.aload_n 0, 1) := by decide +kernel
theorem dX0_drawTail_34 : decode cX0_drawTail 34 = .ok (.getfield 34, 3) := by decide +kernel
theorem dX0_drawTail_37 : decode cX0_drawTail 37 = .ok (.iload_n 1, 1) := by decide +kernel
theorem dX0_drawTail_38 : decode cX0_drawTail 38 = .ok (.aload_n 0, 1) := by decide +kernel
theorem dX0_drawTail_39 : decode cX0_drawTail 39 = .ok (.getfield 34, 3) := by decide +kernel
theorem dX0_drawTail_42 : decode cX0_drawTail 42 = .ok (.iload_n 2, 1) := by decide +kernel
theorem dX0_drawTail_43 : decode cX0_drawTail 43 = .ok (.iaload, 1) := by decide +kernel
theorem dX0_drawTail_44 : decode cX0_drawTail 44 = .ok (.iastore, 1) := by decide +kernel
theorem dX0_drawTail_45 : decode cX0_drawTail 45 = .ok (.aload_n 0, 1) := by decide +kernel
theorem dX0_drawTail_46 : decode cX0_drawTail 46 = .ok (.aload_n 0, 1) := by decide +kernel
theorem dX0_drawTail_47 : decode cX0_drawTail 47 = .ok (.getfield 70, 3) := by decide +kernel
theorem dX0_drawTail_50 : decode cX0_drawTail 50 = .ok (.aload_n 0, 1) := by decide +kernel
theorem dX0_drawTail_51 : decode cX0_drawTail 51 = .ok (.getfield 28, 3) := by decide +kernel
theorem dX0_drawTail_54 : decode cX0_drawTail 54 = .ok (.iload_n 1, 1) := by decide +kernel
theorem dX0_drawTail_55 : decode cX0_drawTail 55 = .ok (.iaload, 1) := by decide +kernel
theorem dX0_drawTail_56 : decode cX0_drawTail 56 = .ok (.invokestatic 9, 3) := by decide +kernel
theorem dX0_drawTail_59 : decode cX0_drawTail 59 = .ok (.putfield 70, 3) := by decide +kernel
theorem dX0_drawTail_62 : decode cX0_drawTail 62 = .ok (.return_, 1) := by decide +kernel
theorem dX0_kindOf_0 : decode cX0_kindOf 0 = .ok (.aload_n 0, 1) := by decide +kernel
theorem dX0_kindOf_1 : decode cX0_kindOf 1 = .ok (.iload_n 1, 1) := by decide +kernel
theorem dX0_kindOf_2 : decode cX0_kindOf 2 = .ok (.invokevirtual 37, 3) := by decide +kernel
theorem dX0_kindOf_5 : decode cX0_kindOf 5 = .ok (.ifCond .ne 5, 3) := by decide +kernel
theorem dX0_kindOf_8 : decode cX0_kindOf 8 = .ok (.iconst 0, 1) := by decide +kernel
theorem dX0_kindOf_9 : decode cX0_kindOf 9 = .ok (.ireturn, 1) := by decide +kernel
theorem dX0_kindOf_10 : decode cX0_kindOf 10 = .ok (.aload_n 0, 1) := by decide +kernel
theorem dX0_kindOf_11 : decode cX0_kindOf 11 = .ok (.getfield 25, 3) := by decide +kernel
theorem dX0_kindOf_14 : decode cX0_kindOf 14 = .ok (.iload_n 1, 1) := by decide +kernel
theorem dX0_kindOf_15 : decode cX0_kindOf 15 = .ok (.iaload, 1) := by decide +kernel
theorem dX0_kindOf_16 : decode cX0_kindOf 16 = .ok (.ifCond .ne 5, 3) := by decide +kernel
theorem dX0_kindOf_19 : decode cX0_kindOf 19 = .ok (.iconst 3, 1) := by decide +kernel
theorem dX0_kindOf_20 : decode cX0_kindOf 20 = .ok (.ireturn, 1) := by decide +kernel
theorem dX0_kindOf_21 : decode cX0_kindOf 21 = .ok (.aload_n 0, 1) := by decide +kernel
theorem dX0_kindOf_22 : decode cX0_kindOf 22 = .ok (.getfield 21, 3) := by decide +kernel
theorem dX0_kindOf_25 : decode cX0_kindOf 25 = .ok (.iload_n 1, 1) := by decide +kernel
theorem dX0_kindOf_26 : decode cX0_kindOf 26 = .ok (.iaload, 1) := by decide +kernel
theorem dX0_kindOf_27 : decode cX0_kindOf 27 = .ok (.iload_n 1, 1) := by decide +kernel
theorem dX0_kindOf_28 : decode cX0_kindOf 28 = .ok (.if_icmp .ne 5, 3) := by decide +kernel
theorem dX0_kindOf_31 : decode cX0_kindOf 31 = .ok (.iconst 2, 1) := by decide +kernel
theorem dX0_kindOf_32 : decode cX0_kindOf 32 = .ok (.ireturn, 1) := by decide +kernel
theorem dX0_kindOf_33 : decode cX0_kindOf 33 = .ok (.aload_n 0, 1) := by decide +kernel
theorem dX0_kindOf_34 : decode cX0_kindOf 34 = .ok (.getfield 28, 3) := by decide +kernel
theorem dX0_kindOf_37 : decode cX0_kindOf 37 = .ok (.iload_n 1, 1) := by decide +kernel
theorem dX0_kindOf_38 : decode cX0_kindOf 38 = .ok (.iaload, 1) := by decide +kernel
theorem dX0_kindOf_39 : decode cX0_kindOf 39 = .ok (.ifCond .ne 7, 3) := by decide +kernel
theorem dX0_kindOf_42 : decode cX0_kindOf 42 = .ok (.iconst 1, 1) := by decide +kernel
theorem dX0_kindOf_43 : decode cX0_kindOf 43 = .ok (.goto 4, 3) := by decide +kernel
theorem dX0_kindOf_46 : decode cX0_kindOf 46 = .ok (.iconst 0, 1) := by decide +kernel
theorem dX0_kindOf_47 : decode cX0_kindOf 47 = .ok (.ireturn, 1) := by decide +kernel
theorem dX0_tailOf_0 : decode cX0_tailOf 0 = .ok (.aload_n 0, 1) := by decide +kernel
theorem dX0_tailOf_1 : decode cX0_tailOf 1 = .ok (.iload_n 1, 1) := by decide +kernel
theorem dX0_tailOf_2 : decode cX0_tailOf 2 = .ok (.invokevirtual 37, 3) := by decide +kernel
theorem dX0_tailOf_5 : decode cX0_tailOf 5 = .ok (.ifCond .eq 12, 3) := by decide +kernel
theorem dX0_tailOf_8 : decode cX0_tailOf 8 = .ok (.aload_n 0, 1) := by decide +kernel
theorem dX0_tailOf_9 : decode cX0_tailOf 9 = .ok (.getfield 28, 3) := by decide +kernel
theorem dX0_tailOf_12 : decode cX0_tailOf 12 = .ok (.iload_n 1, 1) := by decide +kernel
theorem dX0_tailOf_13 : decode cX0_tailOf 13 = .ok (.iaload, 1) := by decide +kernel
theorem dX0_tailOf_14 : decode cX0_tailOf 14 = .ok (.goto 4, 3) := by decide +kernel
theorem dX0_tailOf_17 : decode cX0_tailOf 17 = .ok (.iconst 0, 1) := by decide +kernel
theorem dX0_tailOf_18 : decode cX0_tailOf 18 = .ok (.ireturn, 1) := by decide +kernel
theorem dX0_beatOf_0 : decode cX0_beatOf 0 = .ok (.aload_n 0, 1) := by decide +kernel
theorem dX0_beatOf_1 : decode cX0_beatOf 1 = .ok (.iload_n 1, 1) := by decide +kernel
theorem dX0_beatOf_2 : decode cX0_beatOf 2 = .ok (.invokevirtual 37, 3) := by decide +kernel
theorem dX0_beatOf_5 : decode cX0_beatOf 5 = .ok (.ifCond .eq 12, 3) := by decide +kernel
theorem dX0_beatOf_8 : decode cX0_beatOf 8 = .ok (.aload_n 0, 1) := by decide +kernel
theorem dX0_beatOf_9 : decode cX0_beatOf 9 = .ok (.getfield 31, 3) := by decide +kernel
theorem dX0_beatOf_12 : decode cX0_beatOf 12 = .ok (.iload_n 1, 1) := by decide +kernel
theorem dX0_beatOf_13 : decode cX0_beatOf 13 = .ok (.iaload, 1) := by decide +kernel
theorem dX0_beatOf_14 : decode cX0_beatOf 14 = .ok (.goto 4, 3) := by decide +kernel
theorem dX0_beatOf_17 : decode cX0_beatOf 17 = .ok (.iconst 0, 1) := by decide +kernel
theorem dX0_beatOf_18 : decode cX0_beatOf 18 = .ok (.ireturn, 1) := by decide +kernel
theorem dX0_leaderOf_0 : decode cX0_leaderOf 0 = .ok (.aload_n 0, 1) := by decide +kernel
theorem dX0_leaderOf_1 : decode cX0_leaderOf 1 = .ok (.iload_n 1, 1) := by decide +kernel
theorem dX0_leaderOf_2 : decode cX0_leaderOf 2 = .ok (.invokevirtual 37, 3) := by decide +kernel
theorem dX0_leaderOf_5 : decode cX0_leaderOf 5 = .ok (.ifCond .eq 12, 3) := by decide +kernel
theorem dX0_leaderOf_8 : decode cX0_leaderOf 8 = .ok (.aload_n 0, 1) := by decide +kernel
theorem dX0_leaderOf_9 : decode cX0_leaderOf 9 = .ok (.getfield 34, 3) := by decide +kernel
theorem dX0_leaderOf_12 : decode cX0_leaderOf 12 = .ok (.iload_n 1, 1) := by decide +kernel
theorem dX0_leaderOf_13 : decode cX0_leaderOf 13 = .ok (.iaload, 1) := by decide +kernel
theorem dX0_leaderOf_14 : decode cX0_leaderOf 14 = .ok (.goto 4, 3) := by decide +kernel
theorem dX0_leaderOf_17 : decode cX0_leaderOf 17 = .ok (.iconst 0, 1) := by decide +kernel
theorem dX0_leaderOf_18 : decode cX0_leaderOf 18 = .ok (.ireturn, 1) := by decide +kernel
theorem dX0_comersTo_0 : decode cX0_comersTo 0 = .ok (.aload_n 0, 1) := by decide +kernel
theorem dX0_comersTo_1 : decode cX0_comersTo 1 = .ok (.iload_n 1, 1) := by decide +kernel
theorem dX0_comersTo_2 : decode cX0_comersTo 2 = .ok (.invokevirtual 37, 3) := by decide +kernel
theorem dX0_comersTo_5 : decode cX0_comersTo 5 = .ok (.ifCond .eq 12, 3) := by decide +kernel
theorem dX0_comersTo_8 : decode cX0_comersTo 8 = .ok (.aload_n 0, 1) := by decide +kernel
theorem dX0_comersTo_9 : decode cX0_comersTo 9 = .ok (.getfield 25, 3) := by decide +kernel
theorem dX0_comersTo_12 : decode cX0_comersTo 12 = .ok (.iload_n 1, 1) := by decide +kernel
theorem dX0_comersTo_13 : decode cX0_comersTo 13 = .ok (.iaload, 1) := by decide +kernel
theorem dX0_comersTo_14 : decode cX0_comersTo 14 = .ok (.goto 4, 3) := by decide +kernel
theorem dX0_comersTo_17 : decode cX0_comersTo 17 = .ok (.iconst 0, 1) := by decide +kernel
theorem dX0_comersTo_18 : decode cX0_comersTo 18 = .ok (.ireturn, 1) := by decide +kernel
theorem dX0_comerTo_0 : decode cX0_comerTo 0 = .ok (.iconst 0, 1) := by decide +kernel
theorem dX0_comerTo_1 : decode cX0_comerTo 1 = .ok (.istore_n 3, 1) := by decide +kernel
theorem dX0_comerTo_2 : decode cX0_comerTo 2 = .ok (.iconst 0, 1) := by decide +kernel
theorem dX0_comerTo_3 : decode cX0_comerTo 3 = .ok (.istore 4, 2) := by decide +kernel
theorem dX0_comerTo_5 : decode cX0_comerTo 5 = .ok (.iload 4, 2) := by decide +kernel
theorem dX0_comerTo_7 : decode cX0_comerTo 7 = .ok (.aload_n 0, 1) := by decide +kernel
theorem dX0_comerTo_8 : decode cX0_comerTo 8 = .ok (.getfield 15, 3) := by decide +kernel
theorem dX0_comerTo_11 : decode cX0_comerTo 11 = .ok (.if_icmp .ge 31, 3) := by decide +kernel
theorem dX0_comerTo_14 : decode cX0_comerTo 14 = .ok (.aload_n 0, 1) := by decide +kernel
theorem dX0_comerTo_15 : decode cX0_comerTo 15 = .ok (.getfield 21, 3) := by decide +kernel
theorem dX0_comerTo_18 : decode cX0_comerTo 18 = .ok (.iload 4, 2) := by decide +kernel
theorem dX0_comerTo_20 : decode cX0_comerTo 20 = .ok (.iaload, 1) := by decide +kernel
theorem dX0_comerTo_21 : decode cX0_comerTo 21 = .ok (.iload_n 1, 1) := by decide +kernel
theorem dX0_comerTo_22 : decode cX0_comerTo 22 = .ok (.if_icmp .ne 14, 3) := by decide +kernel
theorem dX0_comerTo_25 : decode cX0_comerTo 25 = .ok (.iload_n 3, 1) := by decide +kernel
theorem dX0_comerTo_26 : decode cX0_comerTo 26 = .ok (.iload_n 2, 1) := by decide +kernel
theorem dX0_comerTo_27 : decode cX0_comerTo 27 = .ok (.if_icmp .ne 6, 3) := by decide +kernel
theorem dX0_comerTo_30 : decode cX0_comerTo 30 = .ok (.iload 4, 2) := by decide +kernel
theorem dX0_comerTo_32 : decode cX0_comerTo 32 = .ok (.ireturn, 1) := by decide +kernel
theorem dX0_comerTo_33 : decode cX0_comerTo 33 = .ok (.iinc 3 1, 3) := by decide +kernel
theorem dX0_comerTo_36 : decode cX0_comerTo 36 = .ok (.iinc 4 1, 3) := by decide +kernel
theorem dX0_comerTo_39 : decode cX0_comerTo 39 = .ok (.goto (-34), 3) := by decide +kernel
theorem dX0_comerTo_42 : decode cX0_comerTo 42 = .ok (.bipush (-9), 2) := by decide +kernel
theorem dX0_comerTo_44 : decode cX0_comerTo 44 = .ok (.ireturn, 1) := by decide +kernel
theorem dX0_leaderOfRing_0 : decode cX0_leaderOfRing 0 = .ok (.iconst 0, 1) := by decide +kernel
theorem dX0_leaderOfRing_1 : decode cX0_leaderOfRing 1 = .ok (.istore_n 2, 1) := by decide +kernel
theorem dX0_leaderOfRing_2 : decode cX0_leaderOfRing 2 = .ok (.iconst 0, 1) := by decide +kernel
theorem dX0_leaderOfRing_3 : decode cX0_leaderOfRing 3 = .ok (.istore_n 3, 1) := by decide +kernel
theorem dX0_leaderOfRing_4 : decode cX0_leaderOfRing 4 = .ok (.iload_n 3, 1) := by decide +kernel
theorem dX0_leaderOfRing_5 : decode cX0_leaderOfRing 5 = .ok (.aload_n 0, 1) := by decide +kernel
theorem dX0_leaderOfRing_6 : decode cX0_leaderOfRing 6 = .ok (.getfield 15, 3) := by decide +kernel
theorem dX0_leaderOfRing_9 : decode cX0_leaderOfRing 9 = .ok (.if_icmp .ge 29, 3) := by decide +kernel
theorem dX0_leaderOfRing_12 : decode cX0_leaderOfRing 12 = .ok (.aload_n 0, 1) := by decide +kernel
theorem dX0_leaderOfRing_13 : decode cX0_leaderOfRing 13 = .ok (.getfield 34, 3) := by decide +kernel
theorem dX0_leaderOfRing_16 : decode cX0_leaderOfRing 16 = .ok (.iload_n 3, 1) := by decide +kernel
theorem dX0_leaderOfRing_17 : decode cX0_leaderOfRing 17 = .ok (.iaload, 1) := by decide +kernel
theorem dX0_leaderOfRing_18 : decode cX0_leaderOfRing 18 = .ok (.iload_n 3, 1) := by decide +kernel
theorem dX0_leaderOfRing_19 : decode cX0_leaderOfRing 19 = .ok (.if_icmp .ne 13, 3) := by decide +kernel
theorem dX0_leaderOfRing_22 : decode cX0_leaderOfRing 22 = .ok (.iload_n 2, 1) := by decide +kernel
theorem dX0_leaderOfRing_23 : decode cX0_leaderOfRing 23 = .ok (.iload_n 1, 1) := by decide +kernel
theorem dX0_leaderOfRing_24 : decode cX0_leaderOfRing 24 = .ok (.if_icmp .ne 5, 3) := by decide +kernel
theorem dX0_leaderOfRing_27 : decode cX0_leaderOfRing 27 = .ok (.iload_n 3, 1) := by decide +kernel
theorem dX0_leaderOfRing_28 : decode cX0_leaderOfRing 28 = .ok (.ireturn, 1) := by decide +kernel
theorem dX0_leaderOfRing_29 : decode cX0_leaderOfRing 29 = .ok (.iinc 2 1, 3) := by decide +kernel
theorem dX0_leaderOfRing_32 : decode cX0_leaderOfRing 32 = .ok (.iinc 3 1, 3) := by decide +kernel
theorem dX0_leaderOfRing_35 : decode cX0_leaderOfRing 35 = .ok (.goto (-31), 3) := by decide +kernel
theorem dX0_leaderOfRing_38 : decode cX0_leaderOfRing 38 = .ok (.bipush (-9), 2) := by decide +kernel
theorem dX0_leaderOfRing_40 : decode cX0_leaderOfRing 40 = .ok (.ireturn, 1) := by decide +kernel
theorem dX0_after_0 : decode cX0_after 0 = .ok (.iload_n 1, 1) := by decide +kernel
theorem dX0_after_1 : decode cX0_after 1 = .ok (.istore_n 3, 1) := by decide +kernel
theorem dX0_after_2 : decode cX0_after 2 = .ok (.iconst 0, 1) := by decide +kernel
theorem dX0_after_3 : decode cX0_after 3 = .ok (.istore 4, 2) := by decide +kernel
theorem dX0_after_5 : decode cX0_after 5 = .ok (.iload 4, 2) := by decide +kernel
theorem dX0_after_7 : decode cX0_after 7 = .ok (.iload_n 2, 1) := by decide +kernel
theorem dX0_after_8 : decode cX0_after 8 = .ok (.if_icmp .ge 24, 3) := by decide +kernel
theorem dX0_after_11 : decode cX0_after 11 = .ok (.aload_n 0, 1) := by decide +kernel
theorem dX0_after_12 : decode cX0_after 12 = .ok (.iload_n 3, 1) := by decide +kernel
theorem dX0_after_13 : decode cX0_after 13 = .ok (.invokevirtual 37, 3) := by decide +kernel
theorem dX0_after_16 : decode cX0_after 16 = .ok (.ifCond .eq 16, 3) := by decide +kernel
theorem dX0_after_19 : decode cX0_after 19 = .ok (.aload_n 0, 1) := by decide +kernel
theorem dX0_after_20 : decode cX0_after 20 = .ok (.getfield 21, 3) := by decide +kernel
theorem dX0_after_23 : decode cX0_after 23 = .ok (.iload_n 3, 1) := by decide +kernel
theorem dX0_after_24 : decode cX0_after 24 = .ok (.iaload, 1) := by decide +kernel
theorem dX0_after_25 : decode cX0_after 25 = .ok (.istore_n 3, 1) := by decide +kernel
theorem dX0_after_26 : decode cX0_after 26 = .ok (.iinc 4 1, 3) := by decide +kernel
theorem dX0_after_29 : decode cX0_after 29 = .ok (.goto (-24), 3) := by decide +kernel
theorem dX0_after_32 : decode cX0_after 32 = .ok (.iload_n 3, 1) := by decide +kernel
theorem dX0_after_33 : decode cX0_after 33 = .ok (.ireturn, 1) := by decide +kernel
theorem dX0_stepsBetween_0 : decode cX0_stepsBetween 0 = .ok (.iload_n 1, 1) := by decide +kernel
theorem dX0_stepsBetween_1 : decode cX0_stepsBetween 1 = .ok (.istore_n 3, 1) := by decide +kernel
theorem dX0_stepsBetween_2 : decode cX0_stepsBetween 2 = .ok (.iconst 0, 1) := by decide +kernel
theorem dX0_stepsBetween_3 : decode cX0_stepsBetween 3 = .ok (.istore 4, 2) := by decide +kernel
theorem dX0_stepsBetween_5 : decode cX0_stepsBetween 5 = .ok (.iload 4, 2) := by decide +kernel
theorem dX0_stepsBetween_7 : decode cX0_stepsBetween 7 = .ok (.aload_n 0, 1) := by decide +kernel
theorem dX0_stepsBetween_8 : decode cX0_stepsBetween 8 = .ok (.getfield 15, 3) := by decide +kernel
theorem dX0_stepsBetween_11 : decode cX0_stepsBetween 11 = .ok (.if_icmp .ge 32, 3) := by decide +kernel
theorem dX0_stepsBetween_14 : decode cX0_stepsBetween 14 = .ok (.aload_n 0, 1) := by decide +kernel
theorem dX0_stepsBetween_15 : decode cX0_stepsBetween 15 = .ok (.iload_n 3, 1) := by decide +kernel
theorem dX0_stepsBetween_16 : decode cX0_stepsBetween 16 = .ok (.invokevirtual 37, 3) := by decide +kernel
theorem dX0_stepsBetween_19 : decode cX0_stepsBetween 19 = .ok (.ifCond .eq 24, 3) := by decide +kernel
theorem dX0_stepsBetween_22 : decode cX0_stepsBetween 22 = .ok (.iload_n 3, 1) := by decide +kernel
theorem dX0_stepsBetween_23 : decode cX0_stepsBetween 23 = .ok (.iload_n 2, 1) := by decide +kernel
theorem dX0_stepsBetween_24 : decode cX0_stepsBetween 24 = .ok (.if_icmp .ne 6, 3) := by decide +kernel
theorem dX0_stepsBetween_27 : decode cX0_stepsBetween 27 = .ok (.iload 4, 2) := by decide +kernel
theorem dX0_stepsBetween_29 : decode cX0_stepsBetween 29 = .ok (.ireturn, 1) := by decide +kernel
theorem dX0_stepsBetween_30 : decode cX0_stepsBetween 30 = .ok (.aload_n 0, 1) := by decide +kernel
theorem dX0_stepsBetween_31 : decode cX0_stepsBetween 31 = .ok (.getfield 21, 3) := by decide +kernel
theorem dX0_stepsBetween_34 : decode cX0_stepsBetween 34 = .ok (.iload_n 3, 1) := by decide +kernel
theorem dX0_stepsBetween_35 : decode cX0_stepsBetween 35 = .ok (.iaload, 1) := by decide +kernel
theorem dX0_stepsBetween_36 : decode cX0_stepsBetween 36 = .ok (.istore_n 3, 1) := by decide +kernel
theorem dX0_stepsBetween_37 : decode cX0_stepsBetween 37 = .ok (.iinc 4 1, 3) := by decide +kernel
theorem dX0_stepsBetween_40 : decode cX0_stepsBetween 40 = .ok (.goto (-35), 3) := by decide +kernel
theorem dX0_stepsBetween_43 : decode cX0_stepsBetween 43 = .ok (.bipush (-9), 2) := by decide +kernel
theorem dX0_stepsBetween_45 : decode cX0_stepsBetween 45 = .ok (.ireturn, 1) := by decide +kernel
theorem dX1_init_0 : decode cX1_init 0 = .ok (.aload_n 0, 1) := by decide +kernel
theorem dX1_init_1 : decode cX1_init 1 = .ok (.invokespecial 3, 3) := by decide +kernel
theorem dX1_init_4 : decode cX1_init 4 = .ok (.aload_n 0, 1) := by decide +kernel
theorem dX1_init_5 : decode cX1_init 5 = .ok (.sipush 361, 3) := by decide +kernel
theorem dX1_init_8 : decode cX1_init 8 = .ok (.newarray .int, 2) := by decide +kernel
theorem dX1_init_10 : decode cX1_init 10 = .ok (.putfield 9, 3) := by decide +kernel
theorem dX1_init_13 : decode cX1_init 13 = .ok (.iconst 0, 1) := by decide +kernel
theorem dX1_init_14 : decode cX1_init 14 = .ok (.istore_n 1, 1) := by decide +kernel
theorem dX1_init_15 : decode cX1_init 15 = .ok (.iload_n 1, 1) := by decide +kernel
theorem dX1_init_16 : decode cX1_init 16 = .ok (.bipush 19, 2) := by decide +kernel
theorem dX1_init_18 : decode cX1_init 18 = .ok (.if_icmp .ge 16, 3) := by decide +kernel
theorem dX1_init_21 : decode cX1_init 21 = .ok (.aload_n 0, 1) := by decide +kernel
theorem dX1_init_22 : decode cX1_init 22 = .ok (.getfield 9, 3) := by decide +kernel
theorem dX1_init_25 : decode cX1_init 25 = .ok (.iload_n 1, 1) := by decide +kernel
theorem dX1_init_26 : decode cX1_init 26 = .ok (.iconst 1, 1) := by decide +kernel
theorem dX1_init_27 : decode cX1_init 27 = .ok (.iastore, 1) := by decide +kernel
theorem dX1_init_28 : decode cX1_init 28 = .ok (.iinc 1 1, 3) := by decide +kernel
theorem dX1_init_31 : decode cX1_init 31 = .ok (.goto (-16), 3) := by decide +kernel
theorem dX1_init_34 : decode cX1_init 34 = .ok (.iconst 1, 1) := by decide +kernel
theorem dX1_init_35 : decode cX1_init 35 = .ok (.istore_n 1, 1) := by decide +kernel
theorem dX1_init_36 : decode cX1_init 36 = .ok (.iload_n 1, 1) := by decide +kernel
theorem dX1_init_37 : decode cX1_init 37 = .ok (.bipush 19, 2) := by decide +kernel
theorem dX1_init_39 : decode cX1_init 39 = .ok (.if_icmp .ge 72, 3) := by decide +kernel
theorem dX1_init_42 : decode cX1_init 42 = .ok (.iconst 1, 1) := by decide +kernel
theorem dX1_init_43 : decode cX1_init 43 = .ok (.istore_n 2, 1) := by decide +kernel
theorem dX1_init_44 : decode cX1_init 44 = .ok (.iload_n 2, 1) := by decide +kernel
theorem dX1_init_45 : decode cX1_init 45 = .ok (.bipush 19, 2) := by decide +kernel
theorem dX1_init_47 : decode cX1_init 47 = .ok (.if_icmp .ge 58, 3) := by decide +kernel
theorem dX1_init_50 : decode cX1_init 50 = .ok (.iload_n 2, 1) := by decide +kernel
theorem dX1_init_51 : decode cX1_init 51 = .ok (.iload_n 1, 1) := by decide +kernel
theorem dX1_init_52 : decode cX1_init 52 = .ok (.if_icmp .gt 19, 3) := by decide +kernel
theorem dX1_init_55 : decode cX1_init 55 = .ok (.aload_n 0, 1) := by decide +kernel
theorem dX1_init_56 : decode cX1_init 56 = .ok (.getfield 9, 3) := by decide +kernel
theorem dX1_init_59 : decode cX1_init 59 = .ok (.iload_n 1, 1) := by decide +kernel
theorem dX1_init_60 : decode cX1_init 60 = .ok (.iload_n 2, 1) := by decide +kernel
theorem dX1_init_61 : decode cX1_init 61 = .ok (.isub, 1) := by decide +kernel
theorem dX1_init_62 : decode cX1_init 62 = .ok (.bipush 19, 2) := by decide +kernel
theorem dX1_init_64 : decode cX1_init 64 = .ok (.imul, 1) := by decide +kernel
theorem dX1_init_65 : decode cX1_init 65 = .ok (.iload_n 2, 1) := by decide +kernel
theorem dX1_init_66 : decode cX1_init 66 = .ok (.iadd, 1) := by decide +kernel
theorem dX1_init_67 : decode cX1_init 67 = .ok (.iaload, 1) := by decide +kernel
theorem dX1_init_68 : decode cX1_init 68 = .ok (.goto 4, 3) := by decide +kernel
theorem dX1_init_71 : decode cX1_init 71 = .ok (.iconst 0, 1) := by decide +kernel
theorem dX1_init_72 : decode cX1_init 72 = .ok (.istore_n 3, 1) := by decide +kernel
theorem dX1_init_73 : decode cX1_init 73 = .ok (.aload_n 0, 1) := by decide +kernel
theorem dX1_init_74 : decode cX1_init 74 = .ok (.getfield 9, 3) := by decide +kernel
theorem dX1_init_77 : decode cX1_init 77 = .ok (.iload_n 1, 1) := by decide +kernel
theorem dX1_init_78 : decode cX1_init 78 = .ok (.bipush 19, 2) := by decide +kernel
theorem dX1_init_80 : decode cX1_init 80 = .ok (.imul, 1) := by decide +kernel
theorem dX1_init_81 : decode cX1_init 81 = .ok (.iload_n 2, 1) := by decide +kernel
theorem dX1_init_82 : decode cX1_init 82 = .ok (.iadd, 1) := by decide +kernel
theorem dX1_init_83 : decode cX1_init 83 = .ok (.aload_n 0, 1) := by decide +kernel
theorem dX1_init_84 : decode cX1_init 84 = .ok (.getfield 9, 3) := by decide +kernel
theorem dX1_init_87 : decode cX1_init 87 = .ok (.iload_n 1, 1) := by decide +kernel
theorem dX1_init_88 : decode cX1_init 88 = .ok (.bipush 19, 2) := by decide +kernel
theorem dX1_init_90 : decode cX1_init 90 = .ok (.imul, 1) := by decide +kernel
theorem dX1_init_91 : decode cX1_init 91 = .ok (.iload_n 2, 1) := by decide +kernel
theorem dX1_init_92 : decode cX1_init 92 = .ok (.iadd, 1) := by decide +kernel
theorem dX1_init_93 : decode cX1_init 93 = .ok (.iconst 1, 1) := by decide +kernel
theorem dX1_init_94 : decode cX1_init 94 = .ok (.isub, 1) := by decide +kernel
theorem dX1_init_95 : decode cX1_init 95 = .ok (.iaload, 1) := by decide +kernel
theorem dX1_init_96 : decode cX1_init 96 = .ok (.iload_n 3, 1) := by decide +kernel
theorem dX1_init_97 : decode cX1_init 97 = .ok (.iadd, 1) := by decide +kernel
theorem dX1_init_98 : decode cX1_init 98 = .ok (.iastore, 1) := by decide +kernel
theorem dX1_init_99 : decode cX1_init 99 = .ok (.iinc 2 1, 3) := by decide +kernel
theorem dX1_init_102 : decode cX1_init 102 = .ok (.goto (-58), 3) := by decide +kernel
theorem dX1_init_105 : decode cX1_init 105 = .ok (.iinc 1 1, 3) := by decide +kernel
theorem dX1_init_108 : decode cX1_init 108 = .ok (.goto (-72), 3) := by decide +kernel
theorem dX1_init_111 : decode cX1_init 111 = .ok (.return_, 1) := by decide +kernel
theorem dX1_cappedAt_0 : decode cX1_cappedAt 0 = .ok (.iload_n 1, 1) := by decide +kernel
theorem dX1_cappedAt_1 : decode cX1_cappedAt 1 = .ok (.ifCond .lt 33, 3) := by decide +kernel
theorem dX1_cappedAt_4 : decode cX1_cappedAt 4 = .ok (.iload_n 1, 1) := by decide +kernel
theorem dX1_cappedAt_5 : decode cX1_cappedAt 5 = .ok (.bipush 19, 2) := by decide +kernel
theorem dX1_cappedAt_7 : decode cX1_cappedAt 7 = .ok (.if_icmp .ge 27, 3) := by decide +kernel
theorem dX1_cappedAt_10 : decode cX1_cappedAt 10 = .ok (.iload_n 2, 1) := by decide +kernel
theorem dX1_cappedAt_11 : decode cX1_cappedAt 11 = .ok (.ifCond .lt 23, 3) := by decide +kernel
theorem dX1_cappedAt_14 : decode cX1_cappedAt 14 = .ok (.iload_n 2, 1) := by decide +kernel
theorem dX1_cappedAt_15 : decode cX1_cappedAt 15 = .ok (.bipush 19, 2) := by decide +kernel
theorem dX1_cappedAt_17 : decode cX1_cappedAt 17 = .ok (.if_icmp .ge 17, 3) := by decide +kernel
theorem dX1_cappedAt_20 : decode cX1_cappedAt 20 = .ok (.aload_n 0, 1) := by decide +kernel
theorem dX1_cappedAt_21 : decode cX1_cappedAt 21 = .ok (.getfield 9, 3) := by decide +kernel
theorem dX1_cappedAt_24 : decode cX1_cappedAt 24 = .ok (.iload_n 1, 1) := by decide +kernel
theorem dX1_cappedAt_25 : decode cX1_cappedAt 25 = .ok (.bipush 19, 2) := by decide +kernel
theorem dX1_cappedAt_27 : decode cX1_cappedAt 27 = .ok (.imul, 1) := by decide +kernel
theorem dX1_cappedAt_28 : decode cX1_cappedAt 28 = .ok (.iload_n 2, 1) := by decide +kernel
theorem dX1_cappedAt_29 : decode cX1_cappedAt 29 = .ok (.iadd, 1) := by decide +kernel
theorem dX1_cappedAt_30 : decode cX1_cappedAt 30 = .ok (.iaload, 1) := by decide +kernel
theorem dX1_cappedAt_31 : decode cX1_cappedAt 31 = .ok (.goto 4, 3) := by decide +kernel
theorem dX1_cappedAt_34 : decode cX1_cappedAt 34 = .ok (.iconst 0, 1) := by decide +kernel
theorem dX1_cappedAt_35 : decode cX1_cappedAt 35 = .ok (.ireturn, 1) := by decide +kernel
theorem dX1_length_0 : decode cX1_length 0 = .ok (.aload_n 0, 1) := by decide +kernel
theorem dX1_length_1 : decode cX1_length 1 = .ok (.iload_n 1, 1) := by decide +kernel
theorem dX1_length_2 : decode cX1_length 2 = .ok (.iload_n 1, 1) := by decide +kernel
theorem dX1_length_3 : decode cX1_length 3 = .ok (.invokevirtual 15, 3) := by decide +kernel
theorem dX1_length_6 : decode cX1_length 6 = .ok (.ireturn, 1) := by decide +kernel
theorem dX1_numberOf_0 : decode cX1_numberOf 0 = .ok (.iconst 0, 1) := by decide +kernel
theorem dX1_numberOf_1 : decode cX1_numberOf 1 = .ok (.istore_n 2, 1) := by decide +kernel
theorem dX1_numberOf_2 : decode cX1_numberOf 2 = .ok (.aload_n 1, 1) := by decide +kernel
theorem dX1_numberOf_3 : decode cX1_numberOf 3 = .ok (.getfield 19, 3) := by decide +kernel
theorem dX1_numberOf_6 : decode cX1_numberOf 6 = .ok (.istore_n 3, 1) := by decide +kernel
theorem dX1_numberOf_7 : decode cX1_numberOf 7 = .ok (.iload_n 3, 1) := by decide +kernel
theorem dX1_numberOf_8 : decode cX1_numberOf 8 = .ok (.istore 4, 2) := by decide +kernel
theorem dX1_numberOf_10 : decode cX1_numberOf 10 = .ok (.iconst 0, 1) := by decide +kernel
theorem dX1_numberOf_11 : decode cX1_numberOf 11 = .ok (.istore 5, 2) := by decide +kernel
theorem dX1_numberOf_13 : decode cX1_numberOf 13 = .ok (.iload 5, 2) := by decide +kernel
theorem dX1_numberOf_15 : decode cX1_numberOf 15 = .ok (.aload_n 1, 1) := by decide +kernel
theorem dX1_numberOf_16 : decode cX1_numberOf 16 = .ok (.getfield 25, 3) := by decide +kernel
theorem dX1_numberOf_19 : decode cX1_numberOf 19 = .ok (.if_icmp .ge 44, 3) := by decide +kernel
theorem dX1_numberOf_22 : decode cX1_numberOf 22 = .ok (.aload_n 1, 1) := by decide +kernel
theorem dX1_numberOf_23 : decode cX1_numberOf 23 = .ok (.iload 5, 2) := by decide +kernel
theorem dX1_numberOf_25 : decode cX1_numberOf 25 = .ok (.invokevirtual 28, 3) := by decide +kernel
theorem dX1_numberOf_28 : decode cX1_numberOf 28 = .ok (.istore 6, 2) := by decide +kernel
theorem dX1_numberOf_30 : decode cX1_numberOf 30 = .ok (.iload_n 2, 1) := by decide +kernel
theorem dX1_numberOf_31 : decode cX1_numberOf 31 = .ok (.aload_n 0, 1) := by decide +kernel
theorem dX1_numberOf_32 : decode cX1_numberOf 32 = .ok (.iload_n 3, 1) := by decide +kernel
theorem dX1_numberOf_33 : decode cX1_numberOf 33 = .ok (.iload 4, 2) := by decide +kernel
theorem dX1_numberOf_35 : decode cX1_numberOf 35 = .ok (.invokevirtual 15, 3) := by decide +kernel
theorem dX1_numberOf_38 : decode cX1_numberOf 38 = .ok (.aload_n 0, 1) := by decide +kernel
theorem dX1_numberOf_39 : decode cX1_numberOf 39 = .ok (.iload_n 3, 1) := by decide +kernel
theorem dX1_numberOf_40 : decode cX1_numberOf 40 = .ok (.iload 6, 2) := by decide +kernel
theorem dX1_numberOf_42 : decode cX1_numberOf 42 = .ok (.invokevirtual 15, 3) := by decide +kernel
theorem dX1_numberOf_45 : decode cX1_numberOf 45 = .ok (.isub, 1) := by decide +kernel
theorem dX1_numberOf_46 : decode cX1_numberOf 46 = .ok (.iadd, 1) := by decide +kernel
theorem dX1_numberOf_47 : decode cX1_numberOf 47 = .ok (.istore_n 2, 1) := by decide +kernel
theorem dX1_numberOf_48 : decode cX1_numberOf 48 = .ok (.iload_n 3, 1) := by decide +kernel
theorem dX1_numberOf_49 : decode cX1_numberOf 49 = .ok (.iload 6, 2) := by decide +kernel
theorem dX1_numberOf_51 : decode cX1_numberOf 51 = .ok (.isub, 1) := by decide +kernel
theorem dX1_numberOf_52 : decode cX1_numberOf 52 = .ok (.istore_n 3, 1) := by decide +kernel
theorem dX1_numberOf_53 : decode cX1_numberOf 53 = .ok (.iload 6, 2) := by decide +kernel
theorem dX1_numberOf_55 : decode cX1_numberOf 55 = .ok (.istore 4, 2) := by decide +kernel
theorem dX1_numberOf_57 : decode cX1_numberOf 57 = .ok (.iinc 5 1, 3) := by decide +kernel
theorem dX1_numberOf_60 : decode cX1_numberOf 60 = .ok (.goto (-47), 3) := by decide +kernel
theorem dX1_numberOf_63 : decode cX1_numberOf 63 = .ok (.iload_n 2, 1) := by decide +kernel
theorem dX1_numberOf_64 : decode cX1_numberOf 64 = .ok (.ireturn, 1) := by decide +kernel
theorem dX1_write_0 : decode cX1_write 0 = .ok (.aload_n 1, 1) := by decide +kernel
theorem dX1_write_1 : decode cX1_write 1 = .ok (.invokevirtual 32, 3) := by decide +kernel
theorem dX1_write_4 : decode cX1_write 4 = .ok (.iload_n 2, 1) := by decide +kernel
theorem dX1_write_5 : decode cX1_write 5 = .ok (.istore 4, 2) := by decide +kernel
theorem dX1_write_7 : decode cX1_write 7 = .ok (.iload_n 3, 1) := by decide +kernel
theorem dX1_write_8 : decode cX1_write 8 = .ok (.istore 5, 2) := by decide +kernel
theorem dX1_write_10 : decode cX1_write 10 = .ok (.iload_n 2, 1) := by decide +kernel
theorem dX1_write_11 : decode cX1_write 11 = .ok (.istore 6, 2) := by decide +kernel
theorem dX1_write_13 : decode cX1_write 13 = .ok (.iload 6, 2) := by decide +kernel
theorem dX1_write_15 : decode cX1_write 15 = .ok (.ifCond .le 74, 3) := by decide +kernel
theorem dX1_write_18 : decode cX1_write 18 = .ok (.iconst 0, 1) := by decide +kernel
theorem dX1_write_19 : decode cX1_write 19 = .ok (.istore 7, 2) := by decide +kernel
theorem dX1_write_21 : decode cX1_write 21 = .ok (.iload 7, 2) := by decide +kernel
theorem dX1_write_23 : decode cX1_write 23 = .ok (.iload_n 2, 1) := by decide +kernel
theorem dX1_write_24 : decode cX1_write 24 = .ok (.if_icmp .ge 59, 3) := by decide +kernel
theorem dX1_write_27 : decode cX1_write 27 = .ok (.iload 6, 2) := by decide +kernel
theorem dX1_write_29 : decode cX1_write 29 = .ok (.iload 4, 2) := by decide +kernel
theorem dX1_write_31 : decode cX1_write 31 = .ok (.if_icmp .gt 52, 3) := by decide +kernel
theorem dX1_write_34 : decode cX1_write 34 = .ok (.aload_n 0, 1) := by decide +kernel
theorem dX1_write_35 : decode cX1_write 35 = .ok (.iload 4, 2) := by decide +kernel
theorem dX1_write_37 : decode cX1_write 37 = .ok (.iload 6, 2) := by decide +kernel
theorem dX1_write_39 : decode cX1_write 39 = .ok (.isub, 1) := by decide +kernel
theorem dX1_write_40 : decode cX1_write 40 = .ok (.iload 6, 2) := by decide +kernel
theorem dX1_write_42 : decode cX1_write 42 = .ok (.invokevirtual 15, 3) := by decide +kernel
theorem dX1_write_45 : decode cX1_write 45 = .ok (.istore 8, 2) := by decide +kernel
theorem dX1_write_47 : decode cX1_write 47 = .ok (.iload 5, 2) := by decide +kernel
theorem dX1_write_49 : decode cX1_write 49 = .ok (.iload 8, 2) := by decide +kernel
theorem dX1_write_51 : decode cX1_write 51 = .ok (.if_icmp .lt 13, 3) := by decide +kernel
theorem dX1_write_54 : decode cX1_write 54 = .ok (.iload 5, 2) := by decide +kernel
theorem dX1_write_56 : decode cX1_write 56 = .ok (.iload 8, 2) := by decide +kernel
theorem dX1_write_58 : decode cX1_write 58 = .ok (.isub, 1) := by decide +kernel
theorem dX1_write_59 : decode cX1_write 59 = .ok (.istore 5, 2) := by decide +kernel
theorem dX1_write_61 : decode cX1_write 61 = .ok (.goto 22, 3) := by decide +kernel
theorem dX1_write_64 : decode cX1_write 64 = .ok (.aload_n 1, 1) := by decide +kernel
theorem dX1_write_65 : decode cX1_write 65 = .ok (.iload 6, 2) := by decide +kernel
theorem dX1_write_67 : decode cX1_write 67 = .ok (.invokevirtual 35, 3) := by decide +kernel
theorem dX1_write_70 : decode cX1_write 70 = .ok (.iload 4, 2) := by decide +kernel
theorem dX1_write_72 : decode cX1_write 72 = .ok (.iload 6, 2) := by decide +kernel
theorem dX1_write_74 : decode cX1_write 74 = .ok (.isub, 1) := by decide +kernel
theorem dX1_write_75 : decode cX1_write 75 = .ok (.istore 4, 2) := by decide +kernel
theorem dX1_write_77 : decode cX1_write 77 = .ok (.iinc 7 1, 3) := by decide +kernel
theorem dX1_write_80 : decode cX1_write 80 = .ok (.goto (-59), 3) := by decide +kernel
theorem dX1_write_83 : decode cX1_write 83 = .ok (.iinc 6 (-1), 3) := by decide +kernel
theorem dX1_write_86 : decode cX1_write 86 = .ok (.goto (-73), 3) := by decide +kernel
theorem dX1_write_89 : decode cX1_write 89 = .ok (.return_, 1) := by decide +kernel
theorem dX3_init_0 : decode cX3_init 0 = .ok (.aload_n 0, 1) := by decide +kernel
theorem dX3_init_1 : decode cX3_init 1 = .ok (.invokespecial 3, 3) := by decide +kernel
theorem dX3_init_4 : decode cX3_init 4 = .ok (.aload_n 0, 1) := by decide +kernel
theorem dX3_init_5 : decode cX3_init 5 = .ok (.bipush 18, 2) := by decide +kernel
theorem dX3_init_7 : decode cX3_init 7 = .ok (.newarray .int, 2) := by decide +kernel
theorem dX3_init_9 : decode cX3_init 9 = .ok (.putfield 9, 3) := by decide +kernel
theorem dX3_init_12 : decode cX3_init 12 = .ok (.return_, 1) := by decide +kernel
theorem dX3_clear_0 : decode cX3_clear 0 = .ok (.aload_n 0, 1) := by decide +kernel
theorem dX3_clear_1 : decode cX3_clear 1 = .ok (.iconst 0, 1) := by decide +kernel
theorem dX3_clear_2 : decode cX3_clear 2 = .ok (.putfield 15, 3) := by decide +kernel
theorem dX3_clear_5 : decode cX3_clear 5 = .ok (.aload_n 0, 1) := by decide +kernel
theorem dX3_clear_6 : decode cX3_clear 6 = .ok (.iconst 0, 1) := by decide +kernel
theorem dX3_clear_7 : decode cX3_clear 7 = .ok (.putfield 19, 3) := by decide +kernel
theorem dX3_clear_10 : decode cX3_clear 10 = .ok (.return_, 1) := by decide +kernel
theorem dX3_has_0 : decode cX3_has 0 = .ok (.iload_n 1, 1) := by decide +kernel
theorem dX3_has_1 : decode cX3_has 1 = .ok (.ifCond .lt 15, 3) := by decide +kernel
theorem dX3_has_4 : decode cX3_has 4 = .ok (.iload_n 1, 1) := by decide +kernel
theorem dX3_has_5 : decode cX3_has 5 = .ok (.aload_n 0, 1) := by decide +kernel
theorem dX3_has_6 : decode cX3_has 6 = .ok (.getfield 15, 3) := by decide +kernel
theorem dX3_has_9 : decode cX3_has 9 = .ok (.if_icmp .ge 7, 3) := by decide +kernel
theorem dX3_has_12 : decode cX3_has 12 = .ok (.iconst 1, 1) := by decide +kernel
theorem dX3_has_13 : decode cX3_has 13 = .ok (.goto 4, 3) := by decide +kernel
theorem dX3_has_16 : decode cX3_has 16 = .ok (.iconst 0, 1) := by decide +kernel
theorem dX3_has_17 : decode cX3_has 17 = .ok (.ireturn, 1) := by decide +kernel
theorem dX3_heapAt_0 : decode cX3_heapAt 0 = .ok (.iload_n 1, 1) := by decide +kernel
theorem dX3_heapAt_1 : decode cX3_heapAt 1 = .ok (.ifCond .lt 20, 3) := by decide +kernel
theorem dX3_heapAt_4 : decode cX3_heapAt 4 = .ok (.iload_n 1, 1) := by decide +kernel
theorem dX3_heapAt_5 : decode cX3_heapAt 5 = .ok (.aload_n 0, 1) := by decide +kernel
theorem dX3_heapAt_6 : decode cX3_heapAt 6 = .ok (.getfield 15, 3) := by decide +kernel
theorem dX3_heapAt_9 : decode cX3_heapAt 9 = .ok (.if_icmp .ge 12, 3) := by decide +kernel
theorem dX3_heapAt_12 : decode cX3_heapAt 12 = .ok (.aload_n 0, 1) := by decide +kernel
theorem dX3_heapAt_13 : decode cX3_heapAt 13 = .ok (.getfield 9, 3) := by decide +kernel
theorem dX3_heapAt_16 : decode cX3_heapAt 16 = .ok (.iload_n 1, 1) := by decide +kernel
theorem dX3_heapAt_17 : decode cX3_heapAt 17 = .ok (.iaload, 1) := by decide +kernel
theorem dX3_heapAt_18 : decode cX3_heapAt 18 = .ok (.goto 4, 3) := by decide +kernel
theorem dX3_heapAt_21 : decode cX3_heapAt 21 = .ok (.iconst 0, 1) := by decide +kernel
theorem dX3_heapAt_22 : decode cX3_heapAt 22 = .ok (.ireturn, 1) := by decide +kernel
theorem dX3_hasRoomFor_0 : decode cX3_hasRoomFor 0 = .ok (.iload_n 1, 1) := by decide +kernel
theorem dX3_hasRoomFor_1 : decode cX3_hasRoomFor 1 = .ok (.bipush 18, 2) := by decide +kernel
theorem dX3_hasRoomFor_3 : decode cX3_hasRoomFor 3 = .ok (.aload_n 0, 1) := by decide +kernel
theorem dX3_hasRoomFor_4 : decode cX3_hasRoomFor 4 = .ok (.getfield 19, 3) := by decide +kernel
theorem dX3_hasRoomFor_7 : decode cX3_hasRoomFor 7 = .ok (.isub, 1) := by decide +kernel
theorem dX3_hasRoomFor_8 : decode cX3_hasRoomFor 8 = .ok (.if_icmp .gt 7, 3) := by decide +kernel
theorem dX3_hasRoomFor_11 : decode cX3_hasRoomFor 11 = .ok (.iconst 1, 1) := by decide +kernel
theorem dX3_hasRoomFor_12 : decode cX3_hasRoomFor 12 = .ok (.goto 4, 3) := by decide +kernel
theorem dX3_hasRoomFor_15 : decode cX3_hasRoomFor 15 = .ok (.iconst 0, 1) := by decide +kernel
theorem dX3_hasRoomFor_16 : decode cX3_hasRoomFor 16 = .ok (.ireturn, 1) := by decide +kernel
theorem dX3_put_0 : decode cX3_put 0 = .ok (.iload_n 1, 1) := by decide +kernel
theorem dX3_put_1 : decode cX3_put 1 = .ok (.iconst 1, 1) := by decide +kernel
theorem dX3_put_2 : decode cX3_put 2 = .ok (.if_icmp .lt 20, 3) := by decide +kernel
theorem dX3_put_5 : decode cX3_put 5 = .ok (.aload_n 0, 1) := by decide +kernel
theorem dX3_put_6 : decode cX3_put 6 = .ok (.iload_n 1, 1) := by decide +kernel
theorem dX3_put_7 : decode cX3_put 7 = .ok (.invokevirtual 22, 3) := by decide +kernel
theorem dX3_put_10 : decode cX3_put 10 = .ok (.ifCond .eq 12, 3) := by decide +kernel
theorem dX3_put_13 : decode cX3_put 13 = .ok (.aload_n 0, 1) := by decide +kernel
theorem dX3_put_14 : decode cX3_put 14 = .ok (.getfield 15, 3) := by decide +kernel
theorem dX3_put_17 : decode cX3_put 17 = .ok (.bipush 18, 2) := by decide +kernel
theorem dX3_put_19 : decode cX3_put 19 = .ok (.if_icmp .lt 4, 3) := by decide +kernel
theorem dX3_put_22 : decode cX3_put 22 = .ok (.return_, 1) := by decide +kernel
theorem dX3_put_23 : decode cX3_put 23 = .ok (.aload_n 0, 1) := by decide +kernel
theorem dX3_put_24 : decode cX3_put 24 = .ok (.getfield 15, 3) := by decide +kernel
theorem dX3_put_27 : decode cX3_put 27 = .ok (.istore_n 2, 1) := by decide +kernel
theorem dX3_put_28 : decode cX3_put 28 = .ok (.iload_n 2, 1) := by decide +kernel
theorem dX3_put_29 : decode cX3_put 29 = .ok (.ifCond .le 35, 3) := by decide +kernel
theorem dX3_put_32 : decode cX3_put 32 = .ok (.aload_n 0, 1) := by decide +kernel
theorem dX3_put_33 : decode cX3_put 33 = .ok (.getfield 9, 3) := by decide +kernel
theorem dX3_put_36 : decode cX3_put 36 = .ok (.iload_n 2, 1) := by decide +kernel
theorem dX3_put_37 : decode cX3_put 37 = .ok (.iconst 1, 1) := by decide +kernel
theorem dX3_put_38 : decode cX3_put 38 = .ok (.isub, 1) := by decide +kernel
theorem dX3_put_39 : decode cX3_put 39 = .ok (.iaload, 1) := by decide +kernel
theorem dX3_put_40 : decode cX3_put 40 = .ok (.iload_n 1, 1) := by decide +kernel
theorem dX3_put_41 : decode cX3_put 41 = .ok (.if_icmp .ge 23, 3) := by decide +kernel
theorem dX3_put_44 : decode cX3_put 44 = .ok (.aload_n 0, 1) := by decide +kernel
theorem dX3_put_45 : decode cX3_put 45 = .ok (.getfield 9, 3) := by decide +kernel
theorem dX3_put_48 : decode cX3_put 48 = .ok (.iload_n 2, 1) := by decide +kernel
theorem dX3_put_49 : decode cX3_put 49 = .ok (.aload_n 0, 1) := by decide +kernel
theorem dX3_put_50 : decode cX3_put 50 = .ok (.getfield 9, 3) := by decide +kernel
theorem dX3_put_53 : decode cX3_put 53 = .ok (.iload_n 2, 1) := by decide +kernel
theorem dX3_put_54 : decode cX3_put 54 = .ok (.iconst 1, 1) := by decide +kernel
theorem dX3_put_55 : decode cX3_put 55 = .ok (.isub, 1) := by decide +kernel
theorem dX3_put_56 : decode cX3_put 56 = .ok (.iaload, 1) := by decide +kernel
theorem dX3_put_57 : decode cX3_put 57 = .ok (.iastore, 1) := by decide +kernel
theorem dX3_put_58 : decode cX3_put 58 = .ok (.iinc 2 (-1), 3) := by decide +kernel
theorem dX3_put_61 : decode cX3_put 61 = .ok (.goto (-33), 3) := by decide +kernel
theorem dX3_put_64 : decode cX3_put 64 = .ok (.aload_n 0, 1) := by decide +kernel
theorem dX3_put_65 : decode cX3_put 65 = .ok (.getfield 9, 3) := by decide +kernel
theorem dX3_put_68 : decode cX3_put 68 = .ok (.iload_n 2, 1) := by decide +kernel
theorem dX3_put_69 : decode cX3_put 69 = .ok (.iload_n 1, 1) := by decide +kernel
theorem dX3_put_70 : decode cX3_put 70 = .ok (.iastore, 1) := by decide +kernel
theorem dX3_put_71 : decode cX3_put 71 = .ok (.aload_n 0, 1) := by decide +kernel
theorem dX3_put_72 : decode cX3_put 72 = .ok (.dup, 1) := by decide +kernel
theorem dX3_put_73 : decode cX3_put 73 = .ok (.getfield 15, 3) := by decide +kernel
theorem dX3_put_76 : decode cX3_put 76 = .ok (.iconst 1, 1) := by decide +kernel
theorem dX3_put_77 : decode cX3_put 77 = .ok (.iadd, 1) := by decide +kernel
theorem dX3_put_78 : decode cX3_put 78 = .ok (.putfield 15, 3) := by decide +kernel
theorem dX3_put_81 : decode cX3_put 81 = .ok (.aload_n 0, 1) := by decide +kernel
theorem dX3_put_82 : decode cX3_put 82 = .ok (.dup, 1) := by decide +kernel
theorem dX3_put_83 : decode cX3_put 83 = .ok (.getfield 19, 3) := by decide +kernel
theorem dX3_put_86 : decode cX3_put 86 = .ok (.iload_n 1, 1) := by decide +kernel
theorem dX3_put_87 : decode cX3_put 87 = .ok (.iadd, 1) := by decide +kernel
theorem dX3_put_88 : decode cX3_put 88 = .ok (.putfield 19, 3) := by decide +kernel
theorem dX3_put_91 : decode cX3_put 91 = .ok (.return_, 1) := by decide +kernel
theorem dX3_putPart_0 : decode cX3_putPart 0 = .ok (.iconst 0, 1) := by decide +kernel
theorem dX3_putPart_1 : decode cX3_putPart 1 = .ok (.istore 4, 2) := by decide +kernel
theorem dX3_putPart_3 : decode cX3_putPart 3 = .ok (.iload 4, 2) := by decide +kernel
theorem dX3_putPart_5 : decode cX3_putPart 5 = .ok (.iload_n 3, 1) := by decide +kernel
theorem dX3_putPart_6 : decode cX3_putPart 6 = .ok (.if_icmp .ge 21, 3) := by decide +kernel
theorem dX3_putPart_9 : decode cX3_putPart 9 = .ok (.aload_n 0, 1) := by decide +kernel
theorem dX3_putPart_10 : decode cX3_putPart 10 = .ok (.aload_n 1, 1) := by decide +kernel
theorem dX3_putPart_11 : decode cX3_putPart 11 = .ok (.iload_n 2, 1) := by decide +kernel
theorem dX3_putPart_12 : decode cX3_putPart 12 = .ok (.iload 4, 2) := by decide +kernel
theorem dX3_putPart_14 : decode cX3_putPart 14 = .ok (.iadd, 1) := by decide +kernel
theorem dX3_putPart_15 : decode cX3_putPart 15 = .ok (.invokevirtual 26, 3) := by decide +kernel
theorem dX3_putPart_18 : decode cX3_putPart 18 = .ok (.invokevirtual 30, 3) := by decide +kernel
theorem dX3_putPart_21 : decode cX3_putPart 21 = .ok (.iinc 4 1, 3) := by decide +kernel
theorem dX3_putPart_24 : decode cX3_putPart 24 = .ok (.goto (-21), 3) := by decide +kernel
theorem dX3_putPart_27 : decode cX3_putPart 27 = .ok (.return_, 1) := by decide +kernel
theorem dX3_drop_0 : decode cX3_drop 0 = .ok (.aload_n 0, 1) := by decide +kernel
theorem dX3_drop_1 : decode cX3_drop 1 = .ok (.iload_n 1, 1) := by decide +kernel
theorem dX3_drop_2 : decode cX3_drop 2 = .ok (.invokevirtual 34, 3) := by decide +kernel
theorem dX3_drop_5 : decode cX3_drop 5 = .ok (.ifCond .ne 5, 3) := by decide +kernel
theorem dX3_drop_8 : decode cX3_drop 8 = .ok (.iconst 0, 1) := by decide +kernel
theorem dX3_drop_9 : decode cX3_drop 9 = .ok (.ireturn, 1) := by decide +kernel
theorem dX3_drop_10 : decode cX3_drop 10 = .ok (.aload_n 0, 1) := by decide +kernel
theorem dX3_drop_11 : decode cX3_drop 11 = .ok (.getfield 9, 3) := by decide +kernel
theorem dX3_drop_14 : decode cX3_drop 14 = .ok (.iload_n 1, 1) := by decide +kernel
theorem dX3_drop_15 : decode cX3_drop 15 = .ok (.iaload, 1) := by decide +kernel
theorem dX3_drop_16 : decode cX3_drop 16 = .ok (.istore_n 2, 1) := by decide +kernel
theorem dX3_drop_17 : decode cX3_drop 17 = .ok (.iload_n 1, 1) := by decide +kernel
theorem dX3_drop_18 : decode cX3_drop 18 = .ok (.iconst 1, 1) := by decide +kernel
theorem dX3_drop_19 : decode cX3_drop 19 = .ok (.iadd, 1) := by decide +kernel
theorem dX3_drop_20 : decode cX3_drop 20 = .ok (.istore_n 3, 1) := by decide +kernel
theorem dX3_drop_21 : decode cX3_drop 21 = .ok (.iload_n 3, 1) := by decide +kernel
theorem dX3_drop_22 : decode cX3_drop 22 = .ok (.aload_n 0, 1) := by decide +kernel
theorem dX3_drop_23 : decode cX3_drop 23 = .ok (.getfield 15, 3) := by decide +kernel
theorem dX3_drop_26 : decode cX3_drop 26 = .ok (.if_icmp .ge 23, 3) := by decide +kernel
theorem dX3_drop_29 : decode cX3_drop 29 = .ok (.aload_n 0, 1) := by decide +kernel
theorem dX3_drop_30 : decode cX3_drop 30 = .ok (.getfield 9, 3) := by decide +kernel
theorem dX3_drop_33 : decode cX3_drop 33 = .ok (.iload_n 3, 1) := by decide +kernel
theorem dX3_drop_34 : decode cX3_drop 34 = .ok (.iconst 1, 1) := by decide +kernel
theorem dX3_drop_35 : decode cX3_drop 35 = .ok (.isub, 1) := by decide +kernel
theorem dX3_drop_36 : decode cX3_drop 36 = .ok (.aload_n 0, 1) := by decide +kernel
theorem dX3_drop_37 : decode cX3_drop 37 = .ok (.getfield 9, 3) := by decide +kernel
theorem dX3_drop_40 : decode cX3_drop 40 = .ok (.iload_n 3, 1) := by decide +kernel
theorem dX3_drop_41 : decode cX3_drop 41 = .ok (.iaload, 1) := by decide +kernel
theorem dX3_drop_42 : decode cX3_drop 42 = .ok (.iastore, 1) := by decide +kernel
theorem dX3_drop_43 : decode cX3_drop 43 = .ok (.iinc 3 1, 3) := by decide +kernel
theorem dX3_drop_46 : decode cX3_drop 46 = .ok (.goto (-25), 3) := by decide +kernel
theorem dX3_drop_49 : decode cX3_drop 49 = .ok (.aload_n 0, 1) := by decide +kernel
theorem dX3_drop_50 : decode cX3_drop 50 = .ok (.dup, 1) := by decide +kernel
theorem dX3_drop_51 : decode cX3_drop 51 = .ok (.getfield 15, 3) := by decide +kernel
theorem dX3_drop_54 : decode cX3_drop 54 = .ok (.iconst 1, 1) := by decide +kernel
theorem dX3_drop_55 : decode cX3_drop 55 = .ok (.isub, 1) := by decide +kernel
theorem dX3_drop_56 : decode cX3_drop 56 = .ok (.putfield 15, 3) := by decide +kernel
theorem dX3_drop_59 : decode cX3_drop 59 = .ok (.aload_n 0, 1) := by decide +kernel
theorem dX3_drop_60 : decode cX3_drop 60 = .ok (.dup, 1) := by decide +kernel
theorem dX3_drop_61 : decode cX3_drop 61 = .ok (.getfield 19, 3) := by decide +kernel
theorem dX3_drop_64 : decode cX3_drop 64 = .ok (.iload_n 2, 1) := by decide +kernel
theorem dX3_drop_65 : decode cX3_drop 65 = .ok (.isub, 1) := by decide +kernel
theorem dX3_drop_66 : decode cX3_drop 66 = .ok (.putfield 19, 3) := by decide +kernel
theorem dX3_drop_69 : decode cX3_drop 69 = .ok (.iload_n 2, 1) := by decide +kernel
theorem dX3_drop_70 : decode cX3_drop 70 = .ok (.ireturn, 1) := by decide +kernel
theorem dX3_heapsFrom_0 : decode cX3_heapsFrom 0 = .ok (.iconst 0, 1) := by decide +kernel
theorem dX3_heapsFrom_1 : decode cX3_heapsFrom 1 = .ok (.istore_n 2, 1) := by decide +kernel
theorem dX3_heapsFrom_2 : decode cX3_heapsFrom 2 = .ok (.iconst 0, 1) := by decide +kernel
theorem dX3_heapsFrom_3 : decode cX3_heapsFrom 3 = .ok (.istore_n 3, 1) := by decide +kernel
theorem dX3_heapsFrom_4 : decode cX3_heapsFrom 4 = .ok (.iload_n 3, 1) := by decide +kernel
theorem dX3_heapsFrom_5 : decode cX3_heapsFrom 5 = .ok (.aload_n 0, 1) := by decide +kernel
theorem dX3_heapsFrom_6 : decode cX3_heapsFrom 6 = .ok (.getfield 15, 3) := by decide +kernel
theorem dX3_heapsFrom_9 : decode cX3_heapsFrom 9 = .ok (.if_icmp .ge 22, 3) := by decide +kernel
theorem dX3_heapsFrom_12 : decode cX3_heapsFrom 12 = .ok (.aload_n 0, 1) := by decide +kernel
theorem dX3_heapsFrom_13 : decode cX3_heapsFrom 13 = .ok (.getfield 9, 3) := by decide +kernel
theorem dX3_heapsFrom_16 : decode cX3_heapsFrom 16 = .ok (.iload_n 3, 1) := by decide +kernel
theorem dX3_heapsFrom_17 : decode cX3_heapsFrom 17 = .ok (.iaload, 1) := by decide +kernel
theorem dX3_heapsFrom_18 : decode cX3_heapsFrom 18 = .ok (.iload_n 1, 1) := by decide +kernel
theorem dX3_heapsFrom_19 : decode cX3_heapsFrom 19 = .ok (.if_icmp .lt 12, 3) := by decide +kernel
theorem dX3_heapsFrom_22 : decode cX3_heapsFrom 22 = .ok (.iinc 2 1, 3) := by decide +kernel
theorem dX3_heapsFrom_25 : decode cX3_heapsFrom 25 = .ok (.iinc 3 1, 3) := by decide +kernel
theorem dX3_heapsFrom_28 : decode cX3_heapsFrom 28 = .ok (.goto (-24), 3) := by decide +kernel
theorem dX3_heapsFrom_31 : decode cX3_heapsFrom 31 = .ok (.iload_n 2, 1) := by decide +kernel
theorem dX3_heapsFrom_32 : decode cX3_heapsFrom 32 = .ok (.ireturn, 1) := by decide +kernel
theorem dX3_unlikeHeaps_0 : decode cX3_unlikeHeaps 0 = .ok (.iconst 0, 1) := by decide +kernel
theorem dX3_unlikeHeaps_1 : decode cX3_unlikeHeaps 1 = .ok (.istore_n 1, 1) := by decide +kernel
theorem dX3_unlikeHeaps_2 : decode cX3_unlikeHeaps 2 = .ok (.iconst 0, 1) := by decide +kernel
theorem dX3_unlikeHeaps_3 : decode cX3_unlikeHeaps 3 = .ok (.istore_n 2, 1) := by decide +kernel
theorem dX3_unlikeHeaps_4 : decode cX3_unlikeHeaps 4 = .ok (.iload_n 2, 1) := by decide +kernel
theorem dX3_unlikeHeaps_5 : decode cX3_unlikeHeaps 5 = .ok (.aload_n 0, 1) := by decide +kernel
theorem dX3_unlikeHeaps_6 : decode cX3_unlikeHeaps 6 = .ok (.getfield 15, 3) := by decide +kernel
theorem dX3_unlikeHeaps_9 : decode cX3_unlikeHeaps 9 = .ok (.if_icmp .ge 38, 3) := by decide +kernel
theorem dX3_unlikeHeaps_12 : decode cX3_unlikeHeaps 12 = .ok (.iload_n 1, 1) := by decide +kernel
theorem dX3_unlikeHeaps_13 : decode cX3_unlikeHeaps 13 = .ok (.iload_n 2, 1) := by decide +kernel
theorem dX3_unlikeHeaps_14 : decode cX3_unlikeHeaps 14 = .ok (.ifCond .eq 20, 3) := by decide +kernel
theorem dX3_unlikeHeaps_17 : decode cX3_unlikeHeaps 17 = .ok (.aload_n 0, 1) := by decide +kernel
theorem dX3_unlikeHeaps_18 : decode cX3_unlikeHeaps 18 = .ok (.getfield 9, 3) := by decide +kernel
theorem dX3_unlikeHeaps_21 : decode cX3_unlikeHeaps 21 = .ok (.iload_n 2, 1) := by decide +kernel
theorem dX3_unlikeHeaps_22 : decode cX3_unlikeHeaps 22 = .ok (.iaload, 1) := by decide +kernel
theorem dX3_unlikeHeaps_23 : decode cX3_unlikeHeaps 23 = .ok (.aload_n 0, 1) := by decide +kernel
theorem dX3_unlikeHeaps_24 : decode cX3_unlikeHeaps 24 = .ok (.getfield 9, 3) := by decide +kernel
theorem dX3_unlikeHeaps_27 : decode cX3_unlikeHeaps 27 = .ok (.iload_n 2, 1) := by decide +kernel
theorem dX3_unlikeHeaps_28 : decode cX3_unlikeHeaps 28 = .ok (.iconst 1, 1) := by decide +kernel
theorem dX3_unlikeHeaps_29 : decode cX3_unlikeHeaps 29 = .ok (.isub, 1) := by decide +kernel
theorem dX3_unlikeHeaps_30 : decode cX3_unlikeHeaps 30 = .ok (.iaload, 1) := by decide +kernel
theorem dX3_unlikeHeaps_31 : decode cX3_unlikeHeaps 31 = .ok (.if_icmp .eq 7, 3) := by decide +kernel
theorem dX3_unlikeHeaps_34 : decode cX3_unlikeHeaps 34 = .ok (.iconst 1, 1) := by decide +kernel
theorem dX3_unlikeHeaps_35 : decode cX3_unlikeHeaps 35 = .ok (.goto 4, 3) := by decide +kernel
theorem dX3_unlikeHeaps_38 : decode cX3_unlikeHeaps 38 = .ok (.iconst 0, 1) := by decide +kernel
theorem dX3_unlikeHeaps_39 : decode cX3_unlikeHeaps 39 = .ok (.iadd, 1) := by decide +kernel
theorem dX3_unlikeHeaps_40 : decode cX3_unlikeHeaps 40 = .ok (.istore_n 1, 1) := by decide +kernel
theorem dX3_unlikeHeaps_41 : decode cX3_unlikeHeaps 41 = .ok (.iinc 2 1, 3) := by decide +kernel
theorem dX3_unlikeHeaps_44 : decode cX3_unlikeHeaps 44 = .ok (.goto (-40), 3) := by decide +kernel
theorem dX3_unlikeHeaps_47 : decode cX3_unlikeHeaps 47 = .ok (.iload_n 1, 1) := by decide +kernel
theorem dX3_unlikeHeaps_48 : decode cX3_unlikeHeaps 48 = .ok (.ireturn, 1) := by decide +kernel
theorem dX3_tallyInto_0 : decode cX3_tallyInto 0 = .ok (.aload_n 1, 1) := by decide +kernel
theorem dX3_tallyInto_1 : decode cX3_tallyInto 1 = .ok (.iconst 0, 1) := by decide +kernel
theorem dX3_tallyInto_2 : decode cX3_tallyInto 2 = .ok (.invokestatic 37, 3) := by decide +kernel
theorem dX3_tallyInto_5 : decode cX3_tallyInto 5 = .ok (.iconst 0, 1) := by decide +kernel
theorem dX3_tallyInto_6 : decode cX3_tallyInto 6 = .ok (.istore_n 2, 1) := by decide +kernel
theorem dX3_tallyInto_7 : decode cX3_tallyInto 7 = .ok (.iload_n 2, 1) := by decide +kernel
theorem dX3_tallyInto_8 : decode cX3_tallyInto 8 = .ok (.aload_n 0, 1) := by decide +kernel
theorem dX3_tallyInto_9 : decode cX3_tallyInto 9 = .ok (.getfield 15, 3) := by decide +kernel
theorem dX3_tallyInto_12 : decode cX3_tallyInto 12 = .ok (.if_icmp .ge 29, 3) := by decide +kernel
theorem dX3_tallyInto_15 : decode cX3_tallyInto 15 = .ok (.aload_n 0, 1) := by decide +kernel
theorem dX3_tallyInto_16 : decode cX3_tallyInto 16 = .ok (.getfield 9, 3) := by decide +kernel
theorem dX3_tallyInto_19 : decode cX3_tallyInto 19 = .ok (.iload_n 2, 1) := by decide +kernel
theorem dX3_tallyInto_20 : decode cX3_tallyInto 20 = .ok (.iaload, 1) := by decide +kernel
theorem dX3_tallyInto_21 : decode cX3_tallyInto 21 = .ok (.istore_n 3, 1) := by decide +kernel
theorem dX3_tallyInto_22 : decode cX3_tallyInto 22 = .ok (.iload_n 3, 1) := by decide +kernel
theorem dX3_tallyInto_23 : decode cX3_tallyInto 23 = .ok (.aload_n 1, 1) := by decide +kernel
theorem dX3_tallyInto_24 : decode cX3_tallyInto 24 = .ok (.arraylength, 1) := by decide +kernel
theorem dX3_tallyInto_25 : decode cX3_tallyInto 25 = .ok (.if_icmp .ge 10, 3) := by decide +kernel
theorem dX3_tallyInto_28 : decode cX3_tallyInto 28 = .ok (.aload_n 1, 1) := by decide +kernel
theorem dX3_tallyInto_29 : decode cX3_tallyInto 29 = .ok (.iload_n 3, 1) := by decide +kernel
theorem dX3_tallyInto_30 : decode cX3_tallyInto 30 = .ok (.dup2, 1) := by decide +kernel
theorem dX3_tallyInto_31 : decode cX3_tallyInto 31 = .ok (.iaload, 1) := by decide +kernel
theorem dX3_tallyInto_32 : decode cX3_tallyInto 32 = .ok (.iconst 1, 1) := by decide +kernel
theorem dX3_tallyInto_33 : decode cX3_tallyInto 33 = .ok (.iadd, 1) := by decide +kernel
theorem dX3_tallyInto_34 : decode cX3_tallyInto 34 = .ok (.iastore, 1) := by decide +kernel
theorem dX3_tallyInto_35 : decode cX3_tallyInto 35 = .ok (.iinc 2 1, 3) := by decide +kernel
theorem dX3_tallyInto_38 : decode cX3_tallyInto 38 = .ok (.goto (-31), 3) := by decide +kernel
theorem dX3_tallyInto_41 : decode cX3_tallyInto 41 = .ok (.return_, 1) := by decide +kernel
theorem dX3_digestOnto_0 : decode cX3_digestOnto 0 = .ok (.ldc2_w 43, 3) := by decide +kernel
theorem dX3_digestOnto_3 : decode cX3_digestOnto 3 = .ok (.lload_n 1, 1) := by decide +kernel
theorem dX3_digestOnto_4 : decode cX3_digestOnto 4 = .ok (.lmul, 1) := by decide +kernel
theorem dX3_digestOnto_5 : decode cX3_digestOnto 5 = .ok (.aload_n 0, 1) := by decide +kernel
theorem dX3_digestOnto_6 : decode cX3_digestOnto 6 = .ok (.getfield 15, 3) := by decide +kernel
theorem dX3_digestOnto_9 : decode cX3_digestOnto 9 = .ok (.i2l, 1) := by decide +kernel
theorem dX3_digestOnto_10 : decode cX3_digestOnto 10 = .ok (.ladd, 1) := by decide +kernel
theorem dX3_digestOnto_11 : decode cX3_digestOnto 11 = .ok (.lstore_n 3, 1) := by decide +kernel
theorem dX3_digestOnto_12 : decode cX3_digestOnto 12 = .ok (.iconst 0, 1) := by decide +kernel
theorem dX3_digestOnto_13 : decode cX3_digestOnto 13 = .ok (.istore 5, 2) := by decide +kernel
theorem dX3_digestOnto_15 : decode cX3_digestOnto 15 = .ok (.iload 5, 2) := by decide +kernel
theorem dX3_digestOnto_17 : decode cX3_digestOnto 17 = .ok (.aload_n 0, 1) := by decide +kernel
theorem dX3_digestOnto_18 : decode cX3_digestOnto 18 = .ok (.getfield 15, 3) := by decide +kernel
theorem dX3_digestOnto_21 : decode cX3_digestOnto 21 = .ok (.if_icmp .ge 24, 3) := by decide +kernel
theorem dX3_digestOnto_24 : decode cX3_digestOnto 24 = .ok (.ldc2_w 43, 3) := by decide +kernel
theorem dX3_digestOnto_27 : decode cX3_digestOnto 27 = .ok (.lload_n 3, 1) := by decide +kernel
theorem dX3_digestOnto_28 : decode cX3_digestOnto 28 = .ok (.lmul, 1) := by decide +kernel
theorem dX3_digestOnto_29 : decode cX3_digestOnto 29 = .ok (.aload_n 0, 1) := by decide +kernel
theorem dX3_digestOnto_30 : decode cX3_digestOnto 30 = .ok (.getfield 9, 3) := by decide +kernel
theorem dX3_digestOnto_33 : decode cX3_digestOnto 33 = .ok (.iload 5, 2) := by decide +kernel
theorem dX3_digestOnto_35 : decode cX3_digestOnto 35 = .ok (.iaload, 1) := by decide +kernel
theorem dX3_digestOnto_36 : decode cX3_digestOnto 36 = .ok (.i2l, 1) := by decide +kernel
theorem dX3_digestOnto_37 : decode cX3_digestOnto 37 = .ok (.ladd, 1) := by decide +kernel
theorem dX3_digestOnto_38 : decode cX3_digestOnto 38 = .ok (.lstore_n 3, 1) := by decide +kernel
theorem dX3_digestOnto_39 : decode cX3_digestOnto 39 = .ok (.iinc 5 1, 3) := by decide +kernel
theorem dX3_digestOnto_42 : decode cX3_digestOnto 42 = .ok (.goto (-27), 3) := by decide +kernel
theorem dX3_digestOnto_45 : decode cX3_digestOnto 45 = .ok (.lload_n 3, 1) := by decide +kernel
theorem dX3_digestOnto_46 : decode cX3_digestOnto 46 = .ok (.lreturn, 1) := by decide +kernel
theorem dJ7_fill_d0a16_0 : decode cJ7_fill_d0a16 0 = .ok (.iconst 0, 1) := by decide +kernel
theorem dJ7_fill_d0a16_1 : decode cJ7_fill_d0a16 1 = .ok (.istore_n 3, 1) := by decide +kernel
theorem dJ7_fill_d0a16_2 : decode cJ7_fill_d0a16 2 = .ok (.aload_n 0, 1) := by decide +kernel
theorem dJ7_fill_d0a16_3 : decode cJ7_fill_d0a16 3 = .ok (.arraylength, 1) := by decide +kernel
theorem dJ7_fill_d0a16_4 : decode cJ7_fill_d0a16 4 = .ok (.istore 4, 2) := by decide +kernel
theorem dJ7_fill_d0a16_6 : decode cJ7_fill_d0a16 6 = .ok (.iload_n 3, 1) := by decide +kernel
theorem dJ7_fill_d0a16_7 : decode cJ7_fill_d0a16 7 = .ok (.iload 4, 2) := by decide +kernel
theorem dJ7_fill_d0a16_9 : decode cJ7_fill_d0a16 9 = .ok (.if_icmp .ge 13, 3) := by decide +kernel
theorem dJ7_fill_d0a16_12 : decode cJ7_fill_d0a16 12 = .ok (.aload_n 0, 1) := by decide +kernel
theorem dJ7_fill_d0a16_13 : decode cJ7_fill_d0a16 13 = .ok (.iload_n 3, 1) := by decide +kernel
theorem dJ7_fill_d0a16_14 : decode cJ7_fill_d0a16 14 = .ok (.lload_n 1, 1) := by decide +kernel
theorem dJ7_fill_d0a16_15 : decode cJ7_fill_d0a16 15 = .ok (.lastore, 1) := by decide +kernel
theorem dJ7_fill_d0a16_16 : decode cJ7_fill_d0a16 16 = .ok (.iinc 3 1, 3) := by decide +kernel
theorem dJ7_fill_d0a16_19 : decode cJ7_fill_d0a16 19 = .ok (.goto (-13), 3) := by decide +kernel
theorem dJ7_fill_d0a16_22 : decode cJ7_fill_d0a16 22 = .ok (.return_, 1) := by decide +kernel
theorem dJ7_fill_53178_0 : decode cJ7_fill_53178 0 = .ok (.iconst 0, 1) := by decide +kernel
theorem dJ7_fill_53178_1 : decode cJ7_fill_53178 1 = .ok (.istore_n 2, 1) := by decide +kernel
theorem dJ7_fill_53178_2 : decode cJ7_fill_53178 2 = .ok (.aload_n 0, 1) := by decide +kernel
theorem dJ7_fill_53178_3 : decode cJ7_fill_53178 3 = .ok (.arraylength, 1) := by decide +kernel
theorem dJ7_fill_53178_4 : decode cJ7_fill_53178 4 = .ok (.istore_n 3, 1) := by decide +kernel
theorem dJ7_fill_53178_5 : decode cJ7_fill_53178 5 = .ok (.iload_n 2, 1) := by decide +kernel
theorem dJ7_fill_53178_6 : decode cJ7_fill_53178 6 = .ok (.iload_n 3, 1) := by decide +kernel
theorem dJ7_fill_53178_7 : decode cJ7_fill_53178 7 = .ok (.if_icmp .ge 13, 3) := by decide +kernel
theorem dJ7_fill_53178_10 : decode cJ7_fill_53178 10 = .ok (.aload_n 0, 1) := by decide +kernel
theorem dJ7_fill_53178_11 : decode cJ7_fill_53178 11 = .ok (.iload_n 2, 1) := by decide +kernel
theorem dJ7_fill_53178_12 : decode cJ7_fill_53178 12 = .ok (.iload_n 1, 1) := by decide +kernel
theorem dJ7_fill_53178_13 : decode cJ7_fill_53178 13 = .ok (.iastore, 1) := by decide +kernel
theorem dJ7_fill_53178_14 : decode cJ7_fill_53178 14 = .ok (.iinc 2 1, 3) := by decide +kernel
theorem dJ7_fill_53178_17 : decode cJ7_fill_53178 17 = .ok (.goto (-12), 3) := by decide +kernel
theorem dJ7_fill_53178_20 : decode cJ7_fill_53178 20 = .ok (.return_, 1) := by decide +kernel
end
section
theorem dX2_init_0 : decode cX2_init 0 = .ok (.aload_n 0, 1) := by decide +kernel
theorem dX2_init_1 : decode cX2_init 1 = .ok (.invokespecial 3, 3) := by decide +kernel
theorem dX2_init_4 : decode cX2_init 4 = .ok (.aload_n 0, 1) := by decide +kernel
theorem dX2_init_5 : decode cX2_init 5 = .ok (.sipush 361, 3) := by decide +kernel
theorem dX2_init_8 : decode cX2_init 8 = .ok (.newarray .int, 2) := by decide +kernel
theorem dX2_init_10 : decode cX2_init 10 = .ok (.putfield 9, 3) := by decide +kernel
theorem dX2_init_13 : decode cX2_init 13 = .ok (.aload_n 0, 1) := by decide +kernel
theorem dX2_init_14 : decode cX2_init 14 = .ok (.bipush 20, 2) := by decide +kernel
theorem dX2_init_16 : decode cX2_init 16 = .ok (.newarray .int, 2) := by decide +kernel
theorem dX2_init_18 : decode cX2_init 18 = .ok (.putfield 15, 3) := by decide +kernel
theorem dX2_init_21 : decode cX2_init 21 = .ok (.aload_n 0, 1) := by decide +kernel
theorem dX2_init_22 : decode cX2_init 22 = .ok (.bipush 20, 2) := by decide +kernel
theorem dX2_init_24 : decode cX2_init 24 = .ok (.newarray .int, 2) := by decide +kernel
theorem dX2_init_26 : decode cX2_init 26 = .ok (.putfield 18, 3) := by decide +kernel
theorem dX2_init_29 : decode cX2_init 29 = .ok (.aload_n 0, 1) := by decide +kernel
theorem dX2_init_30 : decode cX2_init 30 = .ok (.bipush 20, 2) := by decide +kernel
theorem dX2_init_32 : decode cX2_init 32 = .ok (.newarray .int, 2) := by decide +kernel
theorem dX2_init_34 : decode cX2_init 34 = .ok (.putfield 21, 3) := by decide +kernel
theorem dX2_init_37 : decode cX2_init 37 = .ok (.aload_n 0, 1) := by decide +kernel
theorem dX2_init_38 : decode cX2_init 38 = .ok (.new 24, 3) := by decide +kernel
theorem dX2_init_41 : decode cX2_init 41 = .ok (.dup, 1) := by decide +kernel
theorem dX2_init_42 : decode cX2_init 42 = .ok (.invokespecial 26, 3) := by decide +kernel
theorem dX2_init_45 : decode cX2_init 45 = .ok (.putfield 27, 3) := by decide +kernel
theorem dX2_init_48 : decode cX2_init 48 = .ok (.aload_n 0, 1) := by decide +kernel
theorem dX2_init_49 : decode cX2_init 49 = .ok (.new 24, 3) := by decide +kernel
theorem dX2_init_52 : decode cX2_init 52 = .ok (.dup, 1) := by decide +kernel
theorem dX2_init_53 : decode cX2_init 53 = .ok (.invokespecial 26, 3) := by decide +kernel
theorem dX2_init_56 : decode cX2_init 56 = .ok (.putfield 31, 3) := by decide +kernel
theorem dX2_init_59 : decode cX2_init 59 = .ok (.aload_n 0, 1) := by decide +kernel
theorem dX2_init_60 : decode cX2_init 60 = .ok (.sipush 385, 3) := by decide +kernel
theorem dX2_init_63 : decode cX2_init 63 = .ok (.newarray .long, 2) := by decide +kernel
theorem dX2_init_65 : decode cX2_init 65 = .ok (.putfield 34, 3) := by decide +kernel
theorem dX2_init_68 : decode cX2_init 68 = .ok (.aload_n 0, 1) := by decide +kernel
theorem dX2_init_69 : decode cX2_init 69 = .ok (.sipush 385, 3) := by decide +kernel
theorem dX2_init_72 : decode cX2_init 72 = .ok (.newarray .long, 2) := by decide +kernel
theorem dX2_init_74 : decode cX2_init 74 = .ok (.putfield 38, 3) := by decide +kernel
theorem dX2_init_77 : decode cX2_init 77 = .ok (.iconst 0, 1) := by decide +kernel
theorem dX2_init_78 : decode cX2_init 78 = .ok (.istore_n 1, 1) := by decide +kernel
theorem dX2_init_79 : decode cX2_init 79 = .ok (.iload_n 1, 1) := by decide +kernel
theorem dX2_init_80 : decode cX2_init 80 = .ok (.bipush 19, 2) := by decide +kernel
theorem dX2_init_82 : decode cX2_init 82 = .ok (.if_icmp .ge 72, 3) := by decide +kernel
theorem dX2_init_85 : decode cX2_init 85 = .ok (.aload_n 0, 1) := by decide +kernel
theorem dX2_init_86 : decode cX2_init 86 = .ok (.getfield 9, 3) := by decide +kernel
theorem dX2_init_89 : decode cX2_init 89 = .ok (.iload_n 1, 1) := by decide +kernel
theorem dX2_init_90 : decode cX2_init 90 = .ok (.bipush 19, 2) := by decide +kernel
theorem dX2_init_92 : decode cX2_init 92 = .ok (.imul, 1) := by decide +kernel
theorem dX2_init_93 : decode cX2_init 93 = .ok (.iconst 1, 1) := by decide +kernel
theorem dX2_init_94 : decode cX2_init 94 = .ok (.iastore, 1) := by decide +kernel
theorem dX2_init_95 : decode cX2_init 95 = .ok (.iconst 1, 1) := by decide +kernel
theorem dX2_init_96 : decode cX2_init 96 = .ok (.istore_n 2, 1) := by decide +kernel
theorem dX2_init_97 : decode cX2_init 97 = .ok (.iload_n 2, 1) := by decide +kernel
theorem dX2_init_98 : decode cX2_init 98 = .ok (.iload_n 1, 1) := by decide +kernel
theorem dX2_init_99 : decode cX2_init 99 = .ok (.if_icmp .gt 49, 3) := by decide +kernel
theorem dX2_init_102 : decode cX2_init 102 = .ok (.aload_n 0, 1) := by decide +kernel
theorem dX2_init_103 : decode cX2_init 103 = .ok (.getfield 9, 3) := by decide +kernel
theorem dX2_init_106 : decode cX2_init 106 = .ok (.iload_n 1, 1) := by decide +kernel
theorem dX2_init_107 : decode cX2_init 107 = .ok (.bipush 19, 2) := by decide +kernel
theorem dX2_init_109 : decode cX2_init 109 = .ok (.imul, 1) := by decide +kernel
theorem dX2_init_110 : decode cX2_init 110 = .ok (.iload_n 2, 1) := by decide +kernel
theorem dX2_init_111 : decode cX2_init 111 = .ok (.iadd, 1) := by decide +kernel
theorem dX2_init_112 : decode cX2_init 112 = .ok (.aload_n 0, 1) := by decide +kernel
theorem dX2_init_113 : decode cX2_init 113 = .ok (.getfield 9, 3) := by decide +kernel
theorem dX2_init_116 : decode cX2_init 116 = .ok (.iload_n 1, 1) := by decide +kernel
theorem dX2_init_117 : decode cX2_init 117 = .ok (.iconst 1, 1) := by decide +kernel
theorem dX2_init_118 : decode cX2_init 118 = .ok (.isub, 1) := by decide +kernel
theorem dX2_init_119 : decode cX2_init 119 = .ok (.bipush 19, 2) := by decide +kernel
theorem dX2_init_121 : decode cX2_init 121 = .ok (.imul, 1) := by decide +kernel
theorem dX2_init_122 : decode cX2_init 122 = .ok (.iload_n 2, 1) := by decide +kernel
theorem dX2_init_123 : decode cX2_init 123 = .ok (.iadd, 1) := by decide +kernel
theorem dX2_init_124 : decode cX2_init 124 = .ok (.iconst 1, 1) := by decide +kernel
theorem dX2_init_125 : decode cX2_init 125 = .ok (.isub, 1) := by decide +kernel
theorem dX2_init_126 : decode cX2_init 126 = .ok (.iaload, 1) := by decide +kernel
theorem dX2_init_127 : decode cX2_init 127 = .ok (.aload_n 0, 1) := by decide +kernel
theorem dX2_init_128 : decode cX2_init 128 = .ok (.getfield 9, 3) := by decide +kernel
theorem dX2_init_131 : decode cX2_init 131 = .ok (.iload_n 1, 1) := by decide +kernel
theorem dX2_init_132 : decode cX2_init 132 = .ok (.iconst 1, 1) := by decide +kernel
theorem dX2_init_133 : decode cX2_init 133 = .ok (.isub, 1) := by decide +kernel
theorem dX2_init_134 : decode cX2_init 134 = .ok (.bipush 19, 2) := by decide +kernel
theorem dX2_init_136 : decode cX2_init 136 = .ok (.imul, 1) := by decide +kernel
theorem dX2_init_137 : decode cX2_init 137 = .ok (.iload_n 2, 1) := by decide +kernel
theorem dX2_init_138 : decode cX2_init 138 = .ok (.iadd, 1) := by decide +kernel
theorem dX2_init_139 : decode cX2_init 139 = .ok (.iaload, 1) := by decide +kernel
theorem dX2_init_140 : decode cX2_init 140 = .ok (.iadd, 1) := by decide +kernel
theorem dX2_init_141 : decode cX2_init 141 = .ok (.iastore, 1) := by decide +kernel
theorem dX2_init_142 : decode cX2_init 142 = .ok (.iinc 2 1, 3) := by decide +kernel
theorem dX2_init_145 : decode cX2_init 145 = .ok (.goto (-48), 3) := by decide +kernel
theorem dX2_init_148 : decode cX2_init 148 = .ok (.iinc 1 1, 3) := by decide +kernel
theorem dX2_init_151 : decode cX2_init 151 = .ok (.goto (-72), 3) := by decide +kernel
theorem dX2_init_154 : decode cX2_init 154 = .ok (.return_, 1) := by decide +kernel
theorem dX2_chosenAt_0 : decode cX2_chosenAt 0 = .ok (.iload_n 1, 1) := by decide +kernel
theorem dX2_chosenAt_1 : decode cX2_chosenAt 1 = .ok (.ifCond .lt 33, 3) := by decide +kernel
theorem dX2_chosenAt_4 : decode cX2_chosenAt 4 = .ok (.iload_n 1, 1) := by decide +kernel
theorem dX2_chosenAt_5 : decode cX2_chosenAt 5 = .ok (.bipush 19, 2) := by decide +kernel
theorem dX2_chosenAt_7 : decode cX2_chosenAt 7 = .ok (.if_icmp .ge 27, 3) := by decide +kernel
theorem dX2_chosenAt_10 : decode cX2_chosenAt 10 = .ok (.iload_n 2, 1) := by decide +kernel
theorem dX2_chosenAt_11 : decode cX2_chosenAt 11 = .ok (.ifCond .lt 23, 3) := by decide +kernel
theorem dX2_chosenAt_14 : decode cX2_chosenAt 14 = .ok (.iload_n 2, 1) := by decide +kernel
theorem dX2_chosenAt_15 : decode cX2_chosenAt 15 = .ok (.bipush 19, 2) := by decide +kernel
theorem dX2_chosenAt_17 : decode cX2_chosenAt 17 = .ok (.if_icmp .ge 17, 3) := by decide +kernel
theorem dX2_chosenAt_20 : decode cX2_chosenAt 20 = .ok (.aload_n 0, 1) := by decide +kernel
theorem dX2_chosenAt_21 : decode cX2_chosenAt 21 = .ok (.getfield 9, 3) := by decide +kernel
theorem dX2_chosenAt_24 : decode cX2_chosenAt 24 = .ok (.iload_n 1, 1) := by decide +kernel
theorem dX2_chosenAt_25 : decode cX2_chosenAt 25 = .ok (.bipush 19, 2) := by decide +kernel
theorem dX2_chosenAt_27 : decode cX2_chosenAt 27 = .ok (.imul, 1) := by decide +kernel
theorem dX2_chosenAt_28 : decode cX2_chosenAt 28 = .ok (.iload_n 2, 1) := by decide +kernel
theorem dX2_chosenAt_29 : decode cX2_chosenAt 29 = .ok (.iadd, 1) := by decide +kernel
theorem dX2_chosenAt_30 : decode cX2_chosenAt 30 = .ok (.iaload, 1) := by decide +kernel
theorem dX2_chosenAt_31 : decode cX2_chosenAt 31 = .ok (.goto 4, 3) := by decide +kernel
theorem dX2_chosenAt_34 : decode cX2_chosenAt 34 = .ok (.iconst 0, 1) := by decide +kernel
theorem dX2_chosenAt_35 : decode cX2_chosenAt 35 = .ok (.ireturn, 1) := by decide +kernel
theorem dX2_choicesBetween_0 : decode cX2_choicesBetween 0 = .ok (.aload_n 1, 1) := by decide +kernel
theorem dX2_choicesBetween_1 : decode cX2_choicesBetween 1 = .ok (.getfield 41, 3) := by decide +kernel
theorem dX2_choicesBetween_4 : decode cX2_choicesBetween 4 = .ok (.aload_n 2, 1) := by decide +kernel
theorem dX2_choicesBetween_5 : decode cX2_choicesBetween 5 = .ok (.getfield 41, 3) := by decide +kernel
theorem dX2_choicesBetween_8 : decode cX2_choicesBetween 8 = .ok (.if_icmp .eq 5, 3) := by decide +kernel
theorem dX2_choicesBetween_11 : decode cX2_choicesBetween 11 = .ok (.iconst 0, 1) := by decide +kernel
theorem dX2_choicesBetween_12 : decode cX2_choicesBetween 12 = .ok (.ireturn, 1) := by decide +kernel
theorem dX2_choicesBetween_13 : decode cX2_choicesBetween 13 = .ok (.aload_n 1, 1) := by decide +kernel
theorem dX2_choicesBetween_14 : decode cX2_choicesBetween 14 = .ok (.aload_n 0, 1) := by decide +kernel
theorem dX2_choicesBetween_15 : decode cX2_choicesBetween 15 = .ok (.getfield 15, 3) := by decide +kernel
theorem dX2_choicesBetween_18 : decode cX2_choicesBetween 18 = .ok (.invokevirtual 45, 3) := by decide +kernel
theorem dX2_choicesBetween_21 : decode cX2_choicesBetween 21 = .ok (.aload_n 2, 1) := by decide +kernel
theorem dX2_choicesBetween_22 : decode cX2_choicesBetween 22 = .ok (.aload_n 0, 1) := by decide +kernel
theorem dX2_choicesBetween_23 : decode cX2_choicesBetween 23 = .ok (.getfield 21, 3) := by decide +kernel
theorem dX2_choicesBetween_26 : decode cX2_choicesBetween 26 = .ok (.invokevirtual 45, 3) := by decide +kernel
theorem dX2_choicesBetween_29 : decode cX2_choicesBetween 29 = .ok (.iconst 0, 1) := by decide +kernel
theorem dX2_choicesBetween_30 : decode cX2_choicesBetween 30 = .ok (.istore_n 3, 1) := by decide +kernel
theorem dX2_choicesBetween_31 : decode cX2_choicesBetween 31 = .ok (.iconst 0, 1) := by decide +kernel
theorem dX2_choicesBetween_32 : decode cX2_choicesBetween 32 = .ok (.istore 4, 2) := by decide +kernel
theorem dX2_choicesBetween_34 : decode cX2_choicesBetween 34 = .ok (.iload 4, 2) := by decide +kernel
theorem dX2_choicesBetween_36 : decode cX2_choicesBetween 36 = .ok (.aload_n 1, 1) := by decide +kernel
theorem dX2_choicesBetween_37 : decode cX2_choicesBetween 37 = .ok (.getfield 49, 3) := by decide +kernel
theorem dX2_choicesBetween_40 : decode cX2_choicesBetween 40 = .ok (.if_icmp .gt 44, 3) := by decide +kernel
theorem dX2_choicesBetween_43 : decode cX2_choicesBetween 43 = .ok (.iload 4, 2) := by decide +kernel
theorem dX2_choicesBetween_45 : decode cX2_choicesBetween 45 = .ok (.bipush 19, 2) := by decide +kernel
theorem dX2_choicesBetween_47 : decode cX2_choicesBetween 47 = .ok (.if_icmp .ge 37, 3) := by decide +kernel
theorem dX2_choicesBetween_50 : decode cX2_choicesBetween 50 = .ok (.iload 4, 2) := by decide +kernel
theorem dX2_choicesBetween_52 : decode cX2_choicesBetween 52 = .ok (.ifCond .eq 13, 3) := by decide +kernel
theorem dX2_choicesBetween_55 : decode cX2_choicesBetween 55 = .ok (.aload_n 0, 1) := by decide +kernel
theorem dX2_choicesBetween_56 : decode cX2_choicesBetween 56 = .ok (.getfield 21, 3) := by decide +kernel
theorem dX2_choicesBetween_59 : decode cX2_choicesBetween 59 = .ok (.iload 4, 2) := by decide +kernel
theorem dX2_choicesBetween_61 : decode cX2_choicesBetween 61 = .ok (.iaload, 1) := by decide +kernel
theorem dX2_choicesBetween_62 : decode cX2_choicesBetween 62 = .ok (.ifCond .le 16, 3) := by decide +kernel
theorem dX2_choicesBetween_65 : decode cX2_choicesBetween 65 = .ok (.iload_n 3, 1) := by decide +kernel
theorem dX2_choicesBetween_66 : decode cX2_choicesBetween 66 = .ok (.aload_n 0, 1) := by decide +kernel
theorem dX2_choicesBetween_67 : decode cX2_choicesBetween 67 = .ok (.iload 4, 2) := by decide +kernel
theorem dX2_choicesBetween_69 : decode cX2_choicesBetween 69 = .ok (.aload_n 1, 1) := by decide +kernel
theorem dX2_choicesBetween_70 : decode cX2_choicesBetween 70 = .ok (.getfield 41, 3) := by decide +kernel
theorem dX2_choicesBetween_73 : decode cX2_choicesBetween 73 = .ok (.invokevirtual 52, 3) := by decide +kernel
theorem dX2_choicesBetween_76 : decode cX2_choicesBetween 76 = .ok (.iadd, 1) := by decide +kernel
theorem dX2_choicesBetween_77 : decode cX2_choicesBetween 77 = .ok (.istore_n 3, 1) := by decide +kernel
theorem dX2_choicesBetween_78 : decode cX2_choicesBetween 78 = .ok (.iinc 4 1, 3) := by decide +kernel
theorem dX2_choicesBetween_81 : decode cX2_choicesBetween 81 = .ok (.goto (-47), 3) := by decide +kernel
theorem dX2_choicesBetween_84 : decode cX2_choicesBetween 84 = .ok (.iload_n 3, 1) := by decide +kernel
theorem dX2_choicesBetween_85 : decode cX2_choicesBetween 85 = .ok (.ireturn, 1) := by decide +kernel
theorem dX2_choicesGiving_0 : decode cX2_choicesGiving 0 = .ok (.iconst 1, 1) := by decide +kernel
theorem dX2_choicesGiving_1 : decode cX2_choicesGiving 1 = .ok (.istore_n 3, 1) := by decide +kernel
theorem dX2_choicesGiving_2 : decode cX2_choicesGiving 2 = .ok (.iconst 0, 1) := by decide +kernel
theorem dX2_choicesGiving_3 : decode cX2_choicesGiving 3 = .ok (.istore 4, 2) := by decide +kernel
theorem dX2_choicesGiving_5 : decode cX2_choicesGiving 5 = .ok (.iconst 0, 1) := by decide +kernel
theorem dX2_choicesGiving_6 : decode cX2_choicesGiving 6 = .ok (.istore 5, 2) := by decide +kernel
theorem dX2_choicesGiving_8 : decode cX2_choicesGiving 8 = .ok (.iload_n 2, 1) := by decide +kernel
theorem dX2_choicesGiving_9 : decode cX2_choicesGiving 9 = .ok (.bipush 18, 2) := by decide +kernel
theorem dX2_choicesGiving_11 : decode cX2_choicesGiving 11 = .ok (.invokestatic 56, 3) := by decide +kernel
theorem dX2_choicesGiving_14 : decode cX2_choicesGiving 14 = .ok (.istore 6, 2) := by decide +kernel
theorem dX2_choicesGiving_16 : decode cX2_choicesGiving 16 = .ok (.iload 6, 2) := by decide +kernel
theorem dX2_choicesGiving_18 : decode cX2_choicesGiving 18 = .ok (.ifCond .le 87, 3) := by decide +kernel
theorem dX2_choicesGiving_21 : decode cX2_choicesGiving 21 = .ok (.aload_n 0, 1) := by decide +kernel
theorem dX2_choicesGiving_22 : decode cX2_choicesGiving 22 = .ok (.getfield 15, 3) := by decide +kernel
theorem dX2_choicesGiving_25 : decode cX2_choicesGiving 25 = .ok (.iload 6, 2) := by decide +kernel
theorem dX2_choicesGiving_27 : decode cX2_choicesGiving 27 = .ok (.iaload, 1) := by decide +kernel
theorem dX2_choicesGiving_28 : decode cX2_choicesGiving 28 = .ok (.iload 5, 2) := by decide +kernel
theorem dX2_choicesGiving_30 : decode cX2_choicesGiving 30 = .ok (.iadd, 1) := by decide +kernel
theorem dX2_choicesGiving_31 : decode cX2_choicesGiving 31 = .ok (.iload 6, 2) := by decide +kernel
theorem dX2_choicesGiving_33 : decode cX2_choicesGiving 33 = .ok (.iload_n 1, 1) := by decide +kernel
theorem dX2_choicesGiving_34 : decode cX2_choicesGiving 34 = .ok (.if_icmp .ne 7, 3) := by decide +kernel
theorem dX2_choicesGiving_37 : decode cX2_choicesGiving 37 = .ok (.iconst 1, 1) := by decide +kernel
theorem dX2_choicesGiving_38 : decode cX2_choicesGiving 38 = .ok (.goto 4, 3) := by decide +kernel
theorem dX2_choicesGiving_41 : decode cX2_choicesGiving 41 = .ok (.iconst 0, 1) := by decide +kernel
theorem dX2_choicesGiving_42 : decode cX2_choicesGiving 42 = .ok (.iadd, 1) := by decide +kernel
theorem dX2_choicesGiving_43 : decode cX2_choicesGiving 43 = .ok (.aload_n 0, 1) := by decide +kernel
theorem dX2_choicesGiving_44 : decode cX2_choicesGiving 44 = .ok (.getfield 21, 3) := by decide +kernel
theorem dX2_choicesGiving_47 : decode cX2_choicesGiving 47 = .ok (.iload 6, 2) := by decide +kernel
theorem dX2_choicesGiving_49 : decode cX2_choicesGiving 49 = .ok (.iaload, 1) := by decide +kernel
theorem dX2_choicesGiving_50 : decode cX2_choicesGiving 50 = .ok (.isub, 1) := by decide +kernel
theorem dX2_choicesGiving_51 : decode cX2_choicesGiving 51 = .ok (.istore 7, 2) := by decide +kernel
theorem dX2_choicesGiving_53 : decode cX2_choicesGiving 53 = .ok (.iload 7, 2) := by decide +kernel
theorem dX2_choicesGiving_55 : decode cX2_choicesGiving 55 = .ok (.ifCond .lt 15, 3) := by decide +kernel
theorem dX2_choicesGiving_58 : decode cX2_choicesGiving 58 = .ok (.iload 7, 2) := by decide +kernel
theorem dX2_choicesGiving_60 : decode cX2_choicesGiving 60 = .ok (.aload_n 0, 1) := by decide +kernel
theorem dX2_choicesGiving_61 : decode cX2_choicesGiving 61 = .ok (.getfield 15, 3) := by decide +kernel
theorem dX2_choicesGiving_64 : decode cX2_choicesGiving 64 = .ok (.iload 6, 2) := by decide +kernel
theorem dX2_choicesGiving_66 : decode cX2_choicesGiving 66 = .ok (.iaload, 1) := by decide +kernel
theorem dX2_choicesGiving_67 : decode cX2_choicesGiving 67 = .ok (.if_icmp .le 5, 3) := by decide +kernel
theorem dX2_choicesGiving_70 : decode cX2_choicesGiving 70 = .ok (.iconst 0, 1) := by decide +kernel
theorem dX2_choicesGiving_71 : decode cX2_choicesGiving 71 = .ok (.ireturn, 1) := by decide +kernel
theorem dX2_choicesGiving_72 : decode cX2_choicesGiving 72 = .ok (.iload_n 3, 1) := by decide +kernel
theorem dX2_choicesGiving_73 : decode cX2_choicesGiving 73 = .ok (.aload_n 0, 1) := by decide +kernel
theorem dX2_choicesGiving_74 : decode cX2_choicesGiving 74 = .ok (.aload_n 0, 1) := by decide +kernel
theorem dX2_choicesGiving_75 : decode cX2_choicesGiving 75 = .ok (.getfield 15, 3) := by decide +kernel
theorem dX2_choicesGiving_78 : decode cX2_choicesGiving 78 = .ok (.iload 6, 2) := by decide +kernel
theorem dX2_choicesGiving_80 : decode cX2_choicesGiving 80 = .ok (.iaload, 1) := by decide +kernel
theorem dX2_choicesGiving_81 : decode cX2_choicesGiving 81 = .ok (.iload 7, 2) := by decide +kernel
theorem dX2_choicesGiving_83 : decode cX2_choicesGiving 83 = .ok (.invokevirtual 61, 3) := by decide +kernel
theorem dX2_choicesGiving_86 : decode cX2_choicesGiving 86 = .ok (.imul, 1) := by decide +kernel
theorem dX2_choicesGiving_87 : decode cX2_choicesGiving 87 = .ok (.istore_n 3, 1) := by decide +kernel
theorem dX2_choicesGiving_88 : decode cX2_choicesGiving 88 = .ok (.iload 4, 2) := by decide +kernel
theorem dX2_choicesGiving_90 : decode cX2_choicesGiving 90 = .ok (.iload 7, 2) := by decide +kernel
theorem dX2_choicesGiving_92 : decode cX2_choicesGiving 92 = .ok (.iadd, 1) := by decide +kernel
theorem dX2_choicesGiving_93 : decode cX2_choicesGiving 93 = .ok (.istore 4, 2) := by decide +kernel
theorem dX2_choicesGiving_95 : decode cX2_choicesGiving 95 = .ok (.iload 7, 2) := by decide +kernel
theorem dX2_choicesGiving_97 : decode cX2_choicesGiving 97 = .ok (.istore 5, 2) := by decide +kernel
theorem dX2_choicesGiving_99 : decode cX2_choicesGiving 99 = .ok (.iinc 6 (-1), 3) := by decide +kernel
theorem dX2_choicesGiving_102 : decode cX2_choicesGiving 102 = .ok (.goto (-86), 3) := by decide +kernel
theorem dX2_choicesGiving_105 : decode cX2_choicesGiving 105 = .ok (.iload 4, 2) := by decide +kernel
theorem dX2_choicesGiving_107 : decode cX2_choicesGiving 107 = .ok (.iload_n 1, 1) := by decide +kernel
theorem dX2_choicesGiving_108 : decode cX2_choicesGiving 108 = .ok (.if_icmp .ne 7, 3) := by decide +kernel
theorem dX2_choicesGiving_111 : decode cX2_choicesGiving 111 = .ok (.iload_n 3, 1) := by decide +kernel
theorem dX2_choicesGiving_112 : decode cX2_choicesGiving 112 = .ok (.goto 4, 3) := by decide +kernel
theorem dX2_choicesGiving_115 : decode cX2_choicesGiving 115 = .ok (.iconst 0, 1) := by decide +kernel
theorem dX2_choicesGiving_116 : decode cX2_choicesGiving 116 = .ok (.ireturn, 1) := by decide +kernel
theorem dX2_countReached_0 : decode cX2_countReached 0 = .ok (.aload_n 0, 1) := by decide +kernel
theorem dX2_countReached_1 : decode cX2_countReached 1 = .ok (.getfield 38, 3) := by decide +kernel
theorem dX2_countReached_4 : decode cX2_countReached 4 = .ok (.lconst 0, 1) := by decide +kernel
theorem dX2_countReached_5 : decode cX2_countReached 5 = .ok (.invokestatic 64, 3) := by decide +kernel
theorem dX2_countReached_8 : decode cX2_countReached 8 = .ok (.aload_n 0, 1) := by decide +kernel
theorem dX2_countReached_9 : decode cX2_countReached 9 = .ok (.aload_n 1, 1) := by decide +kernel
theorem dX2_countReached_10 : decode cX2_countReached 10 = .ok (.aload_n 2, 1) := by decide +kernel
theorem dX2_countReached_11 : decode cX2_countReached 11 = .ok (.lconst 1, 1) := by decide +kernel
theorem dX2_countReached_12 : decode cX2_countReached 12 = .ok (.invokevirtual 70, 3) := by decide +kernel
theorem dX2_countReached_15 : decode cX2_countReached 15 = .ok (.iconst 0, 1) := by decide +kernel
theorem dX2_countReached_16 : decode cX2_countReached 16 = .ok (.istore_n 3, 1) := by decide +kernel
theorem dX2_countReached_17 : decode cX2_countReached 17 = .ok (.iconst 0, 1) := by decide +kernel
theorem dX2_countReached_18 : decode cX2_countReached 18 = .ok (.istore 4, 2) := by decide +kernel
theorem dX2_countReached_20 : decode cX2_countReached 20 = .ok (.iload 4, 2) := by decide +kernel
theorem dX2_countReached_22 : decode cX2_countReached 22 = .ok (.sipush 385, 3) := by decide +kernel
theorem dX2_countReached_25 : decode cX2_countReached 25 = .ok (.if_icmp .ge 29, 3) := by decide +kernel
theorem dX2_countReached_28 : decode cX2_countReached 28 = .ok (.iload_n 3, 1) := by decide +kernel
theorem dX2_countReached_29 : decode cX2_countReached 29 = .ok (.aload_n 0, 1) := by decide +kernel
theorem dX2_countReached_30 : decode cX2_countReached 30 = .ok (.getfield 38, 3) := by decide +kernel
theorem dX2_countReached_33 : decode cX2_countReached 33 = .ok (.iload 4, 2) := by decide +kernel
theorem dX2_countReached_35 : decode cX2_countReached 35 = .ok (.laload, 1) := by decide +kernel
theorem dX2_countReached_36 : decode cX2_countReached 36 = .ok (.lconst 0, 1) := by decide +kernel
theorem dX2_countReached_37 : decode cX2_countReached 37 = .ok (.lcmp, 1) := by decide +kernel
theorem dX2_countReached_38 : decode cX2_countReached 38 = .ok (.ifCond .le 7, 3) := by decide +kernel
theorem dX2_countReached_41 : decode cX2_countReached 41 = .ok (.iconst 1, 1) := by decide +kernel
theorem dX2_countReached_42 : decode cX2_countReached 42 = .ok (.goto 4, 3) := by decide +kernel
theorem dX2_countReached_45 : decode cX2_countReached 45 = .ok (.iconst 0, 1) := by decide +kernel
theorem dX2_countReached_46 : decode cX2_countReached 46 = .ok (.iadd, 1) := by decide +kernel
theorem dX2_countReached_47 : decode cX2_countReached 47 = .ok (.istore_n 3, 1) := by decide +kernel
theorem dX2_countReached_48 : decode cX2_countReached 48 = .ok (.iinc 4 1, 3) := by decide +kernel
theorem dX2_countReached_51 : decode cX2_countReached 51 = .ok (.goto (-31), 3) := by decide +kernel
theorem dX2_countReached_54 : decode cX2_countReached 54 = .ok (.iload_n 3, 1) := by decide +kernel
theorem dX2_countReached_55 : decode cX2_countReached 55 = .ok (.ireturn, 1) := by decide +kernel
theorem dX2_choicesOfSteps_0 : decode cX2_choicesOfSteps 0 = .ok (.aload_n 0, 1) := by decide +kernel
theorem dX2_choicesOfSteps_1 : decode cX2_choicesOfSteps 1 = .ok (.getfield 34, 3) := by decide +kernel
theorem dX2_choicesOfSteps_4 : decode cX2_choicesOfSteps 4 = .ok (.lconst 0, 1) := by decide +kernel
theorem dX2_choicesOfSteps_5 : decode cX2_choicesOfSteps 5 = .ok (.invokestatic 64, 3) := by decide +kernel
theorem dX2_choicesOfSteps_8 : decode cX2_choicesOfSteps 8 = .ok (.aload_n 1, 1) := by decide +kernel
theorem dX2_choicesOfSteps_9 : decode cX2_choicesOfSteps 9 = .ok (.aload_n 2, 1) := by decide +kernel
theorem dX2_choicesOfSteps_10 : decode cX2_choicesOfSteps 10 = .ok (.invokevirtual 74, 3) := by decide +kernel
theorem dX2_choicesOfSteps_13 : decode cX2_choicesOfSteps 13 = .ok (.istore 5, 2) := by decide +kernel
theorem dX2_choicesOfSteps_15 : decode cX2_choicesOfSteps 15 = .ok (.iload 5, 2) := by decide +kernel
theorem dX2_choicesOfSteps_17 : decode cX2_choicesOfSteps 17 = .ok (.ifCond .lt 11, 3) := by decide +kernel
theorem dX2_choicesOfSteps_20 : decode cX2_choicesOfSteps 20 = .ok (.iload 5, 2) := by decide +kernel
theorem dX2_choicesOfSteps_22 : decode cX2_choicesOfSteps 22 = .ok (.sipush 385, 3) := by decide +kernel
theorem dX2_choicesOfSteps_25 : decode cX2_choicesOfSteps 25 = .ok (.if_icmp .lt 5, 3) := by decide +kernel
theorem dX2_choicesOfSteps_28 : decode cX2_choicesOfSteps 28 = .ok (.lconst 0, 1) := by decide +kernel
theorem dX2_choicesOfSteps_29 : decode cX2_choicesOfSteps 29 = .ok (.lreturn, 1) := by decide +kernel
theorem dX2_choicesOfSteps_30 : decode cX2_choicesOfSteps 30 = .ok (.iload 4, 2) := by decide +kernel
theorem dX2_choicesOfSteps_32 : decode cX2_choicesOfSteps 32 = .ok (.iconst 1, 1) := by decide +kernel
theorem dX2_choicesOfSteps_33 : decode cX2_choicesOfSteps 33 = .ok (.if_icmp .ge 19, 3) := by decide +kernel
theorem dX2_choicesOfSteps_36 : decode cX2_choicesOfSteps 36 = .ok (.iload 5, 2) := by decide +kernel
theorem dX2_choicesOfSteps_38 : decode cX2_choicesOfSteps 38 = .ok (.aload_n 1, 1) := by decide +kernel
theorem dX2_choicesOfSteps_39 : decode cX2_choicesOfSteps 39 = .ok (.aload_n 3, 1) := by decide +kernel
theorem dX2_choicesOfSteps_40 : decode cX2_choicesOfSteps 40 = .ok (.invokevirtual 74, 3) := by decide +kernel
theorem dX2_choicesOfSteps_43 : decode cX2_choicesOfSteps 43 = .ok (.if_icmp .ne 7, 3) := by decide +kernel
theorem dX2_choicesOfSteps_46 : decode cX2_choicesOfSteps 46 = .ok (.lconst 1, 1) := by decide +kernel
theorem dX2_choicesOfSteps_47 : decode cX2_choicesOfSteps 47 = .ok (.goto 4, 3) := by decide +kernel
theorem dX2_choicesOfSteps_50 : decode cX2_choicesOfSteps 50 = .ok (.lconst 0, 1) := by decide +kernel
theorem dX2_choicesOfSteps_51 : decode cX2_choicesOfSteps 51 = .ok (.lreturn, 1) := by decide +kernel
theorem dX2_choicesOfSteps_52 : decode cX2_choicesOfSteps 52 = .ok (.aload_n 0, 1) := by decide +kernel
theorem dX2_choicesOfSteps_53 : decode cX2_choicesOfSteps 53 = .ok (.getfield 34, 3) := by decide +kernel
theorem dX2_choicesOfSteps_56 : decode cX2_choicesOfSteps 56 = .ok (.iload 5, 2) := by decide +kernel
theorem dX2_choicesOfSteps_58 : decode cX2_choicesOfSteps 58 = .ok (.lconst 1, 1) := by decide +kernel
theorem dX2_choicesOfSteps_59 : decode cX2_choicesOfSteps 59 = .ok (.lastore, 1) := by decide +kernel
theorem dX2_choicesOfSteps_60 : decode cX2_choicesOfSteps 60 = .ok (.iconst 1, 1) := by decide +kernel
theorem dX2_choicesOfSteps_61 : decode cX2_choicesOfSteps 61 = .ok (.istore 6, 2) := by decide +kernel
theorem dX2_choicesOfSteps_63 : decode cX2_choicesOfSteps 63 = .ok (.iload 6, 2) := by decide +kernel
theorem dX2_choicesOfSteps_65 : decode cX2_choicesOfSteps 65 = .ok (.iload 4, 2) := by decide +kernel
theorem dX2_choicesOfSteps_67 : decode cX2_choicesOfSteps 67 = .ok (.if_icmp .ge 18, 3) := by decide +kernel
theorem dX2_choicesOfSteps_70 : decode cX2_choicesOfSteps 70 = .ok (.aload_n 0, 1) := by decide +kernel
theorem dX2_choicesOfSteps_71 : decode cX2_choicesOfSteps 71 = .ok (.aload_n 1, 1) := by decide +kernel
theorem dX2_choicesOfSteps_72 : decode cX2_choicesOfSteps 72 = .ok (.aload_n 2, 1) := by decide +kernel
theorem dX2_choicesOfSteps_73 : decode cX2_choicesOfSteps 73 = .ok (.getfield 41, 3) := by decide +kernel
theorem dX2_choicesOfSteps_76 : decode cX2_choicesOfSteps 76 = .ok (.invokevirtual 80, 3) := by decide +kernel
theorem dX2_choicesOfSteps_79 : decode cX2_choicesOfSteps 79 = .ok (.iinc 6 1, 3) := by decide +kernel
theorem dX2_choicesOfSteps_82 : decode cX2_choicesOfSteps 82 = .ok (.goto (-19), 3) := by decide +kernel
theorem dX2_choicesOfSteps_85 : decode cX2_choicesOfSteps 85 = .ok (.lconst 0, 1) := by decide +kernel
theorem dX2_choicesOfSteps_86 : decode cX2_choicesOfSteps 86 = .ok (.lstore 6, 2) := by decide +kernel
theorem dX2_choicesOfSteps_88 : decode cX2_choicesOfSteps 88 = .ok (.iconst 0, 1) := by decide +kernel
theorem dX2_choicesOfSteps_89 : decode cX2_choicesOfSteps 89 = .ok (.istore 8, 2) := by decide +kernel
theorem dX2_choicesOfSteps_91 : decode cX2_choicesOfSteps 91 = .ok (.iload 8, 2) := by decide +kernel
theorem dX2_choicesOfSteps_93 : decode cX2_choicesOfSteps 93 = .ok (.sipush 385, 3) := by decide +kernel
theorem dX2_choicesOfSteps_96 : decode cX2_choicesOfSteps 96 = .ok (.if_icmp .ge 58, 3) := by decide +kernel
theorem dX2_choicesOfSteps_99 : decode cX2_choicesOfSteps 99 = .ok (.aload_n 0, 1) := by decide +kernel
theorem dX2_choicesOfSteps_100 : decode cX2_choicesOfSteps 100 = .ok (.getfield 34, 3) := by decide +kernel
theorem dX2_choicesOfSteps_103 : decode cX2_choicesOfSteps 103 = .ok (.iload 8, 2) := by decide +kernel
theorem dX2_choicesOfSteps_105 : decode cX2_choicesOfSteps 105 = .ok (.laload, 1) := by decide +kernel
theorem dX2_choicesOfSteps_106 : decode cX2_choicesOfSteps 106 = .ok (.lconst 0, 1) := by decide +kernel
theorem dX2_choicesOfSteps_107 : decode cX2_choicesOfSteps 107 = .ok (.lcmp, 1) := by decide +kernel
theorem dX2_choicesOfSteps_108 : decode cX2_choicesOfSteps 108 = .ok (.ifCond .le 40, 3) := by decide +kernel
theorem dX2_choicesOfSteps_111 : decode cX2_choicesOfSteps 111 = .ok (.aload_n 1, 1) := by decide +kernel
theorem dX2_choicesOfSteps_112 : decode cX2_choicesOfSteps 112 = .ok (.aload_n 0, 1) := by decide +kernel
theorem dX2_choicesOfSteps_113 : decode cX2_choicesOfSteps 113 = .ok (.getfield 27, 3) := by decide +kernel
theorem dX2_choicesOfSteps_116 : decode cX2_choicesOfSteps 116 = .ok (.aload_n 2, 1) := by decide +kernel
theorem dX2_choicesOfSteps_117 : decode cX2_choicesOfSteps 117 = .ok (.getfield 41, 3) := by decide +kernel
theorem dX2_choicesOfSteps_120 : decode cX2_choicesOfSteps 120 = .ok (.iload 8, 2) := by decide +kernel
theorem dX2_choicesOfSteps_122 : decode cX2_choicesOfSteps 122 = .ok (.invokevirtual 84, 3) := by decide +kernel
theorem dX2_choicesOfSteps_125 : decode cX2_choicesOfSteps 125 = .ok (.lload 6, 2) := by decide +kernel
theorem dX2_choicesOfSteps_127 : decode cX2_choicesOfSteps 127 = .ok (.aload_n 0, 1) := by decide +kernel
theorem dX2_choicesOfSteps_128 : decode cX2_choicesOfSteps 128 = .ok (.getfield 34, 3) := by decide +kernel
theorem dX2_choicesOfSteps_131 : decode cX2_choicesOfSteps 131 = .ok (.iload 8, 2) := by decide +kernel
theorem dX2_choicesOfSteps_133 : decode cX2_choicesOfSteps 133 = .ok (.laload, 1) := by decide +kernel
theorem dX2_choicesOfSteps_134 : decode cX2_choicesOfSteps 134 = .ok (.aload_n 0, 1) := by decide +kernel
theorem dX2_choicesOfSteps_135 : decode cX2_choicesOfSteps 135 = .ok (.aload_n 0, 1) := by decide +kernel
theorem dX2_choicesOfSteps_136 : decode cX2_choicesOfSteps 136 = .ok (.getfield 27, 3) := by decide +kernel
theorem dX2_choicesOfSteps_139 : decode cX2_choicesOfSteps 139 = .ok (.aload_n 3, 1) := by decide +kernel
theorem dX2_choicesOfSteps_140 : decode cX2_choicesOfSteps 140 = .ok (.invokevirtual 88, 3) := by decide +kernel
theorem dX2_choicesOfSteps_143 : decode cX2_choicesOfSteps 143 = .ok (.i2l, 1) := by decide +kernel
theorem dX2_choicesOfSteps_144 : decode cX2_choicesOfSteps 144 = .ok (.lmul, 1) := by decide +kernel
theorem dX2_choicesOfSteps_145 : decode cX2_choicesOfSteps 145 = .ok (.ladd, 1) := by decide +kernel
theorem dX2_choicesOfSteps_146 : decode cX2_choicesOfSteps 146 = .ok (.lstore 6, 2) := by decide +kernel
theorem dX2_choicesOfSteps_148 : decode cX2_choicesOfSteps 148 = .ok (.iinc 8 1, 3) := by decide +kernel
theorem dX2_choicesOfSteps_151 : decode cX2_choicesOfSteps 151 = .ok (.goto (-60), 3) := by decide +kernel
theorem dX2_choicesOfSteps_154 : decode cX2_choicesOfSteps 154 = .ok (.lload 6, 2) := by decide +kernel
theorem dX2_choicesOfSteps_156 : decode cX2_choicesOfSteps 156 = .ok (.lreturn, 1) := by decide +kernel
theorem dX2_spreadAll_0 : decode cX2_spreadAll 0 = .ok (.aload_n 0, 1) := by decide +kernel
theorem dX2_spreadAll_1 : decode cX2_spreadAll 1 = .ok (.getfield 38, 3) := by decide +kernel
theorem dX2_spreadAll_4 : decode cX2_spreadAll 4 = .ok (.lconst 0, 1) := by decide +kernel
theorem dX2_spreadAll_5 : decode cX2_spreadAll 5 = .ok (.invokestatic 64, 3) := by decide +kernel
theorem dX2_spreadAll_8 : decode cX2_spreadAll 8 = .ok (.iconst 0, 1) := by decide +kernel
theorem dX2_spreadAll_9 : decode cX2_spreadAll 9 = .ok (.istore_n 3, 1) := by decide +kernel
theorem dX2_spreadAll_10 : decode cX2_spreadAll 10 = .ok (.iload_n 3, 1) := by decide +kernel
theorem dX2_spreadAll_11 : decode cX2_spreadAll 11 = .ok (.sipush 385, 3) := by decide +kernel
theorem dX2_spreadAll_14 : decode cX2_spreadAll 14 = .ok (.if_icmp .ge 45, 3) := by decide +kernel
theorem dX2_spreadAll_17 : decode cX2_spreadAll 17 = .ok (.aload_n 0, 1) := by decide +kernel
theorem dX2_spreadAll_18 : decode cX2_spreadAll 18 = .ok (.getfield 34, 3) := by decide +kernel
theorem dX2_spreadAll_21 : decode cX2_spreadAll 21 = .ok (.iload_n 3, 1) := by decide +kernel
theorem dX2_spreadAll_22 : decode cX2_spreadAll 22 = .ok (.laload, 1) := by decide +kernel
theorem dX2_spreadAll_23 : decode cX2_spreadAll 23 = .ok (.lconst 0, 1) := by decide +kernel
theorem dX2_spreadAll_24 : decode cX2_spreadAll 24 = .ok (.lcmp, 1) := by decide +kernel
theorem dX2_spreadAll_25 : decode cX2_spreadAll 25 = .ok (.ifCond .le 28, 3) := by decide +kernel
theorem dX2_spreadAll_28 : decode cX2_spreadAll 28 = .ok (.aload_n 1, 1) := by decide +kernel
theorem dX2_spreadAll_29 : decode cX2_spreadAll 29 = .ok (.aload_n 0, 1) := by decide +kernel
theorem dX2_spreadAll_30 : decode cX2_spreadAll 30 = .ok (.getfield 27, 3) := by decide +kernel
theorem dX2_spreadAll_33 : decode cX2_spreadAll 33 = .ok (.iload_n 2, 1) := by decide +kernel
theorem dX2_spreadAll_34 : decode cX2_spreadAll 34 = .ok (.iload_n 3, 1) := by decide +kernel
theorem dX2_spreadAll_35 : decode cX2_spreadAll 35 = .ok (.invokevirtual 84, 3) := by decide +kernel
theorem dX2_spreadAll_38 : decode cX2_spreadAll 38 = .ok (.aload_n 0, 1) := by decide +kernel
theorem dX2_spreadAll_39 : decode cX2_spreadAll 39 = .ok (.aload_n 1, 1) := by decide +kernel
theorem dX2_spreadAll_40 : decode cX2_spreadAll 40 = .ok (.aload_n 0, 1) := by decide +kernel
theorem dX2_spreadAll_41 : decode cX2_spreadAll 41 = .ok (.getfield 27, 3) := by decide +kernel
theorem dX2_spreadAll_44 : decode cX2_spreadAll 44 = .ok (.aload_n 0, 1) := by decide +kernel
theorem dX2_spreadAll_45 : decode cX2_spreadAll 45 = .ok (.getfield 34, 3) := by decide +kernel
theorem dX2_spreadAll_48 : decode cX2_spreadAll 48 = .ok (.iload_n 3, 1) := by decide +kernel
theorem dX2_spreadAll_49 : decode cX2_spreadAll 49 = .ok (.laload, 1) := by decide +kernel
theorem dX2_spreadAll_50 : decode cX2_spreadAll 50 = .ok (.invokevirtual 70, 3) := by decide +kernel
theorem dX2_spreadAll_53 : decode cX2_spreadAll 53 = .ok (.iinc 3 1, 3) := by decide +kernel
theorem dX2_spreadAll_56 : decode cX2_spreadAll 56 = .ok (.goto (-46), 3) := by decide +kernel
theorem dX2_spreadAll_59 : decode cX2_spreadAll 59 = .ok (.aload_n 0, 1) := by decide +kernel
theorem dX2_spreadAll_60 : decode cX2_spreadAll 60 = .ok (.getfield 34, 3) := by decide +kernel
theorem dX2_spreadAll_63 : decode cX2_spreadAll 63 = .ok (.astore_n 3, 1) := by decide +kernel
theorem dX2_spreadAll_64 : decode cX2_spreadAll 64 = .ok (.aload_n 0, 1) := by decide +kernel
theorem dX2_spreadAll_65 : decode cX2_spreadAll 65 = .ok (.aload_n 0, 1) := by decide +kernel
theorem dX2_spreadAll_66 : decode cX2_spreadAll 66 = .ok (.getfield 38, 3) := by decide +kernel
theorem dX2_spreadAll_69 : decode cX2_spreadAll 69 = .ok (.putfield 34, 3) := by decide +kernel
theorem dX2_spreadAll_72 : decode cX2_spreadAll 72 = .ok (.aload_n 0, 1) := by decide +kernel
theorem dX2_spreadAll_73 : decode cX2_spreadAll 73 = .ok (.aload_n 3, 1) := by decide +kernel
theorem dX2_spreadAll_74 : decode cX2_spreadAll 74 = .ok (.putfield 38, 3) := by decide +kernel
theorem dX2_spreadAll_77 : decode cX2_spreadAll 77 = .ok (.return_, 1) := by decide +kernel
theorem dX2_spread_0 : decode cX2_spread 0 = .ok (.aload_n 2, 1) := by decide +kernel
theorem dX2_spread_1 : decode cX2_spread 1 = .ok (.aload_n 0, 1) := by decide +kernel
theorem dX2_spread_2 : decode cX2_spread 2 = .ok (.getfield 15, 3) := by decide +kernel
theorem dX2_spread_5 : decode cX2_spread 5 = .ok (.invokevirtual 45, 3) := by decide +kernel
theorem dX2_spread_8 : decode cX2_spread 8 = .ok (.aload_n 0, 1) := by decide +kernel
theorem dX2_spread_9 : decode cX2_spread 9 = .ok (.getfield 18, 3) := by decide +kernel
theorem dX2_spread_12 : decode cX2_spread 12 = .ok (.iconst 0, 1) := by decide +kernel
theorem dX2_spread_13 : decode cX2_spread 13 = .ok (.invokestatic 92, 3) := by decide +kernel
theorem dX2_spread_16 : decode cX2_spread 16 = .ok (.iconst 1, 1) := by decide +kernel
theorem dX2_spread_17 : decode cX2_spread 17 = .ok (.istore 5, 2) := by decide +kernel
theorem dX2_spread_19 : decode cX2_spread 19 = .ok (.iconst 1, 1) := by decide +kernel
theorem dX2_spread_20 : decode cX2_spread 20 = .ok (.istore 6, 2) := by decide +kernel
theorem dX2_spread_22 : decode cX2_spread 22 = .ok (.iload 6, 2) := by decide +kernel
theorem dX2_spread_24 : decode cX2_spread 24 = .ok (.bipush 19, 2) := by decide +kernel
theorem dX2_spread_26 : decode cX2_spread 26 = .ok (.if_icmp .ge 23, 3) := by decide +kernel
theorem dX2_spread_29 : decode cX2_spread 29 = .ok (.iload 5, 2) := by decide +kernel
theorem dX2_spread_31 : decode cX2_spread 31 = .ok (.aload_n 0, 1) := by decide +kernel
theorem dX2_spread_32 : decode cX2_spread 32 = .ok (.getfield 15, 3) := by decide +kernel
theorem dX2_spread_35 : decode cX2_spread 35 = .ok (.iload 6, 2) := by decide +kernel
theorem dX2_spread_37 : decode cX2_spread 37 = .ok (.iaload, 1) := by decide +kernel
theorem dX2_spread_38 : decode cX2_spread 38 = .ok (.iconst 1, 1) := by decide +kernel
theorem dX2_spread_39 : decode cX2_spread 39 = .ok (.iadd, 1) := by decide +kernel
theorem dX2_spread_40 : decode cX2_spread 40 = .ok (.imul, 1) := by decide +kernel
theorem dX2_spread_41 : decode cX2_spread 41 = .ok (.istore 5, 2) := by decide +kernel
theorem dX2_spread_43 : decode cX2_spread 43 = .ok (.iinc 6 1, 3) := by decide +kernel
theorem dX2_spread_46 : decode cX2_spread 46 = .ok (.goto (-24), 3) := by decide +kernel
theorem dX2_spread_49 : decode cX2_spread 49 = .ok (.iconst 0, 1) := by decide +kernel
theorem dX2_spread_50 : decode cX2_spread 50 = .ok (.istore 6, 2) := by decide +kernel
theorem dX2_spread_52 : decode cX2_spread 52 = .ok (.iload 6, 2) := by decide +kernel
theorem dX2_spread_54 : decode cX2_spread 54 = .ok (.iload 5, 2) := by decide +kernel
theorem dX2_spread_56 : decode cX2_spread 56 = .ok (.if_icmp .ge 23, 3) := by decide +kernel
theorem dX2_spread_59 : decode cX2_spread 59 = .ok (.aload_n 0, 1) := by decide +kernel
theorem dX2_spread_60 : decode cX2_spread 60 = .ok (.aload_n 1, 1) := by decide +kernel
theorem dX2_spread_61 : decode cX2_spread 61 = .ok (.aload_n 2, 1) := by decide +kernel
theorem dX2_spread_62 : decode cX2_spread 62 = .ok (.getfield 41, 3) := by decide +kernel
theorem dX2_spread_65 : decode cX2_spread 65 = .ok (.lload_n 3, 1) := by decide +kernel
theorem dX2_spread_66 : decode cX2_spread 66 = .ok (.invokevirtual 95, 3) := by decide +kernel
theorem dX2_spread_69 : decode cX2_spread 69 = .ok (.aload_n 0, 1) := by decide +kernel
theorem dX2_spread_70 : decode cX2_spread 70 = .ok (.invokevirtual 99, 3) := by decide +kernel
theorem dX2_spread_73 : decode cX2_spread 73 = .ok (.iinc 6 1, 3) := by decide +kernel
theorem dX2_spread_76 : decode cX2_spread 76 = .ok (.goto (-24), 3) := by decide +kernel
theorem dX2_spread_79 : decode cX2_spread 79 = .ok (.return_, 1) := by decide +kernel
theorem dX2_land_0 : decode cX2_land 0 = .ok (.aload_n 0, 1) := by decide +kernel
theorem dX2_land_1 : decode cX2_land 1 = .ok (.getfield 31, 3) := by decide +kernel
theorem dX2_land_4 : decode cX2_land 4 = .ok (.invokevirtual 102, 3) := by decide +kernel
theorem dX2_land_7 : decode cX2_land 7 = .ok (.lload_n 3, 1) := by decide +kernel
theorem dX2_land_8 : decode cX2_land 8 = .ok (.lstore 5, 2) := by decide +kernel
theorem dX2_land_10 : decode cX2_land 10 = .ok (.iconst 0, 1) := by decide +kernel
theorem dX2_land_11 : decode cX2_land 11 = .ok (.istore 7, 2) := by decide +kernel
theorem dX2_land_13 : decode cX2_land 13 = .ok (.iload_n 2, 1) := by decide +kernel
theorem dX2_land_14 : decode cX2_land 14 = .ok (.bipush 18, 2) := by decide +kernel
theorem dX2_land_16 : decode cX2_land 16 = .ok (.invokestatic 56, 3) := by decide +kernel
theorem dX2_land_19 : decode cX2_land 19 = .ok (.istore 8, 2) := by decide +kernel
theorem dX2_land_21 : decode cX2_land 21 = .ok (.iload 8, 2) := by decide +kernel
theorem dX2_land_23 : decode cX2_land 23 = .ok (.ifCond .le 97, 3) := by decide +kernel
theorem dX2_land_26 : decode cX2_land 26 = .ok (.lload 5, 2) := by decide +kernel
theorem dX2_land_28 : decode cX2_land 28 = .ok (.aload_n 0, 1) := by decide +kernel
theorem dX2_land_29 : decode cX2_land 29 = .ok (.aload_n 0, 1) := by decide +kernel
theorem dX2_land_30 : decode cX2_land 30 = .ok (.getfield 15, 3) := by decide +kernel
theorem dX2_land_33 : decode cX2_land 33 = .ok (.iload 8, 2) := by decide +kernel
theorem dX2_land_35 : decode cX2_land 35 = .ok (.iaload, 1) := by decide +kernel
theorem dX2_land_36 : decode cX2_land 36 = .ok (.aload_n 0, 1) := by decide +kernel
theorem dX2_land_37 : decode cX2_land 37 = .ok (.getfield 18, 3) := by decide +kernel
theorem dX2_land_40 : decode cX2_land 40 = .ok (.iload 8, 2) := by decide +kernel
theorem dX2_land_42 : decode cX2_land 42 = .ok (.iaload, 1) := by decide +kernel
theorem dX2_land_43 : decode cX2_land 43 = .ok (.invokevirtual 61, 3) := by decide +kernel
theorem dX2_land_46 : decode cX2_land 46 = .ok (.i2l, 1) := by decide +kernel
theorem dX2_land_47 : decode cX2_land 47 = .ok (.lmul, 1) := by decide +kernel
theorem dX2_land_48 : decode cX2_land 48 = .ok (.lstore 5, 2) := by decide +kernel
theorem dX2_land_50 : decode cX2_land 50 = .ok (.iload 7, 2) := by decide +kernel
theorem dX2_land_52 : decode cX2_land 52 = .ok (.aload_n 0, 1) := by decide +kernel
theorem dX2_land_53 : decode cX2_land 53 = .ok (.getfield 18, 3) := by decide +kernel
theorem dX2_land_56 : decode cX2_land 56 = .ok (.iload 8, 2) := by decide +kernel
theorem dX2_land_58 : decode cX2_land 58 = .ok (.iaload, 1) := by decide +kernel
theorem dX2_land_59 : decode cX2_land 59 = .ok (.iadd, 1) := by decide +kernel
theorem dX2_land_60 : decode cX2_land 60 = .ok (.istore 7, 2) := by decide +kernel
theorem dX2_land_62 : decode cX2_land 62 = .ok (.aload_n 0, 1) := by decide +kernel
theorem dX2_land_63 : decode cX2_land 63 = .ok (.getfield 15, 3) := by decide +kernel
theorem dX2_land_66 : decode cX2_land 66 = .ok (.iload 8, 2) := by decide +kernel
theorem dX2_land_68 : decode cX2_land 68 = .ok (.iaload, 1) := by decide +kernel
theorem dX2_land_69 : decode cX2_land 69 = .ok (.aload_n 0, 1) := by decide +kernel
theorem dX2_land_70 : decode cX2_land 70 = .ok (.getfield 18, 3) := by decide +kernel
theorem dX2_land_73 : decode cX2_land 73 = .ok (.iload 8, 2) := by decide +kernel
theorem dX2_land_75 : decode cX2_land 75 = .ok (.iaload, 1) := by decide +kernel
theorem dX2_land_76 : decode cX2_land 76 = .ok (.isub, 1) := by decide +kernel
theorem dX2_land_77 : decode cX2_land 77 = .ok (.aload_n 0, 1) := by decide +kernel
theorem dX2_land_78 : decode cX2_land 78 = .ok (.getfield 18, 3) := by decide +kernel
theorem dX2_land_81 : decode cX2_land 81 = .ok (.iload 8, 2) := by decide +kernel
theorem dX2_land_83 : decode cX2_land 83 = .ok (.iconst 1, 1) := by decide +kernel
theorem dX2_land_84 : decode cX2_land 84 = .ok (.iadd, 1) := by decide +kernel
theorem dX2_land_85 : decode cX2_land 85 = .ok (.iaload, 1) := by decide +kernel
theorem dX2_land_86 : decode cX2_land 86 = .ok (.iadd, 1) := by decide +kernel
theorem dX2_land_87 : decode cX2_land 87 = .ok (.istore 9, 2) := by decide +kernel
theorem dX2_land_89 : decode cX2_land 89 = .ok (.iconst 0, 1) := by decide +kernel
theorem dX2_land_90 : decode cX2_land 90 = .ok (.istore 10, 2) := by decide +kernel
theorem dX2_land_92 : decode cX2_land 92 = .ok (.iload 10, 2) := by decide +kernel
theorem dX2_land_94 : decode cX2_land 94 = .ok (.iload 9, 2) := by decide +kernel
theorem dX2_land_96 : decode cX2_land 96 = .ok (.if_icmp .ge 18, 3) := by decide +kernel
theorem dX2_land_99 : decode cX2_land 99 = .ok (.aload_n 0, 1) := by decide +kernel
theorem dX2_land_100 : decode cX2_land 100 = .ok (.getfield 31, 3) := by decide +kernel
theorem dX2_land_103 : decode cX2_land 103 = .ok (.iload 8, 2) := by decide +kernel
theorem dX2_land_105 : decode cX2_land 105 = .ok (.invokevirtual 105, 3) := by decide +kernel
theorem dX2_land_108 : decode cX2_land 108 = .ok (.iinc 10 1, 3) := by decide +kernel
theorem dX2_land_111 : decode cX2_land 111 = .ok (.goto (-19), 3) := by decide +kernel
theorem dX2_land_114 : decode cX2_land 114 = .ok (.iinc 8 (-1), 3) := by decide +kernel
theorem dX2_land_117 : decode cX2_land 117 = .ok (.goto (-96), 3) := by decide +kernel
theorem dX2_land_120 : decode cX2_land 120 = .ok (.aload_n 0, 1) := by decide +kernel
theorem dX2_land_121 : decode cX2_land 121 = .ok (.getfield 31, 3) := by decide +kernel
theorem dX2_land_124 : decode cX2_land 124 = .ok (.iload 7, 2) := by decide +kernel
theorem dX2_land_126 : decode cX2_land 126 = .ok (.invokevirtual 105, 3) := by decide +kernel
theorem dX2_land_129 : decode cX2_land 129 = .ok (.aload_n 1, 1) := by decide +kernel
theorem dX2_land_130 : decode cX2_land 130 = .ok (.aload_n 0, 1) := by decide +kernel
theorem dX2_land_131 : decode cX2_land 131 = .ok (.getfield 31, 3) := by decide +kernel
theorem dX2_land_134 : decode cX2_land 134 = .ok (.invokevirtual 74, 3) := by decide +kernel
theorem dX2_land_137 : decode cX2_land 137 = .ok (.istore 8, 2) := by decide +kernel
theorem dX2_land_139 : decode cX2_land 139 = .ok (.iload 8, 2) := by decide +kernel
theorem dX2_land_141 : decode cX2_land 141 = .ok (.ifCond .lt 23, 3) := by decide +kernel
theorem dX2_land_144 : decode cX2_land 144 = .ok (.iload 8, 2) := by decide +kernel
theorem dX2_land_146 : decode cX2_land 146 = .ok (.sipush 385, 3) := by decide +kernel
theorem dX2_land_149 : decode cX2_land 149 = .ok (.if_icmp .ge 15, 3) := by decide +kernel
theorem dX2_land_152 : decode cX2_land 152 = .ok (.aload_n 0, 1) := by decide +kernel
theorem dX2_land_153 : decode cX2_land 153 = .ok (.getfield 38, 3) := by decide +kernel
theorem dX2_land_156 : decode cX2_land 156 = .ok (.iload 8, 2) := by decide +kernel
theorem dX2_land_158 : decode cX2_land 158 = .ok (.dup2, 1) := by decide +kernel
theorem dX2_land_159 : decode cX2_land 159 = .ok (.laload, 1) := by decide +kernel
theorem dX2_land_160 : decode cX2_land 160 = .ok (.lload 5, 2) := by decide +kernel
theorem dX2_land_162 : decode cX2_land 162 = .ok (.ladd, 1) := by decide +kernel
theorem dX2_land_163 : decode cX2_land 163 = .ok (.lastore, 1) := by decide +kernel
theorem dX2_land_164 : decode cX2_land 164 = .ok (.return_, 1) := by decide +kernel
theorem dX2_nextGift_0 : decode cX2_nextGift 0 = .ok (.iconst 1, 1) := by decide +kernel
theorem dX2_nextGift_1 : decode cX2_nextGift 1 = .ok (.istore_n 1, 1) := by decide +kernel
theorem dX2_nextGift_2 : decode cX2_nextGift 2 = .ok (.iload_n 1, 1) := by decide +kernel
theorem dX2_nextGift_3 : decode cX2_nextGift 3 = .ok (.bipush 19, 2) := by decide +kernel
theorem dX2_nextGift_5 : decode cX2_nextGift 5 = .ok (.if_icmp .ge 42, 3) := by decide +kernel
theorem dX2_nextGift_8 : decode cX2_nextGift 8 = .ok (.aload_n 0, 1) := by decide +kernel
theorem dX2_nextGift_9 : decode cX2_nextGift 9 = .ok (.getfield 18, 3) := by decide +kernel
theorem dX2_nextGift_12 : decode cX2_nextGift 12 = .ok (.iload_n 1, 1) := by decide +kernel
theorem dX2_nextGift_13 : decode cX2_nextGift 13 = .ok (.iaload, 1) := by decide +kernel
theorem dX2_nextGift_14 : decode cX2_nextGift 14 = .ok (.aload_n 0, 1) := by decide +kernel
theorem dX2_nextGift_15 : decode cX2_nextGift 15 = .ok (.getfield 15, 3) := by decide +kernel
theorem dX2_nextGift_18 : decode cX2_nextGift 18 = .ok (.iload_n 1, 1) := by decide +kernel
theorem dX2_nextGift_19 : decode cX2_nextGift 19 = .ok (.iaload, 1) := by decide +kernel
theorem dX2_nextGift_20 : decode cX2_nextGift 20 = .ok (.if_icmp .ge 14, 3) := by decide +kernel
theorem dX2_nextGift_23 : decode cX2_nextGift 23 = .ok (.aload_n 0, 1) := by decide +kernel
theorem dX2_nextGift_24 : decode cX2_nextGift 24 = .ok (.getfield 18, 3) := by decide +kernel
theorem dX2_nextGift_27 : decode cX2_nextGift 27 = .ok (.iload_n 1, 1) := by decide +kernel
theorem dX2_nextGift_28 : decode cX2_nextGift 28 = .ok (.dup2, 1) := by decide +kernel
theorem dX2_nextGift_29 : decode cX2_nextGift 29 = .ok (.iaload, 1) := by decide +kernel
theorem dX2_nextGift_30 : decode cX2_nextGift 30 = .ok (.iconst 1, 1) := by decide +kernel
theorem dX2_nextGift_31 : decode cX2_nextGift 31 = .ok (.iadd, 1) := by decide +kernel
theorem dX2_nextGift_32 : decode cX2_nextGift 32 = .ok (.iastore, 1) := by decide +kernel
theorem dX2_nextGift_33 : decode cX2_nextGift 33 = .ok (.return_, 1) := by decide +kernel
theorem dX2_nextGift_34 : decode cX2_nextGift 34 = .ok (.aload_n 0, 1) := by decide +kernel
theorem dX2_nextGift_35 : decode cX2_nextGift 35 = .ok (.getfield 18, 3) := by decide +kernel
theorem dX2_nextGift_38 : decode cX2_nextGift 38 = .ok (.iload_n 1, 1) := by decide +kernel
theorem dX2_nextGift_39 : decode cX2_nextGift 39 = .ok (.iconst 0, 1) := by decide +kernel
theorem dX2_nextGift_40 : decode cX2_nextGift 40 = .ok (.iastore, 1) := by decide +kernel
theorem dX2_nextGift_41 : decode cX2_nextGift 41 = .ok (.iinc 1 1, 3) := by decide +kernel
theorem dX2_nextGift_44 : decode cX2_nextGift 44 = .ok (.goto (-42), 3) := by decide +kernel
theorem dX2_nextGift_47 : decode cX2_nextGift 47 = .ok (.return_, 1) := by decide +kernel
end
section
theorem dX4_init_0 : decode cX4_init 0 = .ok (.aload_n 0, 1) := by decide +kernel
theorem dX4_init_1 : decode cX4_init 1 = .ok (.invokespecial 3, 3) := by decide +kernel
theorem dX4_init_4 : decode cX4_init 4 = .ok (.aload_n 0, 1) := by decide +kernel
theorem dX4_init_5 : decode cX4_init 5 = .ok (.bipush 12, 2) := by decide +kernel
theorem dX4_init_7 : decode cX4_init 7 = .ok (.anewarray 9, 3) := by decide +kernel
theorem dX4_init_10 : decode cX4_init 10 = .ok (.putfield 11, 3) := by decide +kernel
theorem dX4_init_13 : decode cX4_init 13 = .ok (.aload_n 0, 1) := by decide +kernel
theorem dX4_init_14 : decode cX4_init 14 = .ok (.bipush 12, 2) := by decide +kernel
theorem dX4_init_16 : decode cX4_init 16 = .ok (.newarray .boolean, 2) := by decide +kernel
theorem dX4_init_18 : decode cX4_init 18 = .ok (.putfield 15, 3) := by decide +kernel
theorem dX4_init_21 : decode cX4_init 21 = .ok (.aload_n 0, 1) := by decide +kernel
theorem dX4_init_22 : decode cX4_init 22 = .ok (.bipush 6, 2) := by decide +kernel
theorem dX4_init_24 : decode cX4_init 24 = .ok (.newarray .int, 2) := by decide +kernel
theorem dX4_init_26 : decode cX4_init 26 = .ok (.putfield 19, 3) := by decide +kernel
theorem dX4_init_29 : decode cX4_init 29 = .ok (.aload_n 0, 1) := by decide +kernel
theorem dX4_init_30 : decode cX4_init 30 = .ok (.new 23, 3) := by decide +kernel
theorem dX4_init_33 : decode cX4_init 33 = .ok (.dup, 1) := by decide +kernel
theorem dX4_init_34 : decode cX4_init 34 = .ok (.invokespecial 25, 3) := by decide +kernel
theorem dX4_init_37 : decode cX4_init 37 = .ok (.putfield 26, 3) := by decide +kernel
theorem dX4_init_40 : decode cX4_init 40 = .ok (.aload_n 0, 1) := by decide +kernel
theorem dX4_init_41 : decode cX4_init 41 = .ok (.new 30, 3) := by decide +kernel
theorem dX4_init_44 : decode cX4_init 44 = .ok (.dup, 1) := by decide +kernel
theorem dX4_init_45 : decode cX4_init 45 = .ok (.invokespecial 32, 3) := by decide +kernel
theorem dX4_init_48 : decode cX4_init 48 = .ok (.putfield 33, 3) := by decide +kernel
theorem dX4_init_51 : decode cX4_init 51 = .ok (.aload_n 0, 1) := by decide +kernel
theorem dX4_init_52 : decode cX4_init 52 = .ok (.bipush 76, 2) := by decide +kernel
theorem dX4_init_54 : decode cX4_init 54 = .ok (.anewarray 37, 3) := by decide +kernel
theorem dX4_init_57 : decode cX4_init 57 = .ok (.putfield 39, 3) := by decide +kernel
theorem dX4_init_60 : decode cX4_init 60 = .ok (.aload_n 0, 1) := by decide +kernel
theorem dX4_init_61 : decode cX4_init 61 = .ok (.new 9, 3) := by decide +kernel
theorem dX4_init_64 : decode cX4_init 64 = .ok (.dup, 1) := by decide +kernel
theorem dX4_init_65 : decode cX4_init 65 = .ok (.invokespecial 43, 3) := by decide +kernel
theorem dX4_init_68 : decode cX4_init 68 = .ok (.putfield 44, 3) := by decide +kernel
theorem dX4_init_71 : decode cX4_init 71 = .ok (.aload_n 0, 1) := by decide +kernel
theorem dX4_init_72 : decode cX4_init 72 = .ok (.new 9, 3) := by decide +kernel
theorem dX4_init_75 : decode cX4_init 75 = .ok (.dup, 1) := by decide +kernel
theorem dX4_init_76 : decode cX4_init 76 = .ok (.invokespecial 43, 3) := by decide +kernel
theorem dX4_init_79 : decode cX4_init 79 = .ok (.putfield 48, 3) := by decide +kernel
theorem dX4_init_82 : decode cX4_init 82 = .ok (.iconst 0, 1) := by decide +kernel
theorem dX4_init_83 : decode cX4_init 83 = .ok (.istore_n 1, 1) := by decide +kernel
theorem dX4_init_84 : decode cX4_init 84 = .ok (.iload_n 1, 1) := by decide +kernel
theorem dX4_init_85 : decode cX4_init 85 = .ok (.bipush 12, 2) := by decide +kernel
theorem dX4_init_87 : decode cX4_init 87 = .ok (.if_icmp .ge 22, 3) := by decide +kernel
theorem dX4_init_90 : decode cX4_init 90 = .ok (.aload_n 0, 1) := by decide +kernel
theorem dX4_init_91 : decode cX4_init 91 = .ok (.getfield 11, 3) := by decide +kernel
theorem dX4_init_94 : decode cX4_init 94 = .ok (.iload_n 1, 1) := by decide +kernel
theorem dX4_init_95 : decode cX4_init 95 = .ok (.new 9, 3) := by decide +kernel
theorem dX4_init_98 : decode cX4_init 98 = .ok (.dup, 1) := by decide +kernel
theorem dX4_init_99 : decode cX4_init 99 = .ok (.invokespecial 43, 3) := by decide +kernel
theorem dX4_init_102 : decode cX4_init 102 = .ok (.aastore, 1) := by decide +kernel
theorem dX4_init_103 : decode cX4_init 103 = .ok (.iinc 1 1, 3) := by decide +kernel
theorem dX4_init_106 : decode cX4_init 106 = .ok (.goto (-22), 3) := by decide +kernel
theorem dX4_init_109 : decode cX4_init 109 = .ok (.return_, 1) := by decide +kernel
theorem dX4_parting_0 : decode cX4_parting 0 = .ok (.iload_n 1, 1) := by decide +kernel
theorem dX4_parting_1 : decode cX4_parting 1 = .ok (.invokestatic 51, 3) := by decide +kernel
theorem dX4_parting_4 : decode cX4_parting 4 = .ok (.ifCond .ne 5, 3) := by decide +kernel
theorem dX4_parting_7 : decode cX4_parting 7 = .ok (.iconst (-1), 1) := by decide +kernel
theorem dX4_parting_8 : decode cX4_parting 8 = .ok (.ireturn, 1) := by decide +kernel
theorem dX4_parting_9 : decode cX4_parting 9 = .ok (.aload_n 0, 1) := by decide +kernel
theorem dX4_parting_10 : decode cX4_parting 10 = .ok (.getfield 15, 3) := by decide +kernel
theorem dX4_parting_13 : decode cX4_parting 13 = .ok (.iload_n 1, 1) := by decide +kernel
theorem dX4_parting_14 : decode cX4_parting 14 = .ok (.baload, 1) := by decide +kernel
theorem dX4_parting_15 : decode cX4_parting 15 = .ok (.ifCond .eq 7, 3) := by decide +kernel
theorem dX4_parting_18 : decode cX4_parting 18 = .ok (.iconst 1, 1) := by decide +kernel
theorem dX4_parting_19 : decode cX4_parting 19 = .ok (.goto 4, 3) := by decide +kernel
theorem dX4_parting_22 : decode cX4_parting 22 = .ok (.iconst 0, 1) := by decide +kernel
theorem dX4_parting_23 : decode cX4_parting 23 = .ok (.istore_n 2, 1) := by decide +kernel
theorem dX4_parting_24 : decode cX4_parting 24 = .ok (.aload_n 0, 1) := by decide +kernel
theorem dX4_parting_25 : decode cX4_parting 25 = .ok (.getfield 15, 3) := by decide +kernel
theorem dX4_parting_28 : decode cX4_parting 28 = .ok (.iload_n 1, 1) := by decide +kernel
theorem dX4_parting_29 : decode cX4_parting 29 = .ok (.iconst 1, 1) := by decide +kernel
theorem dX4_parting_30 : decode cX4_parting 30 = .ok (.bastore, 1) := by decide +kernel
theorem dX4_parting_31 : decode cX4_parting 31 = .ok (.aload_n 0, 1) := by decide +kernel
theorem dX4_parting_32 : decode cX4_parting 32 = .ok (.getfield 11, 3) := by decide +kernel
theorem dX4_parting_35 : decode cX4_parting 35 = .ok (.iload_n 1, 1) := by decide +kernel
theorem dX4_parting_36 : decode cX4_parting 36 = .ok (.aaload, 1) := by decide +kernel
theorem dX4_parting_37 : decode cX4_parting 37 = .ok (.invokevirtual 55, 3) := by decide +kernel
theorem dX4_parting_40 : decode cX4_parting 40 = .ok (.iload_n 2, 1) := by decide +kernel
theorem dX4_parting_41 : decode cX4_parting 41 = .ok (.ireturn, 1) := by decide +kernel
theorem dX4_heap_0 : decode cX4_heap 0 = .ok (.iload_n 1, 1) := by decide +kernel
theorem dX4_heap_1 : decode cX4_heap 1 = .ok (.invokestatic 51, 3) := by decide +kernel
theorem dX4_heap_4 : decode cX4_heap 4 = .ok (.ifCond .eq 14, 3) := by decide +kernel
theorem dX4_heap_7 : decode cX4_heap 7 = .ok (.iload_n 2, 1) := by decide +kernel
theorem dX4_heap_8 : decode cX4_heap 8 = .ok (.iconst 1, 1) := by decide +kernel
theorem dX4_heap_9 : decode cX4_heap 9 = .ok (.if_icmp .lt 9, 3) := by decide +kernel
theorem dX4_heap_12 : decode cX4_heap 12 = .ok (.iload_n 2, 1) := by decide +kernel
theorem dX4_heap_13 : decode cX4_heap 13 = .ok (.bipush 18, 2) := by decide +kernel
theorem dX4_heap_15 : decode cX4_heap 15 = .ok (.if_icmp .le 5, 3) := by decide +kernel
theorem dX4_heap_18 : decode cX4_heap 18 = .ok (.iconst (-1), 1) := by decide +kernel
theorem dX4_heap_19 : decode cX4_heap 19 = .ok (.ireturn, 1) := by decide +kernel
theorem dX4_heap_20 : decode cX4_heap 20 = .ok (.aload_n 0, 1) := by decide +kernel
theorem dX4_heap_21 : decode cX4_heap 21 = .ok (.iload_n 1, 1) := by decide +kernel
theorem dX4_heap_22 : decode cX4_heap 22 = .ok (.invokevirtual 58, 3) := by decide +kernel
theorem dX4_heap_25 : decode cX4_heap 25 = .ok (.astore_n 3, 1) := by decide +kernel
theorem dX4_heap_26 : decode cX4_heap 26 = .ok (.aload_n 3, 1) := by decide +kernel
theorem dX4_heap_27 : decode cX4_heap 27 = .ok (.ifnonnull 9, 3) := by decide +kernel
theorem dX4_heap_30 : decode cX4_heap 30 = .ok (.aload_n 0, 1) := by decide +kernel
theorem dX4_heap_31 : decode cX4_heap 31 = .ok (.iconst 1, 1) := by decide +kernel
theorem dX4_heap_32 : decode cX4_heap 32 = .ok (.invokevirtual 62, 3) := by decide +kernel
theorem dX4_heap_35 : decode cX4_heap 35 = .ok (.ireturn, 1) := by decide +kernel
theorem dX4_heap_36 : decode cX4_heap 36 = .ok (.aload_n 3, 1) := by decide +kernel
theorem dX4_heap_37 : decode cX4_heap 37 = .ok (.iload_n 2, 1) := by decide +kernel
theorem dX4_heap_38 : decode cX4_heap 38 = .ok (.invokevirtual 66, 3) := by decide +kernel
theorem dX4_heap_41 : decode cX4_heap 41 = .ok (.ifCond .ne 6, 3) := by decide +kernel
theorem dX4_heap_44 : decode cX4_heap 44 = .ok (.bipush (-2), 2) := by decide +kernel
theorem dX4_heap_46 : decode cX4_heap 46 = .ok (.ireturn, 1) := by decide +kernel
theorem dX4_heap_47 : decode cX4_heap 47 = .ok (.aload_n 3, 1) := by decide +kernel
theorem dX4_heap_48 : decode cX4_heap 48 = .ok (.iload_n 2, 1) := by decide +kernel
theorem dX4_heap_49 : decode cX4_heap 49 = .ok (.invokevirtual 69, 3) := by decide +kernel
theorem dX4_heap_52 : decode cX4_heap 52 = .ok (.aload_n 3, 1) := by decide +kernel
theorem dX4_heap_53 : decode cX4_heap 53 = .ok (.getfield 73, 3) := by decide +kernel
theorem dX4_heap_56 : decode cX4_heap 56 = .ok (.ireturn, 1) := by decide +kernel
theorem dX4_at_0 : decode cX4_at 0 = .ok (.iload_n 1, 1) := by decide +kernel
theorem dX4_at_1 : decode cX4_at 1 = .ok (.invokestatic 51, 3) := by decide +kernel
theorem dX4_at_4 : decode cX4_at 4 = .ok (.ifCond .ne 5, 3) := by decide +kernel
theorem dX4_at_7 : decode cX4_at 7 = .ok (.iconst (-1), 1) := by decide +kernel
theorem dX4_at_8 : decode cX4_at 8 = .ok (.ireturn, 1) := by decide +kernel
theorem dX4_at_9 : decode cX4_at 9 = .ok (.aload_n 0, 1) := by decide +kernel
theorem dX4_at_10 : decode cX4_at 10 = .ok (.iload_n 1, 1) := by decide +kernel
theorem dX4_at_11 : decode cX4_at 11 = .ok (.invokevirtual 58, 3) := by decide +kernel
theorem dX4_at_14 : decode cX4_at 14 = .ok (.astore_n 3, 1) := by decide +kernel
theorem dX4_at_15 : decode cX4_at 15 = .ok (.aload_n 3, 1) := by decide +kernel
theorem dX4_at_16 : decode cX4_at 16 = .ok (.ifnonnull 9, 3) := by decide +kernel
theorem dX4_at_19 : decode cX4_at 19 = .ok (.aload_n 0, 1) := by decide +kernel
theorem dX4_at_20 : decode cX4_at 20 = .ok (.iconst 1, 1) := by decide +kernel
theorem dX4_at_21 : decode cX4_at 21 = .ok (.invokevirtual 62, 3) := by decide +kernel
theorem dX4_at_24 : decode cX4_at 24 = .ok (.ireturn, 1) := by decide +kernel
theorem dX4_at_25 : decode cX4_at 25 = .ok (.iload_n 2, 1) := by decide +kernel
theorem dX4_at_26 : decode cX4_at 26 = .ok (.iconst (-1), 1) := by decide +kernel
theorem dX4_at_27 : decode cX4_at 27 = .ok (.if_icmp .ne 8, 3) := by decide +kernel
theorem dX4_at_30 : decode cX4_at 30 = .ok (.aload_n 3, 1) := by decide +kernel
theorem dX4_at_31 : decode cX4_at 31 = .ok (.getfield 73, 3) := by decide +kernel
theorem dX4_at_34 : decode cX4_at 34 = .ok (.ireturn, 1) := by decide +kernel
theorem dX4_at_35 : decode cX4_at 35 = .ok (.aload_n 3, 1) := by decide +kernel
theorem dX4_at_36 : decode cX4_at 36 = .ok (.iload_n 2, 1) := by decide +kernel
theorem dX4_at_37 : decode cX4_at 37 = .ok (.invokevirtual 77, 3) := by decide +kernel
theorem dX4_at_40 : decode cX4_at 40 = .ok (.ifCond .eq 11, 3) := by decide +kernel
theorem dX4_at_43 : decode cX4_at 43 = .ok (.aload_n 3, 1) := by decide +kernel
theorem dX4_at_44 : decode cX4_at 44 = .ok (.iload_n 2, 1) := by decide +kernel
theorem dX4_at_45 : decode cX4_at 45 = .ok (.invokevirtual 80, 3) := by decide +kernel
theorem dX4_at_48 : decode cX4_at 48 = .ok (.goto 8, 3) := by decide +kernel
theorem dX4_at_51 : decode cX4_at 51 = .ok (.aload_n 0, 1) := by decide +kernel
theorem dX4_at_52 : decode cX4_at 52 = .ok (.iconst 2, 1) := by decide +kernel
theorem dX4_at_53 : decode cX4_at 53 = .ok (.invokevirtual 62, 3) := by decide +kernel
theorem dX4_at_56 : decode cX4_at 56 = .ok (.ireturn, 1) := by decide +kernel
theorem dX4_take_0 : decode cX4_take 0 = .ok (.iload_n 1, 1) := by decide +kernel
theorem dX4_take_1 : decode cX4_take 1 = .ok (.invokestatic 51, 3) := by decide +kernel
theorem dX4_take_4 : decode cX4_take 4 = .ok (.ifCond .ne 5, 3) := by decide +kernel
theorem dX4_take_7 : decode cX4_take 7 = .ok (.iconst (-1), 1) := by decide +kernel
theorem dX4_take_8 : decode cX4_take 8 = .ok (.ireturn, 1) := by decide +kernel
theorem dX4_take_9 : decode cX4_take 9 = .ok (.aload_n 0, 1) := by decide +kernel
theorem dX4_take_10 : decode cX4_take 10 = .ok (.iload_n 1, 1) := by decide +kernel
theorem dX4_take_11 : decode cX4_take 11 = .ok (.invokevirtual 58, 3) := by decide +kernel
theorem dX4_take_14 : decode cX4_take 14 = .ok (.astore_n 3, 1) := by decide +kernel
theorem dX4_take_15 : decode cX4_take 15 = .ok (.aload_n 3, 1) := by decide +kernel
theorem dX4_take_16 : decode cX4_take 16 = .ok (.ifnonnull 9, 3) := by decide +kernel
theorem dX4_take_19 : decode cX4_take 19 = .ok (.aload_n 0, 1) := by decide +kernel
theorem dX4_take_20 : decode cX4_take 20 = .ok (.iconst 1, 1) := by decide +kernel
theorem dX4_take_21 : decode cX4_take 21 = .ok (.invokevirtual 62, 3) := by decide +kernel
theorem dX4_take_24 : decode cX4_take 24 = .ok (.ireturn, 1) := by decide +kernel
theorem dX4_take_25 : decode cX4_take 25 = .ok (.aload_n 3, 1) := by decide +kernel
theorem dX4_take_26 : decode cX4_take 26 = .ok (.iload_n 2, 1) := by decide +kernel
theorem dX4_take_27 : decode cX4_take 27 = .ok (.invokevirtual 77, 3) := by decide +kernel
theorem dX4_take_30 : decode cX4_take 30 = .ok (.ifCond .eq 11, 3) := by decide +kernel
theorem dX4_take_33 : decode cX4_take 33 = .ok (.aload_n 3, 1) := by decide +kernel
theorem dX4_take_34 : decode cX4_take 34 = .ok (.iload_n 2, 1) := by decide +kernel
theorem dX4_take_35 : decode cX4_take 35 = .ok (.invokevirtual 83, 3) := by decide +kernel
theorem dX4_take_38 : decode cX4_take 38 = .ok (.goto 8, 3) := by decide +kernel
theorem dX4_take_41 : decode cX4_take 41 = .ok (.aload_n 0, 1) := by decide +kernel
theorem dX4_take_42 : decode cX4_take 42 = .ok (.iconst 2, 1) := by decide +kernel
theorem dX4_take_43 : decode cX4_take 43 = .ok (.invokevirtual 62, 3) := by decide +kernel
theorem dX4_take_46 : decode cX4_take 46 = .ok (.ireturn, 1) := by decide +kernel
theorem dX4_tear_0 : decode cX4_tear 0 = .ok (.iload_n 1, 1) := by decide +kernel
theorem dX4_tear_1 : decode cX4_tear 1 = .ok (.invokestatic 51, 3) := by decide +kernel
theorem dX4_tear_4 : decode cX4_tear 4 = .ok (.ifCond .ne 5, 3) := by decide +kernel
theorem dX4_tear_7 : decode cX4_tear 7 = .ok (.iconst (-1), 1) := by decide +kernel
theorem dX4_tear_8 : decode cX4_tear 8 = .ok (.ireturn, 1) := by decide +kernel
theorem dX4_tear_9 : decode cX4_tear 9 = .ok (.aload_n 0, 1) := by decide +kernel
theorem dX4_tear_10 : decode cX4_tear 10 = .ok (.getfield 15, 3) := by decide +kernel
theorem dX4_tear_13 : decode cX4_tear 13 = .ok (.iload_n 1, 1) := by decide +kernel
theorem dX4_tear_14 : decode cX4_tear 14 = .ok (.baload, 1) := by decide +kernel
theorem dX4_tear_15 : decode cX4_tear 15 = .ok (.ifCond .ne 9, 3) := by decide +kernel
theorem dX4_tear_18 : decode cX4_tear 18 = .ok (.aload_n 0, 1) := by decide +kernel
theorem dX4_tear_19 : decode cX4_tear 19 = .ok (.iconst 1, 1) := by decide +kernel
theorem dX4_tear_20 : decode cX4_tear 20 = .ok (.invokevirtual 62, 3) := by decide +kernel
theorem dX4_tear_23 : decode cX4_tear 23 = .ok (.ireturn, 1) := by decide +kernel
theorem dX4_tear_24 : decode cX4_tear 24 = .ok (.aload_n 0, 1) := by decide +kernel
theorem dX4_tear_25 : decode cX4_tear 25 = .ok (.getfield 15, 3) := by decide +kernel
theorem dX4_tear_28 : decode cX4_tear 28 = .ok (.iload_n 1, 1) := by decide +kernel
theorem dX4_tear_29 : decode cX4_tear 29 = .ok (.iconst 0, 1) := by decide +kernel
theorem dX4_tear_30 : decode cX4_tear 30 = .ok (.bastore, 1) := by decide +kernel
theorem dX4_tear_31 : decode cX4_tear 31 = .ok (.iconst 1, 1) := by decide +kernel
theorem dX4_tear_32 : decode cX4_tear 32 = .ok (.ireturn, 1) := by decide +kernel
theorem dX4_copy_0 : decode cX4_copy 0 = .ok (.iload_n 1, 1) := by decide +kernel
theorem dX4_copy_1 : decode cX4_copy 1 = .ok (.invokestatic 51, 3) := by decide +kernel
theorem dX4_copy_4 : decode cX4_copy 4 = .ok (.ifCond .eq 11, 3) := by decide +kernel
theorem dX4_copy_7 : decode cX4_copy 7 = .ok (.iload 4, 2) := by decide +kernel
theorem dX4_copy_9 : decode cX4_copy 9 = .ok (.invokestatic 51, 3) := by decide +kernel
theorem dX4_copy_12 : decode cX4_copy 12 = .ok (.ifCond .ne 5, 3) := by decide +kernel
theorem dX4_copy_15 : decode cX4_copy 15 = .ok (.iconst (-1), 1) := by decide +kernel
theorem dX4_copy_16 : decode cX4_copy 16 = .ok (.ireturn, 1) := by decide +kernel
theorem dX4_copy_17 : decode cX4_copy 17 = .ok (.iload_n 3, 1) := by decide +kernel
theorem dX4_copy_18 : decode cX4_copy 18 = .ok (.ifCond .ge 9, 3) := by decide +kernel
theorem dX4_copy_21 : decode cX4_copy 21 = .ok (.aload_n 0, 1) := by decide +kernel
theorem dX4_copy_22 : decode cX4_copy 22 = .ok (.iconst 5, 1) := by decide +kernel
theorem dX4_copy_23 : decode cX4_copy 23 = .ok (.invokevirtual 62, 3) := by decide +kernel
theorem dX4_copy_26 : decode cX4_copy 26 = .ok (.ireturn, 1) := by decide +kernel
theorem dX4_copy_27 : decode cX4_copy 27 = .ok (.aload_n 0, 1) := by decide +kernel
theorem dX4_copy_28 : decode cX4_copy 28 = .ok (.iload_n 1, 1) := by decide +kernel
theorem dX4_copy_29 : decode cX4_copy 29 = .ok (.invokevirtual 58, 3) := by decide +kernel
theorem dX4_copy_32 : decode cX4_copy 32 = .ok (.astore 5, 2) := by decide +kernel
theorem dX4_copy_34 : decode cX4_copy 34 = .ok (.aload_n 0, 1) := by decide +kernel
theorem dX4_copy_35 : decode cX4_copy 35 = .ok (.iload 4, 2) := by decide +kernel
theorem dX4_copy_37 : decode cX4_copy 37 = .ok (.invokevirtual 58, 3) := by decide +kernel
theorem dX4_copy_40 : decode cX4_copy 40 = .ok (.astore 6, 2) := by decide +kernel
theorem dX4_copy_42 : decode cX4_copy 42 = .ok (.aload 5, 2) := by decide +kernel
theorem dX4_copy_44 : decode cX4_copy 44 = .ok (.ifnull 8, 3) := by decide +kernel
theorem dX4_copy_47 : decode cX4_copy 47 = .ok (.aload 6, 2) := by decide +kernel
theorem dX4_copy_49 : decode cX4_copy 49 = .ok (.ifnonnull 9, 3) := by decide +kernel
theorem dX4_copy_52 : decode cX4_copy 52 = .ok (.aload_n 0, 1) := by decide +kernel
theorem dX4_copy_53 : decode cX4_copy 53 = .ok (.iconst 1, 1) := by decide +kernel
theorem dX4_copy_54 : decode cX4_copy 54 = .ok (.invokevirtual 62, 3) := by decide +kernel
theorem dX4_copy_57 : decode cX4_copy 57 = .ok (.ireturn, 1) := by decide +kernel
theorem dX4_copy_58 : decode cX4_copy 58 = .ok (.iload_n 2, 1) := by decide +kernel
theorem dX4_copy_59 : decode cX4_copy 59 = .ok (.ifCond .lt 23, 3) := by decide +kernel
theorem dX4_copy_62 : decode cX4_copy 62 = .ok (.iload_n 2, 1) := by decide +kernel
theorem dX4_copy_63 : decode cX4_copy 63 = .ok (.aload 5, 2) := by decide +kernel
theorem dX4_copy_65 : decode cX4_copy 65 = .ok (.getfield 73, 3) := by decide +kernel
theorem dX4_copy_68 : decode cX4_copy 68 = .ok (.if_icmp .gt 14, 3) := by decide +kernel
theorem dX4_copy_71 : decode cX4_copy 71 = .ok (.iload_n 3, 1) := by decide +kernel
theorem dX4_copy_72 : decode cX4_copy 72 = .ok (.aload 5, 2) := by decide +kernel
theorem dX4_copy_74 : decode cX4_copy 74 = .ok (.getfield 73, 3) := by decide +kernel
theorem dX4_copy_77 : decode cX4_copy 77 = .ok (.iload_n 2, 1) := by decide +kernel
theorem dX4_copy_78 : decode cX4_copy 78 = .ok (.isub, 1) := by decide +kernel
theorem dX4_copy_79 : decode cX4_copy 79 = .ok (.if_icmp .le 9, 3) := by decide +kernel
theorem dX4_copy_82 : decode cX4_copy 82 = .ok (.aload_n 0, 1) := by decide +kernel
theorem dX4_copy_83 : decode cX4_copy 83 = .ok (.iconst 2, 1) := by decide +kernel
theorem dX4_copy_84 : decode cX4_copy 84 = .ok (.invokevirtual 62, 3) := by decide +kernel
theorem dX4_copy_87 : decode cX4_copy 87 = .ok (.ireturn, 1) := by decide +kernel
theorem dX4_copy_88 : decode cX4_copy 88 = .ok (.aload_n 0, 1) := by decide +kernel
theorem dX4_copy_89 : decode cX4_copy 89 = .ok (.getfield 44, 3) := by decide +kernel
theorem dX4_copy_92 : decode cX4_copy 92 = .ok (.invokevirtual 55, 3) := by decide +kernel
theorem dX4_copy_95 : decode cX4_copy 95 = .ok (.aload_n 0, 1) := by decide +kernel
theorem dX4_copy_96 : decode cX4_copy 96 = .ok (.getfield 44, 3) := by decide +kernel
theorem dX4_copy_99 : decode cX4_copy 99 = .ok (.aload 5, 2) := by decide +kernel
theorem dX4_copy_101 : decode cX4_copy 101 = .ok (.iload_n 2, 1) := by decide +kernel
theorem dX4_copy_102 : decode cX4_copy 102 = .ok (.iload_n 3, 1) := by decide +kernel
theorem dX4_copy_103 : decode cX4_copy 103 = .ok (.invokevirtual 86, 3) := by decide +kernel
theorem dX4_copy_106 : decode cX4_copy 106 = .ok (.aload 6, 2) := by decide +kernel
theorem dX4_copy_108 : decode cX4_copy 108 = .ok (.aload_n 0, 1) := by decide +kernel
theorem dX4_copy_109 : decode cX4_copy 109 = .ok (.getfield 44, 3) := by decide +kernel
theorem dX4_copy_112 : decode cX4_copy 112 = .ok (.getfield 90, 3) := by decide +kernel
theorem dX4_copy_115 : decode cX4_copy 115 = .ok (.invokevirtual 66, 3) := by decide +kernel
theorem dX4_copy_118 : decode cX4_copy 118 = .ok (.ifCond .ne 6, 3) := by decide +kernel
theorem dX4_copy_121 : decode cX4_copy 121 = .ok (.bipush (-2), 2) := by decide +kernel
theorem dX4_copy_123 : decode cX4_copy 123 = .ok (.ireturn, 1) := by decide +kernel
theorem dX4_copy_124 : decode cX4_copy 124 = .ok (.aload 6, 2) := by decide +kernel
theorem dX4_copy_126 : decode cX4_copy 126 = .ok (.aload_n 0, 1) := by decide +kernel
theorem dX4_copy_127 : decode cX4_copy 127 = .ok (.getfield 44, 3) := by decide +kernel
theorem dX4_copy_130 : decode cX4_copy 130 = .ok (.iconst 0, 1) := by decide +kernel
theorem dX4_copy_131 : decode cX4_copy 131 = .ok (.aload_n 0, 1) := by decide +kernel
theorem dX4_copy_132 : decode cX4_copy 132 = .ok (.getfield 44, 3) := by decide +kernel
theorem dX4_copy_135 : decode cX4_copy 135 = .ok (.getfield 73, 3) := by decide +kernel
theorem dX4_copy_138 : decode cX4_copy 138 = .ok (.invokevirtual 86, 3) := by decide +kernel
theorem dX4_copy_141 : decode cX4_copy 141 = .ok (.aload 6, 2) := by decide +kernel
theorem dX4_copy_143 : decode cX4_copy 143 = .ok (.getfield 73, 3) := by decide +kernel
theorem dX4_copy_146 : decode cX4_copy 146 = .ok (.ireturn, 1) := by decide +kernel
theorem dX4_rule_0 : decode cX4_rule 0 = .ok (.iload_n 1, 1) := by decide +kernel
theorem dX4_rule_1 : decode cX4_rule 1 = .ok (.ifCond .lt 8, 3) := by decide +kernel
theorem dX4_rule_4 : decode cX4_rule 4 = .ok (.iload_n 1, 1) := by decide +kernel
theorem dX4_rule_5 : decode cX4_rule 5 = .ok (.iconst 4, 1) := by decide +kernel
theorem dX4_rule_6 : decode cX4_rule 6 = .ok (.if_icmp .lt 5, 3) := by decide +kernel
theorem dX4_rule_9 : decode cX4_rule 9 = .ok (.iconst (-1), 1) := by decide +kernel
theorem dX4_rule_10 : decode cX4_rule 10 = .ok (.ireturn, 1) := by decide +kernel
theorem dX4_rule_11 : decode cX4_rule 11 = .ok (.aload_n 0, 1) := by decide +kernel
theorem dX4_rule_12 : decode cX4_rule 12 = .ok (.getfield 93, 3) := by decide +kernel
theorem dX4_rule_15 : decode cX4_rule 15 = .ok (.istore_n 2, 1) := by decide +kernel
theorem dX4_rule_16 : decode cX4_rule 16 = .ok (.aload_n 0, 1) := by decide +kernel
theorem dX4_rule_17 : decode cX4_rule 17 = .ok (.iload_n 1, 1) := by decide +kernel
theorem dX4_rule_18 : decode cX4_rule 18 = .ok (.putfield 93, 3) := by decide +kernel
theorem dX4_rule_21 : decode cX4_rule 21 = .ok (.iload_n 2, 1) := by decide +kernel
theorem dX4_rule_22 : decode cX4_rule 22 = .ok (.ireturn, 1) := by decide +kernel
theorem dX4_kind_0 : decode cX4_kind 0 = .ok (.iload_n 1, 1) := by decide +kernel
theorem dX4_kind_1 : decode cX4_kind 1 = .ok (.invokestatic 51, 3) := by decide +kernel
theorem dX4_kind_4 : decode cX4_kind 4 = .ok (.ifCond .ne 5, 3) := by decide +kernel
theorem dX4_kind_7 : decode cX4_kind 7 = .ok (.iconst (-1), 1) := by decide +kernel
theorem dX4_kind_8 : decode cX4_kind 8 = .ok (.ireturn, 1) := by decide +kernel
theorem dX4_kind_9 : decode cX4_kind 9 = .ok (.aload_n 0, 1) := by decide +kernel
theorem dX4_kind_10 : decode cX4_kind 10 = .ok (.iload_n 1, 1) := by decide +kernel
theorem dX4_kind_11 : decode cX4_kind 11 = .ok (.invokevirtual 58, 3) := by decide +kernel
theorem dX4_kind_14 : decode cX4_kind 14 = .ok (.astore_n 2, 1) := by decide +kernel
theorem dX4_kind_15 : decode cX4_kind 15 = .ok (.aload_n 2, 1) := by decide +kernel
theorem dX4_kind_16 : decode cX4_kind 16 = .ok (.ifnonnull 9, 3) := by decide +kernel
theorem dX4_kind_19 : decode cX4_kind 19 = .ok (.aload_n 0, 1) := by decide +kernel
theorem dX4_kind_20 : decode cX4_kind 20 = .ok (.iconst 1, 1) := by decide +kernel
theorem dX4_kind_21 : decode cX4_kind 21 = .ok (.invokevirtual 62, 3) := by decide +kernel
theorem dX4_kind_24 : decode cX4_kind 24 = .ok (.ireturn, 1) := by decide +kernel
theorem dX4_kind_25 : decode cX4_kind 25 = .ok (.aload_n 0, 1) := by decide +kernel
theorem dX4_kind_26 : decode cX4_kind 26 = .ok (.aload_n 2, 1) := by decide +kernel
theorem dX4_kind_27 : decode cX4_kind 27 = .ok (.getfield 90, 3) := by decide +kernel
theorem dX4_kind_30 : decode cX4_kind 30 = .ok (.invokevirtual 96, 3) := by decide +kernel
theorem dX4_kind_33 : decode cX4_kind 33 = .ok (.aload_n 0, 1) := by decide +kernel
theorem dX4_kind_34 : decode cX4_kind 34 = .ok (.getfield 26, 3) := by decide +kernel
theorem dX4_kind_37 : decode cX4_kind 37 = .ok (.aload_n 2, 1) := by decide +kernel
theorem dX4_kind_38 : decode cX4_kind 38 = .ok (.invokevirtual 100, 3) := by decide +kernel
theorem dX4_kind_41 : decode cX4_kind 41 = .ok (.invokevirtual 104, 3) := by decide +kernel
theorem dX4_kind_44 : decode cX4_kind 44 = .ok (.ireturn, 1) := by decide +kernel
theorem dX4_mark_0 : decode cX4_mark 0 = .ok (.iload_n 1, 1) := by decide +kernel
theorem dX4_mark_1 : decode cX4_mark 1 = .ok (.invokestatic 51, 3) := by decide +kernel
theorem dX4_mark_4 : decode cX4_mark 4 = .ok (.ifCond .eq 13, 3) := by decide +kernel
theorem dX4_mark_7 : decode cX4_mark 7 = .ok (.iload_n 2, 1) := by decide +kernel
theorem dX4_mark_8 : decode cX4_mark 8 = .ok (.iconst 1, 1) := by decide +kernel
theorem dX4_mark_9 : decode cX4_mark 9 = .ok (.if_icmp .lt 8, 3) := by decide +kernel
theorem dX4_mark_12 : decode cX4_mark 12 = .ok (.iload_n 2, 1) := by decide +kernel
theorem dX4_mark_13 : decode cX4_mark 13 = .ok (.iconst 3, 1) := by decide +kernel
theorem dX4_mark_14 : decode cX4_mark 14 = .ok (.if_icmp .le 5, 3) := by decide +kernel
theorem dX4_mark_17 : decode cX4_mark 17 = .ok (.iconst (-1), 1) := by decide +kernel
theorem dX4_mark_18 : decode cX4_mark 18 = .ok (.ireturn, 1) := by decide +kernel
theorem dX4_mark_19 : decode cX4_mark 19 = .ok (.aload_n 0, 1) := by decide +kernel
theorem dX4_mark_20 : decode cX4_mark 20 = .ok (.iload_n 1, 1) := by decide +kernel
theorem dX4_mark_21 : decode cX4_mark 21 = .ok (.invokevirtual 58, 3) := by decide +kernel
theorem dX4_mark_24 : decode cX4_mark 24 = .ok (.astore_n 3, 1) := by decide +kernel
theorem dX4_mark_25 : decode cX4_mark 25 = .ok (.aload_n 3, 1) := by decide +kernel
theorem dX4_mark_26 : decode cX4_mark 26 = .ok (.ifnonnull 9, 3) := by decide +kernel
theorem dX4_mark_29 : decode cX4_mark 29 = .ok (.aload_n 0, 1) := by decide +kernel
theorem dX4_mark_30 : decode cX4_mark 30 = .ok (.iconst 1, 1) := by decide +kernel
theorem dX4_mark_31 : decode cX4_mark 31 = .ok (.invokevirtual 62, 3) := by decide +kernel
theorem dX4_mark_34 : decode cX4_mark 34 = .ok (.ireturn, 1) := by decide +kernel
theorem dX4_mark_35 : decode cX4_mark 35 = .ok (.aload_n 0, 1) := by decide +kernel
theorem dX4_mark_36 : decode cX4_mark 36 = .ok (.aload_n 3, 1) := by decide +kernel
theorem dX4_mark_37 : decode cX4_mark 37 = .ok (.getfield 90, 3) := by decide +kernel
theorem dX4_mark_40 : decode cX4_mark 40 = .ok (.invokevirtual 96, 3) := by decide +kernel
theorem dX4_mark_43 : decode cX4_mark 43 = .ok (.astore 4, 2) := by decide +kernel
theorem dX4_mark_45 : decode cX4_mark 45 = .ok (.aload_n 0, 1) := by decide +kernel
theorem dX4_mark_46 : decode cX4_mark 46 = .ok (.getfield 26, 3) := by decide +kernel
theorem dX4_mark_49 : decode cX4_mark 49 = .ok (.aload_n 3, 1) := by decide +kernel
theorem dX4_mark_50 : decode cX4_mark 50 = .ok (.invokevirtual 100, 3) := by decide +kernel
theorem dX4_mark_53 : decode cX4_mark 53 = .ok (.istore 5, 2) := by decide +kernel
theorem dX4_mark_55 : decode cX4_mark 55 = .ok (.aload 4, 2) := by decide +kernel
theorem dX4_mark_57 : decode cX4_mark 57 = .ok (.iload 5, 2) := by decide +kernel
theorem dX4_mark_59 : decode cX4_mark 59 = .ok (.invokevirtual 104, 3) := by decide +kernel
theorem dX4_mark_62 : decode cX4_mark 62 = .ok (.istore 6, 2) := by decide +kernel
theorem dX4_mark_64 : decode cX4_mark 64 = .ok (.iload 6, 2) := by decide +kernel
theorem dX4_mark_66 : decode cX4_mark 66 = .ok (.iload_n 2, 1) := by decide +kernel
theorem dX4_mark_67 : decode cX4_mark 67 = .ok (.if_icmp .eq 14, 3) := by decide +kernel
theorem dX4_mark_70 : decode cX4_mark 70 = .ok (.iload 6, 2) := by decide +kernel
theorem dX4_mark_72 : decode cX4_mark 72 = .ok (.iconst 2, 1) := by decide +kernel
theorem dX4_mark_73 : decode cX4_mark 73 = .ok (.if_icmp .ne 12, 3) := by decide +kernel
theorem dX4_mark_76 : decode cX4_mark 76 = .ok (.iload_n 2, 1) := by decide +kernel
theorem dX4_mark_77 : decode cX4_mark 77 = .ok (.iconst 1, 1) := by decide +kernel
theorem dX4_mark_78 : decode cX4_mark 78 = .ok (.if_icmp .ne 7, 3) := by decide +kernel
theorem dX4_mark_81 : decode cX4_mark 81 = .ok (.iconst 1, 1) := by decide +kernel
theorem dX4_mark_82 : decode cX4_mark 82 = .ok (.goto 4, 3) := by decide +kernel
theorem dX4_mark_85 : decode cX4_mark 85 = .ok (.iconst 0, 1) := by decide +kernel
theorem dX4_mark_86 : decode cX4_mark 86 = .ok (.istore 7, 2) := by decide +kernel
theorem dX4_mark_88 : decode cX4_mark 88 = .ok (.iload 7, 2) := by decide +kernel
theorem dX4_mark_90 : decode cX4_mark 90 = .ok (.ifCond .ne 9, 3) := by decide +kernel
theorem dX4_mark_93 : decode cX4_mark 93 = .ok (.aload_n 0, 1) := by decide +kernel
theorem dX4_mark_94 : decode cX4_mark 94 = .ok (.iconst 3, 1) := by decide +kernel
theorem dX4_mark_95 : decode cX4_mark 95 = .ok (.invokevirtual 62, 3) := by decide +kernel
theorem dX4_mark_98 : decode cX4_mark 98 = .ok (.ireturn, 1) := by decide +kernel
theorem dX4_mark_99 : decode cX4_mark 99 = .ok (.iload_n 2, 1) := by decide +kernel
theorem dX4_mark_100 : decode cX4_mark 100 = .ok (.iconst 1, 1) := by decide +kernel
theorem dX4_mark_101 : decode cX4_mark 101 = .ok (.if_icmp .ne 11, 3) := by decide +kernel
theorem dX4_mark_104 : decode cX4_mark 104 = .ok (.aload 4, 2) := by decide +kernel
theorem dX4_mark_106 : decode cX4_mark 106 = .ok (.iload 5, 2) := by decide +kernel
theorem dX4_mark_108 : decode cX4_mark 108 = .ok (.invokevirtual 107, 3) := by decide +kernel
theorem dX4_mark_111 : decode cX4_mark 111 = .ok (.ireturn, 1) := by decide +kernel
theorem dX4_mark_112 : decode cX4_mark 112 = .ok (.iload_n 2, 1) := by decide +kernel
theorem dX4_mark_113 : decode cX4_mark 113 = .ok (.iconst 2, 1) := by decide +kernel
theorem dX4_mark_114 : decode cX4_mark 114 = .ok (.if_icmp .ne 8, 3) := by decide +kernel
theorem dX4_mark_117 : decode cX4_mark 117 = .ok (.iload 5, 2) := by decide +kernel
theorem dX4_mark_119 : decode cX4_mark 119 = .ok (.goto 10, 3) := by decide +kernel
theorem dX4_mark_122 : decode cX4_mark 122 = .ok (.aload 4, 2) := by decide +kernel
theorem dX4_mark_124 : decode cX4_mark 124 = .ok (.iload 5, 2) := by decide +kernel
theorem dX4_mark_126 : decode cX4_mark 126 = .ok (.invokevirtual 110, 3) := by decide +kernel
theorem dX4_mark_129 : decode cX4_mark 129 = .ok (.ireturn, 1) := by decide +kernel
theorem dX4_mean_0 : decode cX4_mean 0 = .ok (.iload_n 1, 1) := by decide +kernel
theorem dX4_mean_1 : decode cX4_mean 1 = .ok (.invokestatic 51, 3) := by decide +kernel
theorem dX4_mean_4 : decode cX4_mean 4 = .ok (.ifCond .ne 5, 3) := by decide +kernel
theorem dX4_mean_7 : decode cX4_mean 7 = .ok (.iconst (-1), 1) := by decide +kernel
theorem dX4_mean_8 : decode cX4_mean 8 = .ok (.ireturn, 1) := by decide +kernel
theorem dX4_mean_9 : decode cX4_mean 9 = .ok (.aload_n 0, 1) := by decide +kernel
theorem dX4_mean_10 : decode cX4_mean 10 = .ok (.iload_n 1, 1) := by decide +kernel
theorem dX4_mean_11 : decode cX4_mean 11 = .ok (.invokevirtual 58, 3) := by decide +kernel
theorem dX4_mean_14 : decode cX4_mean 14 = .ok (.astore_n 2, 1) := by decide +kernel
theorem dX4_mean_15 : decode cX4_mean 15 = .ok (.aload_n 2, 1) := by decide +kernel
theorem dX4_mean_16 : decode cX4_mean 16 = .ok (.ifnonnull 9, 3) := by decide +kernel
theorem dX4_mean_19 : decode cX4_mean 19 = .ok (.aload_n 0, 1) := by decide +kernel
theorem dX4_mean_20 : decode cX4_mean 20 = .ok (.iconst 1, 1) := by decide +kernel
theorem dX4_mean_21 : decode cX4_mean 21 = .ok (.invokevirtual 62, 3) := by decide +kernel
theorem dX4_mean_24 : decode cX4_mean 24 = .ok (.ireturn, 1) := by decide +kernel
theorem dX4_mean_25 : decode cX4_mean 25 = .ok (.aload_n 2, 1) := by decide +kernel
theorem dX4_mean_26 : decode cX4_mean 26 = .ok (.getfield 73, 3) := by decide +kernel
theorem dX4_mean_29 : decode cX4_mean 29 = .ok (.ifCond .le 15, 3) := by decide +kernel
theorem dX4_mean_32 : decode cX4_mean 32 = .ok (.aload_n 2, 1) := by decide +kernel
theorem dX4_mean_33 : decode cX4_mean 33 = .ok (.getfield 90, 3) := by decide +kernel
theorem dX4_mean_36 : decode cX4_mean 36 = .ok (.aload_n 2, 1) := by decide +kernel
theorem dX4_mean_37 : decode cX4_mean 37 = .ok (.getfield 73, 3) := by decide +kernel
theorem dX4_mean_40 : decode cX4_mean 40 = .ok (.idiv, 1) := by decide +kernel
theorem dX4_mean_41 : decode cX4_mean 41 = .ok (.goto 8, 3) := by decide +kernel
theorem dX4_mean_44 : decode cX4_mean 44 = .ok (.aload_n 0, 1) := by decide +kernel
theorem dX4_mean_45 : decode cX4_mean 45 = .ok (.iconst 4, 1) := by decide +kernel
theorem dX4_mean_46 : decode cX4_mean 46 = .ok (.invokevirtual 62, 3) := by decide +kernel
theorem dX4_mean_49 : decode cX4_mean 49 = .ok (.ireturn, 1) := by decide +kernel
theorem dX4_many_0 : decode cX4_many 0 = .ok (.iload_n 1, 1) := by decide +kernel
theorem dX4_many_1 : decode cX4_many 1 = .ok (.invokestatic 113, 3) := by decide +kernel
theorem dX4_many_4 : decode cX4_many 4 = .ok (.ifCond .eq 14, 3) := by decide +kernel
theorem dX4_many_7 : decode cX4_many 7 = .ok (.aload_n 0, 1) := by decide +kernel
theorem dX4_many_8 : decode cX4_many 8 = .ok (.getfield 26, 3) := by decide +kernel
theorem dX4_many_11 : decode cX4_many 11 = .ok (.iload_n 1, 1) := by decide +kernel
theorem dX4_many_12 : decode cX4_many 12 = .ok (.invokevirtual 116, 3) := by decide +kernel
theorem dX4_many_15 : decode cX4_many 15 = .ok (.goto 4, 3) := by decide +kernel
theorem dX4_many_18 : decode cX4_many 18 = .ok (.iconst (-1), 1) := by decide +kernel
theorem dX4_many_19 : decode cX4_many 19 = .ok (.ireturn, 1) := by decide +kernel
theorem dX4_rank_0 : decode cX4_rank 0 = .ok (.iload_n 1, 1) := by decide +kernel
theorem dX4_rank_1 : decode cX4_rank 1 = .ok (.invokestatic 51, 3) := by decide +kernel
theorem dX4_rank_4 : decode cX4_rank 4 = .ok (.ifCond .ne 5, 3) := by decide +kernel
theorem dX4_rank_7 : decode cX4_rank 7 = .ok (.iconst (-1), 1) := by decide +kernel
theorem dX4_rank_8 : decode cX4_rank 8 = .ok (.ireturn, 1) := by decide +kernel
theorem dX4_rank_9 : decode cX4_rank 9 = .ok (.aload_n 0, 1) := by decide +kernel
theorem dX4_rank_10 : decode cX4_rank 10 = .ok (.iload_n 1, 1) := by decide +kernel
theorem dX4_rank_11 : decode cX4_rank 11 = .ok (.invokevirtual 58, 3) := by decide +kernel
theorem dX4_rank_14 : decode cX4_rank 14 = .ok (.astore_n 2, 1) := by decide +kernel
theorem dX4_rank_15 : decode cX4_rank 15 = .ok (.aload_n 2, 1) := by decide +kernel
theorem dX4_rank_16 : decode cX4_rank 16 = .ok (.ifnonnull 11, 3) := by decide +kernel
theorem dX4_rank_19 : decode cX4_rank 19 = .ok (.aload_n 0, 1) := by decide +kernel
theorem dX4_rank_20 : decode cX4_rank 20 = .ok (.iconst 1, 1) := by decide +kernel
theorem dX4_rank_21 : decode cX4_rank 21 = .ok (.invokevirtual 62, 3) := by decide +kernel
theorem dX4_rank_24 : decode cX4_rank 24 = .ok (.goto 11, 3) := by decide +kernel
theorem dX4_rank_27 : decode cX4_rank 27 = .ok (.aload_n 0, 1) := by decide +kernel
theorem dX4_rank_28 : decode cX4_rank 28 = .ok (.getfield 26, 3) := by decide +kernel
theorem dX4_rank_31 : decode cX4_rank 31 = .ok (.aload_n 2, 1) := by decide +kernel
theorem dX4_rank_32 : decode cX4_rank 32 = .ok (.invokevirtual 100, 3) := by decide +kernel
theorem dX4_rank_35 : decode cX4_rank 35 = .ok (.ireturn, 1) := by decide +kernel
theorem dX4_list_0 : decode cX4_list 0 = .ok (.iload_n 1, 1) := by decide +kernel
theorem dX4_list_1 : decode cX4_list 1 = .ok (.invokestatic 51, 3) := by decide +kernel
theorem dX4_list_4 : decode cX4_list 4 = .ok (.ifCond .eq 10, 3) := by decide +kernel
theorem dX4_list_7 : decode cX4_list 7 = .ok (.iload_n 2, 1) := by decide +kernel
theorem dX4_list_8 : decode cX4_list 8 = .ok (.invokestatic 113, 3) := by decide +kernel
theorem dX4_list_11 : decode cX4_list 11 = .ok (.ifCond .ne 5, 3) := by decide +kernel
theorem dX4_list_14 : decode cX4_list 14 = .ok (.iconst (-1), 1) := by decide +kernel
theorem dX4_list_15 : decode cX4_list 15 = .ok (.ireturn, 1) := by decide +kernel
theorem dX4_list_16 : decode cX4_list 16 = .ok (.iload_n 3, 1) := by decide +kernel
theorem dX4_list_17 : decode cX4_list 17 = .ok (.ifCond .lt 15, 3) := by decide +kernel
theorem dX4_list_20 : decode cX4_list 20 = .ok (.iload_n 3, 1) := by decide +kernel
theorem dX4_list_21 : decode cX4_list 21 = .ok (.aload_n 0, 1) := by decide +kernel
theorem dX4_list_22 : decode cX4_list 22 = .ok (.getfield 26, 3) := by decide +kernel
theorem dX4_list_25 : decode cX4_list 25 = .ok (.iload_n 2, 1) := by decide +kernel
theorem dX4_list_26 : decode cX4_list 26 = .ok (.invokevirtual 116, 3) := by decide +kernel
theorem dX4_list_29 : decode cX4_list 29 = .ok (.if_icmp .lt 6, 3) := by decide +kernel
theorem dX4_list_32 : decode cX4_list 32 = .ok (.bipush (-9), 2) := by decide +kernel
theorem dX4_list_34 : decode cX4_list 34 = .ok (.ireturn, 1) := by decide +kernel
theorem dX4_list_35 : decode cX4_list 35 = .ok (.aload_n 0, 1) := by decide +kernel
theorem dX4_list_36 : decode cX4_list 36 = .ok (.getfield 15, 3) := by decide +kernel
theorem dX4_list_39 : decode cX4_list 39 = .ok (.iload_n 1, 1) := by decide +kernel
theorem dX4_list_40 : decode cX4_list 40 = .ok (.iconst 1, 1) := by decide +kernel
theorem dX4_list_41 : decode cX4_list 41 = .ok (.bastore, 1) := by decide +kernel
theorem dX4_list_42 : decode cX4_list 42 = .ok (.aload_n 0, 1) := by decide +kernel
theorem dX4_list_43 : decode cX4_list 43 = .ok (.getfield 26, 3) := by decide +kernel
theorem dX4_list_46 : decode cX4_list 46 = .ok (.aload_n 0, 1) := by decide +kernel
theorem dX4_list_47 : decode cX4_list 47 = .ok (.getfield 11, 3) := by decide +kernel
theorem dX4_list_50 : decode cX4_list 50 = .ok (.iload_n 1, 1) := by decide +kernel
theorem dX4_list_51 : decode cX4_list 51 = .ok (.aaload, 1) := by decide +kernel
theorem dX4_list_52 : decode cX4_list 52 = .ok (.iload_n 2, 1) := by decide +kernel
theorem dX4_list_53 : decode cX4_list 53 = .ok (.iload_n 3, 1) := by decide +kernel
theorem dX4_list_54 : decode cX4_list 54 = .ok (.invokevirtual 119, 3) := by decide +kernel
theorem dX4_list_57 : decode cX4_list 57 = .ok (.iconst 1, 1) := by decide +kernel
theorem dX4_list_58 : decode cX4_list 58 = .ok (.ireturn, 1) := by decide +kernel
theorem dX4_turn_0 : decode cX4_turn 0 = .ok (.iload_n 1, 1) := by decide +kernel
theorem dX4_turn_1 : decode cX4_turn 1 = .ok (.invokestatic 51, 3) := by decide +kernel
theorem dX4_turn_4 : decode cX4_turn 4 = .ok (.ifCond .ne 5, 3) := by decide +kernel
theorem dX4_turn_7 : decode cX4_turn 7 = .ok (.iconst (-1), 1) := by decide +kernel
theorem dX4_turn_8 : decode cX4_turn 8 = .ok (.ireturn, 1) := by decide +kernel
theorem dX4_turn_9 : decode cX4_turn 9 = .ok (.aload_n 0, 1) := by decide +kernel
theorem dX4_turn_10 : decode cX4_turn 10 = .ok (.iload_n 1, 1) := by decide +kernel
theorem dX4_turn_11 : decode cX4_turn 11 = .ok (.invokevirtual 58, 3) := by decide +kernel
theorem dX4_turn_14 : decode cX4_turn 14 = .ok (.astore_n 2, 1) := by decide +kernel
theorem dX4_turn_15 : decode cX4_turn 15 = .ok (.aload_n 2, 1) := by decide +kernel
theorem dX4_turn_16 : decode cX4_turn 16 = .ok (.ifnonnull 9, 3) := by decide +kernel
theorem dX4_turn_19 : decode cX4_turn 19 = .ok (.aload_n 0, 1) := by decide +kernel
theorem dX4_turn_20 : decode cX4_turn 20 = .ok (.iconst 1, 1) := by decide +kernel
theorem dX4_turn_21 : decode cX4_turn 21 = .ok (.invokevirtual 62, 3) := by decide +kernel
theorem dX4_turn_24 : decode cX4_turn 24 = .ok (.ireturn, 1) := by decide +kernel
theorem dX4_turn_25 : decode cX4_turn 25 = .ok (.aload_n 0, 1) := by decide +kernel
theorem dX4_turn_26 : decode cX4_turn 26 = .ok (.getfield 44, 3) := by decide +kernel
theorem dX4_turn_29 : decode cX4_turn 29 = .ok (.invokevirtual 55, 3) := by decide +kernel
theorem dX4_turn_32 : decode cX4_turn 32 = .ok (.iconst 1, 1) := by decide +kernel
theorem dX4_turn_33 : decode cX4_turn 33 = .ok (.istore_n 3, 1) := by decide +kernel
theorem dX4_turn_34 : decode cX4_turn 34 = .ok (.iload_n 3, 1) := by decide +kernel
theorem dX4_turn_35 : decode cX4_turn 35 = .ok (.aload_n 2, 1) := by decide +kernel
theorem dX4_turn_36 : decode cX4_turn 36 = .ok (.iconst 0, 1) := by decide +kernel
theorem dX4_turn_37 : decode cX4_turn 37 = .ok (.invokevirtual 80, 3) := by decide +kernel
theorem dX4_turn_40 : decode cX4_turn 40 = .ok (.if_icmp .gt 21, 3) := by decide +kernel
theorem dX4_turn_43 : decode cX4_turn 43 = .ok (.aload_n 0, 1) := by decide +kernel
theorem dX4_turn_44 : decode cX4_turn 44 = .ok (.getfield 44, 3) := by decide +kernel
theorem dX4_turn_47 : decode cX4_turn 47 = .ok (.aload_n 2, 1) := by decide +kernel
theorem dX4_turn_48 : decode cX4_turn 48 = .ok (.iload_n 3, 1) := by decide +kernel
theorem dX4_turn_49 : decode cX4_turn 49 = .ok (.invokevirtual 122, 3) := by decide +kernel
theorem dX4_turn_52 : decode cX4_turn 52 = .ok (.invokevirtual 69, 3) := by decide +kernel
theorem dX4_turn_55 : decode cX4_turn 55 = .ok (.iinc 3 1, 3) := by decide +kernel
theorem dX4_turn_58 : decode cX4_turn 58 = .ok (.goto (-24), 3) := by decide +kernel
theorem dX4_turn_61 : decode cX4_turn 61 = .ok (.aload_n 2, 1) := by decide +kernel
theorem dX4_turn_62 : decode cX4_turn 62 = .ok (.invokevirtual 55, 3) := by decide +kernel
theorem dX4_turn_65 : decode cX4_turn 65 = .ok (.aload_n 2, 1) := by decide +kernel
theorem dX4_turn_66 : decode cX4_turn 66 = .ok (.aload_n 0, 1) := by decide +kernel
theorem dX4_turn_67 : decode cX4_turn 67 = .ok (.getfield 44, 3) := by decide +kernel
theorem dX4_turn_70 : decode cX4_turn 70 = .ok (.iconst 0, 1) := by decide +kernel
theorem dX4_turn_71 : decode cX4_turn 71 = .ok (.aload_n 0, 1) := by decide +kernel
theorem dX4_turn_72 : decode cX4_turn 72 = .ok (.getfield 44, 3) := by decide +kernel
theorem dX4_turn_75 : decode cX4_turn 75 = .ok (.getfield 73, 3) := by decide +kernel
theorem dX4_turn_78 : decode cX4_turn 78 = .ok (.invokevirtual 86, 3) := by decide +kernel
theorem dX4_turn_81 : decode cX4_turn 81 = .ok (.aload_n 2, 1) := by decide +kernel
theorem dX4_turn_82 : decode cX4_turn 82 = .ok (.getfield 73, 3) := by decide +kernel
theorem dX4_turn_85 : decode cX4_turn 85 = .ok (.ireturn, 1) := by decide +kernel
theorem dX4_step_0 : decode cX4_step 0 = .ok (.iload_n 1, 1) := by decide +kernel
theorem dX4_step_1 : decode cX4_step 1 = .ok (.invokestatic 51, 3) := by decide +kernel
theorem dX4_step_4 : decode cX4_step 4 = .ok (.ifCond .eq 14, 3) := by decide +kernel
theorem dX4_step_7 : decode cX4_step 7 = .ok (.iload_n 2, 1) := by decide +kernel
theorem dX4_step_8 : decode cX4_step 8 = .ok (.ifCond .lt 10, 3) := by decide +kernel
theorem dX4_step_11 : decode cX4_step 11 = .ok (.iload_n 2, 1) := by decide +kernel
theorem dX4_step_12 : decode cX4_step 12 = .ok (.sipush 1000, 3) := by decide +kernel
theorem dX4_step_15 : decode cX4_step 15 = .ok (.if_icmp .le 5, 3) := by decide +kernel
theorem dX4_step_18 : decode cX4_step 18 = .ok (.iconst (-1), 1) := by decide +kernel
theorem dX4_step_19 : decode cX4_step 19 = .ok (.ireturn, 1) := by decide +kernel
theorem dX4_step_20 : decode cX4_step 20 = .ok (.aload_n 0, 1) := by decide +kernel
theorem dX4_step_21 : decode cX4_step 21 = .ok (.iload_n 1, 1) := by decide +kernel
theorem dX4_step_22 : decode cX4_step 22 = .ok (.invokevirtual 58, 3) := by decide +kernel
theorem dX4_step_25 : decode cX4_step 25 = .ok (.astore_n 3, 1) := by decide +kernel
theorem dX4_step_26 : decode cX4_step 26 = .ok (.aload_n 3, 1) := by decide +kernel
theorem dX4_step_27 : decode cX4_step 27 = .ok (.ifnonnull 9, 3) := by decide +kernel
theorem dX4_step_30 : decode cX4_step 30 = .ok (.aload_n 0, 1) := by decide +kernel
theorem dX4_step_31 : decode cX4_step 31 = .ok (.iconst 1, 1) := by decide +kernel
theorem dX4_step_32 : decode cX4_step 32 = .ok (.invokevirtual 62, 3) := by decide +kernel
theorem dX4_step_35 : decode cX4_step 35 = .ok (.ireturn, 1) := by decide +kernel
theorem dX4_step_36 : decode cX4_step 36 = .ok (.aload_n 3, 1) := by decide +kernel
theorem dX4_step_37 : decode cX4_step 37 = .ok (.getfield 90, 3) := by decide +kernel
theorem dX4_step_40 : decode cX4_step 40 = .ok (.istore 4, 2) := by decide +kernel
theorem dX4_step_42 : decode cX4_step 42 = .ok (.aload_n 0, 1) := by decide +kernel
theorem dX4_step_43 : decode cX4_step 43 = .ok (.iload 4, 2) := by decide +kernel
theorem dX4_step_45 : decode cX4_step 45 = .ok (.invokevirtual 96, 3) := by decide +kernel
theorem dX4_step_48 : decode cX4_step 48 = .ok (.aload_n 0, 1) := by decide +kernel
theorem dX4_step_49 : decode cX4_step 49 = .ok (.getfield 26, 3) := by decide +kernel
theorem dX4_step_52 : decode cX4_step 52 = .ok (.aload_n 3, 1) := by decide +kernel
theorem dX4_step_53 : decode cX4_step 53 = .ok (.invokevirtual 100, 3) := by decide +kernel
theorem dX4_step_56 : decode cX4_step 56 = .ok (.iload_n 2, 1) := by decide +kernel
theorem dX4_step_57 : decode cX4_step 57 = .ok (.invokevirtual 125, 3) := by decide +kernel
theorem dX4_step_60 : decode cX4_step 60 = .ok (.istore 5, 2) := by decide +kernel
theorem dX4_step_62 : decode cX4_step 62 = .ok (.aload_n 0, 1) := by decide +kernel
theorem dX4_step_63 : decode cX4_step 63 = .ok (.getfield 26, 3) := by decide +kernel
theorem dX4_step_66 : decode cX4_step 66 = .ok (.aload_n 3, 1) := by decide +kernel
theorem dX4_step_67 : decode cX4_step 67 = .ok (.iload 4, 2) := by decide +kernel
theorem dX4_step_69 : decode cX4_step 69 = .ok (.iload 5, 2) := by decide +kernel
theorem dX4_step_71 : decode cX4_step 71 = .ok (.invokevirtual 119, 3) := by decide +kernel
theorem dX4_step_74 : decode cX4_step 74 = .ok (.aload_n 3, 1) := by decide +kernel
theorem dX4_step_75 : decode cX4_step 75 = .ok (.getfield 73, 3) := by decide +kernel
theorem dX4_step_78 : decode cX4_step 78 = .ok (.ireturn, 1) := by decide +kernel
theorem dX4_tail_0 : decode cX4_tail 0 = .ok (.iload_n 1, 1) := by decide +kernel
theorem dX4_tail_1 : decode cX4_tail 1 = .ok (.invokestatic 51, 3) := by decide +kernel
theorem dX4_tail_4 : decode cX4_tail 4 = .ok (.ifCond .ne 5, 3) := by decide +kernel
theorem dX4_tail_7 : decode cX4_tail 7 = .ok (.iconst (-1), 1) := by decide +kernel
theorem dX4_tail_8 : decode cX4_tail 8 = .ok (.ireturn, 1) := by decide +kernel
theorem dX4_tail_9 : decode cX4_tail 9 = .ok (.aload_n 0, 1) := by decide +kernel
theorem dX4_tail_10 : decode cX4_tail 10 = .ok (.iload_n 1, 1) := by decide +kernel
theorem dX4_tail_11 : decode cX4_tail 11 = .ok (.invokevirtual 58, 3) := by decide +kernel
theorem dX4_tail_14 : decode cX4_tail 14 = .ok (.astore_n 2, 1) := by decide +kernel
theorem dX4_tail_15 : decode cX4_tail 15 = .ok (.aload_n 2, 1) := by decide +kernel
theorem dX4_tail_16 : decode cX4_tail 16 = .ok (.ifnonnull 11, 3) := by decide +kernel
theorem dX4_tail_19 : decode cX4_tail 19 = .ok (.aload_n 0, 1) := by decide +kernel
theorem dX4_tail_20 : decode cX4_tail 20 = .ok (.iconst 1, 1) := by decide +kernel
theorem dX4_tail_21 : decode cX4_tail 21 = .ok (.invokevirtual 62, 3) := by decide +kernel
theorem dX4_tail_24 : decode cX4_tail 24 = .ok (.goto 22, 3) := by decide +kernel
theorem dX4_tail_27 : decode cX4_tail 27 = .ok (.aload_n 0, 1) := by decide +kernel
theorem dX4_tail_28 : decode cX4_tail 28 = .ok (.aload_n 2, 1) := by decide +kernel
theorem dX4_tail_29 : decode cX4_tail 29 = .ok (.getfield 90, 3) := by decide +kernel
theorem dX4_tail_32 : decode cX4_tail 32 = .ok (.invokevirtual 96, 3) := by decide +kernel
theorem dX4_tail_35 : decode cX4_tail 35 = .ok (.aload_n 0, 1) := by decide +kernel
theorem dX4_tail_36 : decode cX4_tail 36 = .ok (.getfield 26, 3) := by decide +kernel
theorem dX4_tail_39 : decode cX4_tail 39 = .ok (.aload_n 2, 1) := by decide +kernel
theorem dX4_tail_40 : decode cX4_tail 40 = .ok (.invokevirtual 100, 3) := by decide +kernel
theorem dX4_tail_43 : decode cX4_tail 43 = .ok (.invokevirtual 110, 3) := by decide +kernel
theorem dX4_tail_46 : decode cX4_tail 46 = .ok (.ireturn, 1) := by decide +kernel
theorem dX4_beat_0 : decode cX4_beat 0 = .ok (.iload_n 1, 1) := by decide +kernel
theorem dX4_beat_1 : decode cX4_beat 1 = .ok (.invokestatic 51, 3) := by decide +kernel
theorem dX4_beat_4 : decode cX4_beat 4 = .ok (.ifCond .ne 5, 3) := by decide +kernel
theorem dX4_beat_7 : decode cX4_beat 7 = .ok (.iconst (-1), 1) := by decide +kernel
theorem dX4_beat_8 : decode cX4_beat 8 = .ok (.ireturn, 1) := by decide +kernel
theorem dX4_beat_9 : decode cX4_beat 9 = .ok (.aload_n 0, 1) := by decide +kernel
theorem dX4_beat_10 : decode cX4_beat 10 = .ok (.iload_n 1, 1) := by decide +kernel
theorem dX4_beat_11 : decode cX4_beat 11 = .ok (.invokevirtual 58, 3) := by decide +kernel
theorem dX4_beat_14 : decode cX4_beat 14 = .ok (.astore_n 2, 1) := by decide +kernel
theorem dX4_beat_15 : decode cX4_beat 15 = .ok (.aload_n 2, 1) := by decide +kernel
theorem dX4_beat_16 : decode cX4_beat 16 = .ok (.ifnonnull 11, 3) := by decide +kernel
theorem dX4_beat_19 : decode cX4_beat 19 = .ok (.aload_n 0, 1) := by decide +kernel
theorem dX4_beat_20 : decode cX4_beat 20 = .ok (.iconst 1, 1) := by decide +kernel
theorem dX4_beat_21 : decode cX4_beat 21 = .ok (.invokevirtual 62, 3) := by decide +kernel
theorem dX4_beat_24 : decode cX4_beat 24 = .ok (.goto 22, 3) := by decide +kernel
theorem dX4_beat_27 : decode cX4_beat 27 = .ok (.aload_n 0, 1) := by decide +kernel
theorem dX4_beat_28 : decode cX4_beat 28 = .ok (.aload_n 2, 1) := by decide +kernel
theorem dX4_beat_29 : decode cX4_beat 29 = .ok (.getfield 90, 3) := by decide +kernel
theorem dX4_beat_32 : decode cX4_beat 32 = .ok (.invokevirtual 96, 3) := by decide +kernel
theorem dX4_beat_35 : decode cX4_beat 35 = .ok (.aload_n 0, 1) := by decide +kernel
theorem dX4_beat_36 : decode cX4_beat 36 = .ok (.getfield 26, 3) := by decide +kernel
theorem dX4_beat_39 : decode cX4_beat 39 = .ok (.aload_n 2, 1) := by decide +kernel
theorem dX4_beat_40 : decode cX4_beat 40 = .ok (.invokevirtual 100, 3) := by decide +kernel
theorem dX4_beat_43 : decode cX4_beat 43 = .ok (.invokevirtual 107, 3) := by decide +kernel
theorem dX4_beat_46 : decode cX4_beat 46 = .ok (.ireturn, 1) := by decide +kernel
theorem dX4_leader_0 : decode cX4_leader 0 = .ok (.iload_n 1, 1) := by decide +kernel
theorem dX4_leader_1 : decode cX4_leader 1 = .ok (.invokestatic 51, 3) := by decide +kernel
theorem dX4_leader_4 : decode cX4_leader 4 = .ok (.ifCond .ne 5, 3) := by decide +kernel
theorem dX4_leader_7 : decode cX4_leader 7 = .ok (.iconst (-1), 1) := by decide +kernel
theorem dX4_leader_8 : decode cX4_leader 8 = .ok (.ireturn, 1) := by decide +kernel
theorem dX4_leader_9 : decode cX4_leader 9 = .ok (.aload_n 0, 1) := by decide +kernel
theorem dX4_leader_10 : decode cX4_leader 10 = .ok (.iload_n 1, 1) := by decide +kernel
theorem dX4_leader_11 : decode cX4_leader 11 = .ok (.invokevirtual 58, 3) := by decide +kernel
theorem dX4_leader_14 : decode cX4_leader 14 = .ok (.astore_n 2, 1) := by decide +kernel
theorem dX4_leader_15 : decode cX4_leader 15 = .ok (.aload_n 2, 1) := by decide +kernel
theorem dX4_leader_16 : decode cX4_leader 16 = .ok (.ifnonnull 11, 3) := by decide +kernel
theorem dX4_leader_19 : decode cX4_leader 19 = .ok (.aload_n 0, 1) := by decide +kernel
theorem dX4_leader_20 : decode cX4_leader 20 = .ok (.iconst 1, 1) := by decide +kernel
theorem dX4_leader_21 : decode cX4_leader 21 = .ok (.invokevirtual 62, 3) := by decide +kernel
theorem dX4_leader_24 : decode cX4_leader 24 = .ok (.goto 22, 3) := by decide +kernel
theorem dX4_leader_27 : decode cX4_leader 27 = .ok (.aload_n 0, 1) := by decide +kernel
theorem dX4_leader_28 : decode cX4_leader 28 = .ok (.aload_n 2, 1) := by decide +kernel
theorem dX4_leader_29 : decode cX4_leader 29 = .ok (.getfield 90, 3) := by decide +kernel
theorem dX4_leader_32 : decode cX4_leader 32 = .ok (.invokevirtual 96, 3) := by decide +kernel
theorem dX4_leader_35 : decode cX4_leader 35 = .ok (.aload_n 0, 1) := by decide +kernel
theorem dX4_leader_36 : decode cX4_leader 36 = .ok (.getfield 26, 3) := by decide +kernel
theorem dX4_leader_39 : decode cX4_leader 39 = .ok (.aload_n 2, 1) := by decide +kernel
theorem dX4_leader_40 : decode cX4_leader 40 = .ok (.invokevirtual 100, 3) := by decide +kernel
theorem dX4_leader_43 : decode cX4_leader 43 = .ok (.invokevirtual 129, 3) := by decide +kernel
theorem dX4_leader_46 : decode cX4_leader 46 = .ok (.ireturn, 1) := by decide +kernel
theorem dX4_rounds_0 : decode cX4_rounds 0 = .ok (.iload_n 1, 1) := by decide +kernel
theorem dX4_rounds_1 : decode cX4_rounds 1 = .ok (.invokestatic 113, 3) := by decide +kernel
theorem dX4_rounds_4 : decode cX4_rounds 4 = .ok (.ifCond .ne 5, 3) := by decide +kernel
theorem dX4_rounds_7 : decode cX4_rounds 7 = .ok (.iconst (-1), 1) := by decide +kernel
theorem dX4_rounds_8 : decode cX4_rounds 8 = .ok (.ireturn, 1) := by decide +kernel
theorem dX4_rounds_9 : decode cX4_rounds 9 = .ok (.iload_n 2, 1) := by decide +kernel
theorem dX4_rounds_10 : decode cX4_rounds 10 = .ok (.tableswitch 79 0 4 #[34, 43, 52, 61, 70], 34) := by decide +kernel
theorem dX4_rounds_44 : decode cX4_rounds 44 = .ok (.aload_n 0, 1) := by decide +kernel
theorem dX4_rounds_45 : decode cX4_rounds 45 = .ok (.iload_n 1, 1) := by decide +kernel
theorem dX4_rounds_46 : decode cX4_rounds 46 = .ok (.invokevirtual 96, 3) := by decide +kernel
theorem dX4_rounds_49 : decode cX4_rounds 49 = .ok (.getfield 132, 3) := by decide +kernel
theorem dX4_rounds_52 : decode cX4_rounds 52 = .ok (.ireturn, 1) := by decide +kernel
theorem dX4_rounds_53 : decode cX4_rounds 53 = .ok (.aload_n 0, 1) := by decide +kernel
theorem dX4_rounds_54 : decode cX4_rounds 54 = .ok (.iload_n 1, 1) := by decide +kernel
theorem dX4_rounds_55 : decode cX4_rounds 55 = .ok (.invokevirtual 96, 3) := by decide +kernel
theorem dX4_rounds_58 : decode cX4_rounds 58 = .ok (.getfield 135, 3) := by decide +kernel
theorem dX4_rounds_61 : decode cX4_rounds 61 = .ok (.ireturn, 1) := by decide +kernel
theorem dX4_rounds_62 : decode cX4_rounds 62 = .ok (.aload_n 0, 1) := by decide +kernel
theorem dX4_rounds_63 : decode cX4_rounds 63 = .ok (.iload_n 1, 1) := by decide +kernel
theorem dX4_rounds_64 : decode cX4_rounds 64 = .ok (.invokevirtual 96, 3) := by decide +kernel
theorem dX4_rounds_67 : decode cX4_rounds 67 = .ok (.getfield 138, 3) := by decide +kernel
theorem dX4_rounds_70 : decode cX4_rounds 70 = .ok (.ireturn, 1) := by decide +kernel
theorem dX4_rounds_71 : decode cX4_rounds 71 = .ok (.aload_n 0, 1) := by decide +kernel
theorem dX4_rounds_72 : decode cX4_rounds 72 = .ok (.iload_n 1, 1) := by decide +kernel
theorem dX4_rounds_73 : decode cX4_rounds 73 = .ok (.invokevirtual 96, 3) := by decide +kernel
theorem dX4_rounds_76 : decode cX4_rounds 76 = .ok (.getfield 141, 3) := by decide +kernel
theorem dX4_rounds_79 : decode cX4_rounds 79 = .ok (.ireturn, 1) := by decide +kernel
theorem dX4_rounds_80 : decode cX4_rounds 80 = .ok (.aload_n 0, 1) := by decide +kernel
theorem dX4_rounds_81 : decode cX4_rounds 81 = .ok (.iload_n 1, 1) := by decide +kernel
theorem dX4_rounds_82 : decode cX4_rounds 82 = .ok (.invokevirtual 96, 3) := by decide +kernel
theorem dX4_rounds_85 : decode cX4_rounds 85 = .ok (.getfield 144, 3) := by decide +kernel
theorem dX4_rounds_88 : decode cX4_rounds 88 = .ok (.ireturn, 1) := by decide +kernel
theorem dX4_rounds_89 : decode cX4_rounds 89 = .ok (.iconst (-1), 1) := by decide +kernel
theorem dX4_rounds_90 : decode cX4_rounds 90 = .ok (.ireturn, 1) := by decide +kernel
theorem dX4_ring_0 : decode cX4_ring 0 = .ok (.iload_n 1, 1) := by decide +kernel
theorem dX4_ring_1 : decode cX4_ring 1 = .ok (.invokestatic 113, 3) := by decide +kernel
theorem dX4_ring_4 : decode cX4_ring 4 = .ok (.ifCond .eq 15, 3) := by decide +kernel
theorem dX4_ring_7 : decode cX4_ring 7 = .ok (.aload_n 0, 1) := by decide +kernel
theorem dX4_ring_8 : decode cX4_ring 8 = .ok (.iload_n 1, 1) := by decide +kernel
theorem dX4_ring_9 : decode cX4_ring 9 = .ok (.invokevirtual 96, 3) := by decide +kernel
theorem dX4_ring_12 : decode cX4_ring 12 = .ok (.iload_n 2, 1) := by decide +kernel
theorem dX4_ring_13 : decode cX4_ring 13 = .ok (.invokevirtual 147, 3) := by decide +kernel
theorem dX4_ring_16 : decode cX4_ring 16 = .ok (.goto 4, 3) := by decide +kernel
theorem dX4_ring_19 : decode cX4_ring 19 = .ok (.iconst (-1), 1) := by decide +kernel
theorem dX4_ring_20 : decode cX4_ring 20 = .ok (.ireturn, 1) := by decide +kernel
theorem dX4_from_0 : decode cX4_from 0 = .ok (.iload_n 1, 1) := by decide +kernel
theorem dX4_from_1 : decode cX4_from 1 = .ok (.invokestatic 51, 3) := by decide +kernel
theorem dX4_from_4 : decode cX4_from 4 = .ok (.ifCond .ne 5, 3) := by decide +kernel
theorem dX4_from_7 : decode cX4_from 7 = .ok (.iconst (-1), 1) := by decide +kernel
theorem dX4_from_8 : decode cX4_from 8 = .ok (.ireturn, 1) := by decide +kernel
theorem dX4_from_9 : decode cX4_from 9 = .ok (.aload_n 0, 1) := by decide +kernel
theorem dX4_from_10 : decode cX4_from 10 = .ok (.iload_n 1, 1) := by decide +kernel
theorem dX4_from_11 : decode cX4_from 11 = .ok (.invokevirtual 58, 3) := by decide +kernel
theorem dX4_from_14 : decode cX4_from 14 = .ok (.astore_n 2, 1) := by decide +kernel
theorem dX4_from_15 : decode cX4_from 15 = .ok (.aload_n 2, 1) := by decide +kernel
theorem dX4_from_16 : decode cX4_from 16 = .ok (.ifnonnull 11, 3) := by decide +kernel
theorem dX4_from_19 : decode cX4_from 19 = .ok (.aload_n 0, 1) := by decide +kernel
theorem dX4_from_20 : decode cX4_from 20 = .ok (.iconst 1, 1) := by decide +kernel
theorem dX4_from_21 : decode cX4_from 21 = .ok (.invokevirtual 62, 3) := by decide +kernel
theorem dX4_from_24 : decode cX4_from 24 = .ok (.goto 22, 3) := by decide +kernel
theorem dX4_from_27 : decode cX4_from 27 = .ok (.aload_n 0, 1) := by decide +kernel
theorem dX4_from_28 : decode cX4_from 28 = .ok (.aload_n 2, 1) := by decide +kernel
theorem dX4_from_29 : decode cX4_from 29 = .ok (.getfield 90, 3) := by decide +kernel
theorem dX4_from_32 : decode cX4_from 32 = .ok (.invokevirtual 96, 3) := by decide +kernel
theorem dX4_from_35 : decode cX4_from 35 = .ok (.aload_n 0, 1) := by decide +kernel
theorem dX4_from_36 : decode cX4_from 36 = .ok (.getfield 26, 3) := by decide +kernel
theorem dX4_from_39 : decode cX4_from 39 = .ok (.aload_n 2, 1) := by decide +kernel
theorem dX4_from_40 : decode cX4_from 40 = .ok (.invokevirtual 100, 3) := by decide +kernel
theorem dX4_from_43 : decode cX4_from 43 = .ok (.invokevirtual 150, 3) := by decide +kernel
theorem dX4_from_46 : decode cX4_from 46 = .ok (.ireturn, 1) := by decide +kernel
theorem dX4_fromAt_0 : decode cX4_fromAt 0 = .ok (.iload_n 1, 1) := by decide +kernel
theorem dX4_fromAt_1 : decode cX4_fromAt 1 = .ok (.invokestatic 51, 3) := by decide +kernel
theorem dX4_fromAt_4 : decode cX4_fromAt 4 = .ok (.ifCond .ne 5, 3) := by decide +kernel
theorem dX4_fromAt_7 : decode cX4_fromAt 7 = .ok (.iconst (-1), 1) := by decide +kernel
theorem dX4_fromAt_8 : decode cX4_fromAt 8 = .ok (.ireturn, 1) := by decide +kernel
theorem dX4_fromAt_9 : decode cX4_fromAt 9 = .ok (.aload_n 0, 1) := by decide +kernel
theorem dX4_fromAt_10 : decode cX4_fromAt 10 = .ok (.iload_n 1, 1) := by decide +kernel
theorem dX4_fromAt_11 : decode cX4_fromAt 11 = .ok (.invokevirtual 58, 3) := by decide +kernel
theorem dX4_fromAt_14 : decode cX4_fromAt 14 = .ok (.astore_n 3, 1) := by decide +kernel
theorem dX4_fromAt_15 : decode cX4_fromAt 15 = .ok (.aload_n 3, 1) := by decide +kernel
theorem dX4_fromAt_16 : decode cX4_fromAt 16 = .ok (.ifnonnull 11, 3) := by decide +kernel
theorem dX4_fromAt_19 : decode cX4_fromAt 19 = .ok (.aload_n 0, 1) := by decide +kernel
theorem dX4_fromAt_20 : decode cX4_fromAt 20 = .ok (.iconst 1, 1) := by decide +kernel
theorem dX4_fromAt_21 : decode cX4_fromAt 21 = .ok (.invokevirtual 62, 3) := by decide +kernel
theorem dX4_fromAt_24 : decode cX4_fromAt 24 = .ok (.goto 23, 3) := by decide +kernel
theorem dX4_fromAt_27 : decode cX4_fromAt 27 = .ok (.aload_n 0, 1) := by decide +kernel
theorem dX4_fromAt_28 : decode cX4_fromAt 28 = .ok (.aload_n 3, 1) := by decide +kernel
theorem dX4_fromAt_29 : decode cX4_fromAt 29 = .ok (.getfield 90, 3) := by decide +kernel
theorem dX4_fromAt_32 : decode cX4_fromAt 32 = .ok (.invokevirtual 96, 3) := by decide +kernel
theorem dX4_fromAt_35 : decode cX4_fromAt 35 = .ok (.aload_n 0, 1) := by decide +kernel
theorem dX4_fromAt_36 : decode cX4_fromAt 36 = .ok (.getfield 26, 3) := by decide +kernel
theorem dX4_fromAt_39 : decode cX4_fromAt 39 = .ok (.aload_n 3, 1) := by decide +kernel
theorem dX4_fromAt_40 : decode cX4_fromAt 40 = .ok (.invokevirtual 100, 3) := by decide +kernel
theorem dX4_fromAt_43 : decode cX4_fromAt 43 = .ok (.iload_n 2, 1) := by decide +kernel
theorem dX4_fromAt_44 : decode cX4_fromAt 44 = .ok (.invokevirtual 153, 3) := by decide +kernel
theorem dX4_fromAt_47 : decode cX4_fromAt 47 = .ok (.ireturn, 1) := by decide +kernel
theorem dX4_steps_0 : decode cX4_steps 0 = .ok (.iload_n 1, 1) := by decide +kernel
theorem dX4_steps_1 : decode cX4_steps 1 = .ok (.invokestatic 51, 3) := by decide +kernel
theorem dX4_steps_4 : decode cX4_steps 4 = .ok (.ifCond .eq 10, 3) := by decide +kernel
theorem dX4_steps_7 : decode cX4_steps 7 = .ok (.iload_n 2, 1) := by decide +kernel
theorem dX4_steps_8 : decode cX4_steps 8 = .ok (.invokestatic 51, 3) := by decide +kernel
theorem dX4_steps_11 : decode cX4_steps 11 = .ok (.ifCond .ne 5, 3) := by decide +kernel
theorem dX4_steps_14 : decode cX4_steps 14 = .ok (.iconst (-1), 1) := by decide +kernel
theorem dX4_steps_15 : decode cX4_steps 15 = .ok (.ireturn, 1) := by decide +kernel
theorem dX4_steps_16 : decode cX4_steps 16 = .ok (.aload_n 0, 1) := by decide +kernel
theorem dX4_steps_17 : decode cX4_steps 17 = .ok (.iload_n 1, 1) := by decide +kernel
theorem dX4_steps_18 : decode cX4_steps 18 = .ok (.invokevirtual 58, 3) := by decide +kernel
theorem dX4_steps_21 : decode cX4_steps 21 = .ok (.astore_n 3, 1) := by decide +kernel
theorem dX4_steps_22 : decode cX4_steps 22 = .ok (.aload_n 0, 1) := by decide +kernel
theorem dX4_steps_23 : decode cX4_steps 23 = .ok (.iload_n 2, 1) := by decide +kernel
theorem dX4_steps_24 : decode cX4_steps 24 = .ok (.invokevirtual 58, 3) := by decide +kernel
theorem dX4_steps_27 : decode cX4_steps 27 = .ok (.astore 4, 2) := by decide +kernel
theorem dX4_steps_29 : decode cX4_steps 29 = .ok (.aload_n 3, 1) := by decide +kernel
theorem dX4_steps_30 : decode cX4_steps 30 = .ok (.ifnull 8, 3) := by decide +kernel
theorem dX4_steps_33 : decode cX4_steps 33 = .ok (.aload 4, 2) := by decide +kernel
theorem dX4_steps_35 : decode cX4_steps 35 = .ok (.ifnonnull 9, 3) := by decide +kernel
theorem dX4_steps_38 : decode cX4_steps 38 = .ok (.aload_n 0, 1) := by decide +kernel
theorem dX4_steps_39 : decode cX4_steps 39 = .ok (.iconst 1, 1) := by decide +kernel
theorem dX4_steps_40 : decode cX4_steps 40 = .ok (.invokevirtual 62, 3) := by decide +kernel
theorem dX4_steps_43 : decode cX4_steps 43 = .ok (.ireturn, 1) := by decide +kernel
theorem dX4_steps_44 : decode cX4_steps 44 = .ok (.aload_n 3, 1) := by decide +kernel
theorem dX4_steps_45 : decode cX4_steps 45 = .ok (.getfield 90, 3) := by decide +kernel
theorem dX4_steps_48 : decode cX4_steps 48 = .ok (.aload 4, 2) := by decide +kernel
theorem dX4_steps_50 : decode cX4_steps 50 = .ok (.getfield 90, 3) := by decide +kernel
theorem dX4_steps_53 : decode cX4_steps 53 = .ok (.if_icmp .eq 6, 3) := by decide +kernel
theorem dX4_steps_56 : decode cX4_steps 56 = .ok (.bipush (-9), 2) := by decide +kernel
theorem dX4_steps_58 : decode cX4_steps 58 = .ok (.ireturn, 1) := by decide +kernel
theorem dX4_steps_59 : decode cX4_steps 59 = .ok (.aload_n 0, 1) := by decide +kernel
theorem dX4_steps_60 : decode cX4_steps 60 = .ok (.aload_n 3, 1) := by decide +kernel
theorem dX4_steps_61 : decode cX4_steps 61 = .ok (.getfield 90, 3) := by decide +kernel
theorem dX4_steps_64 : decode cX4_steps 64 = .ok (.invokevirtual 96, 3) := by decide +kernel
theorem dX4_steps_67 : decode cX4_steps 67 = .ok (.aload_n 0, 1) := by decide +kernel
theorem dX4_steps_68 : decode cX4_steps 68 = .ok (.getfield 26, 3) := by decide +kernel
theorem dX4_steps_71 : decode cX4_steps 71 = .ok (.aload_n 3, 1) := by decide +kernel
theorem dX4_steps_72 : decode cX4_steps 72 = .ok (.invokevirtual 100, 3) := by decide +kernel
theorem dX4_steps_75 : decode cX4_steps 75 = .ok (.aload_n 0, 1) := by decide +kernel
theorem dX4_steps_76 : decode cX4_steps 76 = .ok (.getfield 26, 3) := by decide +kernel
theorem dX4_steps_79 : decode cX4_steps 79 = .ok (.aload 4, 2) := by decide +kernel
theorem dX4_steps_81 : decode cX4_steps 81 = .ok (.invokevirtual 100, 3) := by decide +kernel
theorem dX4_steps_84 : decode cX4_steps 84 = .ok (.invokevirtual 156, 3) := by decide +kernel
theorem dX4_steps_87 : decode cX4_steps 87 = .ok (.ireturn, 1) := by decide +kernel
theorem dX4_ways_0 : decode cX4_ways 0 = .ok (.iload_n 1, 1) := by decide +kernel
theorem dX4_ways_1 : decode cX4_ways 1 = .ok (.invokestatic 51, 3) := by decide +kernel
theorem dX4_ways_4 : decode cX4_ways 4 = .ok (.ifCond .eq 10, 3) := by decide +kernel
theorem dX4_ways_7 : decode cX4_ways 7 = .ok (.iload_n 2, 1) := by decide +kernel
theorem dX4_ways_8 : decode cX4_ways 8 = .ok (.invokestatic 51, 3) := by decide +kernel
theorem dX4_ways_11 : decode cX4_ways 11 = .ok (.ifCond .ne 5, 3) := by decide +kernel
theorem dX4_ways_14 : decode cX4_ways 14 = .ok (.iconst (-1), 1) := by decide +kernel
theorem dX4_ways_15 : decode cX4_ways 15 = .ok (.ireturn, 1) := by decide +kernel
theorem dX4_ways_16 : decode cX4_ways 16 = .ok (.aload_n 0, 1) := by decide +kernel
theorem dX4_ways_17 : decode cX4_ways 17 = .ok (.iload_n 1, 1) := by decide +kernel
theorem dX4_ways_18 : decode cX4_ways 18 = .ok (.invokevirtual 58, 3) := by decide +kernel
theorem dX4_ways_21 : decode cX4_ways 21 = .ok (.astore_n 3, 1) := by decide +kernel
theorem dX4_ways_22 : decode cX4_ways 22 = .ok (.aload_n 0, 1) := by decide +kernel
theorem dX4_ways_23 : decode cX4_ways 23 = .ok (.iload_n 2, 1) := by decide +kernel
theorem dX4_ways_24 : decode cX4_ways 24 = .ok (.invokevirtual 58, 3) := by decide +kernel
theorem dX4_ways_27 : decode cX4_ways 27 = .ok (.astore 4, 2) := by decide +kernel
theorem dX4_ways_29 : decode cX4_ways 29 = .ok (.aload_n 3, 1) := by decide +kernel
theorem dX4_ways_30 : decode cX4_ways 30 = .ok (.ifnull 8, 3) := by decide +kernel
theorem dX4_ways_33 : decode cX4_ways 33 = .ok (.aload 4, 2) := by decide +kernel
theorem dX4_ways_35 : decode cX4_ways 35 = .ok (.ifnonnull 9, 3) := by decide +kernel
theorem dX4_ways_38 : decode cX4_ways 38 = .ok (.aload_n 0, 1) := by decide +kernel
theorem dX4_ways_39 : decode cX4_ways 39 = .ok (.iconst 1, 1) := by decide +kernel
theorem dX4_ways_40 : decode cX4_ways 40 = .ok (.invokevirtual 62, 3) := by decide +kernel
theorem dX4_ways_43 : decode cX4_ways 43 = .ok (.ireturn, 1) := by decide +kernel
theorem dX4_ways_44 : decode cX4_ways 44 = .ok (.aload_n 0, 1) := by decide +kernel
theorem dX4_ways_45 : decode cX4_ways 45 = .ok (.getfield 33, 3) := by decide +kernel
theorem dX4_ways_48 : decode cX4_ways 48 = .ok (.aload_n 3, 1) := by decide +kernel
theorem dX4_ways_49 : decode cX4_ways 49 = .ok (.aload 4, 2) := by decide +kernel
theorem dX4_ways_51 : decode cX4_ways 51 = .ok (.invokevirtual 159, 3) := by decide +kernel
theorem dX4_ways_54 : decode cX4_ways 54 = .ok (.ireturn, 1) := by decide +kernel
theorem dX4_reach_0 : decode cX4_reach 0 = .ok (.iload_n 1, 1) := by decide +kernel
theorem dX4_reach_1 : decode cX4_reach 1 = .ok (.invokestatic 51, 3) := by decide +kernel
theorem dX4_reach_4 : decode cX4_reach 4 = .ok (.ifCond .ne 5, 3) := by decide +kernel
theorem dX4_reach_7 : decode cX4_reach 7 = .ok (.iconst (-1), 1) := by decide +kernel
theorem dX4_reach_8 : decode cX4_reach 8 = .ok (.ireturn, 1) := by decide +kernel
theorem dX4_reach_9 : decode cX4_reach 9 = .ok (.aload_n 0, 1) := by decide +kernel
theorem dX4_reach_10 : decode cX4_reach 10 = .ok (.iload_n 1, 1) := by decide +kernel
theorem dX4_reach_11 : decode cX4_reach 11 = .ok (.invokevirtual 58, 3) := by decide +kernel
theorem dX4_reach_14 : decode cX4_reach 14 = .ok (.astore_n 2, 1) := by decide +kernel
theorem dX4_reach_15 : decode cX4_reach 15 = .ok (.aload_n 2, 1) := by decide +kernel
theorem dX4_reach_16 : decode cX4_reach 16 = .ok (.ifnonnull 11, 3) := by decide +kernel
theorem dX4_reach_19 : decode cX4_reach 19 = .ok (.aload_n 0, 1) := by decide +kernel
theorem dX4_reach_20 : decode cX4_reach 20 = .ok (.iconst 1, 1) := by decide +kernel
theorem dX4_reach_21 : decode cX4_reach 21 = .ok (.invokevirtual 62, 3) := by decide +kernel
theorem dX4_reach_24 : decode cX4_reach 24 = .ok (.goto 15, 3) := by decide +kernel
theorem dX4_reach_27 : decode cX4_reach 27 = .ok (.aload_n 0, 1) := by decide +kernel
theorem dX4_reach_28 : decode cX4_reach 28 = .ok (.getfield 33, 3) := by decide +kernel
theorem dX4_reach_31 : decode cX4_reach 31 = .ok (.aload_n 0, 1) := by decide +kernel
theorem dX4_reach_32 : decode cX4_reach 32 = .ok (.getfield 26, 3) := by decide +kernel
theorem dX4_reach_35 : decode cX4_reach 35 = .ok (.aload_n 2, 1) := by decide +kernel
theorem dX4_reach_36 : decode cX4_reach 36 = .ok (.invokevirtual 163, 3) := by decide +kernel
theorem dX4_reach_39 : decode cX4_reach 39 = .ok (.ireturn, 1) := by decide +kernel
theorem dX4_walks_0 : decode cX4_walks 0 = .ok (.iload_n 1, 1) := by decide +kernel
theorem dX4_walks_1 : decode cX4_walks 1 = .ok (.invokestatic 51, 3) := by decide +kernel
theorem dX4_walks_4 : decode cX4_walks 4 = .ok (.ifCond .eq 19, 3) := by decide +kernel
theorem dX4_walks_7 : decode cX4_walks 7 = .ok (.iload_n 2, 1) := by decide +kernel
theorem dX4_walks_8 : decode cX4_walks 8 = .ok (.invokestatic 51, 3) := by decide +kernel
theorem dX4_walks_11 : decode cX4_walks 11 = .ok (.ifCond .eq 12, 3) := by decide +kernel
theorem dX4_walks_14 : decode cX4_walks 14 = .ok (.iload_n 3, 1) := by decide +kernel
theorem dX4_walks_15 : decode cX4_walks 15 = .ok (.ifCond .lt 8, 3) := by decide +kernel
theorem dX4_walks_18 : decode cX4_walks 18 = .ok (.iload_n 3, 1) := by decide +kernel
theorem dX4_walks_19 : decode cX4_walks 19 = .ok (.iconst 3, 1) := by decide +kernel
theorem dX4_walks_20 : decode cX4_walks 20 = .ok (.if_icmp .le 5, 3) := by decide +kernel
theorem dX4_walks_23 : decode cX4_walks 23 = .ok (.iconst (-1), 1) := by decide +kernel
theorem dX4_walks_24 : decode cX4_walks 24 = .ok (.ireturn, 1) := by decide +kernel
theorem dX4_walks_25 : decode cX4_walks 25 = .ok (.aload_n 0, 1) := by decide +kernel
theorem dX4_walks_26 : decode cX4_walks 26 = .ok (.iload_n 1, 1) := by decide +kernel
theorem dX4_walks_27 : decode cX4_walks 27 = .ok (.invokevirtual 58, 3) := by decide +kernel
theorem dX4_walks_30 : decode cX4_walks 30 = .ok (.astore 4, 2) := by decide +kernel
theorem dX4_walks_32 : decode cX4_walks 32 = .ok (.aload_n 0, 1) := by decide +kernel
theorem dX4_walks_33 : decode cX4_walks 33 = .ok (.iload_n 2, 1) := by decide +kernel
theorem dX4_walks_34 : decode cX4_walks 34 = .ok (.invokevirtual 58, 3) := by decide +kernel
theorem dX4_walks_37 : decode cX4_walks 37 = .ok (.astore 5, 2) := by decide +kernel
theorem dX4_walks_39 : decode cX4_walks 39 = .ok (.aload 4, 2) := by decide +kernel
theorem dX4_walks_41 : decode cX4_walks 41 = .ok (.ifnull 8, 3) := by decide +kernel
theorem dX4_walks_44 : decode cX4_walks 44 = .ok (.aload 5, 2) := by decide +kernel
theorem dX4_walks_46 : decode cX4_walks 46 = .ok (.ifnonnull 9, 3) := by decide +kernel
theorem dX4_walks_49 : decode cX4_walks 49 = .ok (.aload_n 0, 1) := by decide +kernel
theorem dX4_walks_50 : decode cX4_walks 50 = .ok (.iconst 1, 1) := by decide +kernel
theorem dX4_walks_51 : decode cX4_walks 51 = .ok (.invokevirtual 62, 3) := by decide +kernel
theorem dX4_walks_54 : decode cX4_walks 54 = .ok (.ireturn, 1) := by decide +kernel
theorem dX4_walks_55 : decode cX4_walks 55 = .ok (.aload_n 0, 1) := by decide +kernel
theorem dX4_walks_56 : decode cX4_walks 56 = .ok (.aload 4, 2) := by decide +kernel
theorem dX4_walks_58 : decode cX4_walks 58 = .ok (.getfield 90, 3) := by decide +kernel
theorem dX4_walks_61 : decode cX4_walks 61 = .ok (.aload 5, 2) := by decide +kernel
theorem dX4_walks_63 : decode cX4_walks 63 = .ok (.getfield 90, 3) := by decide +kernel
theorem dX4_walks_66 : decode cX4_walks 66 = .ok (.if_icmp .ne 22, 3) := by decide +kernel
theorem dX4_walks_69 : decode cX4_walks 69 = .ok (.aload_n 0, 1) := by decide +kernel
theorem dX4_walks_70 : decode cX4_walks 70 = .ok (.getfield 33, 3) := by decide +kernel
theorem dX4_walks_73 : decode cX4_walks 73 = .ok (.aload_n 0, 1) := by decide +kernel
theorem dX4_walks_74 : decode cX4_walks 74 = .ok (.getfield 26, 3) := by decide +kernel
theorem dX4_walks_77 : decode cX4_walks 77 = .ok (.aload 4, 2) := by decide +kernel
theorem dX4_walks_79 : decode cX4_walks 79 = .ok (.aload 5, 2) := by decide +kernel
theorem dX4_walks_81 : decode cX4_walks 81 = .ok (.iload_n 3, 1) := by decide +kernel
theorem dX4_walks_82 : decode cX4_walks 82 = .ok (.invokevirtual 167, 3) := by decide +kernel
theorem dX4_walks_85 : decode cX4_walks 85 = .ok (.goto 4, 3) := by decide +kernel
theorem dX4_walks_88 : decode cX4_walks 88 = .ok (.lconst 0, 1) := by decide +kernel
theorem dX4_walks_89 : decode cX4_walks 89 = .ok (.putfield 171, 3) := by decide +kernel
theorem dX4_walks_92 : decode cX4_walks 92 = .ok (.iconst 1, 1) := by decide +kernel
theorem dX4_walks_93 : decode cX4_walks 93 = .ok (.ireturn, 1) := by decide +kernel
theorem dX4_asked_0 : decode cX4_asked 0 = .ok (.aload_n 0, 1) := by decide +kernel
theorem dX4_asked_1 : decode cX4_asked 1 = .ok (.getfield 171, 3) := by decide +kernel
theorem dX4_asked_4 : decode cX4_asked 4 = .ok (.lreturn, 1) := by decide +kernel
theorem dX4_told_0 : decode cX4_told 0 = .ok (.iload_n 1, 1) := by decide +kernel
theorem dX4_told_1 : decode cX4_told 1 = .ok (.invokestatic 51, 3) := by decide +kernel
theorem dX4_told_4 : decode cX4_told 4 = .ok (.ifCond .eq 12, 3) := by decide +kernel
theorem dX4_told_7 : decode cX4_told 7 = .ok (.iload_n 2, 1) := by decide +kernel
theorem dX4_told_8 : decode cX4_told 8 = .ok (.ifCond .lt 8, 3) := by decide +kernel
theorem dX4_told_11 : decode cX4_told 11 = .ok (.iload_n 2, 1) := by decide +kernel
theorem dX4_told_12 : decode cX4_told 12 = .ok (.iconst 3, 1) := by decide +kernel
theorem dX4_told_13 : decode cX4_told 13 = .ok (.if_icmp .le 5, 3) := by decide +kernel
theorem dX4_told_16 : decode cX4_told 16 = .ok (.iconst (-1), 1) := by decide +kernel
theorem dX4_told_17 : decode cX4_told 17 = .ok (.ireturn, 1) := by decide +kernel
theorem dX4_told_18 : decode cX4_told 18 = .ok (.aload_n 0, 1) := by decide +kernel
theorem dX4_told_19 : decode cX4_told 19 = .ok (.iload_n 1, 1) := by decide +kernel
theorem dX4_told_20 : decode cX4_told 20 = .ok (.invokevirtual 58, 3) := by decide +kernel
theorem dX4_told_23 : decode cX4_told 23 = .ok (.astore_n 3, 1) := by decide +kernel
theorem dX4_told_24 : decode cX4_told 24 = .ok (.aload_n 3, 1) := by decide +kernel
theorem dX4_told_25 : decode cX4_told 25 = .ok (.ifnonnull 9, 3) := by decide +kernel
theorem dX4_told_28 : decode cX4_told 28 = .ok (.aload_n 0, 1) := by decide +kernel
theorem dX4_told_29 : decode cX4_told 29 = .ok (.iconst 1, 1) := by decide +kernel
theorem dX4_told_30 : decode cX4_told 30 = .ok (.invokevirtual 62, 3) := by decide +kernel
theorem dX4_told_33 : decode cX4_told 33 = .ok (.ireturn, 1) := by decide +kernel
theorem dX4_told_34 : decode cX4_told 34 = .ok (.iload_n 2, 1) := by decide +kernel
theorem dX4_told_35 : decode cX4_told 35 = .ok (.tableswitch 41 0 2 #[25, 30, 35], 25) := by decide +kernel
theorem dX4_told_60 : decode cX4_told 60 = .ok (.aload_n 3, 1) := by decide +kernel
theorem dX4_told_61 : decode cX4_told 61 = .ok (.getfield 90, 3) := by decide +kernel
theorem dX4_told_64 : decode cX4_told 64 = .ok (.ireturn, 1) := by decide +kernel
theorem dX4_told_65 : decode cX4_told 65 = .ok (.aload_n 3, 1) := by decide +kernel
theorem dX4_told_66 : decode cX4_told 66 = .ok (.getfield 73, 3) := by decide +kernel
theorem dX4_told_69 : decode cX4_told 69 = .ok (.ireturn, 1) := by decide +kernel
theorem dX4_told_70 : decode cX4_told 70 = .ok (.aload_n 3, 1) := by decide +kernel
theorem dX4_told_71 : decode cX4_told 71 = .ok (.iconst 0, 1) := by decide +kernel
theorem dX4_told_72 : decode cX4_told 72 = .ok (.invokevirtual 80, 3) := by decide +kernel
theorem dX4_told_75 : decode cX4_told 75 = .ok (.ireturn, 1) := by decide +kernel
theorem dX4_told_76 : decode cX4_told 76 = .ok (.aload_n 3, 1) := by decide +kernel
theorem dX4_told_77 : decode cX4_told 77 = .ok (.invokevirtual 175, 3) := by decide +kernel
theorem dX4_told_80 : decode cX4_told 80 = .ok (.ireturn, 1) := by decide +kernel
theorem dX4_count_0 : decode cX4_count 0 = .ok (.iload_n 1, 1) := by decide +kernel
theorem dX4_count_1 : decode cX4_count 1 = .ok (.tableswitch 42 0 2 #[27, 32, 37], 27) := by decide +kernel
theorem dX4_count_28 : decode cX4_count 28 = .ok (.aload_n 0, 1) := by decide +kernel
theorem dX4_count_29 : decode cX4_count 29 = .ok (.getfield 93, 3) := by decide +kernel
theorem dX4_count_32 : decode cX4_count 32 = .ok (.ireturn, 1) := by decide +kernel
theorem dX4_count_33 : decode cX4_count 33 = .ok (.aload_n 0, 1) := by decide +kernel
theorem dX4_count_34 : decode cX4_count 34 = .ok (.invokevirtual 179, 3) := by decide +kernel
theorem dX4_count_37 : decode cX4_count 37 = .ok (.ireturn, 1) := by decide +kernel
theorem dX4_count_38 : decode cX4_count 38 = .ok (.aload_n 0, 1) := by decide +kernel
theorem dX4_count_39 : decode cX4_count 39 = .ok (.invokevirtual 182, 3) := by decide +kernel
theorem dX4_count_42 : decode cX4_count 42 = .ok (.ireturn, 1) := by decide +kernel
theorem dX4_count_43 : decode cX4_count 43 = .ok (.iconst (-1), 1) := by decide +kernel
theorem dX4_count_44 : decode cX4_count 44 = .ok (.ireturn, 1) := by decide +kernel
theorem dX4_finding_0 : decode cX4_finding 0 = .ok (.aload_n 0, 1) := by decide +kernel
theorem dX4_finding_1 : decode cX4_finding 1 = .ok (.getfield 185, 3) := by decide +kernel
theorem dX4_finding_4 : decode cX4_finding 4 = .ok (.ireturn, 1) := by decide +kernel
theorem dX4_findings_0 : decode cX4_findings 0 = .ok (.iload_n 1, 1) := by decide +kernel
theorem dX4_findings_1 : decode cX4_findings 1 = .ok (.iconst 1, 1) := by decide +kernel
theorem dX4_findings_2 : decode cX4_findings 2 = .ok (.if_icmp .lt 17, 3) := by decide +kernel
theorem dX4_findings_5 : decode cX4_findings 5 = .ok (.iload_n 1, 1) := by decide +kernel
theorem dX4_findings_6 : decode cX4_findings 6 = .ok (.iconst 5, 1) := by decide +kernel
theorem dX4_findings_7 : decode cX4_findings 7 = .ok (.if_icmp .gt 12, 3) := by decide +kernel
theorem dX4_findings_10 : decode cX4_findings 10 = .ok (.aload_n 0, 1) := by decide +kernel
theorem dX4_findings_11 : decode cX4_findings 11 = .ok (.getfield 19, 3) := by decide +kernel
theorem dX4_findings_14 : decode cX4_findings 14 = .ok (.iload_n 1, 1) := by decide +kernel
theorem dX4_findings_15 : decode cX4_findings 15 = .ok (.iaload, 1) := by decide +kernel
theorem dX4_findings_16 : decode cX4_findings 16 = .ok (.goto 4, 3) := by decide +kernel
theorem dX4_findings_19 : decode cX4_findings 19 = .ok (.iconst (-1), 1) := by decide +kernel
theorem dX4_findings_20 : decode cX4_findings 20 = .ok (.ireturn, 1) := by decide +kernel
theorem dX4_digest_0 : decode cX4_digest 0 = .ok (.ldc2_w 188, 3) := by decide +kernel
theorem dX4_digest_3 : decode cX4_digest 3 = .ok (.aload_n 0, 1) := by decide +kernel
theorem dX4_digest_4 : decode cX4_digest 4 = .ok (.getfield 93, 3) := by decide +kernel
theorem dX4_digest_7 : decode cX4_digest 7 = .ok (.i2l, 1) := by decide +kernel
theorem dX4_digest_8 : decode cX4_digest 8 = .ok (.ladd, 1) := by decide +kernel
theorem dX4_digest_9 : decode cX4_digest 9 = .ok (.lstore_n 1, 1) := by decide +kernel
theorem dX4_digest_10 : decode cX4_digest 10 = .ok (.iconst 0, 1) := by decide +kernel
theorem dX4_digest_11 : decode cX4_digest 11 = .ok (.istore_n 3, 1) := by decide +kernel
theorem dX4_digest_12 : decode cX4_digest 12 = .ok (.iload_n 3, 1) := by decide +kernel
theorem dX4_digest_13 : decode cX4_digest 13 = .ok (.bipush 12, 2) := by decide +kernel
theorem dX4_digest_15 : decode cX4_digest 15 = .ok (.if_icmp .ge 38, 3) := by decide +kernel
theorem dX4_digest_18 : decode cX4_digest 18 = .ok (.aload_n 0, 1) := by decide +kernel
theorem dX4_digest_19 : decode cX4_digest 19 = .ok (.iload_n 3, 1) := by decide +kernel
theorem dX4_digest_20 : decode cX4_digest 20 = .ok (.invokevirtual 58, 3) := by decide +kernel
theorem dX4_digest_23 : decode cX4_digest 23 = .ok (.astore 4, 2) := by decide +kernel
theorem dX4_digest_25 : decode cX4_digest 25 = .ok (.aload 4, 2) := by decide +kernel
theorem dX4_digest_27 : decode cX4_digest 27 = .ok (.ifnonnull 13, 3) := by decide +kernel
theorem dX4_digest_30 : decode cX4_digest 30 = .ok (.ldc2_w 190, 3) := by decide +kernel
theorem dX4_digest_33 : decode cX4_digest 33 = .ok (.lload_n 1, 1) := by decide +kernel
theorem dX4_digest_34 : decode cX4_digest 34 = .ok (.lmul, 1) := by decide +kernel
theorem dX4_digest_35 : decode cX4_digest 35 = .ok (.lconst 1, 1) := by decide +kernel
theorem dX4_digest_36 : decode cX4_digest 36 = .ok (.lsub, 1) := by decide +kernel
theorem dX4_digest_37 : decode cX4_digest 37 = .ok (.goto 9, 3) := by decide +kernel
theorem dX4_digest_40 : decode cX4_digest 40 = .ok (.aload 4, 2) := by decide +kernel
theorem dX4_digest_42 : decode cX4_digest 42 = .ok (.lload_n 1, 1) := by decide +kernel
theorem dX4_digest_43 : decode cX4_digest 43 = .ok (.invokevirtual 192, 3) := by decide +kernel
theorem dX4_digest_46 : decode cX4_digest 46 = .ok (.lstore_n 1, 1) := by decide +kernel
theorem dX4_digest_47 : decode cX4_digest 47 = .ok (.iinc 3 1, 3) := by decide +kernel
theorem dX4_digest_50 : decode cX4_digest 50 = .ok (.goto (-38), 3) := by decide +kernel
theorem dX4_digest_53 : decode cX4_digest 53 = .ok (.lload_n 1, 1) := by decide +kernel
theorem dX4_digest_54 : decode cX4_digest 54 = .ok (.lreturn, 1) := by decide +kernel
theorem dX4_isPlace_0 : decode cX4_isPlace 0 = .ok (.iload_n 0, 1) := by decide +kernel
theorem dX4_isPlace_1 : decode cX4_isPlace 1 = .ok (.ifCond .lt 13, 3) := by decide +kernel
theorem dX4_isPlace_4 : decode cX4_isPlace 4 = .ok (.iload_n 0, 1) := by decide +kernel
theorem dX4_isPlace_5 : decode cX4_isPlace 5 = .ok (.bipush 12, 2) := by decide +kernel
theorem dX4_isPlace_7 : decode cX4_isPlace 7 = .ok (.if_icmp .ge 7, 3) := by decide +kernel
theorem dX4_isPlace_10 : decode cX4_isPlace 10 = .ok (.iconst 1, 1) := by decide +kernel
theorem dX4_isPlace_11 : decode cX4_isPlace 11 = .ok (.goto 4, 3) := by decide +kernel
theorem dX4_isPlace_14 : decode cX4_isPlace 14 = .ok (.iconst 0, 1) := by decide +kernel
theorem dX4_isPlace_15 : decode cX4_isPlace 15 = .ok (.ireturn, 1) := by decide +kernel
theorem dX4_isCards_0 : decode cX4_isCards 0 = .ok (.iload_n 0, 1) := by decide +kernel
theorem dX4_isCards_1 : decode cX4_isCards 1 = .ok (.ifCond .lt 13, 3) := by decide +kernel
theorem dX4_isCards_4 : decode cX4_isCards 4 = .ok (.iload_n 0, 1) := by decide +kernel
theorem dX4_isCards_5 : decode cX4_isCards 5 = .ok (.bipush 18, 2) := by decide +kernel
theorem dX4_isCards_7 : decode cX4_isCards 7 = .ok (.if_icmp .gt 7, 3) := by decide +kernel
theorem dX4_isCards_10 : decode cX4_isCards 10 = .ok (.iconst 1, 1) := by decide +kernel
theorem dX4_isCards_11 : decode cX4_isCards 11 = .ok (.goto 4, 3) := by decide +kernel
theorem dX4_isCards_14 : decode cX4_isCards 14 = .ok (.iconst 0, 1) := by decide +kernel
theorem dX4_isCards_15 : decode cX4_isCards 15 = .ok (.ireturn, 1) := by decide +kernel
theorem dX4_rowAt_0 : decode cX4_rowAt 0 = .ok (.iload_n 1, 1) := by decide +kernel
theorem dX4_rowAt_1 : decode cX4_rowAt 1 = .ok (.invokestatic 51, 3) := by decide +kernel
theorem dX4_rowAt_4 : decode cX4_rowAt 4 = .ok (.ifCond .eq 21, 3) := by decide +kernel
theorem dX4_rowAt_7 : decode cX4_rowAt 7 = .ok (.aload_n 0, 1) := by decide +kernel
theorem dX4_rowAt_8 : decode cX4_rowAt 8 = .ok (.getfield 15, 3) := by decide +kernel
theorem dX4_rowAt_11 : decode cX4_rowAt 11 = .ok (.iload_n 1, 1) := by decide +kernel
theorem dX4_rowAt_12 : decode cX4_rowAt 12 = .ok (.baload, 1) := by decide +kernel
theorem dX4_rowAt_13 : decode cX4_rowAt 13 = .ok (.ifCond .eq 12, 3) := by decide +kernel
theorem dX4_rowAt_16 : decode cX4_rowAt 16 = .ok (.aload_n 0, 1) := by decide +kernel
theorem dX4_rowAt_17 : decode cX4_rowAt 17 = .ok (.getfield 11, 3) := by decide +kernel
theorem dX4_rowAt_20 : decode cX4_rowAt 20 = .ok (.iload_n 1, 1) := by decide +kernel
theorem dX4_rowAt_21 : decode cX4_rowAt 21 = .ok (.aaload, 1) := by decide +kernel
theorem dX4_rowAt_22 : decode cX4_rowAt 22 = .ok (.goto 4, 3) := by decide +kernel
theorem dX4_rowAt_25 : decode cX4_rowAt 25 = .ok (.aconst_null, 1) := by decide +kernel
theorem dX4_rowAt_26 : decode cX4_rowAt 26 = .ok (.areturn, 1) := by decide +kernel
theorem dX4_found_0 : decode cX4_found 0 = .ok (.aload_n 0, 1) := by decide +kernel
theorem dX4_found_1 : decode cX4_found 1 = .ok (.iload_n 1, 1) := by decide +kernel
theorem dX4_found_2 : decode cX4_found 2 = .ok (.putfield 185, 3) := by decide +kernel
theorem dX4_found_5 : decode cX4_found 5 = .ok (.aload_n 0, 1) := by decide +kernel
theorem dX4_found_6 : decode cX4_found 6 = .ok (.getfield 19, 3) := by decide +kernel
theorem dX4_found_9 : decode cX4_found 9 = .ok (.iload_n 1, 1) := by decide +kernel
theorem dX4_found_10 : decode cX4_found 10 = .ok (.dup2, 1) := by decide +kernel
theorem dX4_found_11 : decode cX4_found 11 = .ok (.iaload, 1) := by decide +kernel
theorem dX4_found_12 : decode cX4_found 12 = .ok (.iconst 1, 1) := by decide +kernel
theorem dX4_found_13 : decode cX4_found 13 = .ok (.iadd, 1) := by decide +kernel
theorem dX4_found_14 : decode cX4_found 14 = .ok (.iastore, 1) := by decide +kernel
theorem dX4_found_15 : decode cX4_found 15 = .ok (.bipush (-3), 2) := by decide +kernel
theorem dX4_found_17 : decode cX4_found 17 = .ok (.ireturn, 1) := by decide +kernel
theorem dX4_rowsThere_0 : decode cX4_rowsThere 0 = .ok (.iconst 0, 1) := by decide +kernel
theorem dX4_rowsThere_1 : decode cX4_rowsThere 1 = .ok (.istore_n 1, 1) := by decide +kernel
theorem dX4_rowsThere_2 : decode cX4_rowsThere 2 = .ok (.iconst 0, 1) := by decide +kernel
theorem dX4_rowsThere_3 : decode cX4_rowsThere 3 = .ok (.istore_n 2, 1) := by decide +kernel
theorem dX4_rowsThere_4 : decode cX4_rowsThere 4 = .ok (.iload_n 2, 1) := by decide +kernel
theorem dX4_rowsThere_5 : decode cX4_rowsThere 5 = .ok (.bipush 12, 2) := by decide +kernel
theorem dX4_rowsThere_7 : decode cX4_rowsThere 7 = .ok (.if_icmp .ge 26, 3) := by decide +kernel
theorem dX4_rowsThere_10 : decode cX4_rowsThere 10 = .ok (.iload_n 1, 1) := by decide +kernel
theorem dX4_rowsThere_11 : decode cX4_rowsThere 11 = .ok (.aload_n 0, 1) := by decide +kernel
theorem dX4_rowsThere_12 : decode cX4_rowsThere 12 = .ok (.getfield 15, 3) := by decide +kernel
theorem dX4_rowsThere_15 : decode cX4_rowsThere 15 = .ok (.iload_n 2, 1) := by decide +kernel
theorem dX4_rowsThere_16 : decode cX4_rowsThere 16 = .ok (.baload, 1) := by decide +kernel
theorem dX4_rowsThere_17 : decode cX4_rowsThere 17 = .ok (.ifCond .eq 7, 3) := by decide +kernel
theorem dX4_rowsThere_20 : decode cX4_rowsThere 20 = .ok (.iconst 1, 1) := by decide +kernel
theorem dX4_rowsThere_21 : decode cX4_rowsThere 21 = .ok (.goto 4, 3) := by decide +kernel
theorem dX4_rowsThere_24 : decode cX4_rowsThere 24 = .ok (.iconst 0, 1) := by decide +kernel
theorem dX4_rowsThere_25 : decode cX4_rowsThere 25 = .ok (.iadd, 1) := by decide +kernel
theorem dX4_rowsThere_26 : decode cX4_rowsThere 26 = .ok (.istore_n 1, 1) := by decide +kernel
theorem dX4_rowsThere_27 : decode cX4_rowsThere 27 = .ok (.iinc 2 1, 3) := by decide +kernel
theorem dX4_rowsThere_30 : decode cX4_rowsThere 30 = .ok (.goto (-26), 3) := by decide +kernel
theorem dX4_rowsThere_33 : decode cX4_rowsThere 33 = .ok (.iload_n 1, 1) := by decide +kernel
theorem dX4_rowsThere_34 : decode cX4_rowsThere 34 = .ok (.ireturn, 1) := by decide +kernel
theorem dX4_cardsInAll_0 : decode cX4_cardsInAll 0 = .ok (.iconst 0, 1) := by decide +kernel
theorem dX4_cardsInAll_1 : decode cX4_cardsInAll 1 = .ok (.istore_n 1, 1) := by decide +kernel
theorem dX4_cardsInAll_2 : decode cX4_cardsInAll 2 = .ok (.iconst 0, 1) := by decide +kernel
theorem dX4_cardsInAll_3 : decode cX4_cardsInAll 3 = .ok (.istore_n 2, 1) := by decide +kernel
theorem dX4_cardsInAll_4 : decode cX4_cardsInAll 4 = .ok (.iload_n 2, 1) := by decide +kernel
theorem dX4_cardsInAll_5 : decode cX4_cardsInAll 5 = .ok (.bipush 12, 2) := by decide +kernel
theorem dX4_cardsInAll_7 : decode cX4_cardsInAll 7 = .ok (.if_icmp .ge 34, 3) := by decide +kernel
theorem dX4_cardsInAll_10 : decode cX4_cardsInAll 10 = .ok (.iload_n 1, 1) := by decide +kernel
theorem dX4_cardsInAll_11 : decode cX4_cardsInAll 11 = .ok (.aload_n 0, 1) := by decide +kernel
theorem dX4_cardsInAll_12 : decode cX4_cardsInAll 12 = .ok (.getfield 15, 3) := by decide +kernel
theorem dX4_cardsInAll_15 : decode cX4_cardsInAll 15 = .ok (.iload_n 2, 1) := by decide +kernel
theorem dX4_cardsInAll_16 : decode cX4_cardsInAll 16 = .ok (.baload, 1) := by decide +kernel
theorem dX4_cardsInAll_17 : decode cX4_cardsInAll 17 = .ok (.ifCond .eq 15, 3) := by decide +kernel
theorem dX4_cardsInAll_20 : decode cX4_cardsInAll 20 = .ok (.aload_n 0, 1) := by decide +kernel
theorem dX4_cardsInAll_21 : decode cX4_cardsInAll 21 = .ok (.getfield 11, 3) := by decide +kernel
theorem dX4_cardsInAll_24 : decode cX4_cardsInAll 24 = .ok (.iload_n 2, 1) := by decide +kernel
theorem dX4_cardsInAll_25 : decode cX4_cardsInAll 25 = .ok (.aaload, 1) := by decide +kernel
theorem dX4_cardsInAll_26 : decode cX4_cardsInAll 26 = .ok (.getfield 90, 3) := by decide +kernel
theorem dX4_cardsInAll_29 : decode cX4_cardsInAll 29 = .ok (.goto 4, 3) := by decide +kernel
theorem dX4_cardsInAll_32 : decode cX4_cardsInAll 32 = .ok (.iconst 0, 1) := by decide +kernel
theorem dX4_cardsInAll_33 : decode cX4_cardsInAll 33 = .ok (.iadd, 1) := by decide +kernel
theorem dX4_cardsInAll_34 : decode cX4_cardsInAll 34 = .ok (.istore_n 1, 1) := by decide +kernel
theorem dX4_cardsInAll_35 : decode cX4_cardsInAll 35 = .ok (.iinc 2 1, 3) := by decide +kernel
theorem dX4_cardsInAll_38 : decode cX4_cardsInAll 38 = .ok (.goto (-34), 3) := by decide +kernel
theorem dX4_cardsInAll_41 : decode cX4_cardsInAll 41 = .ok (.iload_n 1, 1) := by decide +kernel
theorem dX4_cardsInAll_42 : decode cX4_cardsInAll 42 = .ok (.ireturn, 1) := by decide +kernel
theorem dX4_chartOf_0 : decode cX4_chartOf 0 = .ok (.aload_n 0, 1) := by decide +kernel
theorem dX4_chartOf_1 : decode cX4_chartOf 1 = .ok (.getfield 93, 3) := by decide +kernel
theorem dX4_chartOf_4 : decode cX4_chartOf 4 = .ok (.bipush 19, 2) := by decide +kernel
theorem dX4_chartOf_6 : decode cX4_chartOf 6 = .ok (.imul, 1) := by decide +kernel
theorem dX4_chartOf_7 : decode cX4_chartOf 7 = .ok (.iload_n 1, 1) := by decide +kernel
theorem dX4_chartOf_8 : decode cX4_chartOf 8 = .ok (.iadd, 1) := by decide +kernel
theorem dX4_chartOf_9 : decode cX4_chartOf 9 = .ok (.istore_n 2, 1) := by decide +kernel
theorem dX4_chartOf_10 : decode cX4_chartOf 10 = .ok (.aload_n 0, 1) := by decide +kernel
theorem dX4_chartOf_11 : decode cX4_chartOf 11 = .ok (.getfield 39, 3) := by decide +kernel
theorem dX4_chartOf_14 : decode cX4_chartOf 14 = .ok (.iload_n 2, 1) := by decide +kernel
theorem dX4_chartOf_15 : decode cX4_chartOf 15 = .ok (.aaload, 1) := by decide +kernel
theorem dX4_chartOf_16 : decode cX4_chartOf 16 = .ok (.astore_n 3, 1) := by decide +kernel
theorem dX4_chartOf_17 : decode cX4_chartOf 17 = .ok (.aload_n 3, 1) := by decide +kernel
theorem dX4_chartOf_18 : decode cX4_chartOf 18 = .ok (.ifnonnull 94, 3) := by decide +kernel
theorem dX4_chartOf_21 : decode cX4_chartOf 21 = .ok (.new 37, 3) := by decide +kernel
theorem dX4_chartOf_24 : decode cX4_chartOf 24 = .ok (.dup, 1) := by decide +kernel
theorem dX4_chartOf_25 : decode cX4_chartOf 25 = .ok (.aload_n 0, 1) := by decide +kernel
theorem dX4_chartOf_26 : decode cX4_chartOf 26 = .ok (.getfield 26, 3) := by decide +kernel
theorem dX4_chartOf_29 : decode cX4_chartOf 29 = .ok (.iload_n 1, 1) := by decide +kernel
theorem dX4_chartOf_30 : decode cX4_chartOf 30 = .ok (.invokevirtual 116, 3) := by decide +kernel
theorem dX4_chartOf_33 : decode cX4_chartOf 33 = .ok (.invokespecial 196, 3) := by decide +kernel
theorem dX4_chartOf_36 : decode cX4_chartOf 36 = .ok (.astore_n 3, 1) := by decide +kernel
theorem dX4_chartOf_37 : decode cX4_chartOf 37 = .ok (.iconst 0, 1) := by decide +kernel
theorem dX4_chartOf_38 : decode cX4_chartOf 38 = .ok (.istore 4, 2) := by decide +kernel
theorem dX4_chartOf_40 : decode cX4_chartOf 40 = .ok (.iload 4, 2) := by decide +kernel
theorem dX4_chartOf_42 : decode cX4_chartOf 42 = .ok (.aload_n 3, 1) := by decide +kernel
theorem dX4_chartOf_43 : decode cX4_chartOf 43 = .ok (.getfield 198, 3) := by decide +kernel
theorem dX4_chartOf_46 : decode cX4_chartOf 46 = .ok (.if_icmp .ge 55, 3) := by decide +kernel
theorem dX4_chartOf_49 : decode cX4_chartOf 49 = .ok (.aload_n 0, 1) := by decide +kernel
theorem dX4_chartOf_50 : decode cX4_chartOf 50 = .ok (.getfield 26, 3) := by decide +kernel
theorem dX4_chartOf_53 : decode cX4_chartOf 53 = .ok (.aload_n 0, 1) := by decide +kernel
theorem dX4_chartOf_54 : decode cX4_chartOf 54 = .ok (.getfield 44, 3) := by decide +kernel
theorem dX4_chartOf_57 : decode cX4_chartOf 57 = .ok (.iload_n 1, 1) := by decide +kernel
theorem dX4_chartOf_58 : decode cX4_chartOf 58 = .ok (.iload 4, 2) := by decide +kernel
theorem dX4_chartOf_60 : decode cX4_chartOf 60 = .ok (.invokevirtual 119, 3) := by decide +kernel
theorem dX4_chartOf_63 : decode cX4_chartOf 63 = .ok (.aload_n 0, 1) := by decide +kernel
theorem dX4_chartOf_64 : decode cX4_chartOf 64 = .ok (.getfield 48, 3) := by decide +kernel
theorem dX4_chartOf_67 : decode cX4_chartOf 67 = .ok (.aload_n 0, 1) := by decide +kernel
theorem dX4_chartOf_68 : decode cX4_chartOf 68 = .ok (.getfield 44, 3) := by decide +kernel
theorem dX4_chartOf_71 : decode cX4_chartOf 71 = .ok (.aload_n 0, 1) := by decide +kernel
theorem dX4_chartOf_72 : decode cX4_chartOf 72 = .ok (.getfield 93, 3) := by decide +kernel
theorem dX4_chartOf_75 : decode cX4_chartOf 75 = .ok (.invokestatic 200, 3) := by decide +kernel
theorem dX4_chartOf_78 : decode cX4_chartOf 78 = .ok (.aload_n 3, 1) := by decide +kernel
theorem dX4_chartOf_79 : decode cX4_chartOf 79 = .ok (.iload 4, 2) := by decide +kernel
theorem dX4_chartOf_81 : decode cX4_chartOf 81 = .ok (.aload_n 0, 1) := by decide +kernel
theorem dX4_chartOf_82 : decode cX4_chartOf 82 = .ok (.getfield 26, 3) := by decide +kernel
theorem dX4_chartOf_85 : decode cX4_chartOf 85 = .ok (.aload_n 0, 1) := by decide +kernel
theorem dX4_chartOf_86 : decode cX4_chartOf 86 = .ok (.getfield 48, 3) := by decide +kernel
theorem dX4_chartOf_89 : decode cX4_chartOf 89 = .ok (.invokevirtual 100, 3) := by decide +kernel
theorem dX4_chartOf_92 : decode cX4_chartOf 92 = .ok (.invokevirtual 204, 3) := by decide +kernel
theorem dX4_chartOf_95 : decode cX4_chartOf 95 = .ok (.iinc 4 1, 3) := by decide +kernel
theorem dX4_chartOf_98 : decode cX4_chartOf 98 = .ok (.goto (-58), 3) := by decide +kernel
theorem dX4_chartOf_101 : decode cX4_chartOf 101 = .ok (.aload_n 3, 1) := by decide +kernel
theorem dX4_chartOf_102 : decode cX4_chartOf 102 = .ok (.invokevirtual 208, 3) := by decide +kernel
theorem dX4_chartOf_105 : decode cX4_chartOf 105 = .ok (.aload_n 0, 1) := by decide +kernel
theorem dX4_chartOf_106 : decode cX4_chartOf 106 = .ok (.getfield 39, 3) := by decide +kernel
theorem dX4_chartOf_109 : decode cX4_chartOf 109 = .ok (.iload_n 2, 1) := by decide +kernel
theorem dX4_chartOf_110 : decode cX4_chartOf 110 = .ok (.aload_n 3, 1) := by decide +kernel
theorem dX4_chartOf_111 : decode cX4_chartOf 111 = .ok (.aastore, 1) := by decide +kernel
theorem dX4_chartOf_112 : decode cX4_chartOf 112 = .ok (.aload_n 3, 1) := by decide +kernel
theorem dX4_chartOf_113 : decode cX4_chartOf 113 = .ok (.areturn, 1) := by decide +kernel
theorem dX4_stepInto_0 : decode cX4_stepInto 0 = .ok (.aload_n 0, 1) := by decide +kernel
theorem dX4_stepInto_1 : decode cX4_stepInto 1 = .ok (.invokevirtual 55, 3) := by decide +kernel
theorem dX4_stepInto_4 : decode cX4_stepInto 4 = .ok (.iload_n 2, 1) := by decide +kernel
theorem dX4_stepInto_5 : decode cX4_stepInto 5 = .ok (.tableswitch 52 1 3 #[27, 35, 44], 27) := by decide +kernel
theorem dX4_stepInto_32 : decode cX4_stepInto 32 = .ok (.aload_n 0, 1) := by decide +kernel
theorem dX4_stepInto_33 : decode cX4_stepInto 33 = .ok (.aload_n 1, 1) := by decide +kernel
theorem dX4_stepInto_34 : decode cX4_stepInto 34 = .ok (.invokestatic 211, 3) := by decide +kernel
theorem dX4_stepInto_37 : decode cX4_stepInto 37 = .ok (.goto 26, 3) := by decide +kernel
theorem dX4_stepInto_40 : decode cX4_stepInto 40 = .ok (.aload_n 0, 1) := by decide +kernel
theorem dX4_stepInto_41 : decode cX4_stepInto 41 = .ok (.aload_n 1, 1) := by decide +kernel
theorem dX4_stepInto_42 : decode cX4_stepInto 42 = .ok (.iconst 2, 1) := by decide +kernel
theorem dX4_stepInto_43 : decode cX4_stepInto 43 = .ok (.invokestatic 215, 3) := by decide +kernel
theorem dX4_stepInto_46 : decode cX4_stepInto 46 = .ok (.goto 17, 3) := by decide +kernel
theorem dX4_stepInto_49 : decode cX4_stepInto 49 = .ok (.aload_n 0, 1) := by decide +kernel
theorem dX4_stepInto_50 : decode cX4_stepInto 50 = .ok (.aload_n 1, 1) := by decide +kernel
theorem dX4_stepInto_51 : decode cX4_stepInto 51 = .ok (.invokestatic 218, 3) := by decide +kernel
theorem dX4_stepInto_54 : decode cX4_stepInto 54 = .ok (.goto 9, 3) := by decide +kernel
theorem dX4_stepInto_57 : decode cX4_stepInto 57 = .ok (.aload_n 0, 1) := by decide +kernel
theorem dX4_stepInto_58 : decode cX4_stepInto 58 = .ok (.aload_n 1, 1) := by decide +kernel
theorem dX4_stepInto_59 : decode cX4_stepInto 59 = .ok (.iconst 1, 1) := by decide +kernel
theorem dX4_stepInto_60 : decode cX4_stepInto 60 = .ok (.invokestatic 215, 3) := by decide +kernel
theorem dX4_stepInto_63 : decode cX4_stepInto 63 = .ok (.return_, 1) := by decide +kernel
theorem dX4_giveFromEach_0 : decode cX4_giveFromEach 0 = .ok (.iconst 0, 1) := by decide +kernel
theorem dX4_giveFromEach_1 : decode cX4_giveFromEach 1 = .ok (.istore_n 3, 1) := by decide +kernel
theorem dX4_giveFromEach_2 : decode cX4_giveFromEach 2 = .ok (.iconst 0, 1) := by decide +kernel
theorem dX4_giveFromEach_3 : decode cX4_giveFromEach 3 = .ok (.istore 4, 2) := by decide +kernel
theorem dX4_giveFromEach_5 : decode cX4_giveFromEach 5 = .ok (.iload 4, 2) := by decide +kernel
theorem dX4_giveFromEach_7 : decode cX4_giveFromEach 7 = .ok (.aload_n 1, 1) := by decide +kernel
theorem dX4_giveFromEach_8 : decode cX4_giveFromEach 8 = .ok (.getfield 73, 3) := by decide +kernel
theorem dX4_giveFromEach_11 : decode cX4_giveFromEach 11 = .ok (.if_icmp .ge 39, 3) := by decide +kernel
theorem dX4_giveFromEach_14 : decode cX4_giveFromEach 14 = .ok (.iload_n 2, 1) := by decide +kernel
theorem dX4_giveFromEach_15 : decode cX4_giveFromEach 15 = .ok (.aload_n 1, 1) := by decide +kernel
theorem dX4_giveFromEach_16 : decode cX4_giveFromEach 16 = .ok (.iload 4, 2) := by decide +kernel
theorem dX4_giveFromEach_18 : decode cX4_giveFromEach 18 = .ok (.invokevirtual 80, 3) := by decide +kernel
theorem dX4_giveFromEach_21 : decode cX4_giveFromEach 21 = .ok (.invokestatic 221, 3) := by decide +kernel
theorem dX4_giveFromEach_24 : decode cX4_giveFromEach 24 = .ok (.istore 5, 2) := by decide +kernel
theorem dX4_giveFromEach_26 : decode cX4_giveFromEach 26 = .ok (.aload_n 0, 1) := by decide +kernel
theorem dX4_giveFromEach_27 : decode cX4_giveFromEach 27 = .ok (.aload_n 1, 1) := by decide +kernel
theorem dX4_giveFromEach_28 : decode cX4_giveFromEach 28 = .ok (.iload 4, 2) := by decide +kernel
theorem dX4_giveFromEach_30 : decode cX4_giveFromEach 30 = .ok (.invokevirtual 80, 3) := by decide +kernel
theorem dX4_giveFromEach_33 : decode cX4_giveFromEach 33 = .ok (.iload 5, 2) := by decide +kernel
theorem dX4_giveFromEach_35 : decode cX4_giveFromEach 35 = .ok (.isub, 1) := by decide +kernel
theorem dX4_giveFromEach_36 : decode cX4_giveFromEach 36 = .ok (.invokevirtual 69, 3) := by decide +kernel
theorem dX4_giveFromEach_39 : decode cX4_giveFromEach 39 = .ok (.iload_n 3, 1) := by decide +kernel
theorem dX4_giveFromEach_40 : decode cX4_giveFromEach 40 = .ok (.iload 5, 2) := by decide +kernel
theorem dX4_giveFromEach_42 : decode cX4_giveFromEach 42 = .ok (.iadd, 1) := by decide +kernel
theorem dX4_giveFromEach_43 : decode cX4_giveFromEach 43 = .ok (.istore_n 3, 1) := by decide +kernel
theorem dX4_giveFromEach_44 : decode cX4_giveFromEach 44 = .ok (.iinc 4 1, 3) := by decide +kernel
theorem dX4_giveFromEach_47 : decode cX4_giveFromEach 47 = .ok (.goto (-42), 3) := by decide +kernel
theorem dX4_giveFromEach_50 : decode cX4_giveFromEach 50 = .ok (.aload_n 0, 1) := by decide +kernel
theorem dX4_giveFromEach_51 : decode cX4_giveFromEach 51 = .ok (.iload_n 3, 1) := by decide +kernel
theorem dX4_giveFromEach_52 : decode cX4_giveFromEach 52 = .ok (.invokevirtual 69, 3) := by decide +kernel
theorem dX4_giveFromEach_55 : decode cX4_giveFromEach 55 = .ok (.return_, 1) := by decide +kernel
theorem dX4_giveFromGreatest_0 : decode cX4_giveFromGreatest 0 = .ok (.aload_n 1, 1) := by decide +kernel
theorem dX4_giveFromGreatest_1 : decode cX4_giveFromGreatest 1 = .ok (.getfield 73, 3) := by decide +kernel
theorem dX4_giveFromGreatest_4 : decode cX4_giveFromGreatest 4 = .ok (.ifCond .le 31, 3) := by decide +kernel
theorem dX4_giveFromGreatest_7 : decode cX4_giveFromGreatest 7 = .ok (.aload_n 0, 1) := by decide +kernel
theorem dX4_giveFromGreatest_8 : decode cX4_giveFromGreatest 8 = .ok (.aload_n 1, 1) := by decide +kernel
theorem dX4_giveFromGreatest_9 : decode cX4_giveFromGreatest 9 = .ok (.iconst 0, 1) := by decide +kernel
theorem dX4_giveFromGreatest_10 : decode cX4_giveFromGreatest 10 = .ok (.invokevirtual 80, 3) := by decide +kernel
theorem dX4_giveFromGreatest_13 : decode cX4_giveFromGreatest 13 = .ok (.iconst 1, 1) := by decide +kernel
theorem dX4_giveFromGreatest_14 : decode cX4_giveFromGreatest 14 = .ok (.isub, 1) := by decide +kernel
theorem dX4_giveFromGreatest_15 : decode cX4_giveFromGreatest 15 = .ok (.invokevirtual 69, 3) := by decide +kernel
theorem dX4_giveFromGreatest_18 : decode cX4_giveFromGreatest 18 = .ok (.aload_n 0, 1) := by decide +kernel
theorem dX4_giveFromGreatest_19 : decode cX4_giveFromGreatest 19 = .ok (.aload_n 1, 1) := by decide +kernel
theorem dX4_giveFromGreatest_20 : decode cX4_giveFromGreatest 20 = .ok (.iconst 1, 1) := by decide +kernel
theorem dX4_giveFromGreatest_21 : decode cX4_giveFromGreatest 21 = .ok (.aload_n 1, 1) := by decide +kernel
theorem dX4_giveFromGreatest_22 : decode cX4_giveFromGreatest 22 = .ok (.getfield 73, 3) := by decide +kernel
theorem dX4_giveFromGreatest_25 : decode cX4_giveFromGreatest 25 = .ok (.iconst 1, 1) := by decide +kernel
theorem dX4_giveFromGreatest_26 : decode cX4_giveFromGreatest 26 = .ok (.isub, 1) := by decide +kernel
theorem dX4_giveFromGreatest_27 : decode cX4_giveFromGreatest 27 = .ok (.invokevirtual 86, 3) := by decide +kernel
theorem dX4_giveFromGreatest_30 : decode cX4_giveFromGreatest 30 = .ok (.aload_n 0, 1) := by decide +kernel
theorem dX4_giveFromGreatest_31 : decode cX4_giveFromGreatest 31 = .ok (.iconst 1, 1) := by decide +kernel
theorem dX4_giveFromGreatest_32 : decode cX4_giveFromGreatest 32 = .ok (.invokevirtual 69, 3) := by decide +kernel
theorem dX4_giveFromGreatest_35 : decode cX4_giveFromGreatest 35 = .ok (.return_, 1) := by decide +kernel
theorem dX4_giveLeastAway_0 : decode cX4_giveLeastAway 0 = .ok (.aload_n 1, 1) := by decide +kernel
theorem dX4_giveLeastAway_1 : decode cX4_giveLeastAway 1 = .ok (.getfield 73, 3) := by decide +kernel
theorem dX4_giveLeastAway_4 : decode cX4_giveLeastAway 4 = .ok (.iconst 1, 1) := by decide +kernel
theorem dX4_giveLeastAway_5 : decode cX4_giveLeastAway 5 = .ok (.isub, 1) := by decide +kernel
theorem dX4_giveLeastAway_6 : decode cX4_giveLeastAway 6 = .ok (.istore_n 2, 1) := by decide +kernel
theorem dX4_giveLeastAway_7 : decode cX4_giveLeastAway 7 = .ok (.aload_n 1, 1) := by decide +kernel
theorem dX4_giveLeastAway_8 : decode cX4_giveLeastAway 8 = .ok (.iload_n 2, 1) := by decide +kernel
theorem dX4_giveLeastAway_9 : decode cX4_giveLeastAway 9 = .ok (.invokevirtual 80, 3) := by decide +kernel
theorem dX4_giveLeastAway_12 : decode cX4_giveLeastAway 12 = .ok (.istore_n 3, 1) := by decide +kernel
theorem dX4_giveLeastAway_13 : decode cX4_giveLeastAway 13 = .ok (.iconst 0, 1) := by decide +kernel
theorem dX4_giveLeastAway_14 : decode cX4_giveLeastAway 14 = .ok (.istore 4, 2) := by decide +kernel
theorem dX4_giveLeastAway_16 : decode cX4_giveLeastAway 16 = .ok (.iload 4, 2) := by decide +kernel
theorem dX4_giveLeastAway_18 : decode cX4_giveLeastAway 18 = .ok (.iload_n 2, 1) := by decide +kernel
theorem dX4_giveLeastAway_19 : decode cX4_giveLeastAway 19 = .ok (.if_icmp .ge 38, 3) := by decide +kernel
theorem dX4_giveLeastAway_22 : decode cX4_giveLeastAway 22 = .ok (.iload_n 3, 1) := by decide +kernel
theorem dX4_giveLeastAway_23 : decode cX4_giveLeastAway 23 = .ok (.ifCond .le 7, 3) := by decide +kernel
theorem dX4_giveLeastAway_26 : decode cX4_giveLeastAway 26 = .ok (.iconst 1, 1) := by decide +kernel
theorem dX4_giveLeastAway_27 : decode cX4_giveLeastAway 27 = .ok (.goto 4, 3) := by decide +kernel
theorem dX4_giveLeastAway_30 : decode cX4_giveLeastAway 30 = .ok (.iconst 0, 1) := by decide +kernel
theorem dX4_giveLeastAway_31 : decode cX4_giveLeastAway 31 = .ok (.istore 5, 2) := by decide +kernel
theorem dX4_giveLeastAway_33 : decode cX4_giveLeastAway 33 = .ok (.aload_n 0, 1) := by decide +kernel
theorem dX4_giveLeastAway_34 : decode cX4_giveLeastAway 34 = .ok (.aload_n 1, 1) := by decide +kernel
theorem dX4_giveLeastAway_35 : decode cX4_giveLeastAway 35 = .ok (.iload 4, 2) := by decide +kernel
theorem dX4_giveLeastAway_37 : decode cX4_giveLeastAway 37 = .ok (.invokevirtual 80, 3) := by decide +kernel
theorem dX4_giveLeastAway_40 : decode cX4_giveLeastAway 40 = .ok (.iload 5, 2) := by decide +kernel
theorem dX4_giveLeastAway_42 : decode cX4_giveLeastAway 42 = .ok (.iadd, 1) := by decide +kernel
theorem dX4_giveLeastAway_43 : decode cX4_giveLeastAway 43 = .ok (.invokevirtual 69, 3) := by decide +kernel
theorem dX4_giveLeastAway_46 : decode cX4_giveLeastAway 46 = .ok (.iload_n 3, 1) := by decide +kernel
theorem dX4_giveLeastAway_47 : decode cX4_giveLeastAway 47 = .ok (.iload 5, 2) := by decide +kernel
theorem dX4_giveLeastAway_49 : decode cX4_giveLeastAway 49 = .ok (.isub, 1) := by decide +kernel
theorem dX4_giveLeastAway_50 : decode cX4_giveLeastAway 50 = .ok (.istore_n 3, 1) := by decide +kernel
theorem dX4_giveLeastAway_51 : decode cX4_giveLeastAway 51 = .ok (.iinc 4 1, 3) := by decide +kernel
theorem dX4_giveLeastAway_54 : decode cX4_giveLeastAway 54 = .ok (.goto (-38), 3) := by decide +kernel
theorem dX4_giveLeastAway_57 : decode cX4_giveLeastAway 57 = .ok (.aload_n 0, 1) := by decide +kernel
theorem dX4_giveLeastAway_58 : decode cX4_giveLeastAway 58 = .ok (.iload_n 3, 1) := by decide +kernel
theorem dX4_giveLeastAway_59 : decode cX4_giveLeastAway 59 = .ok (.invokevirtual 69, 3) := by decide +kernel
theorem dX4_giveLeastAway_62 : decode cX4_giveLeastAway 62 = .ok (.return_, 1) := by decide +kernel
end
section
theorem dX5_init_0 : decode cX5_init 0 = .ok (.aload_n 0, 1) := by decide +kernel
theorem dX5_init_1 : decode cX5_init 1 = .ok (.invokespecial 1, 3) := by decide +kernel
theorem dX5_init_4 : decode cX5_init 4 = .ok (.aload_n 0, 1) := by decide +kernel
theorem dX5_init_5 : decode cX5_init 5 = .ok (.bipush 6, 2) := by decide +kernel
theorem dX5_init_7 : decode cX5_init 7 = .ok (.newarray .int, 2) := by decide +kernel
theorem dX5_init_9 : decode cX5_init 9 = .ok (.putfield 7, 3) := by decide +kernel
theorem dX5_init_12 : decode cX5_init 12 = .ok (.aload_n 0, 1) := by decide +kernel
theorem dX5_init_13 : decode cX5_init 13 = .ok (.bipush 12, 2) := by decide +kernel
theorem dX5_init_15 : decode cX5_init 15 = .ok (.newarray .int, 2) := by decide +kernel
theorem dX5_init_17 : decode cX5_init 17 = .ok (.putfield 13, 3) := by decide +kernel
theorem dX5_init_20 : decode cX5_init 20 = .ok (.aload_n 0, 1) := by decide +kernel
theorem dX5_init_21 : decode cX5_init 21 = .ok (.sipush 216, 3) := by decide +kernel
theorem dX5_init_24 : decode cX5_init 24 = .ok (.newarray .int, 2) := by decide +kernel
theorem dX5_init_26 : decode cX5_init 26 = .ok (.putfield 16, 3) := by decide +kernel
theorem dX5_init_29 : decode cX5_init 29 = .ok (.aload_n 0, 1) := by decide +kernel
theorem dX5_init_30 : decode cX5_init 30 = .ok (.bipush 18, 2) := by decide +kernel
theorem dX5_init_32 : decode cX5_init 32 = .ok (.newarray .int, 2) := by decide +kernel
theorem dX5_init_34 : decode cX5_init 34 = .ok (.putfield 19, 3) := by decide +kernel
theorem dX5_init_37 : decode cX5_init 37 = .ok (.aload_n 0, 1) := by decide +kernel
theorem dX5_init_38 : decode cX5_init 38 = .ok (.bipush 20, 2) := by decide +kernel
theorem dX5_init_40 : decode cX5_init 40 = .ok (.newarray .int, 2) := by decide +kernel
theorem dX5_init_42 : decode cX5_init 42 = .ok (.putfield 22, 3) := by decide +kernel
theorem dX5_init_45 : decode cX5_init 45 = .ok (.aload_n 0, 1) := by decide +kernel
theorem dX5_init_46 : decode cX5_init 46 = .ok (.bipush (-9), 2) := by decide +kernel
theorem dX5_init_48 : decode cX5_init 48 = .ok (.putfield 25, 3) := by decide +kernel
theorem dX5_init_51 : decode cX5_init 51 = .ok (.aload_n 0, 1) := by decide +kernel
theorem dX5_init_52 : decode cX5_init 52 = .ok (.sipush 6930, 3) := by decide +kernel
theorem dX5_init_55 : decode cX5_init 55 = .ok (.newarray .int, 2) := by decide +kernel
theorem dX5_init_57 : decode cX5_init 57 = .ok (.putfield 29, 3) := by decide +kernel
theorem dX5_init_60 : decode cX5_init 60 = .ok (.aload_n 0, 1) := by decide +kernel
theorem dX5_init_61 : decode cX5_init 61 = .ok (.sipush 385, 3) := by decide +kernel
theorem dX5_init_64 : decode cX5_init 64 = .ok (.newarray .int, 2) := by decide +kernel
theorem dX5_init_66 : decode cX5_init 66 = .ok (.putfield 32, 3) := by decide +kernel
theorem dX5_init_69 : decode cX5_init 69 = .ok (.aload_n 0, 1) := by decide +kernel
theorem dX5_init_70 : decode cX5_init 70 = .ok (.sipush 385, 3) := by decide +kernel
theorem dX5_init_73 : decode cX5_init 73 = .ok (.newarray .int, 2) := by decide +kernel
theorem dX5_init_75 : decode cX5_init 75 = .ok (.putfield 35, 3) := by decide +kernel
theorem dX5_init_78 : decode cX5_init 78 = .ok (.aload_n 0, 1) := by decide +kernel
theorem dX5_init_79 : decode cX5_init 79 = .ok (.sipush 385, 3) := by decide +kernel
theorem dX5_init_82 : decode cX5_init 82 = .ok (.newarray .int, 2) := by decide +kernel
theorem dX5_init_84 : decode cX5_init 84 = .ok (.putfield 38, 3) := by decide +kernel
theorem dX5_init_87 : decode cX5_init 87 = .ok (.aload_n 0, 1) := by decide +kernel
theorem dX5_init_88 : decode cX5_init 88 = .ok (.sipush 385, 3) := by decide +kernel
theorem dX5_init_91 : decode cX5_init 91 = .ok (.newarray .int, 2) := by decide +kernel
theorem dX5_init_93 : decode cX5_init 93 = .ok (.putfield 41, 3) := by decide +kernel
theorem dX5_init_96 : decode cX5_init 96 = .ok (.aload_n 0, 1) := by decide +kernel
theorem dX5_init_97 : decode cX5_init 97 = .ok (.sipush 385, 3) := by decide +kernel
theorem dX5_init_100 : decode cX5_init 100 = .ok (.newarray .int, 2) := by decide +kernel
theorem dX5_init_102 : decode cX5_init 102 = .ok (.putfield 44, 3) := by decide +kernel
theorem dX5_init_105 : decode cX5_init 105 = .ok (.aload_n 0, 1) := by decide +kernel
theorem dX5_init_106 : decode cX5_init 106 = .ok (.sipush 385, 3) := by decide +kernel
theorem dX5_init_109 : decode cX5_init 109 = .ok (.newarray .int, 2) := by decide +kernel
theorem dX5_init_111 : decode cX5_init 111 = .ok (.putfield 47, 3) := by decide +kernel
theorem dX5_init_114 : decode cX5_init 114 = .ok (.aload_n 0, 1) := by decide +kernel
theorem dX5_init_115 : decode cX5_init 115 = .ok (.sipush 385, 3) := by decide +kernel
theorem dX5_init_118 : decode cX5_init 118 = .ok (.newarray .long, 2) := by decide +kernel
theorem dX5_init_120 : decode cX5_init 120 = .ok (.putfield 50, 3) := by decide +kernel
theorem dX5_init_123 : decode cX5_init 123 = .ok (.aload_n 0, 1) := by decide +kernel
theorem dX5_init_124 : decode cX5_init 124 = .ok (.bipush 18, 2) := by decide +kernel
theorem dX5_init_126 : decode cX5_init 126 = .ok (.newarray .int, 2) := by decide +kernel
theorem dX5_init_128 : decode cX5_init 128 = .ok (.putfield 54, 3) := by decide +kernel
theorem dX5_init_131 : decode cX5_init 131 = .ok (.aload_n 0, 1) := by decide +kernel
theorem dX5_init_132 : decode cX5_init 132 = .ok (.bipush 18, 2) := by decide +kernel
theorem dX5_init_134 : decode cX5_init 134 = .ok (.newarray .int, 2) := by decide +kernel
theorem dX5_init_136 : decode cX5_init 136 = .ok (.putfield 57, 3) := by decide +kernel
theorem dX5_init_139 : decode cX5_init 139 = .ok (.aload_n 0, 1) := by decide +kernel
theorem dX5_init_140 : decode cX5_init 140 = .ok (.bipush 18, 2) := by decide +kernel
theorem dX5_init_142 : decode cX5_init 142 = .ok (.newarray .int, 2) := by decide +kernel
theorem dX5_init_144 : decode cX5_init 144 = .ok (.putfield 60, 3) := by decide +kernel
theorem dX5_init_147 : decode cX5_init 147 = .ok (.aload_n 0, 1) := by decide +kernel
theorem dX5_init_148 : decode cX5_init 148 = .ok (.sipush 385, 3) := by decide +kernel
theorem dX5_init_151 : decode cX5_init 151 = .ok (.newarray .long, 2) := by decide +kernel
theorem dX5_init_153 : decode cX5_init 153 = .ok (.putfield 63, 3) := by decide +kernel
theorem dX5_init_156 : decode cX5_init 156 = .ok (.iconst 0, 1) := by decide +kernel
theorem dX5_init_157 : decode cX5_init 157 = .ok (.istore_n 1, 1) := by decide +kernel
theorem dX5_init_158 : decode cX5_init 158 = .ok (.iload_n 1, 1) := by decide +kernel
theorem dX5_init_159 : decode cX5_init 159 = .ok (.bipush 12, 2) := by decide +kernel
theorem dX5_init_161 : decode cX5_init 161 = .ok (.if_icmp .ge 17, 3) := by decide +kernel
theorem dX5_init_164 : decode cX5_init 164 = .ok (.aload_n 0, 1) := by decide +kernel
theorem dX5_init_165 : decode cX5_init 165 = .ok (.getfield 13, 3) := by decide +kernel
theorem dX5_init_168 : decode cX5_init 168 = .ok (.iload_n 1, 1) := by decide +kernel
theorem dX5_init_169 : decode cX5_init 169 = .ok (.bipush (-9), 2) := by decide +kernel
theorem dX5_init_171 : decode cX5_init 171 = .ok (.iastore, 1) := by decide +kernel
theorem dX5_init_172 : decode cX5_init 172 = .ok (.iinc 1 1, 3) := by decide +kernel
theorem dX5_init_175 : decode cX5_init 175 = .ok (.goto (-17), 3) := by decide +kernel
theorem dX5_init_178 : decode cX5_init 178 = .ok (.return_, 1) := by decide +kernel
theorem dX5_in_0 : decode cX5_in 0 = .ok (.iload_n 0, 1) := by decide +kernel
theorem dX5_in_1 : decode cX5_in 1 = .ok (.iload_n 1, 1) := by decide +kernel
theorem dX5_in_2 : decode cX5_in 2 = .ok (.if_icmp .lt 12, 3) := by decide +kernel
theorem dX5_in_5 : decode cX5_in 5 = .ok (.iload_n 0, 1) := by decide +kernel
theorem dX5_in_6 : decode cX5_in 6 = .ok (.iload_n 2, 1) := by decide +kernel
theorem dX5_in_7 : decode cX5_in 7 = .ok (.if_icmp .gt 7, 3) := by decide +kernel
theorem dX5_in_10 : decode cX5_in 10 = .ok (.iconst 1, 1) := by decide +kernel
theorem dX5_in_11 : decode cX5_in 11 = .ok (.goto 4, 3) := by decide +kernel
theorem dX5_in_14 : decode cX5_in 14 = .ok (.iconst 0, 1) := by decide +kernel
theorem dX5_in_15 : decode cX5_in 15 = .ok (.ireturn, 1) := by decide +kernel
theorem dX5_meets_0 : decode cX5_meets 0 = .ok (.aload_n 0, 1) := by decide +kernel
theorem dX5_meets_1 : decode cX5_meets 1 = .ok (.iload_n 1, 1) := by decide +kernel
theorem dX5_meets_2 : decode cX5_meets 2 = .ok (.putfield 66, 3) := by decide +kernel
theorem dX5_meets_5 : decode cX5_meets 5 = .ok (.aload_n 0, 1) := by decide +kernel
theorem dX5_meets_6 : decode cX5_meets 6 = .ok (.getfield 7, 3) := by decide +kernel
theorem dX5_meets_9 : decode cX5_meets 9 = .ok (.iload_n 1, 1) := by decide +kernel
theorem dX5_meets_10 : decode cX5_meets 10 = .ok (.dup2, 1) := by decide +kernel
theorem dX5_meets_11 : decode cX5_meets 11 = .ok (.iaload, 1) := by decide +kernel
theorem dX5_meets_12 : decode cX5_meets 12 = .ok (.iconst 1, 1) := by decide +kernel
theorem dX5_meets_13 : decode cX5_meets 13 = .ok (.iadd, 1) := by decide +kernel
theorem dX5_meets_14 : decode cX5_meets 14 = .ok (.iastore, 1) := by decide +kernel
theorem dX5_meets_15 : decode cX5_meets 15 = .ok (.bipush (-3), 2) := by decide +kernel
theorem dX5_meets_17 : decode cX5_meets 17 = .ok (.ireturn, 1) := by decide +kernel
theorem dX5_isParting_0 : decode cX5_isParting 0 = .ok (.iload_n 0, 1) := by decide +kernel
theorem dX5_isParting_1 : decode cX5_isParting 1 = .ok (.iconst 0, 1) := by decide +kernel
theorem dX5_isParting_2 : decode cX5_isParting 2 = .ok (.bipush 11, 2) := by decide +kernel
theorem dX5_isParting_4 : decode cX5_isParting 4 = .ok (.invokestatic 69, 3) := by decide +kernel
theorem dX5_isParting_7 : decode cX5_isParting 7 = .ok (.ireturn, 1) := by decide +kernel
theorem dX5_looked_0 : decode cX5_looked 0 = .ok (.iload_n 1, 1) := by decide +kernel
theorem dX5_looked_1 : decode cX5_looked 1 = .ok (.invokestatic 73, 3) := by decide +kernel
theorem dX5_looked_4 : decode cX5_looked 4 = .ok (.ifCond .ne 7, 3) := by decide +kernel
theorem dX5_looked_7 : decode cX5_looked 7 = .ok (.iconst (-1), 1) := by decide +kernel
theorem dX5_looked_8 : decode cX5_looked 8 = .ok (.goto 21, 3) := by decide +kernel
theorem dX5_looked_11 : decode cX5_looked 11 = .ok (.aload_n 0, 1) := by decide +kernel
theorem dX5_looked_12 : decode cX5_looked 12 = .ok (.getfield 13, 3) := by decide +kernel
theorem dX5_looked_15 : decode cX5_looked 15 = .ok (.iload_n 1, 1) := by decide +kernel
theorem dX5_looked_16 : decode cX5_looked 16 = .ok (.iaload, 1) := by decide +kernel
theorem dX5_looked_17 : decode cX5_looked 17 = .ok (.ifCond .ge 11, 3) := by decide +kernel
theorem dX5_looked_20 : decode cX5_looked 20 = .ok (.aload_n 0, 1) := by decide +kernel
theorem dX5_looked_21 : decode cX5_looked 21 = .ok (.iconst 1, 1) := by decide +kernel
theorem dX5_looked_22 : decode cX5_looked 22 = .ok (.invokevirtual 77, 3) := by decide +kernel
theorem dX5_looked_25 : decode cX5_looked 25 = .ok (.goto 4, 3) := by decide +kernel
theorem dX5_looked_28 : decode cX5_looked 28 = .ok (.iconst 0, 1) := by decide +kernel
theorem dX5_looked_29 : decode cX5_looked 29 = .ok (.ireturn, 1) := by decide +kernel
theorem dX5_cards_0 : decode cX5_cards 0 = .ok (.iconst 0, 1) := by decide +kernel
theorem dX5_cards_1 : decode cX5_cards 1 = .ok (.istore_n 2, 1) := by decide +kernel
theorem dX5_cards_2 : decode cX5_cards 2 = .ok (.iconst 0, 1) := by decide +kernel
theorem dX5_cards_3 : decode cX5_cards 3 = .ok (.istore_n 3, 1) := by decide +kernel
theorem dX5_cards_4 : decode cX5_cards 4 = .ok (.iload_n 3, 1) := by decide +kernel
theorem dX5_cards_5 : decode cX5_cards 5 = .ok (.aload_n 0, 1) := by decide +kernel
theorem dX5_cards_6 : decode cX5_cards 6 = .ok (.getfield 13, 3) := by decide +kernel
theorem dX5_cards_9 : decode cX5_cards 9 = .ok (.iload_n 1, 1) := by decide +kernel
theorem dX5_cards_10 : decode cX5_cards 10 = .ok (.iaload, 1) := by decide +kernel
theorem dX5_cards_11 : decode cX5_cards 11 = .ok (.if_icmp .ge 23, 3) := by decide +kernel
theorem dX5_cards_14 : decode cX5_cards 14 = .ok (.iload_n 2, 1) := by decide +kernel
theorem dX5_cards_15 : decode cX5_cards 15 = .ok (.aload_n 0, 1) := by decide +kernel
theorem dX5_cards_16 : decode cX5_cards 16 = .ok (.getfield 16, 3) := by decide +kernel
theorem dX5_cards_19 : decode cX5_cards 19 = .ok (.bipush 18, 2) := by decide +kernel
theorem dX5_cards_21 : decode cX5_cards 21 = .ok (.iload_n 1, 1) := by decide +kernel
theorem dX5_cards_22 : decode cX5_cards 22 = .ok (.imul, 1) := by decide +kernel
theorem dX5_cards_23 : decode cX5_cards 23 = .ok (.iload_n 3, 1) := by decide +kernel
theorem dX5_cards_24 : decode cX5_cards 24 = .ok (.iadd, 1) := by decide +kernel
theorem dX5_cards_25 : decode cX5_cards 25 = .ok (.iaload, 1) := by decide +kernel
theorem dX5_cards_26 : decode cX5_cards 26 = .ok (.iadd, 1) := by decide +kernel
theorem dX5_cards_27 : decode cX5_cards 27 = .ok (.istore_n 2, 1) := by decide +kernel
theorem dX5_cards_28 : decode cX5_cards 28 = .ok (.iinc 3 1, 3) := by decide +kernel
theorem dX5_cards_31 : decode cX5_cards 31 = .ok (.goto (-27), 3) := by decide +kernel
theorem dX5_cards_34 : decode cX5_cards 34 = .ok (.iload_n 2, 1) := by decide +kernel
theorem dX5_cards_35 : decode cX5_cards 35 = .ok (.ireturn, 1) := by decide +kernel
theorem dX5_parting_0 : decode cX5_parting 0 = .ok (.iload_n 1, 1) := by decide +kernel
theorem dX5_parting_1 : decode cX5_parting 1 = .ok (.invokestatic 73, 3) := by decide +kernel
theorem dX5_parting_4 : decode cX5_parting 4 = .ok (.ifCond .ne 5, 3) := by decide +kernel
theorem dX5_parting_7 : decode cX5_parting 7 = .ok (.iconst (-1), 1) := by decide +kernel
theorem dX5_parting_8 : decode cX5_parting 8 = .ok (.ireturn, 1) := by decide +kernel
theorem dX5_parting_9 : decode cX5_parting 9 = .ok (.aload_n 0, 1) := by decide +kernel
theorem dX5_parting_10 : decode cX5_parting 10 = .ok (.getfield 13, 3) := by decide +kernel
theorem dX5_parting_13 : decode cX5_parting 13 = .ok (.iload_n 1, 1) := by decide +kernel
theorem dX5_parting_14 : decode cX5_parting 14 = .ok (.iaload, 1) := by decide +kernel
theorem dX5_parting_15 : decode cX5_parting 15 = .ok (.ifCond .lt 7, 3) := by decide +kernel
theorem dX5_parting_18 : decode cX5_parting 18 = .ok (.iconst 1, 1) := by decide +kernel
theorem dX5_parting_19 : decode cX5_parting 19 = .ok (.goto 4, 3) := by decide +kernel
theorem dX5_parting_22 : decode cX5_parting 22 = .ok (.iconst 0, 1) := by decide +kernel
theorem dX5_parting_23 : decode cX5_parting 23 = .ok (.istore_n 2, 1) := by decide +kernel
theorem dX5_parting_24 : decode cX5_parting 24 = .ok (.aload_n 0, 1) := by decide +kernel
theorem dX5_parting_25 : decode cX5_parting 25 = .ok (.getfield 13, 3) := by decide +kernel
theorem dX5_parting_28 : decode cX5_parting 28 = .ok (.iload_n 1, 1) := by decide +kernel
theorem dX5_parting_29 : decode cX5_parting 29 = .ok (.iconst 0, 1) := by decide +kernel
theorem dX5_parting_30 : decode cX5_parting 30 = .ok (.iastore, 1) := by decide +kernel
theorem dX5_parting_31 : decode cX5_parting 31 = .ok (.iload_n 2, 1) := by decide +kernel
theorem dX5_parting_32 : decode cX5_parting 32 = .ok (.ireturn, 1) := by decide +kernel
theorem dX5_put_0 : decode cX5_put 0 = .ok (.aload_n 0, 1) := by decide +kernel
theorem dX5_put_1 : decode cX5_put 1 = .ok (.getfield 13, 3) := by decide +kernel
theorem dX5_put_4 : decode cX5_put 4 = .ok (.iload_n 1, 1) := by decide +kernel
theorem dX5_put_5 : decode cX5_put 5 = .ok (.iaload, 1) := by decide +kernel
theorem dX5_put_6 : decode cX5_put 6 = .ok (.istore_n 3, 1) := by decide +kernel
theorem dX5_put_7 : decode cX5_put 7 = .ok (.iload_n 3, 1) := by decide +kernel
theorem dX5_put_8 : decode cX5_put 8 = .ok (.ifCond .le 50, 3) := by decide +kernel
theorem dX5_put_11 : decode cX5_put 11 = .ok (.aload_n 0, 1) := by decide +kernel
theorem dX5_put_12 : decode cX5_put 12 = .ok (.getfield 16, 3) := by decide +kernel
theorem dX5_put_15 : decode cX5_put 15 = .ok (.bipush 18, 2) := by decide +kernel
theorem dX5_put_17 : decode cX5_put 17 = .ok (.iload_n 1, 1) := by decide +kernel
theorem dX5_put_18 : decode cX5_put 18 = .ok (.imul, 1) := by decide +kernel
theorem dX5_put_19 : decode cX5_put 19 = .ok (.iload_n 3, 1) := by decide +kernel
theorem dX5_put_20 : decode cX5_put 20 = .ok (.iadd, 1) := by decide +kernel
theorem dX5_put_21 : decode cX5_put 21 = .ok (.iconst 1, 1) := by decide +kernel
theorem dX5_put_22 : decode cX5_put 22 = .ok (.isub, 1) := by decide +kernel
theorem dX5_put_23 : decode cX5_put 23 = .ok (.iaload, 1) := by decide +kernel
theorem dX5_put_24 : decode cX5_put 24 = .ok (.iload_n 2, 1) := by decide +kernel
theorem dX5_put_25 : decode cX5_put 25 = .ok (.if_icmp .ge 33, 3) := by decide +kernel
theorem dX5_put_28 : decode cX5_put 28 = .ok (.aload_n 0, 1) := by decide +kernel
theorem dX5_put_29 : decode cX5_put 29 = .ok (.getfield 16, 3) := by decide +kernel
theorem dX5_put_32 : decode cX5_put 32 = .ok (.bipush 18, 2) := by decide +kernel
theorem dX5_put_34 : decode cX5_put 34 = .ok (.iload_n 1, 1) := by decide +kernel
theorem dX5_put_35 : decode cX5_put 35 = .ok (.imul, 1) := by decide +kernel
theorem dX5_put_36 : decode cX5_put 36 = .ok (.iload_n 3, 1) := by decide +kernel
theorem dX5_put_37 : decode cX5_put 37 = .ok (.iadd, 1) := by decide +kernel
theorem dX5_put_38 : decode cX5_put 38 = .ok (.aload_n 0, 1) := by decide +kernel
theorem dX5_put_39 : decode cX5_put 39 = .ok (.getfield 16, 3) := by decide +kernel
theorem dX5_put_42 : decode cX5_put 42 = .ok (.bipush 18, 2) := by decide +kernel
theorem dX5_put_44 : decode cX5_put 44 = .ok (.iload_n 1, 1) := by decide +kernel
theorem dX5_put_45 : decode cX5_put 45 = .ok (.imul, 1) := by decide +kernel
theorem dX5_put_46 : decode cX5_put 46 = .ok (.iload_n 3, 1) := by decide +kernel
theorem dX5_put_47 : decode cX5_put 47 = .ok (.iadd, 1) := by decide +kernel
theorem dX5_put_48 : decode cX5_put 48 = .ok (.iconst 1, 1) := by decide +kernel
theorem dX5_put_49 : decode cX5_put 49 = .ok (.isub, 1) := by decide +kernel
theorem dX5_put_50 : decode cX5_put 50 = .ok (.iaload, 1) := by decide +kernel
theorem dX5_put_51 : decode cX5_put 51 = .ok (.iastore, 1) := by decide +kernel
theorem dX5_put_52 : decode cX5_put 52 = .ok (.iinc 3 (-1), 3) := by decide +kernel
theorem dX5_put_55 : decode cX5_put 55 = .ok (.goto (-48), 3) := by decide +kernel
theorem dX5_put_58 : decode cX5_put 58 = .ok (.aload_n 0, 1) := by decide +kernel
theorem dX5_put_59 : decode cX5_put 59 = .ok (.getfield 16, 3) := by decide +kernel
theorem dX5_put_62 : decode cX5_put 62 = .ok (.bipush 18, 2) := by decide +kernel
theorem dX5_put_64 : decode cX5_put 64 = .ok (.iload_n 1, 1) := by decide +kernel
theorem dX5_put_65 : decode cX5_put 65 = .ok (.imul, 1) := by decide +kernel
theorem dX5_put_66 : decode cX5_put 66 = .ok (.iload_n 3, 1) := by decide +kernel
theorem dX5_put_67 : decode cX5_put 67 = .ok (.iadd, 1) := by decide +kernel
theorem dX5_put_68 : decode cX5_put 68 = .ok (.iload_n 2, 1) := by decide +kernel
theorem dX5_put_69 : decode cX5_put 69 = .ok (.iastore, 1) := by decide +kernel
theorem dX5_put_70 : decode cX5_put 70 = .ok (.aload_n 0, 1) := by decide +kernel
theorem dX5_put_71 : decode cX5_put 71 = .ok (.getfield 13, 3) := by decide +kernel
theorem dX5_put_74 : decode cX5_put 74 = .ok (.iload_n 1, 1) := by decide +kernel
theorem dX5_put_75 : decode cX5_put 75 = .ok (.dup2, 1) := by decide +kernel
theorem dX5_put_76 : decode cX5_put 76 = .ok (.iaload, 1) := by decide +kernel
theorem dX5_put_77 : decode cX5_put 77 = .ok (.iconst 1, 1) := by decide +kernel
theorem dX5_put_78 : decode cX5_put 78 = .ok (.iadd, 1) := by decide +kernel
theorem dX5_put_79 : decode cX5_put 79 = .ok (.iastore, 1) := by decide +kernel
theorem dX5_put_80 : decode cX5_put 80 = .ok (.return_, 1) := by decide +kernel
theorem dX5_heap_0 : decode cX5_heap 0 = .ok (.iload_n 2, 1) := by decide +kernel
theorem dX5_heap_1 : decode cX5_heap 1 = .ok (.iconst 1, 1) := by decide +kernel
theorem dX5_heap_2 : decode cX5_heap 2 = .ok (.bipush 18, 2) := by decide +kernel
theorem dX5_heap_4 : decode cX5_heap 4 = .ok (.invokestatic 69, 3) := by decide +kernel
theorem dX5_heap_7 : decode cX5_heap 7 = .ok (.ifCond .ne 5, 3) := by decide +kernel
theorem dX5_heap_10 : decode cX5_heap 10 = .ok (.iconst (-1), 1) := by decide +kernel
theorem dX5_heap_11 : decode cX5_heap 11 = .ok (.ireturn, 1) := by decide +kernel
theorem dX5_heap_12 : decode cX5_heap 12 = .ok (.aload_n 0, 1) := by decide +kernel
theorem dX5_heap_13 : decode cX5_heap 13 = .ok (.iload_n 1, 1) := by decide +kernel
theorem dX5_heap_14 : decode cX5_heap 14 = .ok (.invokevirtual 81, 3) := by decide +kernel
theorem dX5_heap_17 : decode cX5_heap 17 = .ok (.istore_n 3, 1) := by decide +kernel
theorem dX5_heap_18 : decode cX5_heap 18 = .ok (.iload_n 3, 1) := by decide +kernel
theorem dX5_heap_19 : decode cX5_heap 19 = .ok (.ifCond .ge 5, 3) := by decide +kernel
theorem dX5_heap_22 : decode cX5_heap 22 = .ok (.iload_n 3, 1) := by decide +kernel
theorem dX5_heap_23 : decode cX5_heap 23 = .ok (.ireturn, 1) := by decide +kernel
theorem dX5_heap_24 : decode cX5_heap 24 = .ok (.aload_n 0, 1) := by decide +kernel
theorem dX5_heap_25 : decode cX5_heap 25 = .ok (.iload_n 1, 1) := by decide +kernel
theorem dX5_heap_26 : decode cX5_heap 26 = .ok (.invokevirtual 84, 3) := by decide +kernel
theorem dX5_heap_29 : decode cX5_heap 29 = .ok (.iload_n 2, 1) := by decide +kernel
theorem dX5_heap_30 : decode cX5_heap 30 = .ok (.iadd, 1) := by decide +kernel
theorem dX5_heap_31 : decode cX5_heap 31 = .ok (.bipush 18, 2) := by decide +kernel
theorem dX5_heap_33 : decode cX5_heap 33 = .ok (.if_icmp .le 6, 3) := by decide +kernel
theorem dX5_heap_36 : decode cX5_heap 36 = .ok (.bipush (-2), 2) := by decide +kernel
theorem dX5_heap_38 : decode cX5_heap 38 = .ok (.ireturn, 1) := by decide +kernel
theorem dX5_heap_39 : decode cX5_heap 39 = .ok (.aload_n 0, 1) := by decide +kernel
theorem dX5_heap_40 : decode cX5_heap 40 = .ok (.iload_n 1, 1) := by decide +kernel
theorem dX5_heap_41 : decode cX5_heap 41 = .ok (.iload_n 2, 1) := by decide +kernel
theorem dX5_heap_42 : decode cX5_heap 42 = .ok (.invokevirtual 87, 3) := by decide +kernel
theorem dX5_heap_45 : decode cX5_heap 45 = .ok (.aload_n 0, 1) := by decide +kernel
theorem dX5_heap_46 : decode cX5_heap 46 = .ok (.getfield 13, 3) := by decide +kernel
theorem dX5_heap_49 : decode cX5_heap 49 = .ok (.iload_n 1, 1) := by decide +kernel
theorem dX5_heap_50 : decode cX5_heap 50 = .ok (.iaload, 1) := by decide +kernel
theorem dX5_heap_51 : decode cX5_heap 51 = .ok (.ireturn, 1) := by decide +kernel
theorem dX5_at_0 : decode cX5_at 0 = .ok (.aload_n 0, 1) := by decide +kernel
theorem dX5_at_1 : decode cX5_at 1 = .ok (.iload_n 1, 1) := by decide +kernel
theorem dX5_at_2 : decode cX5_at 2 = .ok (.invokevirtual 81, 3) := by decide +kernel
theorem dX5_at_5 : decode cX5_at 5 = .ok (.istore_n 3, 1) := by decide +kernel
theorem dX5_at_6 : decode cX5_at 6 = .ok (.iload_n 3, 1) := by decide +kernel
theorem dX5_at_7 : decode cX5_at 7 = .ok (.ifCond .ge 7, 3) := by decide +kernel
theorem dX5_at_10 : decode cX5_at 10 = .ok (.iload_n 3, 1) := by decide +kernel
theorem dX5_at_11 : decode cX5_at 11 = .ok (.goto 52, 3) := by decide +kernel
theorem dX5_at_14 : decode cX5_at 14 = .ok (.iload_n 2, 1) := by decide +kernel
theorem dX5_at_15 : decode cX5_at 15 = .ok (.iconst (-1), 1) := by decide +kernel
theorem dX5_at_16 : decode cX5_at 16 = .ok (.if_icmp .ne 12, 3) := by decide +kernel
theorem dX5_at_19 : decode cX5_at 19 = .ok (.aload_n 0, 1) := by decide +kernel
theorem dX5_at_20 : decode cX5_at 20 = .ok (.getfield 13, 3) := by decide +kernel
theorem dX5_at_23 : decode cX5_at 23 = .ok (.iload_n 1, 1) := by decide +kernel
theorem dX5_at_24 : decode cX5_at 24 = .ok (.iaload, 1) := by decide +kernel
theorem dX5_at_25 : decode cX5_at 25 = .ok (.goto 38, 3) := by decide +kernel
theorem dX5_at_28 : decode cX5_at 28 = .ok (.iload_n 2, 1) := by decide +kernel
theorem dX5_at_29 : decode cX5_at 29 = .ok (.iconst 0, 1) := by decide +kernel
theorem dX5_at_30 : decode cX5_at 30 = .ok (.aload_n 0, 1) := by decide +kernel
theorem dX5_at_31 : decode cX5_at 31 = .ok (.getfield 13, 3) := by decide +kernel
theorem dX5_at_34 : decode cX5_at 34 = .ok (.iload_n 1, 1) := by decide +kernel
theorem dX5_at_35 : decode cX5_at 35 = .ok (.iaload, 1) := by decide +kernel
theorem dX5_at_36 : decode cX5_at 36 = .ok (.iconst 1, 1) := by decide +kernel
theorem dX5_at_37 : decode cX5_at 37 = .ok (.isub, 1) := by decide +kernel
theorem dX5_at_38 : decode cX5_at 38 = .ok (.invokestatic 69, 3) := by decide +kernel
theorem dX5_at_41 : decode cX5_at 41 = .ok (.ifCond .eq 17, 3) := by decide +kernel
theorem dX5_at_44 : decode cX5_at 44 = .ok (.aload_n 0, 1) := by decide +kernel
theorem dX5_at_45 : decode cX5_at 45 = .ok (.getfield 16, 3) := by decide +kernel
theorem dX5_at_48 : decode cX5_at 48 = .ok (.bipush 18, 2) := by decide +kernel
theorem dX5_at_50 : decode cX5_at 50 = .ok (.iload_n 1, 1) := by decide +kernel
theorem dX5_at_51 : decode cX5_at 51 = .ok (.imul, 1) := by decide +kernel
theorem dX5_at_52 : decode cX5_at 52 = .ok (.iload_n 2, 1) := by decide +kernel
theorem dX5_at_53 : decode cX5_at 53 = .ok (.iadd, 1) := by decide +kernel
theorem dX5_at_54 : decode cX5_at 54 = .ok (.iaload, 1) := by decide +kernel
theorem dX5_at_55 : decode cX5_at 55 = .ok (.goto 8, 3) := by decide +kernel
theorem dX5_at_58 : decode cX5_at 58 = .ok (.aload_n 0, 1) := by decide +kernel
theorem dX5_at_59 : decode cX5_at 59 = .ok (.iconst 2, 1) := by decide +kernel
theorem dX5_at_60 : decode cX5_at 60 = .ok (.invokevirtual 77, 3) := by decide +kernel
theorem dX5_at_63 : decode cX5_at 63 = .ok (.ireturn, 1) := by decide +kernel
theorem dX5_take_0 : decode cX5_take 0 = .ok (.aload_n 0, 1) := by decide +kernel
theorem dX5_take_1 : decode cX5_take 1 = .ok (.iload_n 1, 1) := by decide +kernel
theorem dX5_take_2 : decode cX5_take 2 = .ok (.invokevirtual 81, 3) := by decide +kernel
theorem dX5_take_5 : decode cX5_take 5 = .ok (.istore_n 3, 1) := by decide +kernel
theorem dX5_take_6 : decode cX5_take 6 = .ok (.iload_n 3, 1) := by decide +kernel
theorem dX5_take_7 : decode cX5_take 7 = .ok (.ifCond .ge 5, 3) := by decide +kernel
theorem dX5_take_10 : decode cX5_take 10 = .ok (.iload_n 3, 1) := by decide +kernel
theorem dX5_take_11 : decode cX5_take 11 = .ok (.ireturn, 1) := by decide +kernel
theorem dX5_take_12 : decode cX5_take 12 = .ok (.iload_n 2, 1) := by decide +kernel
theorem dX5_take_13 : decode cX5_take 13 = .ok (.iconst 0, 1) := by decide +kernel
theorem dX5_take_14 : decode cX5_take 14 = .ok (.aload_n 0, 1) := by decide +kernel
theorem dX5_take_15 : decode cX5_take 15 = .ok (.getfield 13, 3) := by decide +kernel
theorem dX5_take_18 : decode cX5_take 18 = .ok (.iload_n 1, 1) := by decide +kernel
theorem dX5_take_19 : decode cX5_take 19 = .ok (.iaload, 1) := by decide +kernel
theorem dX5_take_20 : decode cX5_take 20 = .ok (.iconst 1, 1) := by decide +kernel
theorem dX5_take_21 : decode cX5_take 21 = .ok (.isub, 1) := by decide +kernel
theorem dX5_take_22 : decode cX5_take 22 = .ok (.invokestatic 69, 3) := by decide +kernel
theorem dX5_take_25 : decode cX5_take 25 = .ok (.ifCond .ne 9, 3) := by decide +kernel
theorem dX5_take_28 : decode cX5_take 28 = .ok (.aload_n 0, 1) := by decide +kernel
theorem dX5_take_29 : decode cX5_take 29 = .ok (.iconst 2, 1) := by decide +kernel
theorem dX5_take_30 : decode cX5_take 30 = .ok (.invokevirtual 77, 3) := by decide +kernel
theorem dX5_take_33 : decode cX5_take 33 = .ok (.ireturn, 1) := by decide +kernel
theorem dX5_take_34 : decode cX5_take 34 = .ok (.aload_n 0, 1) := by decide +kernel
theorem dX5_take_35 : decode cX5_take 35 = .ok (.getfield 16, 3) := by decide +kernel
theorem dX5_take_38 : decode cX5_take 38 = .ok (.bipush 18, 2) := by decide +kernel
theorem dX5_take_40 : decode cX5_take 40 = .ok (.iload_n 1, 1) := by decide +kernel
theorem dX5_take_41 : decode cX5_take 41 = .ok (.imul, 1) := by decide +kernel
theorem dX5_take_42 : decode cX5_take 42 = .ok (.iload_n 2, 1) := by decide +kernel
theorem dX5_take_43 : decode cX5_take 43 = .ok (.iadd, 1) := by decide +kernel
theorem dX5_take_44 : decode cX5_take 44 = .ok (.iaload, 1) := by decide +kernel
theorem dX5_take_45 : decode cX5_take 45 = .ok (.istore 4, 2) := by decide +kernel
theorem dX5_take_47 : decode cX5_take 47 = .ok (.aload_n 0, 1) := by decide +kernel
theorem dX5_take_48 : decode cX5_take 48 = .ok (.getfield 13, 3) := by decide +kernel
theorem dX5_take_51 : decode cX5_take 51 = .ok (.iload_n 1, 1) := by decide +kernel
theorem dX5_take_52 : decode cX5_take 52 = .ok (.dup2, 1) := by decide +kernel
theorem dX5_take_53 : decode cX5_take 53 = .ok (.iaload, 1) := by decide +kernel
theorem dX5_take_54 : decode cX5_take 54 = .ok (.iconst 1, 1) := by decide +kernel
theorem dX5_take_55 : decode cX5_take 55 = .ok (.isub, 1) := by decide +kernel
theorem dX5_take_56 : decode cX5_take 56 = .ok (.iastore, 1) := by decide +kernel
theorem dX5_take_57 : decode cX5_take 57 = .ok (.iload_n 2, 1) := by decide +kernel
theorem dX5_take_58 : decode cX5_take 58 = .ok (.istore 5, 2) := by decide +kernel
theorem dX5_take_60 : decode cX5_take 60 = .ok (.iload 5, 2) := by decide +kernel
theorem dX5_take_62 : decode cX5_take 62 = .ok (.aload_n 0, 1) := by decide +kernel
theorem dX5_take_63 : decode cX5_take 63 = .ok (.getfield 13, 3) := by decide +kernel
theorem dX5_take_66 : decode cX5_take 66 = .ok (.iload_n 1, 1) := by decide +kernel
theorem dX5_take_67 : decode cX5_take 67 = .ok (.iaload, 1) := by decide +kernel
theorem dX5_take_68 : decode cX5_take 68 = .ok (.if_icmp .ge 35, 3) := by decide +kernel
theorem dX5_take_71 : decode cX5_take 71 = .ok (.aload_n 0, 1) := by decide +kernel
theorem dX5_take_72 : decode cX5_take 72 = .ok (.getfield 16, 3) := by decide +kernel
theorem dX5_take_75 : decode cX5_take 75 = .ok (.bipush 18, 2) := by decide +kernel
theorem dX5_take_77 : decode cX5_take 77 = .ok (.iload_n 1, 1) := by decide +kernel
theorem dX5_take_78 : decode cX5_take 78 = .ok (.imul, 1) := by decide +kernel
theorem dX5_take_79 : decode cX5_take 79 = .ok (.iload 5, 2) := by decide +kernel
theorem dX5_take_81 : decode cX5_take 81 = .ok (.iadd, 1) := by decide +kernel
theorem dX5_take_82 : decode cX5_take 82 = .ok (.aload_n 0, 1) := by decide +kernel
theorem dX5_take_83 : decode cX5_take 83 = .ok (.getfield 16, 3) := by decide +kernel
theorem dX5_take_86 : decode cX5_take 86 = .ok (.bipush 18, 2) := by decide +kernel
theorem dX5_take_88 : decode cX5_take 88 = .ok (.iload_n 1, 1) := by decide +kernel
theorem dX5_take_89 : decode cX5_take 89 = .ok (.imul, 1) := by decide +kernel
theorem dX5_take_90 : decode cX5_take 90 = .ok (.iload 5, 2) := by decide +kernel
theorem dX5_take_92 : decode cX5_take 92 = .ok (.iadd, 1) := by decide +kernel
theorem dX5_take_93 : decode cX5_take 93 = .ok (.iconst 1, 1) := by decide +kernel
theorem dX5_take_94 : decode cX5_take 94 = .ok (.iadd, 1) := by decide +kernel
theorem dX5_take_95 : decode cX5_take 95 = .ok (.iaload, 1) := by decide +kernel
theorem dX5_take_96 : decode cX5_take 96 = .ok (.iastore, 1) := by decide +kernel
theorem dX5_take_97 : decode cX5_take 97 = .ok (.iinc 5 1, 3) := by decide +kernel
theorem dX5_take_100 : decode cX5_take 100 = .ok (.goto (-40), 3) := by decide +kernel
theorem dX5_take_103 : decode cX5_take 103 = .ok (.iload 4, 2) := by decide +kernel
theorem dX5_take_105 : decode cX5_take 105 = .ok (.ireturn, 1) := by decide +kernel
theorem dX5_tear_0 : decode cX5_tear 0 = .ok (.aload_n 0, 1) := by decide +kernel
theorem dX5_tear_1 : decode cX5_tear 1 = .ok (.iload_n 1, 1) := by decide +kernel
theorem dX5_tear_2 : decode cX5_tear 2 = .ok (.invokevirtual 81, 3) := by decide +kernel
theorem dX5_tear_5 : decode cX5_tear 5 = .ok (.istore_n 2, 1) := by decide +kernel
theorem dX5_tear_6 : decode cX5_tear 6 = .ok (.iload_n 2, 1) := by decide +kernel
theorem dX5_tear_7 : decode cX5_tear 7 = .ok (.ifCond .ge 5, 3) := by decide +kernel
theorem dX5_tear_10 : decode cX5_tear 10 = .ok (.iload_n 2, 1) := by decide +kernel
theorem dX5_tear_11 : decode cX5_tear 11 = .ok (.ireturn, 1) := by decide +kernel
theorem dX5_tear_12 : decode cX5_tear 12 = .ok (.aload_n 0, 1) := by decide +kernel
theorem dX5_tear_13 : decode cX5_tear 13 = .ok (.getfield 13, 3) := by decide +kernel
theorem dX5_tear_16 : decode cX5_tear 16 = .ok (.iload_n 1, 1) := by decide +kernel
theorem dX5_tear_17 : decode cX5_tear 17 = .ok (.bipush (-9), 2) := by decide +kernel
theorem dX5_tear_19 : decode cX5_tear 19 = .ok (.iastore, 1) := by decide +kernel
theorem dX5_tear_20 : decode cX5_tear 20 = .ok (.iconst 1, 1) := by decide +kernel
theorem dX5_tear_21 : decode cX5_tear 21 = .ok (.ireturn, 1) := by decide +kernel
theorem dX5_copy_0 : decode cX5_copy 0 = .ok (.iload_n 1, 1) := by decide +kernel
theorem dX5_copy_1 : decode cX5_copy 1 = .ok (.invokestatic 73, 3) := by decide +kernel
theorem dX5_copy_4 : decode cX5_copy 4 = .ok (.ifCond .eq 11, 3) := by decide +kernel
theorem dX5_copy_7 : decode cX5_copy 7 = .ok (.iload 4, 2) := by decide +kernel
theorem dX5_copy_9 : decode cX5_copy 9 = .ok (.invokestatic 73, 3) := by decide +kernel
theorem dX5_copy_12 : decode cX5_copy 12 = .ok (.ifCond .ne 5, 3) := by decide +kernel
theorem dX5_copy_15 : decode cX5_copy 15 = .ok (.iconst (-1), 1) := by decide +kernel
theorem dX5_copy_16 : decode cX5_copy 16 = .ok (.ireturn, 1) := by decide +kernel
theorem dX5_copy_17 : decode cX5_copy 17 = .ok (.iload_n 3, 1) := by decide +kernel
theorem dX5_copy_18 : decode cX5_copy 18 = .ok (.ifCond .ge 9, 3) := by decide +kernel
theorem dX5_copy_21 : decode cX5_copy 21 = .ok (.aload_n 0, 1) := by decide +kernel
theorem dX5_copy_22 : decode cX5_copy 22 = .ok (.iconst 5, 1) := by decide +kernel
theorem dX5_copy_23 : decode cX5_copy 23 = .ok (.invokevirtual 77, 3) := by decide +kernel
theorem dX5_copy_26 : decode cX5_copy 26 = .ok (.ireturn, 1) := by decide +kernel
theorem dX5_copy_27 : decode cX5_copy 27 = .ok (.aload_n 0, 1) := by decide +kernel
theorem dX5_copy_28 : decode cX5_copy 28 = .ok (.getfield 13, 3) := by decide +kernel
theorem dX5_copy_31 : decode cX5_copy 31 = .ok (.iload_n 1, 1) := by decide +kernel
theorem dX5_copy_32 : decode cX5_copy 32 = .ok (.iaload, 1) := by decide +kernel
theorem dX5_copy_33 : decode cX5_copy 33 = .ok (.ifCond .lt 13, 3) := by decide +kernel
theorem dX5_copy_36 : decode cX5_copy 36 = .ok (.aload_n 0, 1) := by decide +kernel
theorem dX5_copy_37 : decode cX5_copy 37 = .ok (.getfield 13, 3) := by decide +kernel
theorem dX5_copy_40 : decode cX5_copy 40 = .ok (.iload 4, 2) := by decide +kernel
theorem dX5_copy_42 : decode cX5_copy 42 = .ok (.iaload, 1) := by decide +kernel
theorem dX5_copy_43 : decode cX5_copy 43 = .ok (.ifCond .ge 9, 3) := by decide +kernel
theorem dX5_copy_46 : decode cX5_copy 46 = .ok (.aload_n 0, 1) := by decide +kernel
theorem dX5_copy_47 : decode cX5_copy 47 = .ok (.iconst 1, 1) := by decide +kernel
theorem dX5_copy_48 : decode cX5_copy 48 = .ok (.invokevirtual 77, 3) := by decide +kernel
theorem dX5_copy_51 : decode cX5_copy 51 = .ok (.ireturn, 1) := by decide +kernel
theorem dX5_copy_52 : decode cX5_copy 52 = .ok (.iload_n 2, 1) := by decide +kernel
theorem dX5_copy_53 : decode cX5_copy 53 = .ok (.ifCond .lt 19, 3) := by decide +kernel
theorem dX5_copy_56 : decode cX5_copy 56 = .ok (.iload_n 2, 1) := by decide +kernel
theorem dX5_copy_57 : decode cX5_copy 57 = .ok (.i2l, 1) := by decide +kernel
theorem dX5_copy_58 : decode cX5_copy 58 = .ok (.iload_n 3, 1) := by decide +kernel
theorem dX5_copy_59 : decode cX5_copy 59 = .ok (.i2l, 1) := by decide +kernel
theorem dX5_copy_60 : decode cX5_copy 60 = .ok (.ladd, 1) := by decide +kernel
theorem dX5_copy_61 : decode cX5_copy 61 = .ok (.aload_n 0, 1) := by decide +kernel
theorem dX5_copy_62 : decode cX5_copy 62 = .ok (.getfield 13, 3) := by decide +kernel
theorem dX5_copy_65 : decode cX5_copy 65 = .ok (.iload_n 1, 1) := by decide +kernel
theorem dX5_copy_66 : decode cX5_copy 66 = .ok (.iaload, 1) := by decide +kernel
theorem dX5_copy_67 : decode cX5_copy 67 = .ok (.i2l, 1) := by decide +kernel
theorem dX5_copy_68 : decode cX5_copy 68 = .ok (.lcmp, 1) := by decide +kernel
theorem dX5_copy_69 : decode cX5_copy 69 = .ok (.ifCond .le 9, 3) := by decide +kernel
theorem dX5_copy_72 : decode cX5_copy 72 = .ok (.aload_n 0, 1) := by decide +kernel
theorem dX5_copy_73 : decode cX5_copy 73 = .ok (.iconst 2, 1) := by decide +kernel
theorem dX5_copy_74 : decode cX5_copy 74 = .ok (.invokevirtual 77, 3) := by decide +kernel
theorem dX5_copy_77 : decode cX5_copy 77 = .ok (.ireturn, 1) := by decide +kernel
theorem dX5_copy_78 : decode cX5_copy 78 = .ok (.iconst 0, 1) := by decide +kernel
theorem dX5_copy_79 : decode cX5_copy 79 = .ok (.istore 5, 2) := by decide +kernel
theorem dX5_copy_81 : decode cX5_copy 81 = .ok (.iconst 0, 1) := by decide +kernel
theorem dX5_copy_82 : decode cX5_copy 82 = .ok (.istore 6, 2) := by decide +kernel
theorem dX5_copy_84 : decode cX5_copy 84 = .ok (.iload 6, 2) := by decide +kernel
theorem dX5_copy_86 : decode cX5_copy 86 = .ok (.iload_n 3, 1) := by decide +kernel
theorem dX5_copy_87 : decode cX5_copy 87 = .ok (.if_icmp .ge 42, 3) := by decide +kernel
theorem dX5_copy_90 : decode cX5_copy 90 = .ok (.aload_n 0, 1) := by decide +kernel
theorem dX5_copy_91 : decode cX5_copy 91 = .ok (.getfield 19, 3) := by decide +kernel
theorem dX5_copy_94 : decode cX5_copy 94 = .ok (.iload 6, 2) := by decide +kernel
theorem dX5_copy_96 : decode cX5_copy 96 = .ok (.aload_n 0, 1) := by decide +kernel
theorem dX5_copy_97 : decode cX5_copy 97 = .ok (.getfield 16, 3) := by decide +kernel
theorem dX5_copy_100 : decode cX5_copy 100 = .ok (.bipush 18, 2) := by decide +kernel
theorem dX5_copy_102 : decode cX5_copy 102 = .ok (.iload_n 1, 1) := by decide +kernel
theorem dX5_copy_103 : decode cX5_copy 103 = .ok (.imul, 1) := by decide +kernel
theorem dX5_copy_104 : decode cX5_copy 104 = .ok (.iload_n 2, 1) := by decide +kernel
theorem dX5_copy_105 : decode cX5_copy 105 = .ok (.iadd, 1) := by decide +kernel
theorem dX5_copy_106 : decode cX5_copy 106 = .ok (.iload 6, 2) := by decide +kernel
theorem dX5_copy_108 : decode cX5_copy 108 = .ok (.iadd, 1) := by decide +kernel
theorem dX5_copy_109 : decode cX5_copy 109 = .ok (.iaload, 1) := by decide +kernel
theorem dX5_copy_110 : decode cX5_copy 110 = .ok (.iastore, 1) := by decide +kernel
theorem dX5_copy_111 : decode cX5_copy 111 = .ok (.iload 5, 2) := by decide +kernel
theorem dX5_copy_113 : decode cX5_copy 113 = .ok (.aload_n 0, 1) := by decide +kernel
theorem dX5_copy_114 : decode cX5_copy 114 = .ok (.getfield 19, 3) := by decide +kernel
theorem dX5_copy_117 : decode cX5_copy 117 = .ok (.iload 6, 2) := by decide +kernel
theorem dX5_copy_119 : decode cX5_copy 119 = .ok (.iaload, 1) := by decide +kernel
theorem dX5_copy_120 : decode cX5_copy 120 = .ok (.iadd, 1) := by decide +kernel
theorem dX5_copy_121 : decode cX5_copy 121 = .ok (.istore 5, 2) := by decide +kernel
theorem dX5_copy_123 : decode cX5_copy 123 = .ok (.iinc 6 1, 3) := by decide +kernel
theorem dX5_copy_126 : decode cX5_copy 126 = .ok (.goto (-42), 3) := by decide +kernel
theorem dX5_copy_129 : decode cX5_copy 129 = .ok (.aload_n 0, 1) := by decide +kernel
theorem dX5_copy_130 : decode cX5_copy 130 = .ok (.iload 4, 2) := by decide +kernel
theorem dX5_copy_132 : decode cX5_copy 132 = .ok (.invokevirtual 84, 3) := by decide +kernel
theorem dX5_copy_135 : decode cX5_copy 135 = .ok (.iload 5, 2) := by decide +kernel
theorem dX5_copy_137 : decode cX5_copy 137 = .ok (.iadd, 1) := by decide +kernel
theorem dX5_copy_138 : decode cX5_copy 138 = .ok (.bipush 18, 2) := by decide +kernel
theorem dX5_copy_140 : decode cX5_copy 140 = .ok (.if_icmp .le 6, 3) := by decide +kernel
theorem dX5_copy_143 : decode cX5_copy 143 = .ok (.bipush (-2), 2) := by decide +kernel
theorem dX5_copy_145 : decode cX5_copy 145 = .ok (.ireturn, 1) := by decide +kernel
theorem dX5_copy_146 : decode cX5_copy 146 = .ok (.iconst 0, 1) := by decide +kernel
theorem dX5_copy_147 : decode cX5_copy 147 = .ok (.istore 6, 2) := by decide +kernel
theorem dX5_copy_149 : decode cX5_copy 149 = .ok (.iload 6, 2) := by decide +kernel
theorem dX5_copy_151 : decode cX5_copy 151 = .ok (.iload_n 3, 1) := by decide +kernel
theorem dX5_copy_152 : decode cX5_copy 152 = .ok (.if_icmp .ge 22, 3) := by decide +kernel
theorem dX5_copy_155 : decode cX5_copy 155 = .ok (.aload_n 0, 1) := by decide +kernel
theorem dX5_copy_156 : decode cX5_copy 156 = .ok (.iload 4, 2) := by decide +kernel
theorem dX5_copy_158 : decode cX5_copy 158 = .ok (.aload_n 0, 1) := by decide +kernel
theorem dX5_copy_159 : decode cX5_copy 159 = .ok (.getfield 19, 3) := by decide +kernel
theorem dX5_copy_162 : decode cX5_copy 162 = .ok (.iload 6, 2) := by decide +kernel
theorem dX5_copy_164 : decode cX5_copy 164 = .ok (.iaload, 1) := by decide +kernel
theorem dX5_copy_165 : decode cX5_copy 165 = .ok (.invokevirtual 87, 3) := by decide +kernel
theorem dX5_copy_168 : decode cX5_copy 168 = .ok (.iinc 6 1, 3) := by decide +kernel
theorem dX5_copy_171 : decode cX5_copy 171 = .ok (.goto (-22), 3) := by decide +kernel
theorem dX5_copy_174 : decode cX5_copy 174 = .ok (.aload_n 0, 1) := by decide +kernel
theorem dX5_copy_175 : decode cX5_copy 175 = .ok (.getfield 13, 3) := by decide +kernel
theorem dX5_copy_178 : decode cX5_copy 178 = .ok (.iload 4, 2) := by decide +kernel
theorem dX5_copy_180 : decode cX5_copy 180 = .ok (.iaload, 1) := by decide +kernel
theorem dX5_copy_181 : decode cX5_copy 181 = .ok (.ireturn, 1) := by decide +kernel
theorem dX5_rule_0 : decode cX5_rule 0 = .ok (.iload_n 1, 1) := by decide +kernel
theorem dX5_rule_1 : decode cX5_rule 1 = .ok (.iconst 0, 1) := by decide +kernel
theorem dX5_rule_2 : decode cX5_rule 2 = .ok (.iconst 3, 1) := by decide +kernel
theorem dX5_rule_3 : decode cX5_rule 3 = .ok (.invokestatic 69, 3) := by decide +kernel
theorem dX5_rule_6 : decode cX5_rule 6 = .ok (.ifCond .ne 5, 3) := by decide +kernel
theorem dX5_rule_9 : decode cX5_rule 9 = .ok (.iconst (-1), 1) := by decide +kernel
theorem dX5_rule_10 : decode cX5_rule 10 = .ok (.ireturn, 1) := by decide +kernel
theorem dX5_rule_11 : decode cX5_rule 11 = .ok (.aload_n 0, 1) := by decide +kernel
theorem dX5_rule_12 : decode cX5_rule 12 = .ok (.getfield 91, 3) := by decide +kernel
theorem dX5_rule_15 : decode cX5_rule 15 = .ok (.istore_n 2, 1) := by decide +kernel
theorem dX5_rule_16 : decode cX5_rule 16 = .ok (.aload_n 0, 1) := by decide +kernel
theorem dX5_rule_17 : decode cX5_rule 17 = .ok (.iload_n 1, 1) := by decide +kernel
theorem dX5_rule_18 : decode cX5_rule 18 = .ok (.putfield 91, 3) := by decide +kernel
theorem dX5_rule_21 : decode cX5_rule 21 = .ok (.iload_n 2, 1) := by decide +kernel
theorem dX5_rule_22 : decode cX5_rule 22 = .ok (.ireturn, 1) := by decide +kernel
theorem dX5_load_0 : decode cX5_load 0 = .ok (.aload_n 0, 1) := by decide +kernel
theorem dX5_load_1 : decode cX5_load 1 = .ok (.aload_n 0, 1) := by decide +kernel
theorem dX5_load_2 : decode cX5_load 2 = .ok (.getfield 13, 3) := by decide +kernel
theorem dX5_load_5 : decode cX5_load 5 = .ok (.iload_n 1, 1) := by decide +kernel
theorem dX5_load_6 : decode cX5_load 6 = .ok (.iaload, 1) := by decide +kernel
theorem dX5_load_7 : decode cX5_load 7 = .ok (.putfield 94, 3) := by decide +kernel
theorem dX5_load_10 : decode cX5_load 10 = .ok (.iconst 0, 1) := by decide +kernel
theorem dX5_load_11 : decode cX5_load 11 = .ok (.istore_n 2, 1) := by decide +kernel
theorem dX5_load_12 : decode cX5_load 12 = .ok (.iload_n 2, 1) := by decide +kernel
theorem dX5_load_13 : decode cX5_load 13 = .ok (.aload_n 0, 1) := by decide +kernel
theorem dX5_load_14 : decode cX5_load 14 = .ok (.getfield 94, 3) := by decide +kernel
theorem dX5_load_17 : decode cX5_load 17 = .ok (.if_icmp .ge 26, 3) := by decide +kernel
theorem dX5_load_20 : decode cX5_load 20 = .ok (.aload_n 0, 1) := by decide +kernel
theorem dX5_load_21 : decode cX5_load 21 = .ok (.getfield 22, 3) := by decide +kernel
theorem dX5_load_24 : decode cX5_load 24 = .ok (.iload_n 2, 1) := by decide +kernel
theorem dX5_load_25 : decode cX5_load 25 = .ok (.aload_n 0, 1) := by decide +kernel
theorem dX5_load_26 : decode cX5_load 26 = .ok (.getfield 16, 3) := by decide +kernel
theorem dX5_load_29 : decode cX5_load 29 = .ok (.bipush 18, 2) := by decide +kernel
theorem dX5_load_31 : decode cX5_load 31 = .ok (.iload_n 1, 1) := by decide +kernel
theorem dX5_load_32 : decode cX5_load 32 = .ok (.imul, 1) := by decide +kernel
theorem dX5_load_33 : decode cX5_load 33 = .ok (.iload_n 2, 1) := by decide +kernel
theorem dX5_load_34 : decode cX5_load 34 = .ok (.iadd, 1) := by decide +kernel
theorem dX5_load_35 : decode cX5_load 35 = .ok (.iaload, 1) := by decide +kernel
theorem dX5_load_36 : decode cX5_load 36 = .ok (.iastore, 1) := by decide +kernel
theorem dX5_load_37 : decode cX5_load 37 = .ok (.iinc 2 1, 3) := by decide +kernel
theorem dX5_load_40 : decode cX5_load 40 = .ok (.goto (-28), 3) := by decide +kernel
theorem dX5_load_43 : decode cX5_load 43 = .ok (.return_, 1) := by decide +kernel
theorem dX5_keep_0 : decode cX5_keep 0 = .ok (.aload_n 0, 1) := by decide +kernel
theorem dX5_keep_1 : decode cX5_keep 1 = .ok (.getfield 13, 3) := by decide +kernel
theorem dX5_keep_4 : decode cX5_keep 4 = .ok (.iload_n 1, 1) := by decide +kernel
theorem dX5_keep_5 : decode cX5_keep 5 = .ok (.aload_n 0, 1) := by decide +kernel
theorem dX5_keep_6 : decode cX5_keep 6 = .ok (.getfield 94, 3) := by decide +kernel
theorem dX5_keep_9 : decode cX5_keep 9 = .ok (.iastore, 1) := by decide +kernel
theorem dX5_keep_10 : decode cX5_keep 10 = .ok (.iconst 0, 1) := by decide +kernel
theorem dX5_keep_11 : decode cX5_keep 11 = .ok (.istore_n 2, 1) := by decide +kernel
theorem dX5_keep_12 : decode cX5_keep 12 = .ok (.iload_n 2, 1) := by decide +kernel
theorem dX5_keep_13 : decode cX5_keep 13 = .ok (.aload_n 0, 1) := by decide +kernel
theorem dX5_keep_14 : decode cX5_keep 14 = .ok (.getfield 94, 3) := by decide +kernel
theorem dX5_keep_17 : decode cX5_keep 17 = .ok (.if_icmp .ge 26, 3) := by decide +kernel
theorem dX5_keep_20 : decode cX5_keep 20 = .ok (.aload_n 0, 1) := by decide +kernel
theorem dX5_keep_21 : decode cX5_keep 21 = .ok (.getfield 16, 3) := by decide +kernel
theorem dX5_keep_24 : decode cX5_keep 24 = .ok (.bipush 18, 2) := by decide +kernel
theorem dX5_keep_26 : decode cX5_keep 26 = .ok (.iload_n 1, 1) := by decide +kernel
theorem dX5_keep_27 : decode cX5_keep 27 = .ok (.imul, 1) := by decide +kernel
theorem dX5_keep_28 : decode cX5_keep 28 = .ok (.iload_n 2, 1) := by decide +kernel
theorem dX5_keep_29 : decode cX5_keep 29 = .ok (.iadd, 1) := by decide +kernel
theorem dX5_keep_30 : decode cX5_keep 30 = .ok (.aload_n 0, 1) := by decide +kernel
theorem dX5_keep_31 : decode cX5_keep 31 = .ok (.getfield 22, 3) := by decide +kernel
theorem dX5_keep_34 : decode cX5_keep 34 = .ok (.iload_n 2, 1) := by decide +kernel
theorem dX5_keep_35 : decode cX5_keep 35 = .ok (.iaload, 1) := by decide +kernel
theorem dX5_keep_36 : decode cX5_keep 36 = .ok (.iastore, 1) := by decide +kernel
theorem dX5_keep_37 : decode cX5_keep 37 = .ok (.iinc 2 1, 3) := by decide +kernel
theorem dX5_keep_40 : decode cX5_keep 40 = .ok (.goto (-28), 3) := by decide +kernel
theorem dX5_keep_43 : decode cX5_keep 43 = .ok (.return_, 1) := by decide +kernel
theorem dX5_settle_0 : decode cX5_settle 0 = .ok (.iconst 0, 1) := by decide +kernel
theorem dX5_settle_1 : decode cX5_settle 1 = .ok (.istore_n 1, 1) := by decide +kernel
theorem dX5_settle_2 : decode cX5_settle 2 = .ok (.iconst 0, 1) := by decide +kernel
theorem dX5_settle_3 : decode cX5_settle 3 = .ok (.istore_n 2, 1) := by decide +kernel
theorem dX5_settle_4 : decode cX5_settle 4 = .ok (.iload_n 2, 1) := by decide +kernel
theorem dX5_settle_5 : decode cX5_settle 5 = .ok (.aload_n 0, 1) := by decide +kernel
theorem dX5_settle_6 : decode cX5_settle 6 = .ok (.getfield 94, 3) := by decide +kernel
theorem dX5_settle_9 : decode cX5_settle 9 = .ok (.if_icmp .ge 74, 3) := by decide +kernel
theorem dX5_settle_12 : decode cX5_settle 12 = .ok (.aload_n 0, 1) := by decide +kernel
theorem dX5_settle_13 : decode cX5_settle 13 = .ok (.getfield 22, 3) := by decide +kernel
theorem dX5_settle_16 : decode cX5_settle 16 = .ok (.iload_n 2, 1) := by decide +kernel
theorem dX5_settle_17 : decode cX5_settle 17 = .ok (.iaload, 1) := by decide +kernel
theorem dX5_settle_18 : decode cX5_settle 18 = .ok (.istore_n 3, 1) := by decide +kernel
theorem dX5_settle_19 : decode cX5_settle 19 = .ok (.iload_n 3, 1) := by decide +kernel
theorem dX5_settle_20 : decode cX5_settle 20 = .ok (.ifCond .le 57, 3) := by decide +kernel
theorem dX5_settle_23 : decode cX5_settle 23 = .ok (.iload_n 1, 1) := by decide +kernel
theorem dX5_settle_24 : decode cX5_settle 24 = .ok (.istore 4, 2) := by decide +kernel
theorem dX5_settle_26 : decode cX5_settle 26 = .ok (.iload 4, 2) := by decide +kernel
theorem dX5_settle_28 : decode cX5_settle 28 = .ok (.ifCond .le 38, 3) := by decide +kernel
theorem dX5_settle_31 : decode cX5_settle 31 = .ok (.aload_n 0, 1) := by decide +kernel
theorem dX5_settle_32 : decode cX5_settle 32 = .ok (.getfield 22, 3) := by decide +kernel
theorem dX5_settle_35 : decode cX5_settle 35 = .ok (.iload 4, 2) := by decide +kernel
theorem dX5_settle_37 : decode cX5_settle 37 = .ok (.iconst 1, 1) := by decide +kernel
theorem dX5_settle_38 : decode cX5_settle 38 = .ok (.isub, 1) := by decide +kernel
theorem dX5_settle_39 : decode cX5_settle 39 = .ok (.iaload, 1) := by decide +kernel
theorem dX5_settle_40 : decode cX5_settle 40 = .ok (.iload_n 3, 1) := by decide +kernel
theorem dX5_settle_41 : decode cX5_settle 41 = .ok (.if_icmp .ge 25, 3) := by decide +kernel
theorem dX5_settle_44 : decode cX5_settle 44 = .ok (.aload_n 0, 1) := by decide +kernel
theorem dX5_settle_45 : decode cX5_settle 45 = .ok (.getfield 22, 3) := by decide +kernel
theorem dX5_settle_48 : decode cX5_settle 48 = .ok (.iload 4, 2) := by decide +kernel
theorem dX5_settle_50 : decode cX5_settle 50 = .ok (.aload_n 0, 1) := by decide +kernel
theorem dX5_settle_51 : decode cX5_settle 51 = .ok (.getfield 22, 3) := by decide +kernel
theorem dX5_settle_54 : decode cX5_settle 54 = .ok (.iload 4, 2) := by decide +kernel
theorem dX5_settle_56 : decode cX5_settle 56 = .ok (.iconst 1, 1) := by decide +kernel
theorem dX5_settle_57 : decode cX5_settle 57 = .ok (.isub, 1) := by decide +kernel
theorem dX5_settle_58 : decode cX5_settle 58 = .ok (.iaload, 1) := by decide +kernel
theorem dX5_settle_59 : decode cX5_settle 59 = .ok (.iastore, 1) := by decide +kernel
theorem dX5_settle_60 : decode cX5_settle 60 = .ok (.iinc 4 (-1), 3) := by decide +kernel
theorem dX5_settle_63 : decode cX5_settle 63 = .ok (.goto (-37), 3) := by decide +kernel
theorem dX5_settle_66 : decode cX5_settle 66 = .ok (.aload_n 0, 1) := by decide +kernel
theorem dX5_settle_67 : decode cX5_settle 67 = .ok (.getfield 22, 3) := by decide +kernel
theorem dX5_settle_70 : decode cX5_settle 70 = .ok (.iload 4, 2) := by decide +kernel
theorem dX5_settle_72 : decode cX5_settle 72 = .ok (.iload_n 3, 1) := by decide +kernel
theorem dX5_settle_73 : decode cX5_settle 73 = .ok (.iastore, 1) := by decide +kernel
theorem dX5_settle_74 : decode cX5_settle 74 = .ok (.iinc 1 1, 3) := by decide +kernel
theorem dX5_settle_77 : decode cX5_settle 77 = .ok (.iinc 2 1, 3) := by decide +kernel
theorem dX5_settle_80 : decode cX5_settle 80 = .ok (.goto (-76), 3) := by decide +kernel
theorem dX5_settle_83 : decode cX5_settle 83 = .ok (.aload_n 0, 1) := by decide +kernel
theorem dX5_settle_84 : decode cX5_settle 84 = .ok (.iload_n 1, 1) := by decide +kernel
theorem dX5_settle_85 : decode cX5_settle 85 = .ok (.putfield 94, 3) := by decide +kernel
theorem dX5_settle_88 : decode cX5_settle 88 = .ok (.return_, 1) := by decide +kernel
theorem dX5_give_0 : decode cX5_give 0 = .ok (.iconst 0, 1) := by decide +kernel
theorem dX5_give_1 : decode cX5_give 1 = .ok (.istore 4, 2) := by decide +kernel
theorem dX5_give_3 : decode cX5_give 3 = .ok (.iload_n 1, 1) := by decide +kernel
theorem dX5_give_4 : decode cX5_give 4 = .ok (.istore 5, 2) := by decide +kernel
theorem dX5_give_6 : decode cX5_give 6 = .ok (.iload 5, 2) := by decide +kernel
theorem dX5_give_8 : decode cX5_give 8 = .ok (.iload_n 2, 1) := by decide +kernel
theorem dX5_give_9 : decode cX5_give 9 = .ok (.if_icmp .ge 52, 3) := by decide +kernel
theorem dX5_give_12 : decode cX5_give 12 = .ok (.aload_n 0, 1) := by decide +kernel
theorem dX5_give_13 : decode cX5_give 13 = .ok (.getfield 22, 3) := by decide +kernel
theorem dX5_give_16 : decode cX5_give 16 = .ok (.iload 5, 2) := by decide +kernel
theorem dX5_give_18 : decode cX5_give 18 = .ok (.iaload, 1) := by decide +kernel
theorem dX5_give_19 : decode cX5_give 19 = .ok (.iload_n 3, 1) := by decide +kernel
theorem dX5_give_20 : decode cX5_give 20 = .ok (.if_icmp .ge 13, 3) := by decide +kernel
theorem dX5_give_23 : decode cX5_give 23 = .ok (.aload_n 0, 1) := by decide +kernel
theorem dX5_give_24 : decode cX5_give 24 = .ok (.getfield 22, 3) := by decide +kernel
theorem dX5_give_27 : decode cX5_give 27 = .ok (.iload 5, 2) := by decide +kernel
theorem dX5_give_29 : decode cX5_give 29 = .ok (.iaload, 1) := by decide +kernel
theorem dX5_give_30 : decode cX5_give 30 = .ok (.goto 4, 3) := by decide +kernel
theorem dX5_give_33 : decode cX5_give 33 = .ok (.iload_n 3, 1) := by decide +kernel
theorem dX5_give_34 : decode cX5_give 34 = .ok (.istore 6, 2) := by decide +kernel
theorem dX5_give_36 : decode cX5_give 36 = .ok (.aload_n 0, 1) := by decide +kernel
theorem dX5_give_37 : decode cX5_give 37 = .ok (.getfield 22, 3) := by decide +kernel
theorem dX5_give_40 : decode cX5_give 40 = .ok (.iload 5, 2) := by decide +kernel
theorem dX5_give_42 : decode cX5_give 42 = .ok (.dup2, 1) := by decide +kernel
theorem dX5_give_43 : decode cX5_give 43 = .ok (.iaload, 1) := by decide +kernel
theorem dX5_give_44 : decode cX5_give 44 = .ok (.iload 6, 2) := by decide +kernel
theorem dX5_give_46 : decode cX5_give 46 = .ok (.isub, 1) := by decide +kernel
theorem dX5_give_47 : decode cX5_give 47 = .ok (.iastore, 1) := by decide +kernel
theorem dX5_give_48 : decode cX5_give 48 = .ok (.iload 4, 2) := by decide +kernel
theorem dX5_give_50 : decode cX5_give 50 = .ok (.iload 6, 2) := by decide +kernel
theorem dX5_give_52 : decode cX5_give 52 = .ok (.iadd, 1) := by decide +kernel
theorem dX5_give_53 : decode cX5_give 53 = .ok (.istore 4, 2) := by decide +kernel
theorem dX5_give_55 : decode cX5_give 55 = .ok (.iinc 5 1, 3) := by decide +kernel
theorem dX5_give_58 : decode cX5_give 58 = .ok (.goto (-52), 3) := by decide +kernel
theorem dX5_give_61 : decode cX5_give 61 = .ok (.aload_n 0, 1) := by decide +kernel
theorem dX5_give_62 : decode cX5_give 62 = .ok (.getfield 22, 3) := by decide +kernel
theorem dX5_give_65 : decode cX5_give 65 = .ok (.aload_n 0, 1) := by decide +kernel
theorem dX5_give_66 : decode cX5_give 66 = .ok (.getfield 94, 3) := by decide +kernel
theorem dX5_give_69 : decode cX5_give 69 = .ok (.iload 4, 2) := by decide +kernel
theorem dX5_give_71 : decode cX5_give 71 = .ok (.iastore, 1) := by decide +kernel
theorem dX5_give_72 : decode cX5_give 72 = .ok (.aload_n 0, 1) := by decide +kernel
theorem dX5_give_73 : decode cX5_give 73 = .ok (.dup, 1) := by decide +kernel
theorem dX5_give_74 : decode cX5_give 74 = .ok (.getfield 94, 3) := by decide +kernel
theorem dX5_give_77 : decode cX5_give 77 = .ok (.iconst 1, 1) := by decide +kernel
theorem dX5_give_78 : decode cX5_give 78 = .ok (.iadd, 1) := by decide +kernel
theorem dX5_give_79 : decode cX5_give 79 = .ok (.putfield 94, 3) := by decide +kernel
theorem dX5_give_82 : decode cX5_give 82 = .ok (.return_, 1) := by decide +kernel
theorem dX5_goOn_0 : decode cX5_goOn 0 = .ok (.aload_n 0, 1) := by decide +kernel
theorem dX5_goOn_1 : decode cX5_goOn 1 = .ok (.getfield 94, 3) := by decide +kernel
theorem dX5_goOn_4 : decode cX5_goOn 4 = .ok (.ifCond .eq 19, 3) := by decide +kernel
theorem dX5_goOn_7 : decode cX5_goOn 7 = .ok (.aload_n 0, 1) := by decide +kernel
theorem dX5_goOn_8 : decode cX5_goOn 8 = .ok (.getfield 91, 3) := by decide +kernel
theorem dX5_goOn_11 : decode cX5_goOn 11 = .ok (.iconst 3, 1) := by decide +kernel
theorem dX5_goOn_12 : decode cX5_goOn 12 = .ok (.if_icmp .ne 12, 3) := by decide +kernel
theorem dX5_goOn_15 : decode cX5_goOn 15 = .ok (.aload_n 0, 1) := by decide +kernel
theorem dX5_goOn_16 : decode cX5_goOn 16 = .ok (.getfield 94, 3) := by decide +kernel
theorem dX5_goOn_19 : decode cX5_goOn 19 = .ok (.iconst 1, 1) := by decide +kernel
theorem dX5_goOn_20 : decode cX5_goOn 20 = .ok (.if_icmp .ne 4, 3) := by decide +kernel
theorem dX5_goOn_23 : decode cX5_goOn 23 = .ok (.return_, 1) := by decide +kernel
theorem dX5_goOn_24 : decode cX5_goOn 24 = .ok (.aload_n 0, 1) := by decide +kernel
theorem dX5_goOn_25 : decode cX5_goOn 25 = .ok (.getfield 91, 3) := by decide +kernel
theorem dX5_goOn_28 : decode cX5_goOn 28 = .ok (.ifCond .ne 16, 3) := by decide +kernel
theorem dX5_goOn_31 : decode cX5_goOn 31 = .ok (.aload_n 0, 1) := by decide +kernel
theorem dX5_goOn_32 : decode cX5_goOn 32 = .ok (.iconst 0, 1) := by decide +kernel
theorem dX5_goOn_33 : decode cX5_goOn 33 = .ok (.aload_n 0, 1) := by decide +kernel
theorem dX5_goOn_34 : decode cX5_goOn 34 = .ok (.getfield 94, 3) := by decide +kernel
theorem dX5_goOn_37 : decode cX5_goOn 37 = .ok (.iconst 1, 1) := by decide +kernel
theorem dX5_goOn_38 : decode cX5_goOn 38 = .ok (.invokevirtual 97, 3) := by decide +kernel
theorem dX5_goOn_41 : decode cX5_goOn 41 = .ok (.goto 99, 3) := by decide +kernel
theorem dX5_goOn_44 : decode cX5_goOn 44 = .ok (.aload_n 0, 1) := by decide +kernel
theorem dX5_goOn_45 : decode cX5_goOn 45 = .ok (.getfield 91, 3) := by decide +kernel
theorem dX5_goOn_48 : decode cX5_goOn 48 = .ok (.iconst 1, 1) := by decide +kernel
theorem dX5_goOn_49 : decode cX5_goOn 49 = .ok (.if_icmp .ne 13, 3) := by decide +kernel
theorem dX5_goOn_52 : decode cX5_goOn 52 = .ok (.aload_n 0, 1) := by decide +kernel
theorem dX5_goOn_53 : decode cX5_goOn 53 = .ok (.iconst 0, 1) := by decide +kernel
theorem dX5_goOn_54 : decode cX5_goOn 54 = .ok (.iconst 1, 1) := by decide +kernel
theorem dX5_goOn_55 : decode cX5_goOn 55 = .ok (.iconst 1, 1) := by decide +kernel
theorem dX5_goOn_56 : decode cX5_goOn 56 = .ok (.invokevirtual 97, 3) := by decide +kernel
theorem dX5_goOn_59 : decode cX5_goOn 59 = .ok (.goto 81, 3) := by decide +kernel
theorem dX5_goOn_62 : decode cX5_goOn 62 = .ok (.aload_n 0, 1) := by decide +kernel
theorem dX5_goOn_63 : decode cX5_goOn 63 = .ok (.getfield 91, 3) := by decide +kernel
theorem dX5_goOn_66 : decode cX5_goOn 66 = .ok (.iconst 2, 1) := by decide +kernel
theorem dX5_goOn_67 : decode cX5_goOn 67 = .ok (.if_icmp .ne 16, 3) := by decide +kernel
theorem dX5_goOn_70 : decode cX5_goOn 70 = .ok (.aload_n 0, 1) := by decide +kernel
theorem dX5_goOn_71 : decode cX5_goOn 71 = .ok (.iconst 0, 1) := by decide +kernel
theorem dX5_goOn_72 : decode cX5_goOn 72 = .ok (.aload_n 0, 1) := by decide +kernel
theorem dX5_goOn_73 : decode cX5_goOn 73 = .ok (.getfield 94, 3) := by decide +kernel
theorem dX5_goOn_76 : decode cX5_goOn 76 = .ok (.iconst 2, 1) := by decide +kernel
theorem dX5_goOn_77 : decode cX5_goOn 77 = .ok (.invokevirtual 97, 3) := by decide +kernel
theorem dX5_goOn_80 : decode cX5_goOn 80 = .ok (.goto 60, 3) := by decide +kernel
theorem dX5_goOn_83 : decode cX5_goOn 83 = .ok (.iconst 0, 1) := by decide +kernel
theorem dX5_goOn_84 : decode cX5_goOn 84 = .ok (.istore_n 1, 1) := by decide +kernel
theorem dX5_goOn_85 : decode cX5_goOn 85 = .ok (.iload_n 1, 1) := by decide +kernel
theorem dX5_goOn_86 : decode cX5_goOn 86 = .ok (.iconst 1, 1) := by decide +kernel
theorem dX5_goOn_87 : decode cX5_goOn 87 = .ok (.iadd, 1) := by decide +kernel
theorem dX5_goOn_88 : decode cX5_goOn 88 = .ok (.aload_n 0, 1) := by decide +kernel
theorem dX5_goOn_89 : decode cX5_goOn 89 = .ok (.getfield 94, 3) := by decide +kernel
theorem dX5_goOn_92 : decode cX5_goOn 92 = .ok (.if_icmp .ge 48, 3) := by decide +kernel
theorem dX5_goOn_95 : decode cX5_goOn 95 = .ok (.aload_n 0, 1) := by decide +kernel
theorem dX5_goOn_96 : decode cX5_goOn 96 = .ok (.getfield 22, 3) := by decide +kernel
theorem dX5_goOn_99 : decode cX5_goOn 99 = .ok (.aload_n 0, 1) := by decide +kernel
theorem dX5_goOn_100 : decode cX5_goOn 100 = .ok (.getfield 94, 3) := by decide +kernel
theorem dX5_goOn_103 : decode cX5_goOn 103 = .ok (.iconst 1, 1) := by decide +kernel
theorem dX5_goOn_104 : decode cX5_goOn 104 = .ok (.isub, 1) := by decide +kernel
theorem dX5_goOn_105 : decode cX5_goOn 105 = .ok (.iaload, 1) := by decide +kernel
theorem dX5_goOn_106 : decode cX5_goOn 106 = .ok (.ifCond .le 34, 3) := by decide +kernel
theorem dX5_goOn_109 : decode cX5_goOn 109 = .ok (.aload_n 0, 1) := by decide +kernel
theorem dX5_goOn_110 : decode cX5_goOn 110 = .ok (.getfield 22, 3) := by decide +kernel
theorem dX5_goOn_113 : decode cX5_goOn 113 = .ok (.iload_n 1, 1) := by decide +kernel
theorem dX5_goOn_114 : decode cX5_goOn 114 = .ok (.dup2, 1) := by decide +kernel
theorem dX5_goOn_115 : decode cX5_goOn 115 = .ok (.iaload, 1) := by decide +kernel
theorem dX5_goOn_116 : decode cX5_goOn 116 = .ok (.iconst 1, 1) := by decide +kernel
theorem dX5_goOn_117 : decode cX5_goOn 117 = .ok (.iadd, 1) := by decide +kernel
theorem dX5_goOn_118 : decode cX5_goOn 118 = .ok (.iastore, 1) := by decide +kernel
theorem dX5_goOn_119 : decode cX5_goOn 119 = .ok (.aload_n 0, 1) := by decide +kernel
theorem dX5_goOn_120 : decode cX5_goOn 120 = .ok (.getfield 22, 3) := by decide +kernel
theorem dX5_goOn_123 : decode cX5_goOn 123 = .ok (.aload_n 0, 1) := by decide +kernel
theorem dX5_goOn_124 : decode cX5_goOn 124 = .ok (.getfield 94, 3) := by decide +kernel
theorem dX5_goOn_127 : decode cX5_goOn 127 = .ok (.iconst 1, 1) := by decide +kernel
theorem dX5_goOn_128 : decode cX5_goOn 128 = .ok (.isub, 1) := by decide +kernel
theorem dX5_goOn_129 : decode cX5_goOn 129 = .ok (.dup2, 1) := by decide +kernel
theorem dX5_goOn_130 : decode cX5_goOn 130 = .ok (.iaload, 1) := by decide +kernel
theorem dX5_goOn_131 : decode cX5_goOn 131 = .ok (.iconst 1, 1) := by decide +kernel
theorem dX5_goOn_132 : decode cX5_goOn 132 = .ok (.isub, 1) := by decide +kernel
theorem dX5_goOn_133 : decode cX5_goOn 133 = .ok (.iastore, 1) := by decide +kernel
theorem dX5_goOn_134 : decode cX5_goOn 134 = .ok (.iinc 1 1, 3) := by decide +kernel
theorem dX5_goOn_137 : decode cX5_goOn 137 = .ok (.goto (-52), 3) := by decide +kernel
theorem dX5_goOn_140 : decode cX5_goOn 140 = .ok (.aload_n 0, 1) := by decide +kernel
theorem dX5_goOn_141 : decode cX5_goOn 141 = .ok (.invokevirtual 101, 3) := by decide +kernel
theorem dX5_goOn_144 : decode cX5_goOn 144 = .ok (.return_, 1) := by decide +kernel
theorem dX5_setList_0 : decode cX5_setList 0 = .ok (.aload_n 0, 1) := by decide +kernel
theorem dX5_setList_1 : decode cX5_setList 1 = .ok (.getfield 25, 3) := by decide +kernel
theorem dX5_setList_4 : decode cX5_setList 4 = .ok (.iload_n 1, 1) := by decide +kernel
theorem dX5_setList_5 : decode cX5_setList 5 = .ok (.if_icmp .ne 4, 3) := by decide +kernel
theorem dX5_setList_8 : decode cX5_setList 8 = .ok (.return_, 1) := by decide +kernel
theorem dX5_setList_9 : decode cX5_setList 9 = .ok (.aload_n 0, 1) := by decide +kernel
theorem dX5_setList_10 : decode cX5_setList 10 = .ok (.iload_n 1, 1) := by decide +kernel
theorem dX5_setList_11 : decode cX5_setList 11 = .ok (.putfield 25, 3) := by decide +kernel
theorem dX5_setList_14 : decode cX5_setList 14 = .ok (.aload_n 0, 1) := by decide +kernel
theorem dX5_setList_15 : decode cX5_setList 15 = .ok (.iconst 0, 1) := by decide +kernel
theorem dX5_setList_16 : decode cX5_setList 16 = .ok (.putfield 104, 3) := by decide +kernel
theorem dX5_setList_19 : decode cX5_setList 19 = .ok (.aload_n 0, 1) := by decide +kernel
theorem dX5_setList_20 : decode cX5_setList 20 = .ok (.iload_n 1, 1) := by decide +kernel
theorem dX5_setList_21 : decode cX5_setList 21 = .ok (.ifCond .le 7, 3) := by decide +kernel
theorem dX5_setList_24 : decode cX5_setList 24 = .ok (.iconst 1, 1) := by decide +kernel
theorem dX5_setList_25 : decode cX5_setList 25 = .ok (.goto 4, 3) := by decide +kernel
theorem dX5_setList_28 : decode cX5_setList 28 = .ok (.iconst 0, 1) := by decide +kernel
theorem dX5_setList_29 : decode cX5_setList 29 = .ok (.putfield 94, 3) := by decide +kernel
theorem dX5_setList_32 : decode cX5_setList 32 = .ok (.aload_n 0, 1) := by decide +kernel
theorem dX5_setList_33 : decode cX5_setList 33 = .ok (.getfield 22, 3) := by decide +kernel
theorem dX5_setList_36 : decode cX5_setList 36 = .ok (.iconst 0, 1) := by decide +kernel
theorem dX5_setList_37 : decode cX5_setList 37 = .ok (.iload_n 1, 1) := by decide +kernel
theorem dX5_setList_38 : decode cX5_setList 38 = .ok (.iastore, 1) := by decide +kernel
theorem dX5_setList_39 : decode cX5_setList 39 = .ok (.iconst 1, 1) := by decide +kernel
theorem dX5_setList_40 : decode cX5_setList 40 = .ok (.istore_n 2, 1) := by decide +kernel
theorem dX5_setList_41 : decode cX5_setList 41 = .ok (.iload_n 2, 1) := by decide +kernel
theorem dX5_setList_42 : decode cX5_setList 42 = .ok (.ifCond .eq 70, 3) := by decide +kernel
theorem dX5_setList_45 : decode cX5_setList 45 = .ok (.aload_n 0, 1) := by decide +kernel
theorem dX5_setList_46 : decode cX5_setList 46 = .ok (.getfield 32, 3) := by decide +kernel
theorem dX5_setList_49 : decode cX5_setList 49 = .ok (.aload_n 0, 1) := by decide +kernel
theorem dX5_setList_50 : decode cX5_setList 50 = .ok (.getfield 104, 3) := by decide +kernel
theorem dX5_setList_53 : decode cX5_setList 53 = .ok (.aload_n 0, 1) := by decide +kernel
theorem dX5_setList_54 : decode cX5_setList 54 = .ok (.getfield 94, 3) := by decide +kernel
theorem dX5_setList_57 : decode cX5_setList 57 = .ok (.iastore, 1) := by decide +kernel
theorem dX5_setList_58 : decode cX5_setList 58 = .ok (.iconst 0, 1) := by decide +kernel
theorem dX5_setList_59 : decode cX5_setList 59 = .ok (.istore_n 3, 1) := by decide +kernel
theorem dX5_setList_60 : decode cX5_setList 60 = .ok (.iload_n 3, 1) := by decide +kernel
theorem dX5_setList_61 : decode cX5_setList 61 = .ok (.aload_n 0, 1) := by decide +kernel
theorem dX5_setList_62 : decode cX5_setList 62 = .ok (.getfield 94, 3) := by decide +kernel
theorem dX5_setList_65 : decode cX5_setList 65 = .ok (.if_icmp .ge 29, 3) := by decide +kernel
theorem dX5_setList_68 : decode cX5_setList 68 = .ok (.aload_n 0, 1) := by decide +kernel
theorem dX5_setList_69 : decode cX5_setList 69 = .ok (.getfield 29, 3) := by decide +kernel
theorem dX5_setList_72 : decode cX5_setList 72 = .ok (.bipush 18, 2) := by decide +kernel
theorem dX5_setList_74 : decode cX5_setList 74 = .ok (.aload_n 0, 1) := by decide +kernel
theorem dX5_setList_75 : decode cX5_setList 75 = .ok (.getfield 104, 3) := by decide +kernel
theorem dX5_setList_78 : decode cX5_setList 78 = .ok (.imul, 1) := by decide +kernel
theorem dX5_setList_79 : decode cX5_setList 79 = .ok (.iload_n 3, 1) := by decide +kernel
theorem dX5_setList_80 : decode cX5_setList 80 = .ok (.iadd, 1) := by decide +kernel
theorem dX5_setList_81 : decode cX5_setList 81 = .ok (.aload_n 0, 1) := by decide +kernel
theorem dX5_setList_82 : decode cX5_setList 82 = .ok (.getfield 22, 3) := by decide +kernel
theorem dX5_setList_85 : decode cX5_setList 85 = .ok (.iload_n 3, 1) := by decide +kernel
theorem dX5_setList_86 : decode cX5_setList 86 = .ok (.iaload, 1) := by decide +kernel
theorem dX5_setList_87 : decode cX5_setList 87 = .ok (.iastore, 1) := by decide +kernel
theorem dX5_setList_88 : decode cX5_setList 88 = .ok (.iinc 3 1, 3) := by decide +kernel
theorem dX5_setList_91 : decode cX5_setList 91 = .ok (.goto (-31), 3) := by decide +kernel
theorem dX5_setList_94 : decode cX5_setList 94 = .ok (.aload_n 0, 1) := by decide +kernel
theorem dX5_setList_95 : decode cX5_setList 95 = .ok (.dup, 1) := by decide +kernel
theorem dX5_setList_96 : decode cX5_setList 96 = .ok (.getfield 104, 3) := by decide +kernel
theorem dX5_setList_99 : decode cX5_setList 99 = .ok (.iconst 1, 1) := by decide +kernel
theorem dX5_setList_100 : decode cX5_setList 100 = .ok (.iadd, 1) := by decide +kernel
theorem dX5_setList_101 : decode cX5_setList 101 = .ok (.putfield 104, 3) := by decide +kernel
theorem dX5_setList_104 : decode cX5_setList 104 = .ok (.aload_n 0, 1) := by decide +kernel
theorem dX5_setList_105 : decode cX5_setList 105 = .ok (.invokevirtual 107, 3) := by decide +kernel
theorem dX5_setList_108 : decode cX5_setList 108 = .ok (.istore_n 2, 1) := by decide +kernel
theorem dX5_setList_109 : decode cX5_setList 109 = .ok (.goto (-68), 3) := by decide +kernel
theorem dX5_setList_112 : decode cX5_setList 112 = .ok (.return_, 1) := by decide +kernel
theorem dX5_later_0 : decode cX5_later 0 = .ok (.aload_n 0, 1) := by decide +kernel
theorem dX5_later_1 : decode cX5_later 1 = .ok (.getfield 94, 3) := by decide +kernel
theorem dX5_later_4 : decode cX5_later 4 = .ok (.iconst 1, 1) := by decide +kernel
theorem dX5_later_5 : decode cX5_later 5 = .ok (.isub, 1) := by decide +kernel
theorem dX5_later_6 : decode cX5_later 6 = .ok (.istore_n 1, 1) := by decide +kernel
theorem dX5_later_7 : decode cX5_later 7 = .ok (.iconst 0, 1) := by decide +kernel
theorem dX5_later_8 : decode cX5_later 8 = .ok (.istore_n 2, 1) := by decide +kernel
theorem dX5_later_9 : decode cX5_later 9 = .ok (.iload_n 1, 1) := by decide +kernel
theorem dX5_later_10 : decode cX5_later 10 = .ok (.ifCond .lt 22, 3) := by decide +kernel
theorem dX5_later_13 : decode cX5_later 13 = .ok (.aload_n 0, 1) := by decide +kernel
theorem dX5_later_14 : decode cX5_later 14 = .ok (.getfield 22, 3) := by decide +kernel
theorem dX5_later_17 : decode cX5_later 17 = .ok (.iload_n 1, 1) := by decide +kernel
theorem dX5_later_18 : decode cX5_later 18 = .ok (.iaload, 1) := by decide +kernel
theorem dX5_later_19 : decode cX5_later 19 = .ok (.iconst 1, 1) := by decide +kernel
theorem dX5_later_20 : decode cX5_later 20 = .ok (.if_icmp .ne 12, 3) := by decide +kernel
theorem dX5_later_23 : decode cX5_later 23 = .ok (.iinc 2 1, 3) := by decide +kernel
theorem dX5_later_26 : decode cX5_later 26 = .ok (.iinc 1 (-1), 3) := by decide +kernel
theorem dX5_later_29 : decode cX5_later 29 = .ok (.goto (-20), 3) := by decide +kernel
theorem dX5_later_32 : decode cX5_later 32 = .ok (.iload_n 1, 1) := by decide +kernel
theorem dX5_later_33 : decode cX5_later 33 = .ok (.ifCond .ge 5, 3) := by decide +kernel
theorem dX5_later_36 : decode cX5_later 36 = .ok (.iconst 0, 1) := by decide +kernel
theorem dX5_later_37 : decode cX5_later 37 = .ok (.ireturn, 1) := by decide +kernel
theorem dX5_later_38 : decode cX5_later 38 = .ok (.aload_n 0, 1) := by decide +kernel
theorem dX5_later_39 : decode cX5_later 39 = .ok (.getfield 22, 3) := by decide +kernel
theorem dX5_later_42 : decode cX5_later 42 = .ok (.iload_n 1, 1) := by decide +kernel
theorem dX5_later_43 : decode cX5_later 43 = .ok (.dup2, 1) := by decide +kernel
theorem dX5_later_44 : decode cX5_later 44 = .ok (.iaload, 1) := by decide +kernel
theorem dX5_later_45 : decode cX5_later 45 = .ok (.iconst 1, 1) := by decide +kernel
theorem dX5_later_46 : decode cX5_later 46 = .ok (.isub, 1) := by decide +kernel
theorem dX5_later_47 : decode cX5_later 47 = .ok (.iastore, 1) := by decide +kernel
theorem dX5_later_48 : decode cX5_later 48 = .ok (.iinc 2 1, 3) := by decide +kernel
theorem dX5_later_51 : decode cX5_later 51 = .ok (.aload_n 0, 1) := by decide +kernel
theorem dX5_later_52 : decode cX5_later 52 = .ok (.iload_n 1, 1) := by decide +kernel
theorem dX5_later_53 : decode cX5_later 53 = .ok (.iconst 1, 1) := by decide +kernel
theorem dX5_later_54 : decode cX5_later 54 = .ok (.iadd, 1) := by decide +kernel
theorem dX5_later_55 : decode cX5_later 55 = .ok (.putfield 94, 3) := by decide +kernel
theorem dX5_later_58 : decode cX5_later 58 = .ok (.iload_n 2, 1) := by decide +kernel
theorem dX5_later_59 : decode cX5_later 59 = .ok (.ifCond .le 57, 3) := by decide +kernel
theorem dX5_later_62 : decode cX5_later 62 = .ok (.aload_n 0, 1) := by decide +kernel
theorem dX5_later_63 : decode cX5_later 63 = .ok (.getfield 22, 3) := by decide +kernel
theorem dX5_later_66 : decode cX5_later 66 = .ok (.aload_n 0, 1) := by decide +kernel
theorem dX5_later_67 : decode cX5_later 67 = .ok (.getfield 94, 3) := by decide +kernel
theorem dX5_later_70 : decode cX5_later 70 = .ok (.iload_n 2, 1) := by decide +kernel
theorem dX5_later_71 : decode cX5_later 71 = .ok (.aload_n 0, 1) := by decide +kernel
theorem dX5_later_72 : decode cX5_later 72 = .ok (.getfield 22, 3) := by decide +kernel
theorem dX5_later_75 : decode cX5_later 75 = .ok (.iload_n 1, 1) := by decide +kernel
theorem dX5_later_76 : decode cX5_later 76 = .ok (.iaload, 1) := by decide +kernel
theorem dX5_later_77 : decode cX5_later 77 = .ok (.if_icmp .ge 7, 3) := by decide +kernel
theorem dX5_later_80 : decode cX5_later 80 = .ok (.iload_n 2, 1) := by decide +kernel
theorem dX5_later_81 : decode cX5_later 81 = .ok (.goto 9, 3) := by decide +kernel
theorem dX5_later_84 : decode cX5_later 84 = .ok (.aload_n 0, 1) := by decide +kernel
theorem dX5_later_85 : decode cX5_later 85 = .ok (.getfield 22, 3) := by decide +kernel
theorem dX5_later_88 : decode cX5_later 88 = .ok (.iload_n 1, 1) := by decide +kernel
theorem dX5_later_89 : decode cX5_later 89 = .ok (.iaload, 1) := by decide +kernel
theorem dX5_later_90 : decode cX5_later 90 = .ok (.iastore, 1) := by decide +kernel
theorem dX5_later_91 : decode cX5_later 91 = .ok (.iload_n 2, 1) := by decide +kernel
theorem dX5_later_92 : decode cX5_later 92 = .ok (.aload_n 0, 1) := by decide +kernel
theorem dX5_later_93 : decode cX5_later 93 = .ok (.getfield 22, 3) := by decide +kernel
theorem dX5_later_96 : decode cX5_later 96 = .ok (.aload_n 0, 1) := by decide +kernel
theorem dX5_later_97 : decode cX5_later 97 = .ok (.getfield 94, 3) := by decide +kernel
theorem dX5_later_100 : decode cX5_later 100 = .ok (.iaload, 1) := by decide +kernel
theorem dX5_later_101 : decode cX5_later 101 = .ok (.isub, 1) := by decide +kernel
theorem dX5_later_102 : decode cX5_later 102 = .ok (.istore_n 2, 1) := by decide +kernel
theorem dX5_later_103 : decode cX5_later 103 = .ok (.aload_n 0, 1) := by decide +kernel
theorem dX5_later_104 : decode cX5_later 104 = .ok (.dup, 1) := by decide +kernel
theorem dX5_later_105 : decode cX5_later 105 = .ok (.getfield 94, 3) := by decide +kernel
theorem dX5_later_108 : decode cX5_later 108 = .ok (.iconst 1, 1) := by decide +kernel
theorem dX5_later_109 : decode cX5_later 109 = .ok (.iadd, 1) := by decide +kernel
theorem dX5_later_110 : decode cX5_later 110 = .ok (.putfield 94, 3) := by decide +kernel
theorem dX5_later_113 : decode cX5_later 113 = .ok (.goto (-55), 3) := by decide +kernel
theorem dX5_later_116 : decode cX5_later 116 = .ok (.iconst 1, 1) := by decide +kernel
theorem dX5_later_117 : decode cX5_later 117 = .ok (.ireturn, 1) := by decide +kernel
theorem dX5_against_0 : decode cX5_against 0 = .ok (.iconst 0, 1) := by decide +kernel
theorem dX5_against_1 : decode cX5_against 1 = .ok (.istore_n 2, 1) := by decide +kernel
theorem dX5_against_2 : decode cX5_against 2 = .ok (.iload_n 2, 1) := by decide +kernel
theorem dX5_against_3 : decode cX5_against 3 = .ok (.aload_n 0, 1) := by decide +kernel
theorem dX5_against_4 : decode cX5_against 4 = .ok (.getfield 94, 3) := by decide +kernel
theorem dX5_against_7 : decode cX5_against 7 = .ok (.if_icmp .ge 58, 3) := by decide +kernel
theorem dX5_against_10 : decode cX5_against 10 = .ok (.iload_n 2, 1) := by decide +kernel
theorem dX5_against_11 : decode cX5_against 11 = .ok (.aload_n 0, 1) := by decide +kernel
theorem dX5_against_12 : decode cX5_against 12 = .ok (.getfield 32, 3) := by decide +kernel
theorem dX5_against_15 : decode cX5_against 15 = .ok (.iload_n 1, 1) := by decide +kernel
theorem dX5_against_16 : decode cX5_against 16 = .ok (.iaload, 1) := by decide +kernel
theorem dX5_against_17 : decode cX5_against 17 = .ok (.if_icmp .ge 48, 3) := by decide +kernel
theorem dX5_against_20 : decode cX5_against 20 = .ok (.aload_n 0, 1) := by decide +kernel
theorem dX5_against_21 : decode cX5_against 21 = .ok (.getfield 22, 3) := by decide +kernel
theorem dX5_against_24 : decode cX5_against 24 = .ok (.iload_n 2, 1) := by decide +kernel
theorem dX5_against_25 : decode cX5_against 25 = .ok (.iaload, 1) := by decide +kernel
theorem dX5_against_26 : decode cX5_against 26 = .ok (.aload_n 0, 1) := by decide +kernel
theorem dX5_against_27 : decode cX5_against 27 = .ok (.getfield 29, 3) := by decide +kernel
theorem dX5_against_30 : decode cX5_against 30 = .ok (.bipush 18, 2) := by decide +kernel
theorem dX5_against_32 : decode cX5_against 32 = .ok (.iload_n 1, 1) := by decide +kernel
theorem dX5_against_33 : decode cX5_against 33 = .ok (.imul, 1) := by decide +kernel
theorem dX5_against_34 : decode cX5_against 34 = .ok (.iload_n 2, 1) := by decide +kernel
theorem dX5_against_35 : decode cX5_against 35 = .ok (.iadd, 1) := by decide +kernel
theorem dX5_against_36 : decode cX5_against 36 = .ok (.iaload, 1) := by decide +kernel
theorem dX5_against_37 : decode cX5_against 37 = .ok (.if_icmp .eq 22, 3) := by decide +kernel
theorem dX5_against_40 : decode cX5_against 40 = .ok (.aload_n 0, 1) := by decide +kernel
theorem dX5_against_41 : decode cX5_against 41 = .ok (.getfield 29, 3) := by decide +kernel
theorem dX5_against_44 : decode cX5_against 44 = .ok (.bipush 18, 2) := by decide +kernel
theorem dX5_against_46 : decode cX5_against 46 = .ok (.iload_n 1, 1) := by decide +kernel
theorem dX5_against_47 : decode cX5_against 47 = .ok (.imul, 1) := by decide +kernel
theorem dX5_against_48 : decode cX5_against 48 = .ok (.iload_n 2, 1) := by decide +kernel
theorem dX5_against_49 : decode cX5_against 49 = .ok (.iadd, 1) := by decide +kernel
theorem dX5_against_50 : decode cX5_against 50 = .ok (.iaload, 1) := by decide +kernel
theorem dX5_against_51 : decode cX5_against 51 = .ok (.aload_n 0, 1) := by decide +kernel
theorem dX5_against_52 : decode cX5_against 52 = .ok (.getfield 22, 3) := by decide +kernel
theorem dX5_against_55 : decode cX5_against 55 = .ok (.iload_n 2, 1) := by decide +kernel
theorem dX5_against_56 : decode cX5_against 56 = .ok (.iaload, 1) := by decide +kernel
theorem dX5_against_57 : decode cX5_against 57 = .ok (.isub, 1) := by decide +kernel
theorem dX5_against_58 : decode cX5_against 58 = .ok (.ireturn, 1) := by decide +kernel
theorem dX5_against_59 : decode cX5_against 59 = .ok (.iinc 2 1, 3) := by decide +kernel
theorem dX5_against_62 : decode cX5_against 62 = .ok (.goto (-60), 3) := by decide +kernel
theorem dX5_against_65 : decode cX5_against 65 = .ok (.iconst 0, 1) := by decide +kernel
theorem dX5_against_66 : decode cX5_against 66 = .ok (.ireturn, 1) := by decide +kernel
theorem dX5_rankRow_0 : decode cX5_rankRow 0 = .ok (.iconst 0, 1) := by decide +kernel
theorem dX5_rankRow_1 : decode cX5_rankRow 1 = .ok (.istore_n 1, 1) := by decide +kernel
theorem dX5_rankRow_2 : decode cX5_rankRow 2 = .ok (.aload_n 0, 1) := by decide +kernel
theorem dX5_rankRow_3 : decode cX5_rankRow 3 = .ok (.getfield 104, 3) := by decide +kernel
theorem dX5_rankRow_6 : decode cX5_rankRow 6 = .ok (.iconst 1, 1) := by decide +kernel
theorem dX5_rankRow_7 : decode cX5_rankRow 7 = .ok (.isub, 1) := by decide +kernel
theorem dX5_rankRow_8 : decode cX5_rankRow 8 = .ok (.istore_n 2, 1) := by decide +kernel
theorem dX5_rankRow_9 : decode cX5_rankRow 9 = .ok (.iload_n 1, 1) := by decide +kernel
theorem dX5_rankRow_10 : decode cX5_rankRow 10 = .ok (.iload_n 2, 1) := by decide +kernel
theorem dX5_rankRow_11 : decode cX5_rankRow 11 = .ok (.if_icmp .ge 52, 3) := by decide +kernel
theorem dX5_rankRow_14 : decode cX5_rankRow 14 = .ok (.iload_n 1, 1) := by decide +kernel
theorem dX5_rankRow_15 : decode cX5_rankRow 15 = .ok (.iload_n 2, 1) := by decide +kernel
theorem dX5_rankRow_16 : decode cX5_rankRow 16 = .ok (.iadd, 1) := by decide +kernel
theorem dX5_rankRow_17 : decode cX5_rankRow 17 = .ok (.iconst 2, 1) := by decide +kernel
theorem dX5_rankRow_18 : decode cX5_rankRow 18 = .ok (.idiv, 1) := by decide +kernel
theorem dX5_rankRow_19 : decode cX5_rankRow 19 = .ok (.istore_n 3, 1) := by decide +kernel
theorem dX5_rankRow_20 : decode cX5_rankRow 20 = .ok (.aload_n 0, 1) := by decide +kernel
theorem dX5_rankRow_21 : decode cX5_rankRow 21 = .ok (.iload_n 3, 1) := by decide +kernel
theorem dX5_rankRow_22 : decode cX5_rankRow 22 = .ok (.invokevirtual 111, 3) := by decide +kernel
theorem dX5_rankRow_25 : decode cX5_rankRow 25 = .ok (.istore 4, 2) := by decide +kernel
theorem dX5_rankRow_27 : decode cX5_rankRow 27 = .ok (.iload 4, 2) := by decide +kernel
theorem dX5_rankRow_29 : decode cX5_rankRow 29 = .ok (.ifCond .ne 5, 3) := by decide +kernel
theorem dX5_rankRow_32 : decode cX5_rankRow 32 = .ok (.iload_n 3, 1) := by decide +kernel
theorem dX5_rankRow_33 : decode cX5_rankRow 33 = .ok (.ireturn, 1) := by decide +kernel
theorem dX5_rankRow_34 : decode cX5_rankRow 34 = .ok (.iload 4, 2) := by decide +kernel
theorem dX5_rankRow_36 : decode cX5_rankRow 36 = .ok (.ifCond .ge 7, 3) := by decide +kernel
theorem dX5_rankRow_39 : decode cX5_rankRow 39 = .ok (.iload_n 1, 1) := by decide +kernel
theorem dX5_rankRow_40 : decode cX5_rankRow 40 = .ok (.goto 6, 3) := by decide +kernel
theorem dX5_rankRow_43 : decode cX5_rankRow 43 = .ok (.iload_n 3, 1) := by decide +kernel
theorem dX5_rankRow_44 : decode cX5_rankRow 44 = .ok (.iconst 1, 1) := by decide +kernel
theorem dX5_rankRow_45 : decode cX5_rankRow 45 = .ok (.iadd, 1) := by decide +kernel
theorem dX5_rankRow_46 : decode cX5_rankRow 46 = .ok (.istore_n 1, 1) := by decide +kernel
theorem dX5_rankRow_47 : decode cX5_rankRow 47 = .ok (.iload 4, 2) := by decide +kernel
theorem dX5_rankRow_49 : decode cX5_rankRow 49 = .ok (.ifCond .ge 9, 3) := by decide +kernel
theorem dX5_rankRow_52 : decode cX5_rankRow 52 = .ok (.iload_n 3, 1) := by decide +kernel
theorem dX5_rankRow_53 : decode cX5_rankRow 53 = .ok (.iconst 1, 1) := by decide +kernel
theorem dX5_rankRow_54 : decode cX5_rankRow 54 = .ok (.isub, 1) := by decide +kernel
theorem dX5_rankRow_55 : decode cX5_rankRow 55 = .ok (.goto 4, 3) := by decide +kernel
theorem dX5_rankRow_58 : decode cX5_rankRow 58 = .ok (.iload_n 2, 1) := by decide +kernel
theorem dX5_rankRow_59 : decode cX5_rankRow 59 = .ok (.istore_n 2, 1) := by decide +kernel
theorem dX5_rankRow_60 : decode cX5_rankRow 60 = .ok (.goto (-51), 3) := by decide +kernel
theorem dX5_rankRow_63 : decode cX5_rankRow 63 = .ok (.iload_n 1, 1) := by decide +kernel
theorem dX5_rankRow_64 : decode cX5_rankRow 64 = .ok (.ireturn, 1) := by decide +kernel
theorem dX5_loadListed_0 : decode cX5_loadListed 0 = .ok (.aload_n 0, 1) := by decide +kernel
theorem dX5_loadListed_1 : decode cX5_loadListed 1 = .ok (.aload_n 0, 1) := by decide +kernel
theorem dX5_loadListed_2 : decode cX5_loadListed 2 = .ok (.getfield 32, 3) := by decide +kernel
theorem dX5_loadListed_5 : decode cX5_loadListed 5 = .ok (.iload_n 1, 1) := by decide +kernel
theorem dX5_loadListed_6 : decode cX5_loadListed 6 = .ok (.iaload, 1) := by decide +kernel
theorem dX5_loadListed_7 : decode cX5_loadListed 7 = .ok (.putfield 94, 3) := by decide +kernel
theorem dX5_loadListed_10 : decode cX5_loadListed 10 = .ok (.iconst 0, 1) := by decide +kernel
theorem dX5_loadListed_11 : decode cX5_loadListed 11 = .ok (.istore_n 2, 1) := by decide +kernel
theorem dX5_loadListed_12 : decode cX5_loadListed 12 = .ok (.iload_n 2, 1) := by decide +kernel
theorem dX5_loadListed_13 : decode cX5_loadListed 13 = .ok (.aload_n 0, 1) := by decide +kernel
theorem dX5_loadListed_14 : decode cX5_loadListed 14 = .ok (.getfield 94, 3) := by decide +kernel
theorem dX5_loadListed_17 : decode cX5_loadListed 17 = .ok (.if_icmp .ge 26, 3) := by decide +kernel
theorem dX5_loadListed_20 : decode cX5_loadListed 20 = .ok (.aload_n 0, 1) := by decide +kernel
theorem dX5_loadListed_21 : decode cX5_loadListed 21 = .ok (.getfield 22, 3) := by decide +kernel
theorem dX5_loadListed_24 : decode cX5_loadListed 24 = .ok (.iload_n 2, 1) := by decide +kernel
theorem dX5_loadListed_25 : decode cX5_loadListed 25 = .ok (.aload_n 0, 1) := by decide +kernel
theorem dX5_loadListed_26 : decode cX5_loadListed 26 = .ok (.getfield 29, 3) := by decide +kernel
theorem dX5_loadListed_29 : decode cX5_loadListed 29 = .ok (.bipush 18, 2) := by decide +kernel
theorem dX5_loadListed_31 : decode cX5_loadListed 31 = .ok (.iload_n 1, 1) := by decide +kernel
theorem dX5_loadListed_32 : decode cX5_loadListed 32 = .ok (.imul, 1) := by decide +kernel
theorem dX5_loadListed_33 : decode cX5_loadListed 33 = .ok (.iload_n 2, 1) := by decide +kernel
theorem dX5_loadListed_34 : decode cX5_loadListed 34 = .ok (.iadd, 1) := by decide +kernel
theorem dX5_loadListed_35 : decode cX5_loadListed 35 = .ok (.iaload, 1) := by decide +kernel
theorem dX5_loadListed_36 : decode cX5_loadListed 36 = .ok (.iastore, 1) := by decide +kernel
theorem dX5_loadListed_37 : decode cX5_loadListed 37 = .ok (.iinc 2 1, 3) := by decide +kernel
theorem dX5_loadListed_40 : decode cX5_loadListed 40 = .ok (.goto (-28), 3) := by decide +kernel
theorem dX5_loadListed_43 : decode cX5_loadListed 43 = .ok (.return_, 1) := by decide +kernel
theorem dX5_rankOf_0 : decode cX5_rankOf 0 = .ok (.aload_n 0, 1) := by decide +kernel
theorem dX5_rankOf_1 : decode cX5_rankOf 1 = .ok (.aload_n 0, 1) := by decide +kernel
theorem dX5_rankOf_2 : decode cX5_rankOf 2 = .ok (.iload_n 1, 1) := by decide +kernel
theorem dX5_rankOf_3 : decode cX5_rankOf 3 = .ok (.invokevirtual 84, 3) := by decide +kernel
theorem dX5_rankOf_6 : decode cX5_rankOf 6 = .ok (.invokevirtual 114, 3) := by decide +kernel
theorem dX5_rankOf_9 : decode cX5_rankOf 9 = .ok (.aload_n 0, 1) := by decide +kernel
theorem dX5_rankOf_10 : decode cX5_rankOf 10 = .ok (.iload_n 1, 1) := by decide +kernel
theorem dX5_rankOf_11 : decode cX5_rankOf 11 = .ok (.invokevirtual 118, 3) := by decide +kernel
theorem dX5_rankOf_14 : decode cX5_rankOf 14 = .ok (.aload_n 0, 1) := by decide +kernel
theorem dX5_rankOf_15 : decode cX5_rankOf 15 = .ok (.invokevirtual 121, 3) := by decide +kernel
theorem dX5_rankOf_18 : decode cX5_rankOf 18 = .ok (.ireturn, 1) := by decide +kernel
theorem dX5_many_0 : decode cX5_many 0 = .ok (.iload_n 1, 1) := by decide +kernel
theorem dX5_many_1 : decode cX5_many 1 = .ok (.iconst 0, 1) := by decide +kernel
theorem dX5_many_2 : decode cX5_many 2 = .ok (.bipush 18, 2) := by decide +kernel
theorem dX5_many_4 : decode cX5_many 4 = .ok (.invokestatic 69, 3) := by decide +kernel
theorem dX5_many_7 : decode cX5_many 7 = .ok (.ifCond .ne 5, 3) := by decide +kernel
theorem dX5_many_10 : decode cX5_many 10 = .ok (.iconst (-1), 1) := by decide +kernel
theorem dX5_many_11 : decode cX5_many 11 = .ok (.ireturn, 1) := by decide +kernel
theorem dX5_many_12 : decode cX5_many 12 = .ok (.aload_n 0, 1) := by decide +kernel
theorem dX5_many_13 : decode cX5_many 13 = .ok (.iload_n 1, 1) := by decide +kernel
theorem dX5_many_14 : decode cX5_many 14 = .ok (.invokevirtual 114, 3) := by decide +kernel
theorem dX5_many_17 : decode cX5_many 17 = .ok (.aload_n 0, 1) := by decide +kernel
theorem dX5_many_18 : decode cX5_many 18 = .ok (.getfield 104, 3) := by decide +kernel
theorem dX5_many_21 : decode cX5_many 21 = .ok (.ireturn, 1) := by decide +kernel
theorem dX5_rank_0 : decode cX5_rank 0 = .ok (.aload_n 0, 1) := by decide +kernel
theorem dX5_rank_1 : decode cX5_rank 1 = .ok (.iload_n 1, 1) := by decide +kernel
theorem dX5_rank_2 : decode cX5_rank 2 = .ok (.invokevirtual 81, 3) := by decide +kernel
theorem dX5_rank_5 : decode cX5_rank 5 = .ok (.istore_n 2, 1) := by decide +kernel
theorem dX5_rank_6 : decode cX5_rank 6 = .ok (.iload_n 2, 1) := by decide +kernel
theorem dX5_rank_7 : decode cX5_rank 7 = .ok (.ifCond .ge 7, 3) := by decide +kernel
theorem dX5_rank_10 : decode cX5_rank 10 = .ok (.iload_n 2, 1) := by decide +kernel
theorem dX5_rank_11 : decode cX5_rank 11 = .ok (.goto 8, 3) := by decide +kernel
theorem dX5_rank_14 : decode cX5_rank 14 = .ok (.aload_n 0, 1) := by decide +kernel
theorem dX5_rank_15 : decode cX5_rank 15 = .ok (.iload_n 1, 1) := by decide +kernel
theorem dX5_rank_16 : decode cX5_rank 16 = .ok (.invokevirtual 125, 3) := by decide +kernel
theorem dX5_rank_19 : decode cX5_rank 19 = .ok (.ireturn, 1) := by decide +kernel
theorem dX5_list_0 : decode cX5_list 0 = .ok (.iload_n 1, 1) := by decide +kernel
theorem dX5_list_1 : decode cX5_list 1 = .ok (.invokestatic 73, 3) := by decide +kernel
theorem dX5_list_4 : decode cX5_list 4 = .ok (.ifCond .eq 13, 3) := by decide +kernel
theorem dX5_list_7 : decode cX5_list 7 = .ok (.iload_n 2, 1) := by decide +kernel
theorem dX5_list_8 : decode cX5_list 8 = .ok (.iconst 0, 1) := by decide +kernel
theorem dX5_list_9 : decode cX5_list 9 = .ok (.bipush 18, 2) := by decide +kernel
theorem dX5_list_11 : decode cX5_list 11 = .ok (.invokestatic 69, 3) := by decide +kernel
theorem dX5_list_14 : decode cX5_list 14 = .ok (.ifCond .ne 5, 3) := by decide +kernel
theorem dX5_list_17 : decode cX5_list 17 = .ok (.iconst (-1), 1) := by decide +kernel
theorem dX5_list_18 : decode cX5_list 18 = .ok (.ireturn, 1) := by decide +kernel
theorem dX5_list_19 : decode cX5_list 19 = .ok (.aload_n 0, 1) := by decide +kernel
theorem dX5_list_20 : decode cX5_list 20 = .ok (.iload_n 2, 1) := by decide +kernel
theorem dX5_list_21 : decode cX5_list 21 = .ok (.invokevirtual 114, 3) := by decide +kernel
theorem dX5_list_24 : decode cX5_list 24 = .ok (.iload_n 3, 1) := by decide +kernel
theorem dX5_list_25 : decode cX5_list 25 = .ok (.iconst 0, 1) := by decide +kernel
theorem dX5_list_26 : decode cX5_list 26 = .ok (.aload_n 0, 1) := by decide +kernel
theorem dX5_list_27 : decode cX5_list 27 = .ok (.getfield 104, 3) := by decide +kernel
theorem dX5_list_30 : decode cX5_list 30 = .ok (.iconst 1, 1) := by decide +kernel
theorem dX5_list_31 : decode cX5_list 31 = .ok (.isub, 1) := by decide +kernel
theorem dX5_list_32 : decode cX5_list 32 = .ok (.invokestatic 69, 3) := by decide +kernel
theorem dX5_list_35 : decode cX5_list 35 = .ok (.ifCond .ne 6, 3) := by decide +kernel
theorem dX5_list_38 : decode cX5_list 38 = .ok (.bipush (-9), 2) := by decide +kernel
theorem dX5_list_40 : decode cX5_list 40 = .ok (.ireturn, 1) := by decide +kernel
theorem dX5_list_41 : decode cX5_list 41 = .ok (.aload_n 0, 1) := by decide +kernel
theorem dX5_list_42 : decode cX5_list 42 = .ok (.iload_n 3, 1) := by decide +kernel
theorem dX5_list_43 : decode cX5_list 43 = .ok (.invokevirtual 128, 3) := by decide +kernel
theorem dX5_list_46 : decode cX5_list 46 = .ok (.aload_n 0, 1) := by decide +kernel
theorem dX5_list_47 : decode cX5_list 47 = .ok (.iload_n 1, 1) := by decide +kernel
theorem dX5_list_48 : decode cX5_list 48 = .ok (.invokevirtual 131, 3) := by decide +kernel
theorem dX5_list_51 : decode cX5_list 51 = .ok (.iconst 1, 1) := by decide +kernel
theorem dX5_list_52 : decode cX5_list 52 = .ok (.ireturn, 1) := by decide +kernel
theorem dX5_turn_0 : decode cX5_turn 0 = .ok (.aload_n 0, 1) := by decide +kernel
theorem dX5_turn_1 : decode cX5_turn 1 = .ok (.iload_n 1, 1) := by decide +kernel
theorem dX5_turn_2 : decode cX5_turn 2 = .ok (.invokevirtual 81, 3) := by decide +kernel
theorem dX5_turn_5 : decode cX5_turn 5 = .ok (.istore_n 2, 1) := by decide +kernel
theorem dX5_turn_6 : decode cX5_turn 6 = .ok (.iload_n 2, 1) := by decide +kernel
theorem dX5_turn_7 : decode cX5_turn 7 = .ok (.ifCond .ge 5, 3) := by decide +kernel
theorem dX5_turn_10 : decode cX5_turn 10 = .ok (.iload_n 2, 1) := by decide +kernel
theorem dX5_turn_11 : decode cX5_turn 11 = .ok (.ireturn, 1) := by decide +kernel
theorem dX5_turn_12 : decode cX5_turn 12 = .ok (.aload_n 0, 1) := by decide +kernel
theorem dX5_turn_13 : decode cX5_turn 13 = .ok (.iload_n 1, 1) := by decide +kernel
theorem dX5_turn_14 : decode cX5_turn 14 = .ok (.invokevirtual 118, 3) := by decide +kernel
theorem dX5_turn_17 : decode cX5_turn 17 = .ok (.aload_n 0, 1) := by decide +kernel
theorem dX5_turn_18 : decode cX5_turn 18 = .ok (.getfield 94, 3) := by decide +kernel
theorem dX5_turn_21 : decode cX5_turn 21 = .ok (.ifCond .ne 7, 3) := by decide +kernel
theorem dX5_turn_24 : decode cX5_turn 24 = .ok (.iconst 0, 1) := by decide +kernel
theorem dX5_turn_25 : decode cX5_turn 25 = .ok (.goto 9, 3) := by decide +kernel
theorem dX5_turn_28 : decode cX5_turn 28 = .ok (.aload_n 0, 1) := by decide +kernel
theorem dX5_turn_29 : decode cX5_turn 29 = .ok (.getfield 22, 3) := by decide +kernel
theorem dX5_turn_32 : decode cX5_turn 32 = .ok (.iconst 0, 1) := by decide +kernel
theorem dX5_turn_33 : decode cX5_turn 33 = .ok (.iaload, 1) := by decide +kernel
theorem dX5_turn_34 : decode cX5_turn 34 = .ok (.istore_n 3, 1) := by decide +kernel
theorem dX5_turn_35 : decode cX5_turn 35 = .ok (.iconst 0, 1) := by decide +kernel
theorem dX5_turn_36 : decode cX5_turn 36 = .ok (.istore 4, 2) := by decide +kernel
theorem dX5_turn_38 : decode cX5_turn 38 = .ok (.iload 4, 2) := by decide +kernel
theorem dX5_turn_40 : decode cX5_turn 40 = .ok (.iload_n 3, 1) := by decide +kernel
theorem dX5_turn_41 : decode cX5_turn 41 = .ok (.if_icmp .ge 62, 3) := by decide +kernel
theorem dX5_turn_44 : decode cX5_turn 44 = .ok (.aload_n 0, 1) := by decide +kernel
theorem dX5_turn_45 : decode cX5_turn 45 = .ok (.getfield 19, 3) := by decide +kernel
theorem dX5_turn_48 : decode cX5_turn 48 = .ok (.iload 4, 2) := by decide +kernel
theorem dX5_turn_50 : decode cX5_turn 50 = .ok (.iconst 0, 1) := by decide +kernel
theorem dX5_turn_51 : decode cX5_turn 51 = .ok (.iastore, 1) := by decide +kernel
theorem dX5_turn_52 : decode cX5_turn 52 = .ok (.iconst 0, 1) := by decide +kernel
theorem dX5_turn_53 : decode cX5_turn 53 = .ok (.istore 5, 2) := by decide +kernel
theorem dX5_turn_55 : decode cX5_turn 55 = .ok (.iload 5, 2) := by decide +kernel
theorem dX5_turn_57 : decode cX5_turn 57 = .ok (.aload_n 0, 1) := by decide +kernel
theorem dX5_turn_58 : decode cX5_turn 58 = .ok (.getfield 94, 3) := by decide +kernel
theorem dX5_turn_61 : decode cX5_turn 61 = .ok (.if_icmp .ge 36, 3) := by decide +kernel
theorem dX5_turn_64 : decode cX5_turn 64 = .ok (.aload_n 0, 1) := by decide +kernel
theorem dX5_turn_65 : decode cX5_turn 65 = .ok (.getfield 19, 3) := by decide +kernel
theorem dX5_turn_68 : decode cX5_turn 68 = .ok (.iload 4, 2) := by decide +kernel
theorem dX5_turn_70 : decode cX5_turn 70 = .ok (.dup2, 1) := by decide +kernel
theorem dX5_turn_71 : decode cX5_turn 71 = .ok (.iaload, 1) := by decide +kernel
theorem dX5_turn_72 : decode cX5_turn 72 = .ok (.aload_n 0, 1) := by decide +kernel
theorem dX5_turn_73 : decode cX5_turn 73 = .ok (.getfield 22, 3) := by decide +kernel
theorem dX5_turn_76 : decode cX5_turn 76 = .ok (.iload 5, 2) := by decide +kernel
theorem dX5_turn_78 : decode cX5_turn 78 = .ok (.iaload, 1) := by decide +kernel
theorem dX5_turn_79 : decode cX5_turn 79 = .ok (.iload 4, 2) := by decide +kernel
theorem dX5_turn_81 : decode cX5_turn 81 = .ok (.if_icmp .le 7, 3) := by decide +kernel
theorem dX5_turn_84 : decode cX5_turn 84 = .ok (.iconst 1, 1) := by decide +kernel
theorem dX5_turn_85 : decode cX5_turn 85 = .ok (.goto 4, 3) := by decide +kernel
theorem dX5_turn_88 : decode cX5_turn 88 = .ok (.iconst 0, 1) := by decide +kernel
theorem dX5_turn_89 : decode cX5_turn 89 = .ok (.iadd, 1) := by decide +kernel
theorem dX5_turn_90 : decode cX5_turn 90 = .ok (.iastore, 1) := by decide +kernel
theorem dX5_turn_91 : decode cX5_turn 91 = .ok (.iinc 5 1, 3) := by decide +kernel
theorem dX5_turn_94 : decode cX5_turn 94 = .ok (.goto (-39), 3) := by decide +kernel
theorem dX5_turn_97 : decode cX5_turn 97 = .ok (.iinc 4 1, 3) := by decide +kernel
theorem dX5_turn_100 : decode cX5_turn 100 = .ok (.goto (-62), 3) := by decide +kernel
theorem dX5_turn_103 : decode cX5_turn 103 = .ok (.aload_n 0, 1) := by decide +kernel
theorem dX5_turn_104 : decode cX5_turn 104 = .ok (.iload_n 3, 1) := by decide +kernel
theorem dX5_turn_105 : decode cX5_turn 105 = .ok (.putfield 94, 3) := by decide +kernel
theorem dX5_turn_108 : decode cX5_turn 108 = .ok (.iconst 0, 1) := by decide +kernel
theorem dX5_turn_109 : decode cX5_turn 109 = .ok (.istore 4, 2) := by decide +kernel
theorem dX5_turn_111 : decode cX5_turn 111 = .ok (.iload 4, 2) := by decide +kernel
theorem dX5_turn_113 : decode cX5_turn 113 = .ok (.iload_n 3, 1) := by decide +kernel
theorem dX5_turn_114 : decode cX5_turn 114 = .ok (.if_icmp .ge 23, 3) := by decide +kernel
theorem dX5_turn_117 : decode cX5_turn 117 = .ok (.aload_n 0, 1) := by decide +kernel
theorem dX5_turn_118 : decode cX5_turn 118 = .ok (.getfield 22, 3) := by decide +kernel
theorem dX5_turn_121 : decode cX5_turn 121 = .ok (.iload 4, 2) := by decide +kernel
theorem dX5_turn_123 : decode cX5_turn 123 = .ok (.aload_n 0, 1) := by decide +kernel
theorem dX5_turn_124 : decode cX5_turn 124 = .ok (.getfield 19, 3) := by decide +kernel
theorem dX5_turn_127 : decode cX5_turn 127 = .ok (.iload 4, 2) := by decide +kernel
theorem dX5_turn_129 : decode cX5_turn 129 = .ok (.iaload, 1) := by decide +kernel
theorem dX5_turn_130 : decode cX5_turn 130 = .ok (.iastore, 1) := by decide +kernel
theorem dX5_turn_131 : decode cX5_turn 131 = .ok (.iinc 4 1, 3) := by decide +kernel
theorem dX5_turn_134 : decode cX5_turn 134 = .ok (.goto (-23), 3) := by decide +kernel
theorem dX5_turn_137 : decode cX5_turn 137 = .ok (.aload_n 0, 1) := by decide +kernel
theorem dX5_turn_138 : decode cX5_turn 138 = .ok (.iload_n 1, 1) := by decide +kernel
theorem dX5_turn_139 : decode cX5_turn 139 = .ok (.invokevirtual 131, 3) := by decide +kernel
theorem dX5_turn_142 : decode cX5_turn 142 = .ok (.aload_n 0, 1) := by decide +kernel
theorem dX5_turn_143 : decode cX5_turn 143 = .ok (.getfield 94, 3) := by decide +kernel
theorem dX5_turn_146 : decode cX5_turn 146 = .ok (.ireturn, 1) := by decide +kernel
theorem dX5_setSteps_0 : decode cX5_setSteps 0 = .ok (.aload_n 0, 1) := by decide +kernel
theorem dX5_setSteps_1 : decode cX5_setSteps 1 = .ok (.iload_n 1, 1) := by decide +kernel
theorem dX5_setSteps_2 : decode cX5_setSteps 2 = .ok (.invokevirtual 114, 3) := by decide +kernel
theorem dX5_setSteps_5 : decode cX5_setSteps 5 = .ok (.iconst 0, 1) := by decide +kernel
theorem dX5_setSteps_6 : decode cX5_setSteps 6 = .ok (.istore_n 2, 1) := by decide +kernel
theorem dX5_setSteps_7 : decode cX5_setSteps 7 = .ok (.iload_n 2, 1) := by decide +kernel
theorem dX5_setSteps_8 : decode cX5_setSteps 8 = .ok (.aload_n 0, 1) := by decide +kernel
theorem dX5_setSteps_9 : decode cX5_setSteps 9 = .ok (.getfield 104, 3) := by decide +kernel
theorem dX5_setSteps_12 : decode cX5_setSteps 12 = .ok (.if_icmp .ge 16, 3) := by decide +kernel
theorem dX5_setSteps_15 : decode cX5_setSteps 15 = .ok (.aload_n 0, 1) := by decide +kernel
theorem dX5_setSteps_16 : decode cX5_setSteps 16 = .ok (.getfield 38, 3) := by decide +kernel
theorem dX5_setSteps_19 : decode cX5_setSteps 19 = .ok (.iload_n 2, 1) := by decide +kernel
theorem dX5_setSteps_20 : decode cX5_setSteps 20 = .ok (.iconst 0, 1) := by decide +kernel
theorem dX5_setSteps_21 : decode cX5_setSteps 21 = .ok (.iastore, 1) := by decide +kernel
theorem dX5_setSteps_22 : decode cX5_setSteps 22 = .ok (.iinc 2 1, 3) := by decide +kernel
theorem dX5_setSteps_25 : decode cX5_setSteps 25 = .ok (.goto (-18), 3) := by decide +kernel
theorem dX5_setSteps_28 : decode cX5_setSteps 28 = .ok (.iconst 0, 1) := by decide +kernel
theorem dX5_setSteps_29 : decode cX5_setSteps 29 = .ok (.istore_n 2, 1) := by decide +kernel
theorem dX5_setSteps_30 : decode cX5_setSteps 30 = .ok (.iload_n 2, 1) := by decide +kernel
theorem dX5_setSteps_31 : decode cX5_setSteps 31 = .ok (.aload_n 0, 1) := by decide +kernel
theorem dX5_setSteps_32 : decode cX5_setSteps 32 = .ok (.getfield 104, 3) := by decide +kernel
theorem dX5_setSteps_35 : decode cX5_setSteps 35 = .ok (.if_icmp .ge 43, 3) := by decide +kernel
theorem dX5_setSteps_38 : decode cX5_setSteps 38 = .ok (.aload_n 0, 1) := by decide +kernel
theorem dX5_setSteps_39 : decode cX5_setSteps 39 = .ok (.iload_n 2, 1) := by decide +kernel
theorem dX5_setSteps_40 : decode cX5_setSteps 40 = .ok (.invokevirtual 128, 3) := by decide +kernel
theorem dX5_setSteps_43 : decode cX5_setSteps 43 = .ok (.aload_n 0, 1) := by decide +kernel
theorem dX5_setSteps_44 : decode cX5_setSteps 44 = .ok (.invokevirtual 134, 3) := by decide +kernel
theorem dX5_setSteps_47 : decode cX5_setSteps 47 = .ok (.aload_n 0, 1) := by decide +kernel
theorem dX5_setSteps_48 : decode cX5_setSteps 48 = .ok (.getfield 35, 3) := by decide +kernel
theorem dX5_setSteps_51 : decode cX5_setSteps 51 = .ok (.iload_n 2, 1) := by decide +kernel
theorem dX5_setSteps_52 : decode cX5_setSteps 52 = .ok (.aload_n 0, 1) := by decide +kernel
theorem dX5_setSteps_53 : decode cX5_setSteps 53 = .ok (.invokevirtual 121, 3) := by decide +kernel
theorem dX5_setSteps_56 : decode cX5_setSteps 56 = .ok (.iastore, 1) := by decide +kernel
theorem dX5_setSteps_57 : decode cX5_setSteps 57 = .ok (.aload_n 0, 1) := by decide +kernel
theorem dX5_setSteps_58 : decode cX5_setSteps 58 = .ok (.getfield 38, 3) := by decide +kernel
theorem dX5_setSteps_61 : decode cX5_setSteps 61 = .ok (.aload_n 0, 1) := by decide +kernel
theorem dX5_setSteps_62 : decode cX5_setSteps 62 = .ok (.getfield 35, 3) := by decide +kernel
theorem dX5_setSteps_65 : decode cX5_setSteps 65 = .ok (.iload_n 2, 1) := by decide +kernel
theorem dX5_setSteps_66 : decode cX5_setSteps 66 = .ok (.iaload, 1) := by decide +kernel
theorem dX5_setSteps_67 : decode cX5_setSteps 67 = .ok (.dup2, 1) := by decide +kernel
theorem dX5_setSteps_68 : decode cX5_setSteps 68 = .ok (.iaload, 1) := by decide +kernel
theorem dX5_setSteps_69 : decode cX5_setSteps 69 = .ok (.iconst 1, 1) := by decide +kernel
theorem dX5_setSteps_70 : decode cX5_setSteps 70 = .ok (.iadd, 1) := by decide +kernel
theorem dX5_setSteps_71 : decode cX5_setSteps 71 = .ok (.iastore, 1) := by decide +kernel
theorem dX5_setSteps_72 : decode cX5_setSteps 72 = .ok (.iinc 2 1, 3) := by decide +kernel
theorem dX5_setSteps_75 : decode cX5_setSteps 75 = .ok (.goto (-45), 3) := by decide +kernel
theorem dX5_setSteps_78 : decode cX5_setSteps 78 = .ok (.iconst 0, 1) := by decide +kernel
theorem dX5_setSteps_79 : decode cX5_setSteps 79 = .ok (.istore_n 2, 1) := by decide +kernel
theorem dX5_setSteps_80 : decode cX5_setSteps 80 = .ok (.iload_n 2, 1) := by decide +kernel
theorem dX5_setSteps_81 : decode cX5_setSteps 81 = .ok (.aload_n 0, 1) := by decide +kernel
theorem dX5_setSteps_82 : decode cX5_setSteps 82 = .ok (.getfield 104, 3) := by decide +kernel
theorem dX5_setSteps_85 : decode cX5_setSteps 85 = .ok (.if_icmp .ge 99, 3) := by decide +kernel
theorem dX5_setSteps_88 : decode cX5_setSteps 88 = .ok (.iload_n 2, 1) := by decide +kernel
theorem dX5_setSteps_89 : decode cX5_setSteps 89 = .ok (.istore_n 3, 1) := by decide +kernel
theorem dX5_setSteps_90 : decode cX5_setSteps 90 = .ok (.iconst 0, 1) := by decide +kernel
theorem dX5_setSteps_91 : decode cX5_setSteps 91 = .ok (.istore 4, 2) := by decide +kernel
theorem dX5_setSteps_93 : decode cX5_setSteps 93 = .ok (.iload 4, 2) := by decide +kernel
theorem dX5_setSteps_95 : decode cX5_setSteps 95 = .ok (.aload_n 0, 1) := by decide +kernel
theorem dX5_setSteps_96 : decode cX5_setSteps 96 = .ok (.getfield 104, 3) := by decide +kernel
theorem dX5_setSteps_99 : decode cX5_setSteps 99 = .ok (.if_icmp .ge 16, 3) := by decide +kernel
theorem dX5_setSteps_102 : decode cX5_setSteps 102 = .ok (.aload_n 0, 1) := by decide +kernel
theorem dX5_setSteps_103 : decode cX5_setSteps 103 = .ok (.getfield 35, 3) := by decide +kernel
theorem dX5_setSteps_106 : decode cX5_setSteps 106 = .ok (.iload_n 3, 1) := by decide +kernel
theorem dX5_setSteps_107 : decode cX5_setSteps 107 = .ok (.iaload, 1) := by decide +kernel
theorem dX5_setSteps_108 : decode cX5_setSteps 108 = .ok (.istore_n 3, 1) := by decide +kernel
theorem dX5_setSteps_109 : decode cX5_setSteps 109 = .ok (.iinc 4 1, 3) := by decide +kernel
theorem dX5_setSteps_112 : decode cX5_setSteps 112 = .ok (.goto (-19), 3) := by decide +kernel
theorem dX5_setSteps_115 : decode cX5_setSteps 115 = .ok (.iload_n 3, 1) := by decide +kernel
theorem dX5_setSteps_116 : decode cX5_setSteps 116 = .ok (.istore 4, 2) := by decide +kernel
theorem dX5_setSteps_118 : decode cX5_setSteps 118 = .ok (.iload_n 3, 1) := by decide +kernel
theorem dX5_setSteps_119 : decode cX5_setSteps 119 = .ok (.istore 5, 2) := by decide +kernel
theorem dX5_setSteps_121 : decode cX5_setSteps 121 = .ok (.iconst 0, 1) := by decide +kernel
theorem dX5_setSteps_122 : decode cX5_setSteps 122 = .ok (.istore 6, 2) := by decide +kernel
theorem dX5_setSteps_124 : decode cX5_setSteps 124 = .ok (.iload 6, 2) := by decide +kernel
theorem dX5_setSteps_126 : decode cX5_setSteps 126 = .ok (.ifCond .eq 9, 3) := by decide +kernel
theorem dX5_setSteps_129 : decode cX5_setSteps 129 = .ok (.iload_n 3, 1) := by decide +kernel
theorem dX5_setSteps_130 : decode cX5_setSteps 130 = .ok (.iload 4, 2) := by decide +kernel
theorem dX5_setSteps_132 : decode cX5_setSteps 132 = .ok (.if_icmp .eq 30, 3) := by decide +kernel
theorem dX5_setSteps_135 : decode cX5_setSteps 135 = .ok (.aload_n 0, 1) := by decide +kernel
theorem dX5_setSteps_136 : decode cX5_setSteps 136 = .ok (.getfield 35, 3) := by decide +kernel
theorem dX5_setSteps_139 : decode cX5_setSteps 139 = .ok (.iload_n 3, 1) := by decide +kernel
theorem dX5_setSteps_140 : decode cX5_setSteps 140 = .ok (.iaload, 1) := by decide +kernel
theorem dX5_setSteps_141 : decode cX5_setSteps 141 = .ok (.istore_n 3, 1) := by decide +kernel
theorem dX5_setSteps_142 : decode cX5_setSteps 142 = .ok (.iload_n 3, 1) := by decide +kernel
theorem dX5_setSteps_143 : decode cX5_setSteps 143 = .ok (.iload 5, 2) := by decide +kernel
theorem dX5_setSteps_145 : decode cX5_setSteps 145 = .ok (.if_icmp .ge 7, 3) := by decide +kernel
theorem dX5_setSteps_148 : decode cX5_setSteps 148 = .ok (.iload_n 3, 1) := by decide +kernel
theorem dX5_setSteps_149 : decode cX5_setSteps 149 = .ok (.goto 5, 3) := by decide +kernel
theorem dX5_setSteps_152 : decode cX5_setSteps 152 = .ok (.iload 5, 2) := by decide +kernel
theorem dX5_setSteps_154 : decode cX5_setSteps 154 = .ok (.istore 5, 2) := by decide +kernel
theorem dX5_setSteps_156 : decode cX5_setSteps 156 = .ok (.iinc 6 1, 3) := by decide +kernel
theorem dX5_setSteps_159 : decode cX5_setSteps 159 = .ok (.goto (-35), 3) := by decide +kernel
theorem dX5_setSteps_162 : decode cX5_setSteps 162 = .ok (.aload_n 0, 1) := by decide +kernel
theorem dX5_setSteps_163 : decode cX5_setSteps 163 = .ok (.getfield 44, 3) := by decide +kernel
theorem dX5_setSteps_166 : decode cX5_setSteps 166 = .ok (.iload_n 2, 1) := by decide +kernel
theorem dX5_setSteps_167 : decode cX5_setSteps 167 = .ok (.iload 6, 2) := by decide +kernel
theorem dX5_setSteps_169 : decode cX5_setSteps 169 = .ok (.iastore, 1) := by decide +kernel
theorem dX5_setSteps_170 : decode cX5_setSteps 170 = .ok (.aload_n 0, 1) := by decide +kernel
theorem dX5_setSteps_171 : decode cX5_setSteps 171 = .ok (.getfield 47, 3) := by decide +kernel
theorem dX5_setSteps_174 : decode cX5_setSteps 174 = .ok (.iload_n 2, 1) := by decide +kernel
theorem dX5_setSteps_175 : decode cX5_setSteps 175 = .ok (.iload 5, 2) := by decide +kernel
theorem dX5_setSteps_177 : decode cX5_setSteps 177 = .ok (.iastore, 1) := by decide +kernel
theorem dX5_setSteps_178 : decode cX5_setSteps 178 = .ok (.iinc 2 1, 3) := by decide +kernel
theorem dX5_setSteps_181 : decode cX5_setSteps 181 = .ok (.goto (-101), 3) := by decide +kernel
theorem dX5_setSteps_184 : decode cX5_setSteps 184 = .ok (.iconst 0, 1) := by decide +kernel
theorem dX5_setSteps_185 : decode cX5_setSteps 185 = .ok (.istore_n 2, 1) := by decide +kernel
theorem dX5_setSteps_186 : decode cX5_setSteps 186 = .ok (.iload_n 2, 1) := by decide +kernel
theorem dX5_setSteps_187 : decode cX5_setSteps 187 = .ok (.aload_n 0, 1) := by decide +kernel
theorem dX5_setSteps_188 : decode cX5_setSteps 188 = .ok (.getfield 104, 3) := by decide +kernel
theorem dX5_setSteps_191 : decode cX5_setSteps 191 = .ok (.if_icmp .ge 45, 3) := by decide +kernel
theorem dX5_setSteps_194 : decode cX5_setSteps 194 = .ok (.iconst 0, 1) := by decide +kernel
theorem dX5_setSteps_195 : decode cX5_setSteps 195 = .ok (.istore_n 3, 1) := by decide +kernel
theorem dX5_setSteps_196 : decode cX5_setSteps 196 = .ok (.iload_n 2, 1) := by decide +kernel
theorem dX5_setSteps_197 : decode cX5_setSteps 197 = .ok (.istore 4, 2) := by decide +kernel
theorem dX5_setSteps_199 : decode cX5_setSteps 199 = .ok (.aload_n 0, 1) := by decide +kernel
theorem dX5_setSteps_200 : decode cX5_setSteps 200 = .ok (.iload 4, 2) := by decide +kernel
theorem dX5_setSteps_202 : decode cX5_setSteps 202 = .ok (.invokevirtual 137, 3) := by decide +kernel
theorem dX5_setSteps_205 : decode cX5_setSteps 205 = .ok (.ifCond .ne 18, 3) := by decide +kernel
theorem dX5_setSteps_208 : decode cX5_setSteps 208 = .ok (.aload_n 0, 1) := by decide +kernel
theorem dX5_setSteps_209 : decode cX5_setSteps 209 = .ok (.getfield 35, 3) := by decide +kernel
theorem dX5_setSteps_212 : decode cX5_setSteps 212 = .ok (.iload 4, 2) := by decide +kernel
theorem dX5_setSteps_214 : decode cX5_setSteps 214 = .ok (.iaload, 1) := by decide +kernel
theorem dX5_setSteps_215 : decode cX5_setSteps 215 = .ok (.istore 4, 2) := by decide +kernel
theorem dX5_setSteps_217 : decode cX5_setSteps 217 = .ok (.iinc 3 1, 3) := by decide +kernel
theorem dX5_setSteps_220 : decode cX5_setSteps 220 = .ok (.goto (-21), 3) := by decide +kernel
theorem dX5_setSteps_223 : decode cX5_setSteps 223 = .ok (.aload_n 0, 1) := by decide +kernel
theorem dX5_setSteps_224 : decode cX5_setSteps 224 = .ok (.getfield 41, 3) := by decide +kernel
theorem dX5_setSteps_227 : decode cX5_setSteps 227 = .ok (.iload_n 2, 1) := by decide +kernel
theorem dX5_setSteps_228 : decode cX5_setSteps 228 = .ok (.iload_n 3, 1) := by decide +kernel
theorem dX5_setSteps_229 : decode cX5_setSteps 229 = .ok (.iastore, 1) := by decide +kernel
theorem dX5_setSteps_230 : decode cX5_setSteps 230 = .ok (.iinc 2 1, 3) := by decide +kernel
theorem dX5_setSteps_233 : decode cX5_setSteps 233 = .ok (.goto (-47), 3) := by decide +kernel
theorem dX5_setSteps_236 : decode cX5_setSteps 236 = .ok (.return_, 1) := by decide +kernel
theorem dX5_isRound_0 : decode cX5_isRound 0 = .ok (.aload_n 0, 1) := by decide +kernel
theorem dX5_isRound_1 : decode cX5_isRound 1 = .ok (.getfield 47, 3) := by decide +kernel
theorem dX5_isRound_4 : decode cX5_isRound 4 = .ok (.iload_n 1, 1) := by decide +kernel
theorem dX5_isRound_5 : decode cX5_isRound 5 = .ok (.iaload, 1) := by decide +kernel
theorem dX5_isRound_6 : decode cX5_isRound 6 = .ok (.istore_n 2, 1) := by decide +kernel
theorem dX5_isRound_7 : decode cX5_isRound 7 = .ok (.iconst 0, 1) := by decide +kernel
theorem dX5_isRound_8 : decode cX5_isRound 8 = .ok (.istore_n 3, 1) := by decide +kernel
theorem dX5_isRound_9 : decode cX5_isRound 9 = .ok (.iload_n 3, 1) := by decide +kernel
theorem dX5_isRound_10 : decode cX5_isRound 10 = .ok (.aload_n 0, 1) := by decide +kernel
theorem dX5_isRound_11 : decode cX5_isRound 11 = .ok (.getfield 44, 3) := by decide +kernel
theorem dX5_isRound_14 : decode cX5_isRound 14 = .ok (.iload_n 1, 1) := by decide +kernel
theorem dX5_isRound_15 : decode cX5_isRound 15 = .ok (.iaload, 1) := by decide +kernel
theorem dX5_isRound_16 : decode cX5_isRound 16 = .ok (.if_icmp .ge 23, 3) := by decide +kernel
theorem dX5_isRound_19 : decode cX5_isRound 19 = .ok (.iload_n 2, 1) := by decide +kernel
theorem dX5_isRound_20 : decode cX5_isRound 20 = .ok (.iload_n 1, 1) := by decide +kernel
theorem dX5_isRound_21 : decode cX5_isRound 21 = .ok (.if_icmp .ne 5, 3) := by decide +kernel
theorem dX5_isRound_24 : decode cX5_isRound 24 = .ok (.iconst 1, 1) := by decide +kernel
theorem dX5_isRound_25 : decode cX5_isRound 25 = .ok (.ireturn, 1) := by decide +kernel
theorem dX5_isRound_26 : decode cX5_isRound 26 = .ok (.aload_n 0, 1) := by decide +kernel
theorem dX5_isRound_27 : decode cX5_isRound 27 = .ok (.getfield 35, 3) := by decide +kernel
theorem dX5_isRound_30 : decode cX5_isRound 30 = .ok (.iload_n 2, 1) := by decide +kernel
theorem dX5_isRound_31 : decode cX5_isRound 31 = .ok (.iaload, 1) := by decide +kernel
theorem dX5_isRound_32 : decode cX5_isRound 32 = .ok (.istore_n 2, 1) := by decide +kernel
theorem dX5_isRound_33 : decode cX5_isRound 33 = .ok (.iinc 3 1, 3) := by decide +kernel
theorem dX5_isRound_36 : decode cX5_isRound 36 = .ok (.goto (-27), 3) := by decide +kernel
theorem dX5_isRound_39 : decode cX5_isRound 39 = .ok (.iconst 0, 1) := by decide +kernel
theorem dX5_isRound_40 : decode cX5_isRound 40 = .ok (.ireturn, 1) := by decide +kernel
theorem dX5_stepped_0 : decode cX5_stepped 0 = .ok (.aload_n 0, 1) := by decide +kernel
theorem dX5_stepped_1 : decode cX5_stepped 1 = .ok (.iload_n 1, 1) := by decide +kernel
theorem dX5_stepped_2 : decode cX5_stepped 2 = .ok (.invokevirtual 81, 3) := by decide +kernel
theorem dX5_stepped_5 : decode cX5_stepped 5 = .ok (.istore_n 2, 1) := by decide +kernel
theorem dX5_stepped_6 : decode cX5_stepped 6 = .ok (.iload_n 2, 1) := by decide +kernel
theorem dX5_stepped_7 : decode cX5_stepped 7 = .ok (.ifCond .ge 5, 3) := by decide +kernel
theorem dX5_stepped_10 : decode cX5_stepped 10 = .ok (.iload_n 2, 1) := by decide +kernel
theorem dX5_stepped_11 : decode cX5_stepped 11 = .ok (.ireturn, 1) := by decide +kernel
theorem dX5_stepped_12 : decode cX5_stepped 12 = .ok (.aload_n 0, 1) := by decide +kernel
theorem dX5_stepped_13 : decode cX5_stepped 13 = .ok (.aload_n 0, 1) := by decide +kernel
theorem dX5_stepped_14 : decode cX5_stepped 14 = .ok (.iload_n 1, 1) := by decide +kernel
theorem dX5_stepped_15 : decode cX5_stepped 15 = .ok (.invokevirtual 84, 3) := by decide +kernel
theorem dX5_stepped_18 : decode cX5_stepped 18 = .ok (.invokevirtual 140, 3) := by decide +kernel
theorem dX5_stepped_21 : decode cX5_stepped 21 = .ok (.aload_n 0, 1) := by decide +kernel
theorem dX5_stepped_22 : decode cX5_stepped 22 = .ok (.iload_n 1, 1) := by decide +kernel
theorem dX5_stepped_23 : decode cX5_stepped 23 = .ok (.invokevirtual 118, 3) := by decide +kernel
theorem dX5_stepped_26 : decode cX5_stepped 26 = .ok (.aload_n 0, 1) := by decide +kernel
theorem dX5_stepped_27 : decode cX5_stepped 27 = .ok (.invokevirtual 121, 3) := by decide +kernel
theorem dX5_stepped_30 : decode cX5_stepped 30 = .ok (.ireturn, 1) := by decide +kernel
theorem dX5_kindOf_0 : decode cX5_kindOf 0 = .ok (.aload_n 0, 1) := by decide +kernel
theorem dX5_kindOf_1 : decode cX5_kindOf 1 = .ok (.getfield 35, 3) := by decide +kernel
theorem dX5_kindOf_4 : decode cX5_kindOf 4 = .ok (.iload_n 1, 1) := by decide +kernel
theorem dX5_kindOf_5 : decode cX5_kindOf 5 = .ok (.iaload, 1) := by decide +kernel
theorem dX5_kindOf_6 : decode cX5_kindOf 6 = .ok (.iload_n 1, 1) := by decide +kernel
theorem dX5_kindOf_7 : decode cX5_kindOf 7 = .ok (.if_icmp .ne 7, 3) := by decide +kernel
theorem dX5_kindOf_10 : decode cX5_kindOf 10 = .ok (.iconst 2, 1) := by decide +kernel
theorem dX5_kindOf_11 : decode cX5_kindOf 11 = .ok (.goto 30, 3) := by decide +kernel
theorem dX5_kindOf_14 : decode cX5_kindOf 14 = .ok (.aload_n 0, 1) := by decide +kernel
theorem dX5_kindOf_15 : decode cX5_kindOf 15 = .ok (.getfield 41, 3) := by decide +kernel
theorem dX5_kindOf_18 : decode cX5_kindOf 18 = .ok (.iload_n 1, 1) := by decide +kernel
theorem dX5_kindOf_19 : decode cX5_kindOf 19 = .ok (.iaload, 1) := by decide +kernel
theorem dX5_kindOf_20 : decode cX5_kindOf 20 = .ok (.ifCond .ne 7, 3) := by decide +kernel
theorem dX5_kindOf_23 : decode cX5_kindOf 23 = .ok (.iconst 1, 1) := by decide +kernel
theorem dX5_kindOf_24 : decode cX5_kindOf 24 = .ok (.goto 17, 3) := by decide +kernel
theorem dX5_kindOf_27 : decode cX5_kindOf 27 = .ok (.aload_n 0, 1) := by decide +kernel
theorem dX5_kindOf_28 : decode cX5_kindOf 28 = .ok (.getfield 38, 3) := by decide +kernel
theorem dX5_kindOf_31 : decode cX5_kindOf 31 = .ok (.iload_n 1, 1) := by decide +kernel
theorem dX5_kindOf_32 : decode cX5_kindOf 32 = .ok (.iaload, 1) := by decide +kernel
theorem dX5_kindOf_33 : decode cX5_kindOf 33 = .ok (.ifCond .ne 7, 3) := by decide +kernel
theorem dX5_kindOf_36 : decode cX5_kindOf 36 = .ok (.iconst 3, 1) := by decide +kernel
theorem dX5_kindOf_37 : decode cX5_kindOf 37 = .ok (.goto 4, 3) := by decide +kernel
theorem dX5_kindOf_40 : decode cX5_kindOf 40 = .ok (.iconst 0, 1) := by decide +kernel
theorem dX5_kindOf_41 : decode cX5_kindOf 41 = .ok (.ireturn, 1) := by decide +kernel
theorem dX5_kind_0 : decode cX5_kind 0 = .ok (.aload_n 0, 1) := by decide +kernel
theorem dX5_kind_1 : decode cX5_kind 1 = .ok (.iload_n 1, 1) := by decide +kernel
theorem dX5_kind_2 : decode cX5_kind 2 = .ok (.invokevirtual 143, 3) := by decide +kernel
theorem dX5_kind_5 : decode cX5_kind 5 = .ok (.istore_n 2, 1) := by decide +kernel
theorem dX5_kind_6 : decode cX5_kind 6 = .ok (.iload_n 2, 1) := by decide +kernel
theorem dX5_kind_7 : decode cX5_kind 7 = .ok (.ifCond .ge 7, 3) := by decide +kernel
theorem dX5_kind_10 : decode cX5_kind 10 = .ok (.iload_n 2, 1) := by decide +kernel
theorem dX5_kind_11 : decode cX5_kind 11 = .ok (.goto 8, 3) := by decide +kernel
theorem dX5_kind_14 : decode cX5_kind 14 = .ok (.aload_n 0, 1) := by decide +kernel
theorem dX5_kind_15 : decode cX5_kind 15 = .ok (.iload_n 2, 1) := by decide +kernel
theorem dX5_kind_16 : decode cX5_kind 16 = .ok (.invokevirtual 146, 3) := by decide +kernel
theorem dX5_kind_19 : decode cX5_kind 19 = .ok (.ireturn, 1) := by decide +kernel
theorem dX5_mark_0 : decode cX5_mark 0 = .ok (.iload_n 2, 1) := by decide +kernel
theorem dX5_mark_1 : decode cX5_mark 1 = .ok (.iconst 1, 1) := by decide +kernel
theorem dX5_mark_2 : decode cX5_mark 2 = .ok (.iconst 3, 1) := by decide +kernel
theorem dX5_mark_3 : decode cX5_mark 3 = .ok (.invokestatic 69, 3) := by decide +kernel
theorem dX5_mark_6 : decode cX5_mark 6 = .ok (.ifCond .ne 5, 3) := by decide +kernel
theorem dX5_mark_9 : decode cX5_mark 9 = .ok (.iconst (-1), 1) := by decide +kernel
theorem dX5_mark_10 : decode cX5_mark 10 = .ok (.ireturn, 1) := by decide +kernel
theorem dX5_mark_11 : decode cX5_mark 11 = .ok (.aload_n 0, 1) := by decide +kernel
theorem dX5_mark_12 : decode cX5_mark 12 = .ok (.iload_n 1, 1) := by decide +kernel
theorem dX5_mark_13 : decode cX5_mark 13 = .ok (.invokevirtual 143, 3) := by decide +kernel
theorem dX5_mark_16 : decode cX5_mark 16 = .ok (.istore_n 3, 1) := by decide +kernel
theorem dX5_mark_17 : decode cX5_mark 17 = .ok (.iload_n 3, 1) := by decide +kernel
theorem dX5_mark_18 : decode cX5_mark 18 = .ok (.ifCond .ge 5, 3) := by decide +kernel
theorem dX5_mark_21 : decode cX5_mark 21 = .ok (.iload_n 3, 1) := by decide +kernel
theorem dX5_mark_22 : decode cX5_mark 22 = .ok (.ireturn, 1) := by decide +kernel
theorem dX5_mark_23 : decode cX5_mark 23 = .ok (.aload_n 0, 1) := by decide +kernel
theorem dX5_mark_24 : decode cX5_mark 24 = .ok (.iload_n 3, 1) := by decide +kernel
theorem dX5_mark_25 : decode cX5_mark 25 = .ok (.invokevirtual 146, 3) := by decide +kernel
theorem dX5_mark_28 : decode cX5_mark 28 = .ok (.istore 4, 2) := by decide +kernel
theorem dX5_mark_30 : decode cX5_mark 30 = .ok (.iload 4, 2) := by decide +kernel
theorem dX5_mark_32 : decode cX5_mark 32 = .ok (.iload_n 2, 1) := by decide +kernel
theorem dX5_mark_33 : decode cX5_mark 33 = .ok (.if_icmp .eq 20, 3) := by decide +kernel
theorem dX5_mark_36 : decode cX5_mark 36 = .ok (.iload_n 2, 1) := by decide +kernel
theorem dX5_mark_37 : decode cX5_mark 37 = .ok (.iconst 1, 1) := by decide +kernel
theorem dX5_mark_38 : decode cX5_mark 38 = .ok (.if_icmp .ne 9, 3) := by decide +kernel
theorem dX5_mark_41 : decode cX5_mark 41 = .ok (.iload 4, 2) := by decide +kernel
theorem dX5_mark_43 : decode cX5_mark 43 = .ok (.iconst 2, 1) := by decide +kernel
theorem dX5_mark_44 : decode cX5_mark 44 = .ok (.if_icmp .eq 9, 3) := by decide +kernel
theorem dX5_mark_47 : decode cX5_mark 47 = .ok (.aload_n 0, 1) := by decide +kernel
theorem dX5_mark_48 : decode cX5_mark 48 = .ok (.iconst 3, 1) := by decide +kernel
theorem dX5_mark_49 : decode cX5_mark 49 = .ok (.invokevirtual 77, 3) := by decide +kernel
theorem dX5_mark_52 : decode cX5_mark 52 = .ok (.ireturn, 1) := by decide +kernel
theorem dX5_mark_53 : decode cX5_mark 53 = .ok (.iload_n 2, 1) := by decide +kernel
theorem dX5_mark_54 : decode cX5_mark 54 = .ok (.iconst 1, 1) := by decide +kernel
theorem dX5_mark_55 : decode cX5_mark 55 = .ok (.if_icmp .ne 12, 3) := by decide +kernel
theorem dX5_mark_58 : decode cX5_mark 58 = .ok (.aload_n 0, 1) := by decide +kernel
theorem dX5_mark_59 : decode cX5_mark 59 = .ok (.getfield 44, 3) := by decide +kernel
theorem dX5_mark_62 : decode cX5_mark 62 = .ok (.iload_n 3, 1) := by decide +kernel
theorem dX5_mark_63 : decode cX5_mark 63 = .ok (.iaload, 1) := by decide +kernel
theorem dX5_mark_64 : decode cX5_mark 64 = .ok (.goto 18, 3) := by decide +kernel
theorem dX5_mark_67 : decode cX5_mark 67 = .ok (.iload_n 2, 1) := by decide +kernel
theorem dX5_mark_68 : decode cX5_mark 68 = .ok (.iconst 2, 1) := by decide +kernel
theorem dX5_mark_69 : decode cX5_mark 69 = .ok (.if_icmp .ne 7, 3) := by decide +kernel
theorem dX5_mark_72 : decode cX5_mark 72 = .ok (.iload_n 3, 1) := by decide +kernel
theorem dX5_mark_73 : decode cX5_mark 73 = .ok (.goto 9, 3) := by decide +kernel
theorem dX5_mark_76 : decode cX5_mark 76 = .ok (.aload_n 0, 1) := by decide +kernel
theorem dX5_mark_77 : decode cX5_mark 77 = .ok (.getfield 41, 3) := by decide +kernel
theorem dX5_mark_80 : decode cX5_mark 80 = .ok (.iload_n 3, 1) := by decide +kernel
theorem dX5_mark_81 : decode cX5_mark 81 = .ok (.iaload, 1) := by decide +kernel
theorem dX5_mark_82 : decode cX5_mark 82 = .ok (.ireturn, 1) := by decide +kernel
theorem dX5_mean_0 : decode cX5_mean 0 = .ok (.aload_n 0, 1) := by decide +kernel
theorem dX5_mean_1 : decode cX5_mean 1 = .ok (.iload_n 1, 1) := by decide +kernel
theorem dX5_mean_2 : decode cX5_mean 2 = .ok (.invokevirtual 81, 3) := by decide +kernel
theorem dX5_mean_5 : decode cX5_mean 5 = .ok (.istore_n 2, 1) := by decide +kernel
theorem dX5_mean_6 : decode cX5_mean 6 = .ok (.iload_n 2, 1) := by decide +kernel
theorem dX5_mean_7 : decode cX5_mean 7 = .ok (.ifCond .ge 7, 3) := by decide +kernel
theorem dX5_mean_10 : decode cX5_mean 10 = .ok (.iload_n 2, 1) := by decide +kernel
theorem dX5_mean_11 : decode cX5_mean 11 = .ok (.goto 32, 3) := by decide +kernel
theorem dX5_mean_14 : decode cX5_mean 14 = .ok (.aload_n 0, 1) := by decide +kernel
theorem dX5_mean_15 : decode cX5_mean 15 = .ok (.getfield 13, 3) := by decide +kernel
theorem dX5_mean_18 : decode cX5_mean 18 = .ok (.iload_n 1, 1) := by decide +kernel
theorem dX5_mean_19 : decode cX5_mean 19 = .ok (.iaload, 1) := by decide +kernel
theorem dX5_mean_20 : decode cX5_mean 20 = .ok (.ifCond .ne 11, 3) := by decide +kernel
theorem dX5_mean_23 : decode cX5_mean 23 = .ok (.aload_n 0, 1) := by decide +kernel
theorem dX5_mean_24 : decode cX5_mean 24 = .ok (.iconst 4, 1) := by decide +kernel
theorem dX5_mean_25 : decode cX5_mean 25 = .ok (.invokevirtual 77, 3) := by decide +kernel
theorem dX5_mean_28 : decode cX5_mean 28 = .ok (.goto 15, 3) := by decide +kernel
theorem dX5_mean_31 : decode cX5_mean 31 = .ok (.aload_n 0, 1) := by decide +kernel
theorem dX5_mean_32 : decode cX5_mean 32 = .ok (.iload_n 1, 1) := by decide +kernel
theorem dX5_mean_33 : decode cX5_mean 33 = .ok (.invokevirtual 84, 3) := by decide +kernel
theorem dX5_mean_36 : decode cX5_mean 36 = .ok (.aload_n 0, 1) := by decide +kernel
theorem dX5_mean_37 : decode cX5_mean 37 = .ok (.getfield 13, 3) := by decide +kernel
theorem dX5_mean_40 : decode cX5_mean 40 = .ok (.iload_n 1, 1) := by decide +kernel
theorem dX5_mean_41 : decode cX5_mean 41 = .ok (.iaload, 1) := by decide +kernel
theorem dX5_mean_42 : decode cX5_mean 42 = .ok (.idiv, 1) := by decide +kernel
theorem dX5_mean_43 : decode cX5_mean 43 = .ok (.ireturn, 1) := by decide +kernel
theorem dX5_step_0 : decode cX5_step 0 = .ok (.iload_n 2, 1) := by decide +kernel
theorem dX5_step_1 : decode cX5_step 1 = .ok (.iconst 0, 1) := by decide +kernel
theorem dX5_step_2 : decode cX5_step 2 = .ok (.sipush 1000, 3) := by decide +kernel
theorem dX5_step_5 : decode cX5_step 5 = .ok (.invokestatic 69, 3) := by decide +kernel
theorem dX5_step_8 : decode cX5_step 8 = .ok (.ifCond .ne 5, 3) := by decide +kernel
theorem dX5_step_11 : decode cX5_step 11 = .ok (.iconst (-1), 1) := by decide +kernel
theorem dX5_step_12 : decode cX5_step 12 = .ok (.ireturn, 1) := by decide +kernel
theorem dX5_step_13 : decode cX5_step 13 = .ok (.aload_n 0, 1) := by decide +kernel
theorem dX5_step_14 : decode cX5_step 14 = .ok (.iload_n 1, 1) := by decide +kernel
theorem dX5_step_15 : decode cX5_step 15 = .ok (.invokevirtual 81, 3) := by decide +kernel
theorem dX5_step_18 : decode cX5_step 18 = .ok (.istore_n 3, 1) := by decide +kernel
theorem dX5_step_19 : decode cX5_step 19 = .ok (.iload_n 3, 1) := by decide +kernel
theorem dX5_step_20 : decode cX5_step 20 = .ok (.ifCond .ge 5, 3) := by decide +kernel
theorem dX5_step_23 : decode cX5_step 23 = .ok (.iload_n 3, 1) := by decide +kernel
theorem dX5_step_24 : decode cX5_step 24 = .ok (.ireturn, 1) := by decide +kernel
theorem dX5_step_25 : decode cX5_step 25 = .ok (.aload_n 0, 1) := by decide +kernel
theorem dX5_step_26 : decode cX5_step 26 = .ok (.iload_n 1, 1) := by decide +kernel
theorem dX5_step_27 : decode cX5_step 27 = .ok (.invokevirtual 118, 3) := by decide +kernel
theorem dX5_step_30 : decode cX5_step 30 = .ok (.iconst 0, 1) := by decide +kernel
theorem dX5_step_31 : decode cX5_step 31 = .ok (.istore 4, 2) := by decide +kernel
theorem dX5_step_33 : decode cX5_step 33 = .ok (.iload 4, 2) := by decide +kernel
theorem dX5_step_35 : decode cX5_step 35 = .ok (.iload_n 2, 1) := by decide +kernel
theorem dX5_step_36 : decode cX5_step 36 = .ok (.if_icmp .ge 13, 3) := by decide +kernel
theorem dX5_step_39 : decode cX5_step 39 = .ok (.aload_n 0, 1) := by decide +kernel
theorem dX5_step_40 : decode cX5_step 40 = .ok (.invokevirtual 134, 3) := by decide +kernel
theorem dX5_step_43 : decode cX5_step 43 = .ok (.iinc 4 1, 3) := by decide +kernel
theorem dX5_step_46 : decode cX5_step 46 = .ok (.goto (-13), 3) := by decide +kernel
theorem dX5_step_49 : decode cX5_step 49 = .ok (.aload_n 0, 1) := by decide +kernel
theorem dX5_step_50 : decode cX5_step 50 = .ok (.iload_n 1, 1) := by decide +kernel
theorem dX5_step_51 : decode cX5_step 51 = .ok (.invokevirtual 131, 3) := by decide +kernel
theorem dX5_step_54 : decode cX5_step 54 = .ok (.aload_n 0, 1) := by decide +kernel
theorem dX5_step_55 : decode cX5_step 55 = .ok (.getfield 94, 3) := by decide +kernel
theorem dX5_step_58 : decode cX5_step 58 = .ok (.ireturn, 1) := by decide +kernel
theorem dX5_tail_0 : decode cX5_tail 0 = .ok (.aload_n 0, 1) := by decide +kernel
theorem dX5_tail_1 : decode cX5_tail 1 = .ok (.iload_n 1, 1) := by decide +kernel
theorem dX5_tail_2 : decode cX5_tail 2 = .ok (.invokevirtual 143, 3) := by decide +kernel
theorem dX5_tail_5 : decode cX5_tail 5 = .ok (.istore_n 2, 1) := by decide +kernel
theorem dX5_tail_6 : decode cX5_tail 6 = .ok (.iload_n 2, 1) := by decide +kernel
theorem dX5_tail_7 : decode cX5_tail 7 = .ok (.ifCond .ge 7, 3) := by decide +kernel
theorem dX5_tail_10 : decode cX5_tail 10 = .ok (.iload_n 2, 1) := by decide +kernel
theorem dX5_tail_11 : decode cX5_tail 11 = .ok (.goto 9, 3) := by decide +kernel
theorem dX5_tail_14 : decode cX5_tail 14 = .ok (.aload_n 0, 1) := by decide +kernel
theorem dX5_tail_15 : decode cX5_tail 15 = .ok (.getfield 41, 3) := by decide +kernel
theorem dX5_tail_18 : decode cX5_tail 18 = .ok (.iload_n 2, 1) := by decide +kernel
theorem dX5_tail_19 : decode cX5_tail 19 = .ok (.iaload, 1) := by decide +kernel
theorem dX5_tail_20 : decode cX5_tail 20 = .ok (.ireturn, 1) := by decide +kernel
theorem dX5_beat_0 : decode cX5_beat 0 = .ok (.aload_n 0, 1) := by decide +kernel
theorem dX5_beat_1 : decode cX5_beat 1 = .ok (.iload_n 1, 1) := by decide +kernel
theorem dX5_beat_2 : decode cX5_beat 2 = .ok (.invokevirtual 143, 3) := by decide +kernel
theorem dX5_beat_5 : decode cX5_beat 5 = .ok (.istore_n 2, 1) := by decide +kernel
theorem dX5_beat_6 : decode cX5_beat 6 = .ok (.iload_n 2, 1) := by decide +kernel
theorem dX5_beat_7 : decode cX5_beat 7 = .ok (.ifCond .ge 7, 3) := by decide +kernel
theorem dX5_beat_10 : decode cX5_beat 10 = .ok (.iload_n 2, 1) := by decide +kernel
theorem dX5_beat_11 : decode cX5_beat 11 = .ok (.goto 9, 3) := by decide +kernel
theorem dX5_beat_14 : decode cX5_beat 14 = .ok (.aload_n 0, 1) := by decide +kernel
theorem dX5_beat_15 : decode cX5_beat 15 = .ok (.getfield 44, 3) := by decide +kernel
theorem dX5_beat_18 : decode cX5_beat 18 = .ok (.iload_n 2, 1) := by decide +kernel
theorem dX5_beat_19 : decode cX5_beat 19 = .ok (.iaload, 1) := by decide +kernel
theorem dX5_beat_20 : decode cX5_beat 20 = .ok (.ireturn, 1) := by decide +kernel
theorem dX5_leader_0 : decode cX5_leader 0 = .ok (.aload_n 0, 1) := by decide +kernel
theorem dX5_leader_1 : decode cX5_leader 1 = .ok (.iload_n 1, 1) := by decide +kernel
theorem dX5_leader_2 : decode cX5_leader 2 = .ok (.invokevirtual 143, 3) := by decide +kernel
theorem dX5_leader_5 : decode cX5_leader 5 = .ok (.istore_n 2, 1) := by decide +kernel
theorem dX5_leader_6 : decode cX5_leader 6 = .ok (.iload_n 2, 1) := by decide +kernel
theorem dX5_leader_7 : decode cX5_leader 7 = .ok (.ifCond .ge 7, 3) := by decide +kernel
theorem dX5_leader_10 : decode cX5_leader 10 = .ok (.iload_n 2, 1) := by decide +kernel
theorem dX5_leader_11 : decode cX5_leader 11 = .ok (.goto 9, 3) := by decide +kernel
theorem dX5_leader_14 : decode cX5_leader 14 = .ok (.aload_n 0, 1) := by decide +kernel
theorem dX5_leader_15 : decode cX5_leader 15 = .ok (.getfield 47, 3) := by decide +kernel
theorem dX5_leader_18 : decode cX5_leader 18 = .ok (.iload_n 2, 1) := by decide +kernel
theorem dX5_leader_19 : decode cX5_leader 19 = .ok (.iaload, 1) := by decide +kernel
theorem dX5_leader_20 : decode cX5_leader 20 = .ok (.ireturn, 1) := by decide +kernel
theorem dX5_rounds_0 : decode cX5_rounds 0 = .ok (.iload_n 1, 1) := by decide +kernel
theorem dX5_rounds_1 : decode cX5_rounds 1 = .ok (.iconst 0, 1) := by decide +kernel
theorem dX5_rounds_2 : decode cX5_rounds 2 = .ok (.bipush 18, 2) := by decide +kernel
theorem dX5_rounds_4 : decode cX5_rounds 4 = .ok (.invokestatic 69, 3) := by decide +kernel
theorem dX5_rounds_7 : decode cX5_rounds 7 = .ok (.ifCond .eq 12, 3) := by decide +kernel
theorem dX5_rounds_10 : decode cX5_rounds 10 = .ok (.iload_n 2, 1) := by decide +kernel
theorem dX5_rounds_11 : decode cX5_rounds 11 = .ok (.iconst 0, 1) := by decide +kernel
theorem dX5_rounds_12 : decode cX5_rounds 12 = .ok (.iconst 4, 1) := by decide +kernel
theorem dX5_rounds_13 : decode cX5_rounds 13 = .ok (.invokestatic 69, 3) := by decide +kernel
theorem dX5_rounds_16 : decode cX5_rounds 16 = .ok (.ifCond .ne 5, 3) := by decide +kernel
theorem dX5_rounds_19 : decode cX5_rounds 19 = .ok (.iconst (-1), 1) := by decide +kernel
theorem dX5_rounds_20 : decode cX5_rounds 20 = .ok (.ireturn, 1) := by decide +kernel
theorem dX5_rounds_21 : decode cX5_rounds 21 = .ok (.aload_n 0, 1) := by decide +kernel
theorem dX5_rounds_22 : decode cX5_rounds 22 = .ok (.iload_n 1, 1) := by decide +kernel
theorem dX5_rounds_23 : decode cX5_rounds 23 = .ok (.invokevirtual 140, 3) := by decide +kernel
theorem dX5_rounds_26 : decode cX5_rounds 26 = .ok (.iconst 0, 1) := by decide +kernel
theorem dX5_rounds_27 : decode cX5_rounds 27 = .ok (.istore_n 3, 1) := by decide +kernel
theorem dX5_rounds_28 : decode cX5_rounds 28 = .ok (.iconst 0, 1) := by decide +kernel
theorem dX5_rounds_29 : decode cX5_rounds 29 = .ok (.istore 4, 2) := by decide +kernel
theorem dX5_rounds_31 : decode cX5_rounds 31 = .ok (.iconst 0, 1) := by decide +kernel
theorem dX5_rounds_32 : decode cX5_rounds 32 = .ok (.istore 5, 2) := by decide +kernel
theorem dX5_rounds_34 : decode cX5_rounds 34 = .ok (.iload 5, 2) := by decide +kernel
theorem dX5_rounds_36 : decode cX5_rounds 36 = .ok (.aload_n 0, 1) := by decide +kernel
theorem dX5_rounds_37 : decode cX5_rounds 37 = .ok (.getfield 104, 3) := by decide +kernel
theorem dX5_rounds_40 : decode cX5_rounds 40 = .ok (.if_icmp .ge 103, 3) := by decide +kernel
theorem dX5_rounds_43 : decode cX5_rounds 43 = .ok (.iload_n 3, 1) := by decide +kernel
theorem dX5_rounds_44 : decode cX5_rounds 44 = .ok (.iload_n 2, 1) := by decide +kernel
theorem dX5_rounds_45 : decode cX5_rounds 45 = .ok (.ifCond .ne 15, 3) := by decide +kernel
theorem dX5_rounds_48 : decode cX5_rounds 48 = .ok (.aload_n 0, 1) := by decide +kernel
theorem dX5_rounds_49 : decode cX5_rounds 49 = .ok (.getfield 47, 3) := by decide +kernel
theorem dX5_rounds_52 : decode cX5_rounds 52 = .ok (.iload 5, 2) := by decide +kernel
theorem dX5_rounds_54 : decode cX5_rounds 54 = .ok (.iaload, 1) := by decide +kernel
theorem dX5_rounds_55 : decode cX5_rounds 55 = .ok (.iload 5, 2) := by decide +kernel
theorem dX5_rounds_57 : decode cX5_rounds 57 = .ok (.if_icmp .eq 33, 3) := by decide +kernel
theorem dX5_rounds_60 : decode cX5_rounds 60 = .ok (.iload_n 2, 1) := by decide +kernel
theorem dX5_rounds_61 : decode cX5_rounds 61 = .ok (.iconst 1, 1) := by decide +kernel
theorem dX5_rounds_62 : decode cX5_rounds 62 = .ok (.if_icmp .ne 13, 3) := by decide +kernel
theorem dX5_rounds_65 : decode cX5_rounds 65 = .ok (.aload_n 0, 1) := by decide +kernel
theorem dX5_rounds_66 : decode cX5_rounds 66 = .ok (.getfield 41, 3) := by decide +kernel
theorem dX5_rounds_69 : decode cX5_rounds 69 = .ok (.iload 5, 2) := by decide +kernel
theorem dX5_rounds_71 : decode cX5_rounds 71 = .ok (.iaload, 1) := by decide +kernel
theorem dX5_rounds_72 : decode cX5_rounds 72 = .ok (.ifCond .eq 18, 3) := by decide +kernel
theorem dX5_rounds_75 : decode cX5_rounds 75 = .ok (.iload_n 2, 1) := by decide +kernel
theorem dX5_rounds_76 : decode cX5_rounds 76 = .ok (.iconst 3, 1) := by decide +kernel
theorem dX5_rounds_77 : decode cX5_rounds 77 = .ok (.if_icmp .ne 17, 3) := by decide +kernel
theorem dX5_rounds_80 : decode cX5_rounds 80 = .ok (.aload_n 0, 1) := by decide +kernel
theorem dX5_rounds_81 : decode cX5_rounds 81 = .ok (.getfield 38, 3) := by decide +kernel
theorem dX5_rounds_84 : decode cX5_rounds 84 = .ok (.iload 5, 2) := by decide +kernel
theorem dX5_rounds_86 : decode cX5_rounds 86 = .ok (.iaload, 1) := by decide +kernel
theorem dX5_rounds_87 : decode cX5_rounds 87 = .ok (.ifCond .ne 7, 3) := by decide +kernel
theorem dX5_rounds_90 : decode cX5_rounds 90 = .ok (.iconst 1, 1) := by decide +kernel
theorem dX5_rounds_91 : decode cX5_rounds 91 = .ok (.goto 4, 3) := by decide +kernel
theorem dX5_rounds_94 : decode cX5_rounds 94 = .ok (.iconst 0, 1) := by decide +kernel
theorem dX5_rounds_95 : decode cX5_rounds 95 = .ok (.iadd, 1) := by decide +kernel
theorem dX5_rounds_96 : decode cX5_rounds 96 = .ok (.istore_n 3, 1) := by decide +kernel
theorem dX5_rounds_97 : decode cX5_rounds 97 = .ok (.iload_n 2, 1) := by decide +kernel
theorem dX5_rounds_98 : decode cX5_rounds 98 = .ok (.iconst 2, 1) := by decide +kernel
theorem dX5_rounds_99 : decode cX5_rounds 99 = .ok (.if_icmp .ne 13, 3) := by decide +kernel
theorem dX5_rounds_102 : decode cX5_rounds 102 = .ok (.aload_n 0, 1) := by decide +kernel
theorem dX5_rounds_103 : decode cX5_rounds 103 = .ok (.getfield 41, 3) := by decide +kernel
theorem dX5_rounds_106 : decode cX5_rounds 106 = .ok (.iload 5, 2) := by decide +kernel
theorem dX5_rounds_108 : decode cX5_rounds 108 = .ok (.iaload, 1) := by decide +kernel
theorem dX5_rounds_109 : decode cX5_rounds 109 = .ok (.goto 10, 3) := by decide +kernel
theorem dX5_rounds_112 : decode cX5_rounds 112 = .ok (.aload_n 0, 1) := by decide +kernel
theorem dX5_rounds_113 : decode cX5_rounds 113 = .ok (.getfield 44, 3) := by decide +kernel
theorem dX5_rounds_116 : decode cX5_rounds 116 = .ok (.iload 5, 2) := by decide +kernel
theorem dX5_rounds_118 : decode cX5_rounds 118 = .ok (.iaload, 1) := by decide +kernel
theorem dX5_rounds_119 : decode cX5_rounds 119 = .ok (.istore 6, 2) := by decide +kernel
theorem dX5_rounds_121 : decode cX5_rounds 121 = .ok (.iload 6, 2) := by decide +kernel
theorem dX5_rounds_123 : decode cX5_rounds 123 = .ok (.iload 4, 2) := by decide +kernel
theorem dX5_rounds_125 : decode cX5_rounds 125 = .ok (.if_icmp .le 8, 3) := by decide +kernel
theorem dX5_rounds_128 : decode cX5_rounds 128 = .ok (.iload 6, 2) := by decide +kernel
theorem dX5_rounds_130 : decode cX5_rounds 130 = .ok (.goto 5, 3) := by decide +kernel
theorem dX5_rounds_133 : decode cX5_rounds 133 = .ok (.iload 4, 2) := by decide +kernel
theorem dX5_rounds_135 : decode cX5_rounds 135 = .ok (.istore 4, 2) := by decide +kernel
theorem dX5_rounds_137 : decode cX5_rounds 137 = .ok (.iinc 5 1, 3) := by decide +kernel
theorem dX5_rounds_140 : decode cX5_rounds 140 = .ok (.goto (-106), 3) := by decide +kernel
theorem dX5_rounds_143 : decode cX5_rounds 143 = .ok (.iload_n 2, 1) := by decide +kernel
theorem dX5_rounds_144 : decode cX5_rounds 144 = .ok (.iconst 2, 1) := by decide +kernel
theorem dX5_rounds_145 : decode cX5_rounds 145 = .ok (.if_icmp .eq 8, 3) := by decide +kernel
theorem dX5_rounds_148 : decode cX5_rounds 148 = .ok (.iload_n 2, 1) := by decide +kernel
theorem dX5_rounds_149 : decode cX5_rounds 149 = .ok (.iconst 4, 1) := by decide +kernel
theorem dX5_rounds_150 : decode cX5_rounds 150 = .ok (.if_icmp .ne 8, 3) := by decide +kernel
theorem dX5_rounds_153 : decode cX5_rounds 153 = .ok (.iload 4, 2) := by decide +kernel
theorem dX5_rounds_155 : decode cX5_rounds 155 = .ok (.goto 4, 3) := by decide +kernel
theorem dX5_rounds_158 : decode cX5_rounds 158 = .ok (.iload_n 3, 1) := by decide +kernel
theorem dX5_rounds_159 : decode cX5_rounds 159 = .ok (.ireturn, 1) := by decide +kernel
theorem dX5_ring_0 : decode cX5_ring 0 = .ok (.iload_n 1, 1) := by decide +kernel
theorem dX5_ring_1 : decode cX5_ring 1 = .ok (.iconst 0, 1) := by decide +kernel
theorem dX5_ring_2 : decode cX5_ring 2 = .ok (.bipush 18, 2) := by decide +kernel
theorem dX5_ring_4 : decode cX5_ring 4 = .ok (.invokestatic 69, 3) := by decide +kernel
theorem dX5_ring_7 : decode cX5_ring 7 = .ok (.ifCond .ne 5, 3) := by decide +kernel
theorem dX5_ring_10 : decode cX5_ring 10 = .ok (.iconst (-1), 1) := by decide +kernel
theorem dX5_ring_11 : decode cX5_ring 11 = .ok (.ireturn, 1) := by decide +kernel
theorem dX5_ring_12 : decode cX5_ring 12 = .ok (.aload_n 0, 1) := by decide +kernel
theorem dX5_ring_13 : decode cX5_ring 13 = .ok (.iload_n 1, 1) := by decide +kernel
theorem dX5_ring_14 : decode cX5_ring 14 = .ok (.invokevirtual 140, 3) := by decide +kernel
theorem dX5_ring_17 : decode cX5_ring 17 = .ok (.iload_n 2, 1) := by decide +kernel
theorem dX5_ring_18 : decode cX5_ring 18 = .ok (.istore_n 3, 1) := by decide +kernel
theorem dX5_ring_19 : decode cX5_ring 19 = .ok (.iconst 0, 1) := by decide +kernel
theorem dX5_ring_20 : decode cX5_ring 20 = .ok (.istore 4, 2) := by decide +kernel
theorem dX5_ring_22 : decode cX5_ring 22 = .ok (.iload 4, 2) := by decide +kernel
theorem dX5_ring_24 : decode cX5_ring 24 = .ok (.aload_n 0, 1) := by decide +kernel
theorem dX5_ring_25 : decode cX5_ring 25 = .ok (.getfield 104, 3) := by decide +kernel
theorem dX5_ring_28 : decode cX5_ring 28 = .ok (.if_icmp .ge 35, 3) := by decide +kernel
theorem dX5_ring_31 : decode cX5_ring 31 = .ok (.iload_n 3, 1) := by decide +kernel
theorem dX5_ring_32 : decode cX5_ring 32 = .ok (.ifCond .lt 31, 3) := by decide +kernel
theorem dX5_ring_35 : decode cX5_ring 35 = .ok (.aload_n 0, 1) := by decide +kernel
theorem dX5_ring_36 : decode cX5_ring 36 = .ok (.getfield 47, 3) := by decide +kernel
theorem dX5_ring_39 : decode cX5_ring 39 = .ok (.iload 4, 2) := by decide +kernel
theorem dX5_ring_41 : decode cX5_ring 41 = .ok (.iaload, 1) := by decide +kernel
theorem dX5_ring_42 : decode cX5_ring 42 = .ok (.iload 4, 2) := by decide +kernel
theorem dX5_ring_44 : decode cX5_ring 44 = .ok (.if_icmp .ne 13, 3) := by decide +kernel
theorem dX5_ring_47 : decode cX5_ring 47 = .ok (.iload_n 3, 1) := by decide +kernel
theorem dX5_ring_48 : decode cX5_ring 48 = .ok (.ifCond .ne 6, 3) := by decide +kernel
theorem dX5_ring_51 : decode cX5_ring 51 = .ok (.iload 4, 2) := by decide +kernel
theorem dX5_ring_53 : decode cX5_ring 53 = .ok (.ireturn, 1) := by decide +kernel
theorem dX5_ring_54 : decode cX5_ring 54 = .ok (.iinc 3 (-1), 3) := by decide +kernel
theorem dX5_ring_57 : decode cX5_ring 57 = .ok (.iinc 4 1, 3) := by decide +kernel
theorem dX5_ring_60 : decode cX5_ring 60 = .ok (.goto (-38), 3) := by decide +kernel
theorem dX5_ring_63 : decode cX5_ring 63 = .ok (.bipush (-9), 2) := by decide +kernel
theorem dX5_ring_65 : decode cX5_ring 65 = .ok (.ireturn, 1) := by decide +kernel
theorem dX5_from_0 : decode cX5_from 0 = .ok (.aload_n 0, 1) := by decide +kernel
theorem dX5_from_1 : decode cX5_from 1 = .ok (.iload_n 1, 1) := by decide +kernel
theorem dX5_from_2 : decode cX5_from 2 = .ok (.invokevirtual 143, 3) := by decide +kernel
theorem dX5_from_5 : decode cX5_from 5 = .ok (.istore_n 2, 1) := by decide +kernel
theorem dX5_from_6 : decode cX5_from 6 = .ok (.iload_n 2, 1) := by decide +kernel
theorem dX5_from_7 : decode cX5_from 7 = .ok (.ifCond .ge 7, 3) := by decide +kernel
theorem dX5_from_10 : decode cX5_from 10 = .ok (.iload_n 2, 1) := by decide +kernel
theorem dX5_from_11 : decode cX5_from 11 = .ok (.goto 9, 3) := by decide +kernel
theorem dX5_from_14 : decode cX5_from 14 = .ok (.aload_n 0, 1) := by decide +kernel
theorem dX5_from_15 : decode cX5_from 15 = .ok (.getfield 38, 3) := by decide +kernel
theorem dX5_from_18 : decode cX5_from 18 = .ok (.iload_n 2, 1) := by decide +kernel
theorem dX5_from_19 : decode cX5_from 19 = .ok (.iaload, 1) := by decide +kernel
theorem dX5_from_20 : decode cX5_from 20 = .ok (.ireturn, 1) := by decide +kernel
theorem dX5_fromAt_0 : decode cX5_fromAt 0 = .ok (.aload_n 0, 1) := by decide +kernel
theorem dX5_fromAt_1 : decode cX5_fromAt 1 = .ok (.iload_n 1, 1) := by decide +kernel
theorem dX5_fromAt_2 : decode cX5_fromAt 2 = .ok (.invokevirtual 143, 3) := by decide +kernel
theorem dX5_fromAt_5 : decode cX5_fromAt 5 = .ok (.istore_n 3, 1) := by decide +kernel
theorem dX5_fromAt_6 : decode cX5_fromAt 6 = .ok (.iload_n 3, 1) := by decide +kernel
theorem dX5_fromAt_7 : decode cX5_fromAt 7 = .ok (.ifCond .ge 5, 3) := by decide +kernel
theorem dX5_fromAt_10 : decode cX5_fromAt 10 = .ok (.iload_n 3, 1) := by decide +kernel
theorem dX5_fromAt_11 : decode cX5_fromAt 11 = .ok (.ireturn, 1) := by decide +kernel
theorem dX5_fromAt_12 : decode cX5_fromAt 12 = .ok (.iload_n 2, 1) := by decide +kernel
theorem dX5_fromAt_13 : decode cX5_fromAt 13 = .ok (.istore 4, 2) := by decide +kernel
theorem dX5_fromAt_15 : decode cX5_fromAt 15 = .ok (.iconst 0, 1) := by decide +kernel
theorem dX5_fromAt_16 : decode cX5_fromAt 16 = .ok (.istore 5, 2) := by decide +kernel
theorem dX5_fromAt_18 : decode cX5_fromAt 18 = .ok (.iload 5, 2) := by decide +kernel
theorem dX5_fromAt_20 : decode cX5_fromAt 20 = .ok (.aload_n 0, 1) := by decide +kernel
theorem dX5_fromAt_21 : decode cX5_fromAt 21 = .ok (.getfield 104, 3) := by decide +kernel
theorem dX5_fromAt_24 : decode cX5_fromAt 24 = .ok (.if_icmp .ge 36, 3) := by decide +kernel
theorem dX5_fromAt_27 : decode cX5_fromAt 27 = .ok (.iload 4, 2) := by decide +kernel
theorem dX5_fromAt_29 : decode cX5_fromAt 29 = .ok (.ifCond .lt 31, 3) := by decide +kernel
theorem dX5_fromAt_32 : decode cX5_fromAt 32 = .ok (.aload_n 0, 1) := by decide +kernel
theorem dX5_fromAt_33 : decode cX5_fromAt 33 = .ok (.getfield 35, 3) := by decide +kernel
theorem dX5_fromAt_36 : decode cX5_fromAt 36 = .ok (.iload 5, 2) := by decide +kernel
theorem dX5_fromAt_38 : decode cX5_fromAt 38 = .ok (.iaload, 1) := by decide +kernel
theorem dX5_fromAt_39 : decode cX5_fromAt 39 = .ok (.iload_n 3, 1) := by decide +kernel
theorem dX5_fromAt_40 : decode cX5_fromAt 40 = .ok (.if_icmp .ne 14, 3) := by decide +kernel
theorem dX5_fromAt_43 : decode cX5_fromAt 43 = .ok (.iload 4, 2) := by decide +kernel
theorem dX5_fromAt_45 : decode cX5_fromAt 45 = .ok (.ifCond .ne 6, 3) := by decide +kernel
theorem dX5_fromAt_48 : decode cX5_fromAt 48 = .ok (.iload 5, 2) := by decide +kernel
theorem dX5_fromAt_50 : decode cX5_fromAt 50 = .ok (.ireturn, 1) := by decide +kernel
theorem dX5_fromAt_51 : decode cX5_fromAt 51 = .ok (.iinc 4 (-1), 3) := by decide +kernel
theorem dX5_fromAt_54 : decode cX5_fromAt 54 = .ok (.iinc 5 1, 3) := by decide +kernel
theorem dX5_fromAt_57 : decode cX5_fromAt 57 = .ok (.goto (-39), 3) := by decide +kernel
theorem dX5_fromAt_60 : decode cX5_fromAt 60 = .ok (.bipush (-9), 2) := by decide +kernel
theorem dX5_fromAt_62 : decode cX5_fromAt 62 = .ok (.ireturn, 1) := by decide +kernel
theorem dX5_steps_0 : decode cX5_steps 0 = .ok (.iload_n 1, 1) := by decide +kernel
theorem dX5_steps_1 : decode cX5_steps 1 = .ok (.invokestatic 73, 3) := by decide +kernel
theorem dX5_steps_4 : decode cX5_steps 4 = .ok (.ifCond .eq 10, 3) := by decide +kernel
theorem dX5_steps_7 : decode cX5_steps 7 = .ok (.iload_n 2, 1) := by decide +kernel
theorem dX5_steps_8 : decode cX5_steps 8 = .ok (.invokestatic 73, 3) := by decide +kernel
theorem dX5_steps_11 : decode cX5_steps 11 = .ok (.ifCond .ne 5, 3) := by decide +kernel
theorem dX5_steps_14 : decode cX5_steps 14 = .ok (.iconst (-1), 1) := by decide +kernel
theorem dX5_steps_15 : decode cX5_steps 15 = .ok (.ireturn, 1) := by decide +kernel
theorem dX5_steps_16 : decode cX5_steps 16 = .ok (.aload_n 0, 1) := by decide +kernel
theorem dX5_steps_17 : decode cX5_steps 17 = .ok (.getfield 13, 3) := by decide +kernel
theorem dX5_steps_20 : decode cX5_steps 20 = .ok (.iload_n 1, 1) := by decide +kernel
theorem dX5_steps_21 : decode cX5_steps 21 = .ok (.iaload, 1) := by decide +kernel
theorem dX5_steps_22 : decode cX5_steps 22 = .ok (.ifCond .lt 12, 3) := by decide +kernel
theorem dX5_steps_25 : decode cX5_steps 25 = .ok (.aload_n 0, 1) := by decide +kernel
theorem dX5_steps_26 : decode cX5_steps 26 = .ok (.getfield 13, 3) := by decide +kernel
theorem dX5_steps_29 : decode cX5_steps 29 = .ok (.iload_n 2, 1) := by decide +kernel
theorem dX5_steps_30 : decode cX5_steps 30 = .ok (.iaload, 1) := by decide +kernel
theorem dX5_steps_31 : decode cX5_steps 31 = .ok (.ifCond .ge 9, 3) := by decide +kernel
theorem dX5_steps_34 : decode cX5_steps 34 = .ok (.aload_n 0, 1) := by decide +kernel
theorem dX5_steps_35 : decode cX5_steps 35 = .ok (.iconst 1, 1) := by decide +kernel
theorem dX5_steps_36 : decode cX5_steps 36 = .ok (.invokevirtual 77, 3) := by decide +kernel
theorem dX5_steps_39 : decode cX5_steps 39 = .ok (.ireturn, 1) := by decide +kernel
theorem dX5_steps_40 : decode cX5_steps 40 = .ok (.aload_n 0, 1) := by decide +kernel
theorem dX5_steps_41 : decode cX5_steps 41 = .ok (.iload_n 1, 1) := by decide +kernel
theorem dX5_steps_42 : decode cX5_steps 42 = .ok (.invokevirtual 84, 3) := by decide +kernel
theorem dX5_steps_45 : decode cX5_steps 45 = .ok (.aload_n 0, 1) := by decide +kernel
theorem dX5_steps_46 : decode cX5_steps 46 = .ok (.iload_n 2, 1) := by decide +kernel
theorem dX5_steps_47 : decode cX5_steps 47 = .ok (.invokevirtual 84, 3) := by decide +kernel
theorem dX5_steps_50 : decode cX5_steps 50 = .ok (.if_icmp .eq 6, 3) := by decide +kernel
theorem dX5_steps_53 : decode cX5_steps 53 = .ok (.bipush (-9), 2) := by decide +kernel
theorem dX5_steps_55 : decode cX5_steps 55 = .ok (.ireturn, 1) := by decide +kernel
theorem dX5_steps_56 : decode cX5_steps 56 = .ok (.aload_n 0, 1) := by decide +kernel
theorem dX5_steps_57 : decode cX5_steps 57 = .ok (.iload_n 1, 1) := by decide +kernel
theorem dX5_steps_58 : decode cX5_steps 58 = .ok (.invokevirtual 143, 3) := by decide +kernel
theorem dX5_steps_61 : decode cX5_steps 61 = .ok (.istore_n 3, 1) := by decide +kernel
theorem dX5_steps_62 : decode cX5_steps 62 = .ok (.aload_n 0, 1) := by decide +kernel
theorem dX5_steps_63 : decode cX5_steps 63 = .ok (.iload_n 2, 1) := by decide +kernel
theorem dX5_steps_64 : decode cX5_steps 64 = .ok (.invokevirtual 118, 3) := by decide +kernel
theorem dX5_steps_67 : decode cX5_steps 67 = .ok (.aload_n 0, 1) := by decide +kernel
theorem dX5_steps_68 : decode cX5_steps 68 = .ok (.invokevirtual 121, 3) := by decide +kernel
theorem dX5_steps_71 : decode cX5_steps 71 = .ok (.istore 4, 2) := by decide +kernel
theorem dX5_steps_73 : decode cX5_steps 73 = .ok (.iconst 0, 1) := by decide +kernel
theorem dX5_steps_74 : decode cX5_steps 74 = .ok (.istore 5, 2) := by decide +kernel
theorem dX5_steps_76 : decode cX5_steps 76 = .ok (.iload 5, 2) := by decide +kernel
theorem dX5_steps_78 : decode cX5_steps 78 = .ok (.aload_n 0, 1) := by decide +kernel
theorem dX5_steps_79 : decode cX5_steps 79 = .ok (.getfield 104, 3) := by decide +kernel
theorem dX5_steps_82 : decode cX5_steps 82 = .ok (.if_icmp .gt 25, 3) := by decide +kernel
theorem dX5_steps_85 : decode cX5_steps 85 = .ok (.iload_n 3, 1) := by decide +kernel
theorem dX5_steps_86 : decode cX5_steps 86 = .ok (.iload 4, 2) := by decide +kernel
theorem dX5_steps_88 : decode cX5_steps 88 = .ok (.if_icmp .ne 6, 3) := by decide +kernel
theorem dX5_steps_91 : decode cX5_steps 91 = .ok (.iload 5, 2) := by decide +kernel
theorem dX5_steps_93 : decode cX5_steps 93 = .ok (.ireturn, 1) := by decide +kernel
theorem dX5_steps_94 : decode cX5_steps 94 = .ok (.aload_n 0, 1) := by decide +kernel
theorem dX5_steps_95 : decode cX5_steps 95 = .ok (.getfield 35, 3) := by decide +kernel
theorem dX5_steps_98 : decode cX5_steps 98 = .ok (.iload_n 3, 1) := by decide +kernel
theorem dX5_steps_99 : decode cX5_steps 99 = .ok (.iaload, 1) := by decide +kernel
theorem dX5_steps_100 : decode cX5_steps 100 = .ok (.istore_n 3, 1) := by decide +kernel
theorem dX5_steps_101 : decode cX5_steps 101 = .ok (.iinc 5 1, 3) := by decide +kernel
theorem dX5_steps_104 : decode cX5_steps 104 = .ok (.goto (-28), 3) := by decide +kernel
theorem dX5_steps_107 : decode cX5_steps 107 = .ok (.bipush (-9), 2) := by decide +kernel
theorem dX5_steps_109 : decode cX5_steps 109 = .ok (.ireturn, 1) := by decide +kernel
theorem dX5_choices_0 : decode cX5_choices 0 = .ok (.lconst 1, 1) := by decide +kernel
theorem dX5_choices_1 : decode cX5_choices 1 = .ok (.lstore_n 2, 1) := by decide +kernel
theorem dX5_choices_2 : decode cX5_choices 2 = .ok (.iconst 0, 1) := by decide +kernel
theorem dX5_choices_3 : decode cX5_choices 3 = .ok (.istore 4, 2) := by decide +kernel
theorem dX5_choices_5 : decode cX5_choices 5 = .ok (.iload 4, 2) := by decide +kernel
theorem dX5_choices_7 : decode cX5_choices 7 = .ok (.iload_n 1, 1) := by decide +kernel
theorem dX5_choices_8 : decode cX5_choices 8 = .ok (.if_icmp .ge 23, 3) := by decide +kernel
theorem dX5_choices_11 : decode cX5_choices 11 = .ok (.lload_n 2, 1) := by decide +kernel
theorem dX5_choices_12 : decode cX5_choices 12 = .ok (.iload_n 0, 1) := by decide +kernel
theorem dX5_choices_13 : decode cX5_choices 13 = .ok (.iload 4, 2) := by decide +kernel
theorem dX5_choices_15 : decode cX5_choices 15 = .ok (.isub, 1) := by decide +kernel
theorem dX5_choices_16 : decode cX5_choices 16 = .ok (.i2l, 1) := by decide +kernel
theorem dX5_choices_17 : decode cX5_choices 17 = .ok (.lmul, 1) := by decide +kernel
theorem dX5_choices_18 : decode cX5_choices 18 = .ok (.iload 4, 2) := by decide +kernel
theorem dX5_choices_20 : decode cX5_choices 20 = .ok (.iconst 1, 1) := by decide +kernel
theorem dX5_choices_21 : decode cX5_choices 21 = .ok (.iadd, 1) := by decide +kernel
theorem dX5_choices_22 : decode cX5_choices 22 = .ok (.i2l, 1) := by decide +kernel
theorem dX5_choices_23 : decode cX5_choices 23 = .ok (.ldiv, 1) := by decide +kernel
theorem dX5_choices_24 : decode cX5_choices 24 = .ok (.lstore_n 2, 1) := by decide +kernel
theorem dX5_choices_25 : decode cX5_choices 25 = .ok (.iinc 4 1, 3) := by decide +kernel
theorem dX5_choices_28 : decode cX5_choices 28 = .ok (.goto (-23), 3) := by decide +kernel
theorem dX5_choices_31 : decode cX5_choices 31 = .ok (.lload_n 2, 1) := by decide +kernel
theorem dX5_choices_32 : decode cX5_choices 32 = .ok (.lreturn, 1) := by decide +kernel
theorem dX5_addWays_0 : decode cX5_addWays 0 = .ok (.aload_n 0, 1) := by decide +kernel
theorem dX5_addWays_1 : decode cX5_addWays 1 = .ok (.iconst 0, 1) := by decide +kernel
theorem dX5_addWays_2 : decode cX5_addWays 2 = .ok (.putfield 149, 3) := by decide +kernel
theorem dX5_addWays_5 : decode cX5_addWays 5 = .ok (.iconst 0, 1) := by decide +kernel
theorem dX5_addWays_6 : decode cX5_addWays 6 = .ok (.istore 4, 2) := by decide +kernel
theorem dX5_addWays_8 : decode cX5_addWays 8 = .ok (.iload 4, 2) := by decide +kernel
theorem dX5_addWays_10 : decode cX5_addWays 10 = .ok (.aload_n 0, 1) := by decide +kernel
theorem dX5_addWays_11 : decode cX5_addWays 11 = .ok (.getfield 32, 3) := by decide +kernel
theorem dX5_addWays_14 : decode cX5_addWays 14 = .ok (.iload_n 1, 1) := by decide +kernel
theorem dX5_addWays_15 : decode cX5_addWays 15 = .ok (.iaload, 1) := by decide +kernel
theorem dX5_addWays_16 : decode cX5_addWays 16 = .ok (.if_icmp .ge 102, 3) := by decide +kernel
theorem dX5_addWays_19 : decode cX5_addWays 19 = .ok (.aload_n 0, 1) := by decide +kernel
theorem dX5_addWays_20 : decode cX5_addWays 20 = .ok (.getfield 29, 3) := by decide +kernel
theorem dX5_addWays_23 : decode cX5_addWays 23 = .ok (.bipush 18, 2) := by decide +kernel
theorem dX5_addWays_25 : decode cX5_addWays 25 = .ok (.iload_n 1, 1) := by decide +kernel
theorem dX5_addWays_26 : decode cX5_addWays 26 = .ok (.imul, 1) := by decide +kernel
theorem dX5_addWays_27 : decode cX5_addWays 27 = .ok (.iload 4, 2) := by decide +kernel
theorem dX5_addWays_29 : decode cX5_addWays 29 = .ok (.iadd, 1) := by decide +kernel
theorem dX5_addWays_30 : decode cX5_addWays 30 = .ok (.iaload, 1) := by decide +kernel
theorem dX5_addWays_31 : decode cX5_addWays 31 = .ok (.istore 5, 2) := by decide +kernel
theorem dX5_addWays_33 : decode cX5_addWays 33 = .ok (.aload_n 0, 1) := by decide +kernel
theorem dX5_addWays_34 : decode cX5_addWays 34 = .ok (.getfield 149, 3) := by decide +kernel
theorem dX5_addWays_37 : decode cX5_addWays 37 = .ok (.ifCond .eq 19, 3) := by decide +kernel
theorem dX5_addWays_40 : decode cX5_addWays 40 = .ok (.aload_n 0, 1) := by decide +kernel
theorem dX5_addWays_41 : decode cX5_addWays 41 = .ok (.getfield 54, 3) := by decide +kernel
theorem dX5_addWays_44 : decode cX5_addWays 44 = .ok (.aload_n 0, 1) := by decide +kernel
theorem dX5_addWays_45 : decode cX5_addWays 45 = .ok (.getfield 149, 3) := by decide +kernel
theorem dX5_addWays_48 : decode cX5_addWays 48 = .ok (.iconst 1, 1) := by decide +kernel
theorem dX5_addWays_49 : decode cX5_addWays 49 = .ok (.isub, 1) := by decide +kernel
theorem dX5_addWays_50 : decode cX5_addWays 50 = .ok (.iaload, 1) := by decide +kernel
theorem dX5_addWays_51 : decode cX5_addWays 51 = .ok (.iload 5, 2) := by decide +kernel
theorem dX5_addWays_53 : decode cX5_addWays 53 = .ok (.if_icmp .eq 44, 3) := by decide +kernel
theorem dX5_addWays_56 : decode cX5_addWays 56 = .ok (.aload_n 0, 1) := by decide +kernel
theorem dX5_addWays_57 : decode cX5_addWays 57 = .ok (.getfield 54, 3) := by decide +kernel
theorem dX5_addWays_60 : decode cX5_addWays 60 = .ok (.aload_n 0, 1) := by decide +kernel
theorem dX5_addWays_61 : decode cX5_addWays 61 = .ok (.getfield 149, 3) := by decide +kernel
theorem dX5_addWays_64 : decode cX5_addWays 64 = .ok (.iload 5, 2) := by decide +kernel
theorem dX5_addWays_66 : decode cX5_addWays 66 = .ok (.iastore, 1) := by decide +kernel
theorem dX5_addWays_67 : decode cX5_addWays 67 = .ok (.aload_n 0, 1) := by decide +kernel
theorem dX5_addWays_68 : decode cX5_addWays 68 = .ok (.getfield 57, 3) := by decide +kernel
theorem dX5_addWays_71 : decode cX5_addWays 71 = .ok (.aload_n 0, 1) := by decide +kernel
theorem dX5_addWays_72 : decode cX5_addWays 72 = .ok (.getfield 149, 3) := by decide +kernel
theorem dX5_addWays_75 : decode cX5_addWays 75 = .ok (.iconst 0, 1) := by decide +kernel
theorem dX5_addWays_76 : decode cX5_addWays 76 = .ok (.iastore, 1) := by decide +kernel
theorem dX5_addWays_77 : decode cX5_addWays 77 = .ok (.aload_n 0, 1) := by decide +kernel
theorem dX5_addWays_78 : decode cX5_addWays 78 = .ok (.getfield 60, 3) := by decide +kernel
theorem dX5_addWays_81 : decode cX5_addWays 81 = .ok (.aload_n 0, 1) := by decide +kernel
theorem dX5_addWays_82 : decode cX5_addWays 82 = .ok (.getfield 149, 3) := by decide +kernel
theorem dX5_addWays_85 : decode cX5_addWays 85 = .ok (.iconst 0, 1) := by decide +kernel
theorem dX5_addWays_86 : decode cX5_addWays 86 = .ok (.iastore, 1) := by decide +kernel
theorem dX5_addWays_87 : decode cX5_addWays 87 = .ok (.aload_n 0, 1) := by decide +kernel
theorem dX5_addWays_88 : decode cX5_addWays 88 = .ok (.dup, 1) := by decide +kernel
theorem dX5_addWays_89 : decode cX5_addWays 89 = .ok (.getfield 149, 3) := by decide +kernel
theorem dX5_addWays_92 : decode cX5_addWays 92 = .ok (.iconst 1, 1) := by decide +kernel
theorem dX5_addWays_93 : decode cX5_addWays 93 = .ok (.iadd, 1) := by decide +kernel
theorem dX5_addWays_94 : decode cX5_addWays 94 = .ok (.putfield 149, 3) := by decide +kernel
theorem dX5_addWays_97 : decode cX5_addWays 97 = .ok (.aload_n 0, 1) := by decide +kernel
theorem dX5_addWays_98 : decode cX5_addWays 98 = .ok (.getfield 57, 3) := by decide +kernel
theorem dX5_addWays_101 : decode cX5_addWays 101 = .ok (.aload_n 0, 1) := by decide +kernel
theorem dX5_addWays_102 : decode cX5_addWays 102 = .ok (.getfield 149, 3) := by decide +kernel
theorem dX5_addWays_105 : decode cX5_addWays 105 = .ok (.iconst 1, 1) := by decide +kernel
theorem dX5_addWays_106 : decode cX5_addWays 106 = .ok (.isub, 1) := by decide +kernel
theorem dX5_addWays_107 : decode cX5_addWays 107 = .ok (.dup2, 1) := by decide +kernel
theorem dX5_addWays_108 : decode cX5_addWays 108 = .ok (.iaload, 1) := by decide +kernel
theorem dX5_addWays_109 : decode cX5_addWays 109 = .ok (.iconst 1, 1) := by decide +kernel
theorem dX5_addWays_110 : decode cX5_addWays 110 = .ok (.iadd, 1) := by decide +kernel
theorem dX5_addWays_111 : decode cX5_addWays 111 = .ok (.iastore, 1) := by decide +kernel
theorem dX5_addWays_112 : decode cX5_addWays 112 = .ok (.iinc 4 1, 3) := by decide +kernel
theorem dX5_addWays_115 : decode cX5_addWays 115 = .ok (.goto (-107), 3) := by decide +kernel
theorem dX5_addWays_118 : decode cX5_addWays 118 = .ok (.iconst 1, 1) := by decide +kernel
theorem dX5_addWays_119 : decode cX5_addWays 119 = .ok (.istore 4, 2) := by decide +kernel
theorem dX5_addWays_121 : decode cX5_addWays 121 = .ok (.iload 4, 2) := by decide +kernel
theorem dX5_addWays_123 : decode cX5_addWays 123 = .ok (.ifCond .eq 254, 3) := by decide +kernel
theorem dX5_addWays_126 : decode cX5_addWays 126 = .ok (.lload_n 2, 1) := by decide +kernel
theorem dX5_addWays_127 : decode cX5_addWays 127 = .ok (.lstore 5, 2) := by decide +kernel
theorem dX5_addWays_129 : decode cX5_addWays 129 = .ok (.iconst 0, 1) := by decide +kernel
theorem dX5_addWays_130 : decode cX5_addWays 130 = .ok (.istore 7, 2) := by decide +kernel
theorem dX5_addWays_132 : decode cX5_addWays 132 = .ok (.aload_n 0, 1) := by decide +kernel
theorem dX5_addWays_133 : decode cX5_addWays 133 = .ok (.iconst 0, 1) := by decide +kernel
theorem dX5_addWays_134 : decode cX5_addWays 134 = .ok (.putfield 94, 3) := by decide +kernel
theorem dX5_addWays_137 : decode cX5_addWays 137 = .ok (.iconst 0, 1) := by decide +kernel
theorem dX5_addWays_138 : decode cX5_addWays 138 = .ok (.istore 8, 2) := by decide +kernel
theorem dX5_addWays_140 : decode cX5_addWays 140 = .ok (.iload 8, 2) := by decide +kernel
theorem dX5_addWays_142 : decode cX5_addWays 142 = .ok (.aload_n 0, 1) := by decide +kernel
theorem dX5_addWays_143 : decode cX5_addWays 143 = .ok (.getfield 149, 3) := by decide +kernel
theorem dX5_addWays_146 : decode cX5_addWays 146 = .ok (.if_icmp .ge 114, 3) := by decide +kernel
theorem dX5_addWays_149 : decode cX5_addWays 149 = .ok (.lload 5, 2) := by decide +kernel
theorem dX5_addWays_151 : decode cX5_addWays 151 = .ok (.aload_n 0, 1) := by decide +kernel
theorem dX5_addWays_152 : decode cX5_addWays 152 = .ok (.getfield 57, 3) := by decide +kernel
theorem dX5_addWays_155 : decode cX5_addWays 155 = .ok (.iload 8, 2) := by decide +kernel
theorem dX5_addWays_157 : decode cX5_addWays 157 = .ok (.iaload, 1) := by decide +kernel
theorem dX5_addWays_158 : decode cX5_addWays 158 = .ok (.aload_n 0, 1) := by decide +kernel
theorem dX5_addWays_159 : decode cX5_addWays 159 = .ok (.getfield 60, 3) := by decide +kernel
theorem dX5_addWays_162 : decode cX5_addWays 162 = .ok (.iload 8, 2) := by decide +kernel
theorem dX5_addWays_164 : decode cX5_addWays 164 = .ok (.iaload, 1) := by decide +kernel
theorem dX5_addWays_165 : decode cX5_addWays 165 = .ok (.invokestatic 152, 3) := by decide +kernel
theorem dX5_addWays_168 : decode cX5_addWays 168 = .ok (.lmul, 1) := by decide +kernel
theorem dX5_addWays_169 : decode cX5_addWays 169 = .ok (.lstore 5, 2) := by decide +kernel
theorem dX5_addWays_171 : decode cX5_addWays 171 = .ok (.iload 7, 2) := by decide +kernel
theorem dX5_addWays_173 : decode cX5_addWays 173 = .ok (.aload_n 0, 1) := by decide +kernel
theorem dX5_addWays_174 : decode cX5_addWays 174 = .ok (.getfield 60, 3) := by decide +kernel
theorem dX5_addWays_177 : decode cX5_addWays 177 = .ok (.iload 8, 2) := by decide +kernel
theorem dX5_addWays_179 : decode cX5_addWays 179 = .ok (.iaload, 1) := by decide +kernel
theorem dX5_addWays_180 : decode cX5_addWays 180 = .ok (.iadd, 1) := by decide +kernel
theorem dX5_addWays_181 : decode cX5_addWays 181 = .ok (.istore 7, 2) := by decide +kernel
theorem dX5_addWays_183 : decode cX5_addWays 183 = .ok (.iconst 0, 1) := by decide +kernel
theorem dX5_addWays_184 : decode cX5_addWays 184 = .ok (.istore 9, 2) := by decide +kernel
theorem dX5_addWays_186 : decode cX5_addWays 186 = .ok (.iload 9, 2) := by decide +kernel
theorem dX5_addWays_188 : decode cX5_addWays 188 = .ok (.aload_n 0, 1) := by decide +kernel
theorem dX5_addWays_189 : decode cX5_addWays 189 = .ok (.getfield 57, 3) := by decide +kernel
theorem dX5_addWays_192 : decode cX5_addWays 192 = .ok (.iload 8, 2) := by decide +kernel
theorem dX5_addWays_194 : decode cX5_addWays 194 = .ok (.iaload, 1) := by decide +kernel
theorem dX5_addWays_195 : decode cX5_addWays 195 = .ok (.if_icmp .ge 59, 3) := by decide +kernel
theorem dX5_addWays_198 : decode cX5_addWays 198 = .ok (.aload_n 0, 1) := by decide +kernel
theorem dX5_addWays_199 : decode cX5_addWays 199 = .ok (.getfield 22, 3) := by decide +kernel
theorem dX5_addWays_202 : decode cX5_addWays 202 = .ok (.aload_n 0, 1) := by decide +kernel
theorem dX5_addWays_203 : decode cX5_addWays 203 = .ok (.getfield 94, 3) := by decide +kernel
theorem dX5_addWays_206 : decode cX5_addWays 206 = .ok (.iload 9, 2) := by decide +kernel
theorem dX5_addWays_208 : decode cX5_addWays 208 = .ok (.aload_n 0, 1) := by decide +kernel
theorem dX5_addWays_209 : decode cX5_addWays 209 = .ok (.getfield 60, 3) := by decide +kernel
theorem dX5_addWays_212 : decode cX5_addWays 212 = .ok (.iload 8, 2) := by decide +kernel
theorem dX5_addWays_214 : decode cX5_addWays 214 = .ok (.iaload, 1) := by decide +kernel
theorem dX5_addWays_215 : decode cX5_addWays 215 = .ok (.if_icmp .ge 15, 3) := by decide +kernel
theorem dX5_addWays_218 : decode cX5_addWays 218 = .ok (.aload_n 0, 1) := by decide +kernel
theorem dX5_addWays_219 : decode cX5_addWays 219 = .ok (.getfield 54, 3) := by decide +kernel
theorem dX5_addWays_222 : decode cX5_addWays 222 = .ok (.iload 8, 2) := by decide +kernel
theorem dX5_addWays_224 : decode cX5_addWays 224 = .ok (.iaload, 1) := by decide +kernel
theorem dX5_addWays_225 : decode cX5_addWays 225 = .ok (.iconst 1, 1) := by decide +kernel
theorem dX5_addWays_226 : decode cX5_addWays 226 = .ok (.isub, 1) := by decide +kernel
theorem dX5_addWays_227 : decode cX5_addWays 227 = .ok (.goto 10, 3) := by decide +kernel
theorem dX5_addWays_230 : decode cX5_addWays 230 = .ok (.aload_n 0, 1) := by decide +kernel
theorem dX5_addWays_231 : decode cX5_addWays 231 = .ok (.getfield 54, 3) := by decide +kernel
theorem dX5_addWays_234 : decode cX5_addWays 234 = .ok (.iload 8, 2) := by decide +kernel
theorem dX5_addWays_236 : decode cX5_addWays 236 = .ok (.iaload, 1) := by decide +kernel
theorem dX5_addWays_237 : decode cX5_addWays 237 = .ok (.iastore, 1) := by decide +kernel
theorem dX5_addWays_238 : decode cX5_addWays 238 = .ok (.aload_n 0, 1) := by decide +kernel
theorem dX5_addWays_239 : decode cX5_addWays 239 = .ok (.dup, 1) := by decide +kernel
theorem dX5_addWays_240 : decode cX5_addWays 240 = .ok (.getfield 94, 3) := by decide +kernel
theorem dX5_addWays_243 : decode cX5_addWays 243 = .ok (.iconst 1, 1) := by decide +kernel
theorem dX5_addWays_244 : decode cX5_addWays 244 = .ok (.iadd, 1) := by decide +kernel
theorem dX5_addWays_245 : decode cX5_addWays 245 = .ok (.putfield 94, 3) := by decide +kernel
theorem dX5_addWays_248 : decode cX5_addWays 248 = .ok (.iinc 9 1, 3) := by decide +kernel
theorem dX5_addWays_251 : decode cX5_addWays 251 = .ok (.goto (-65), 3) := by decide +kernel
theorem dX5_addWays_254 : decode cX5_addWays 254 = .ok (.iinc 8 1, 3) := by decide +kernel
theorem dX5_addWays_257 : decode cX5_addWays 257 = .ok (.goto (-117), 3) := by decide +kernel
theorem dX5_addWays_260 : decode cX5_addWays 260 = .ok (.aload_n 0, 1) := by decide +kernel
theorem dX5_addWays_261 : decode cX5_addWays 261 = .ok (.getfield 22, 3) := by decide +kernel
theorem dX5_addWays_264 : decode cX5_addWays 264 = .ok (.aload_n 0, 1) := by decide +kernel
theorem dX5_addWays_265 : decode cX5_addWays 265 = .ok (.getfield 94, 3) := by decide +kernel
theorem dX5_addWays_268 : decode cX5_addWays 268 = .ok (.iload 7, 2) := by decide +kernel
theorem dX5_addWays_270 : decode cX5_addWays 270 = .ok (.iastore, 1) := by decide +kernel
theorem dX5_addWays_271 : decode cX5_addWays 271 = .ok (.aload_n 0, 1) := by decide +kernel
theorem dX5_addWays_272 : decode cX5_addWays 272 = .ok (.dup, 1) := by decide +kernel
theorem dX5_addWays_273 : decode cX5_addWays 273 = .ok (.getfield 94, 3) := by decide +kernel
theorem dX5_addWays_276 : decode cX5_addWays 276 = .ok (.iconst 1, 1) := by decide +kernel
theorem dX5_addWays_277 : decode cX5_addWays 277 = .ok (.iadd, 1) := by decide +kernel
theorem dX5_addWays_278 : decode cX5_addWays 278 = .ok (.putfield 94, 3) := by decide +kernel
theorem dX5_addWays_281 : decode cX5_addWays 281 = .ok (.aload_n 0, 1) := by decide +kernel
theorem dX5_addWays_282 : decode cX5_addWays 282 = .ok (.invokevirtual 101, 3) := by decide +kernel
theorem dX5_addWays_285 : decode cX5_addWays 285 = .ok (.aload_n 0, 1) := by decide +kernel
theorem dX5_addWays_286 : decode cX5_addWays 286 = .ok (.getfield 50, 3) := by decide +kernel
theorem dX5_addWays_289 : decode cX5_addWays 289 = .ok (.aload_n 0, 1) := by decide +kernel
theorem dX5_addWays_290 : decode cX5_addWays 290 = .ok (.invokevirtual 121, 3) := by decide +kernel
theorem dX5_addWays_293 : decode cX5_addWays 293 = .ok (.dup2, 1) := by decide +kernel
theorem dX5_addWays_294 : decode cX5_addWays 294 = .ok (.laload, 1) := by decide +kernel
theorem dX5_addWays_295 : decode cX5_addWays 295 = .ok (.lload 5, 2) := by decide +kernel
theorem dX5_addWays_297 : decode cX5_addWays 297 = .ok (.ladd, 1) := by decide +kernel
theorem dX5_addWays_298 : decode cX5_addWays 298 = .ok (.lastore, 1) := by decide +kernel
theorem dX5_addWays_299 : decode cX5_addWays 299 = .ok (.iconst 0, 1) := by decide +kernel
theorem dX5_addWays_300 : decode cX5_addWays 300 = .ok (.istore 8, 2) := by decide +kernel
theorem dX5_addWays_302 : decode cX5_addWays 302 = .ok (.iload 8, 2) := by decide +kernel
theorem dX5_addWays_304 : decode cX5_addWays 304 = .ok (.aload_n 0, 1) := by decide +kernel
theorem dX5_addWays_305 : decode cX5_addWays 305 = .ok (.getfield 149, 3) := by decide +kernel
theorem dX5_addWays_308 : decode cX5_addWays 308 = .ok (.if_icmp .ge 34, 3) := by decide +kernel
theorem dX5_addWays_311 : decode cX5_addWays 311 = .ok (.aload_n 0, 1) := by decide +kernel
theorem dX5_addWays_312 : decode cX5_addWays 312 = .ok (.getfield 60, 3) := by decide +kernel
theorem dX5_addWays_315 : decode cX5_addWays 315 = .ok (.iload 8, 2) := by decide +kernel
theorem dX5_addWays_317 : decode cX5_addWays 317 = .ok (.iaload, 1) := by decide +kernel
theorem dX5_addWays_318 : decode cX5_addWays 318 = .ok (.aload_n 0, 1) := by decide +kernel
theorem dX5_addWays_319 : decode cX5_addWays 319 = .ok (.getfield 57, 3) := by decide +kernel
theorem dX5_addWays_322 : decode cX5_addWays 322 = .ok (.iload 8, 2) := by decide +kernel
theorem dX5_addWays_324 : decode cX5_addWays 324 = .ok (.iaload, 1) := by decide +kernel
theorem dX5_addWays_325 : decode cX5_addWays 325 = .ok (.if_icmp .ne 17, 3) := by decide +kernel
theorem dX5_addWays_328 : decode cX5_addWays 328 = .ok (.aload_n 0, 1) := by decide +kernel
theorem dX5_addWays_329 : decode cX5_addWays 329 = .ok (.getfield 60, 3) := by decide +kernel
theorem dX5_addWays_332 : decode cX5_addWays 332 = .ok (.iload 8, 2) := by decide +kernel
theorem dX5_addWays_334 : decode cX5_addWays 334 = .ok (.iconst 0, 1) := by decide +kernel
theorem dX5_addWays_335 : decode cX5_addWays 335 = .ok (.iastore, 1) := by decide +kernel
theorem dX5_addWays_336 : decode cX5_addWays 336 = .ok (.iinc 8 1, 3) := by decide +kernel
theorem dX5_addWays_339 : decode cX5_addWays 339 = .ok (.goto (-37), 3) := by decide +kernel
theorem dX5_addWays_342 : decode cX5_addWays 342 = .ok (.iload 8, 2) := by decide +kernel
theorem dX5_addWays_344 : decode cX5_addWays 344 = .ok (.aload_n 0, 1) := by decide +kernel
theorem dX5_addWays_345 : decode cX5_addWays 345 = .ok (.getfield 149, 3) := by decide +kernel
theorem dX5_addWays_348 : decode cX5_addWays 348 = .ok (.if_icmp .ge 7, 3) := by decide +kernel
theorem dX5_addWays_351 : decode cX5_addWays 351 = .ok (.iconst 1, 1) := by decide +kernel
theorem dX5_addWays_352 : decode cX5_addWays 352 = .ok (.goto 4, 3) := by decide +kernel
theorem dX5_addWays_355 : decode cX5_addWays 355 = .ok (.iconst 0, 1) := by decide +kernel
theorem dX5_addWays_356 : decode cX5_addWays 356 = .ok (.istore 4, 2) := by decide +kernel
theorem dX5_addWays_358 : decode cX5_addWays 358 = .ok (.iload 4, 2) := by decide +kernel
theorem dX5_addWays_360 : decode cX5_addWays 360 = .ok (.ifCond .eq 14, 3) := by decide +kernel
theorem dX5_addWays_363 : decode cX5_addWays 363 = .ok (.aload_n 0, 1) := by decide +kernel
theorem dX5_addWays_364 : decode cX5_addWays 364 = .ok (.getfield 60, 3) := by decide +kernel
theorem dX5_addWays_367 : decode cX5_addWays 367 = .ok (.iload 8, 2) := by decide +kernel
theorem dX5_addWays_369 : decode cX5_addWays 369 = .ok (.dup2, 1) := by decide +kernel
theorem dX5_addWays_370 : decode cX5_addWays 370 = .ok (.iaload, 1) := by decide +kernel
theorem dX5_addWays_371 : decode cX5_addWays 371 = .ok (.iconst 1, 1) := by decide +kernel
theorem dX5_addWays_372 : decode cX5_addWays 372 = .ok (.iadd, 1) := by decide +kernel
theorem dX5_addWays_373 : decode cX5_addWays 373 = .ok (.iastore, 1) := by decide +kernel
theorem dX5_addWays_374 : decode cX5_addWays 374 = .ok (.goto (-253), 3) := by decide +kernel
theorem dX5_addWays_377 : decode cX5_addWays 377 = .ok (.return_, 1) := by decide +kernel
theorem dX5_noWays_0 : decode cX5_noWays 0 = .ok (.iconst 0, 1) := by decide +kernel
theorem dX5_noWays_1 : decode cX5_noWays 1 = .ok (.istore_n 1, 1) := by decide +kernel
theorem dX5_noWays_2 : decode cX5_noWays 2 = .ok (.iload_n 1, 1) := by decide +kernel
theorem dX5_noWays_3 : decode cX5_noWays 3 = .ok (.sipush 385, 3) := by decide +kernel
theorem dX5_noWays_6 : decode cX5_noWays 6 = .ok (.if_icmp .ge 16, 3) := by decide +kernel
theorem dX5_noWays_9 : decode cX5_noWays 9 = .ok (.aload_n 0, 1) := by decide +kernel
theorem dX5_noWays_10 : decode cX5_noWays 10 = .ok (.getfield 50, 3) := by decide +kernel
theorem dX5_noWays_13 : decode cX5_noWays 13 = .ok (.iload_n 1, 1) := by decide +kernel
theorem dX5_noWays_14 : decode cX5_noWays 14 = .ok (.lconst 0, 1) := by decide +kernel
theorem dX5_noWays_15 : decode cX5_noWays 15 = .ok (.lastore, 1) := by decide +kernel
theorem dX5_noWays_16 : decode cX5_noWays 16 = .ok (.iinc 1 1, 3) := by decide +kernel
theorem dX5_noWays_19 : decode cX5_noWays 19 = .ok (.goto (-17), 3) := by decide +kernel
theorem dX5_noWays_22 : decode cX5_noWays 22 = .ok (.return_, 1) := by decide +kernel
theorem dX5_ways_0 : decode cX5_ways 0 = .ok (.iload_n 1, 1) := by decide +kernel
theorem dX5_ways_1 : decode cX5_ways 1 = .ok (.invokestatic 73, 3) := by decide +kernel
theorem dX5_ways_4 : decode cX5_ways 4 = .ok (.ifCond .eq 10, 3) := by decide +kernel
theorem dX5_ways_7 : decode cX5_ways 7 = .ok (.iload_n 2, 1) := by decide +kernel
theorem dX5_ways_8 : decode cX5_ways 8 = .ok (.invokestatic 73, 3) := by decide +kernel
theorem dX5_ways_11 : decode cX5_ways 11 = .ok (.ifCond .ne 5, 3) := by decide +kernel
theorem dX5_ways_14 : decode cX5_ways 14 = .ok (.iconst (-1), 1) := by decide +kernel
theorem dX5_ways_15 : decode cX5_ways 15 = .ok (.ireturn, 1) := by decide +kernel
theorem dX5_ways_16 : decode cX5_ways 16 = .ok (.aload_n 0, 1) := by decide +kernel
theorem dX5_ways_17 : decode cX5_ways 17 = .ok (.getfield 13, 3) := by decide +kernel
theorem dX5_ways_20 : decode cX5_ways 20 = .ok (.iload_n 1, 1) := by decide +kernel
theorem dX5_ways_21 : decode cX5_ways 21 = .ok (.iaload, 1) := by decide +kernel
theorem dX5_ways_22 : decode cX5_ways 22 = .ok (.ifCond .lt 12, 3) := by decide +kernel
theorem dX5_ways_25 : decode cX5_ways 25 = .ok (.aload_n 0, 1) := by decide +kernel
theorem dX5_ways_26 : decode cX5_ways 26 = .ok (.getfield 13, 3) := by decide +kernel
theorem dX5_ways_29 : decode cX5_ways 29 = .ok (.iload_n 2, 1) := by decide +kernel
theorem dX5_ways_30 : decode cX5_ways 30 = .ok (.iaload, 1) := by decide +kernel
theorem dX5_ways_31 : decode cX5_ways 31 = .ok (.ifCond .ge 9, 3) := by decide +kernel
theorem dX5_ways_34 : decode cX5_ways 34 = .ok (.aload_n 0, 1) := by decide +kernel
theorem dX5_ways_35 : decode cX5_ways 35 = .ok (.iconst 1, 1) := by decide +kernel
theorem dX5_ways_36 : decode cX5_ways 36 = .ok (.invokevirtual 77, 3) := by decide +kernel
theorem dX5_ways_39 : decode cX5_ways 39 = .ok (.ireturn, 1) := by decide +kernel
theorem dX5_ways_40 : decode cX5_ways 40 = .ok (.aload_n 0, 1) := by decide +kernel
theorem dX5_ways_41 : decode cX5_ways 41 = .ok (.iload_n 1, 1) := by decide +kernel
theorem dX5_ways_42 : decode cX5_ways 42 = .ok (.invokevirtual 84, 3) := by decide +kernel
theorem dX5_ways_45 : decode cX5_ways 45 = .ok (.aload_n 0, 1) := by decide +kernel
theorem dX5_ways_46 : decode cX5_ways 46 = .ok (.iload_n 2, 1) := by decide +kernel
theorem dX5_ways_47 : decode cX5_ways 47 = .ok (.invokevirtual 84, 3) := by decide +kernel
theorem dX5_ways_50 : decode cX5_ways 50 = .ok (.if_icmp .eq 5, 3) := by decide +kernel
theorem dX5_ways_53 : decode cX5_ways 53 = .ok (.iconst 0, 1) := by decide +kernel
theorem dX5_ways_54 : decode cX5_ways 54 = .ok (.ireturn, 1) := by decide +kernel
theorem dX5_ways_55 : decode cX5_ways 55 = .ok (.aload_n 0, 1) := by decide +kernel
theorem dX5_ways_56 : decode cX5_ways 56 = .ok (.invokevirtual 156, 3) := by decide +kernel
theorem dX5_ways_59 : decode cX5_ways 59 = .ok (.aload_n 0, 1) := by decide +kernel
theorem dX5_ways_60 : decode cX5_ways 60 = .ok (.aload_n 0, 1) := by decide +kernel
theorem dX5_ways_61 : decode cX5_ways 61 = .ok (.iload_n 1, 1) := by decide +kernel
theorem dX5_ways_62 : decode cX5_ways 62 = .ok (.invokevirtual 125, 3) := by decide +kernel
theorem dX5_ways_65 : decode cX5_ways 65 = .ok (.lconst 1, 1) := by decide +kernel
theorem dX5_ways_66 : decode cX5_ways 66 = .ok (.invokevirtual 159, 3) := by decide +kernel
theorem dX5_ways_69 : decode cX5_ways 69 = .ok (.aload_n 0, 1) := by decide +kernel
theorem dX5_ways_70 : decode cX5_ways 70 = .ok (.getfield 50, 3) := by decide +kernel
theorem dX5_ways_73 : decode cX5_ways 73 = .ok (.aload_n 0, 1) := by decide +kernel
theorem dX5_ways_74 : decode cX5_ways 74 = .ok (.iload_n 2, 1) := by decide +kernel
theorem dX5_ways_75 : decode cX5_ways 75 = .ok (.invokevirtual 125, 3) := by decide +kernel
theorem dX5_ways_78 : decode cX5_ways 78 = .ok (.laload, 1) := by decide +kernel
theorem dX5_ways_79 : decode cX5_ways 79 = .ok (.l2i, 1) := by decide +kernel
theorem dX5_ways_80 : decode cX5_ways 80 = .ok (.ireturn, 1) := by decide +kernel
theorem dX5_reach_0 : decode cX5_reach 0 = .ok (.aload_n 0, 1) := by decide +kernel
theorem dX5_reach_1 : decode cX5_reach 1 = .ok (.iload_n 1, 1) := by decide +kernel
theorem dX5_reach_2 : decode cX5_reach 2 = .ok (.invokevirtual 81, 3) := by decide +kernel
theorem dX5_reach_5 : decode cX5_reach 5 = .ok (.istore_n 2, 1) := by decide +kernel
theorem dX5_reach_6 : decode cX5_reach 6 = .ok (.iload_n 2, 1) := by decide +kernel
theorem dX5_reach_7 : decode cX5_reach 7 = .ok (.ifCond .ge 5, 3) := by decide +kernel
theorem dX5_reach_10 : decode cX5_reach 10 = .ok (.iload_n 2, 1) := by decide +kernel
theorem dX5_reach_11 : decode cX5_reach 11 = .ok (.ireturn, 1) := by decide +kernel
theorem dX5_reach_12 : decode cX5_reach 12 = .ok (.aload_n 0, 1) := by decide +kernel
theorem dX5_reach_13 : decode cX5_reach 13 = .ok (.invokevirtual 156, 3) := by decide +kernel
theorem dX5_reach_16 : decode cX5_reach 16 = .ok (.aload_n 0, 1) := by decide +kernel
theorem dX5_reach_17 : decode cX5_reach 17 = .ok (.aload_n 0, 1) := by decide +kernel
theorem dX5_reach_18 : decode cX5_reach 18 = .ok (.iload_n 1, 1) := by decide +kernel
theorem dX5_reach_19 : decode cX5_reach 19 = .ok (.invokevirtual 125, 3) := by decide +kernel
theorem dX5_reach_22 : decode cX5_reach 22 = .ok (.lconst 1, 1) := by decide +kernel
theorem dX5_reach_23 : decode cX5_reach 23 = .ok (.invokevirtual 159, 3) := by decide +kernel
theorem dX5_reach_26 : decode cX5_reach 26 = .ok (.iconst 0, 1) := by decide +kernel
theorem dX5_reach_27 : decode cX5_reach 27 = .ok (.istore_n 3, 1) := by decide +kernel
theorem dX5_reach_28 : decode cX5_reach 28 = .ok (.iconst 0, 1) := by decide +kernel
theorem dX5_reach_29 : decode cX5_reach 29 = .ok (.istore 4, 2) := by decide +kernel
theorem dX5_reach_31 : decode cX5_reach 31 = .ok (.iload 4, 2) := by decide +kernel
theorem dX5_reach_33 : decode cX5_reach 33 = .ok (.aload_n 0, 1) := by decide +kernel
theorem dX5_reach_34 : decode cX5_reach 34 = .ok (.getfield 104, 3) := by decide +kernel
theorem dX5_reach_37 : decode cX5_reach 37 = .ok (.if_icmp .ge 29, 3) := by decide +kernel
theorem dX5_reach_40 : decode cX5_reach 40 = .ok (.iload_n 3, 1) := by decide +kernel
theorem dX5_reach_41 : decode cX5_reach 41 = .ok (.aload_n 0, 1) := by decide +kernel
theorem dX5_reach_42 : decode cX5_reach 42 = .ok (.getfield 50, 3) := by decide +kernel
theorem dX5_reach_45 : decode cX5_reach 45 = .ok (.iload 4, 2) := by decide +kernel
theorem dX5_reach_47 : decode cX5_reach 47 = .ok (.laload, 1) := by decide +kernel
theorem dX5_reach_48 : decode cX5_reach 48 = .ok (.lconst 0, 1) := by decide +kernel
theorem dX5_reach_49 : decode cX5_reach 49 = .ok (.lcmp, 1) := by decide +kernel
theorem dX5_reach_50 : decode cX5_reach 50 = .ok (.ifCond .le 7, 3) := by decide +kernel
theorem dX5_reach_53 : decode cX5_reach 53 = .ok (.iconst 1, 1) := by decide +kernel
theorem dX5_reach_54 : decode cX5_reach 54 = .ok (.goto 4, 3) := by decide +kernel
theorem dX5_reach_57 : decode cX5_reach 57 = .ok (.iconst 0, 1) := by decide +kernel
theorem dX5_reach_58 : decode cX5_reach 58 = .ok (.iadd, 1) := by decide +kernel
theorem dX5_reach_59 : decode cX5_reach 59 = .ok (.istore_n 3, 1) := by decide +kernel
theorem dX5_reach_60 : decode cX5_reach 60 = .ok (.iinc 4 1, 3) := by decide +kernel
theorem dX5_reach_63 : decode cX5_reach 63 = .ok (.goto (-32), 3) := by decide +kernel
theorem dX5_reach_66 : decode cX5_reach 66 = .ok (.iload_n 3, 1) := by decide +kernel
theorem dX5_reach_67 : decode cX5_reach 67 = .ok (.ireturn, 1) := by decide +kernel
theorem dX5_walks_0 : decode cX5_walks 0 = .ok (.iload_n 1, 1) := by decide +kernel
theorem dX5_walks_1 : decode cX5_walks 1 = .ok (.invokestatic 73, 3) := by decide +kernel
theorem dX5_walks_4 : decode cX5_walks 4 = .ok (.ifCond .eq 19, 3) := by decide +kernel
theorem dX5_walks_7 : decode cX5_walks 7 = .ok (.iload_n 2, 1) := by decide +kernel
theorem dX5_walks_8 : decode cX5_walks 8 = .ok (.invokestatic 73, 3) := by decide +kernel
theorem dX5_walks_11 : decode cX5_walks 11 = .ok (.ifCond .eq 12, 3) := by decide +kernel
theorem dX5_walks_14 : decode cX5_walks 14 = .ok (.iload_n 3, 1) := by decide +kernel
theorem dX5_walks_15 : decode cX5_walks 15 = .ok (.iconst 0, 1) := by decide +kernel
theorem dX5_walks_16 : decode cX5_walks 16 = .ok (.iconst 3, 1) := by decide +kernel
theorem dX5_walks_17 : decode cX5_walks 17 = .ok (.invokestatic 69, 3) := by decide +kernel
theorem dX5_walks_20 : decode cX5_walks 20 = .ok (.ifCond .ne 5, 3) := by decide +kernel
theorem dX5_walks_23 : decode cX5_walks 23 = .ok (.iconst (-1), 1) := by decide +kernel
theorem dX5_walks_24 : decode cX5_walks 24 = .ok (.ireturn, 1) := by decide +kernel
theorem dX5_walks_25 : decode cX5_walks 25 = .ok (.aload_n 0, 1) := by decide +kernel
theorem dX5_walks_26 : decode cX5_walks 26 = .ok (.getfield 13, 3) := by decide +kernel
theorem dX5_walks_29 : decode cX5_walks 29 = .ok (.iload_n 1, 1) := by decide +kernel
theorem dX5_walks_30 : decode cX5_walks 30 = .ok (.iaload, 1) := by decide +kernel
theorem dX5_walks_31 : decode cX5_walks 31 = .ok (.ifCond .lt 12, 3) := by decide +kernel
theorem dX5_walks_34 : decode cX5_walks 34 = .ok (.aload_n 0, 1) := by decide +kernel
theorem dX5_walks_35 : decode cX5_walks 35 = .ok (.getfield 13, 3) := by decide +kernel
theorem dX5_walks_38 : decode cX5_walks 38 = .ok (.iload_n 2, 1) := by decide +kernel
theorem dX5_walks_39 : decode cX5_walks 39 = .ok (.iaload, 1) := by decide +kernel
theorem dX5_walks_40 : decode cX5_walks 40 = .ok (.ifCond .ge 9, 3) := by decide +kernel
theorem dX5_walks_43 : decode cX5_walks 43 = .ok (.aload_n 0, 1) := by decide +kernel
theorem dX5_walks_44 : decode cX5_walks 44 = .ok (.iconst 1, 1) := by decide +kernel
theorem dX5_walks_45 : decode cX5_walks 45 = .ok (.invokevirtual 77, 3) := by decide +kernel
theorem dX5_walks_48 : decode cX5_walks 48 = .ok (.ireturn, 1) := by decide +kernel
theorem dX5_walks_49 : decode cX5_walks 49 = .ok (.aload_n 0, 1) := by decide +kernel
theorem dX5_walks_50 : decode cX5_walks 50 = .ok (.lconst 0, 1) := by decide +kernel
theorem dX5_walks_51 : decode cX5_walks 51 = .ok (.putfield 163, 3) := by decide +kernel
theorem dX5_walks_54 : decode cX5_walks 54 = .ok (.aload_n 0, 1) := by decide +kernel
theorem dX5_walks_55 : decode cX5_walks 55 = .ok (.iload_n 1, 1) := by decide +kernel
theorem dX5_walks_56 : decode cX5_walks 56 = .ok (.invokevirtual 84, 3) := by decide +kernel
theorem dX5_walks_59 : decode cX5_walks 59 = .ok (.aload_n 0, 1) := by decide +kernel
theorem dX5_walks_60 : decode cX5_walks 60 = .ok (.iload_n 2, 1) := by decide +kernel
theorem dX5_walks_61 : decode cX5_walks 61 = .ok (.invokevirtual 84, 3) := by decide +kernel
theorem dX5_walks_64 : decode cX5_walks 64 = .ok (.if_icmp .ne 130, 3) := by decide +kernel
theorem dX5_walks_67 : decode cX5_walks 67 = .ok (.aload_n 0, 1) := by decide +kernel
theorem dX5_walks_68 : decode cX5_walks 68 = .ok (.invokevirtual 156, 3) := by decide +kernel
theorem dX5_walks_71 : decode cX5_walks 71 = .ok (.aload_n 0, 1) := by decide +kernel
theorem dX5_walks_72 : decode cX5_walks 72 = .ok (.getfield 50, 3) := by decide +kernel
theorem dX5_walks_75 : decode cX5_walks 75 = .ok (.aload_n 0, 1) := by decide +kernel
theorem dX5_walks_76 : decode cX5_walks 76 = .ok (.iload_n 1, 1) := by decide +kernel
theorem dX5_walks_77 : decode cX5_walks 77 = .ok (.invokevirtual 125, 3) := by decide +kernel
theorem dX5_walks_80 : decode cX5_walks 80 = .ok (.lconst 1, 1) := by decide +kernel
theorem dX5_walks_81 : decode cX5_walks 81 = .ok (.lastore, 1) := by decide +kernel
theorem dX5_walks_82 : decode cX5_walks 82 = .ok (.iconst 0, 1) := by decide +kernel
theorem dX5_walks_83 : decode cX5_walks 83 = .ok (.istore 4, 2) := by decide +kernel
theorem dX5_walks_85 : decode cX5_walks 85 = .ok (.iload 4, 2) := by decide +kernel
theorem dX5_walks_87 : decode cX5_walks 87 = .ok (.iload_n 3, 1) := by decide +kernel
theorem dX5_walks_88 : decode cX5_walks 88 = .ok (.if_icmp .ge 92, 3) := by decide +kernel
theorem dX5_walks_91 : decode cX5_walks 91 = .ok (.iconst 0, 1) := by decide +kernel
theorem dX5_walks_92 : decode cX5_walks 92 = .ok (.istore 5, 2) := by decide +kernel
theorem dX5_walks_94 : decode cX5_walks 94 = .ok (.iload 5, 2) := by decide +kernel
theorem dX5_walks_96 : decode cX5_walks 96 = .ok (.aload_n 0, 1) := by decide +kernel
theorem dX5_walks_97 : decode cX5_walks 97 = .ok (.getfield 104, 3) := by decide +kernel
theorem dX5_walks_100 : decode cX5_walks 100 = .ok (.if_icmp .ge 31, 3) := by decide +kernel
theorem dX5_walks_103 : decode cX5_walks 103 = .ok (.aload_n 0, 1) := by decide +kernel
theorem dX5_walks_104 : decode cX5_walks 104 = .ok (.getfield 63, 3) := by decide +kernel
theorem dX5_walks_107 : decode cX5_walks 107 = .ok (.iload 5, 2) := by decide +kernel
theorem dX5_walks_109 : decode cX5_walks 109 = .ok (.aload_n 0, 1) := by decide +kernel
theorem dX5_walks_110 : decode cX5_walks 110 = .ok (.getfield 50, 3) := by decide +kernel
theorem dX5_walks_113 : decode cX5_walks 113 = .ok (.iload 5, 2) := by decide +kernel
theorem dX5_walks_115 : decode cX5_walks 115 = .ok (.laload, 1) := by decide +kernel
theorem dX5_walks_116 : decode cX5_walks 116 = .ok (.lastore, 1) := by decide +kernel
theorem dX5_walks_117 : decode cX5_walks 117 = .ok (.aload_n 0, 1) := by decide +kernel
theorem dX5_walks_118 : decode cX5_walks 118 = .ok (.getfield 50, 3) := by decide +kernel
theorem dX5_walks_121 : decode cX5_walks 121 = .ok (.iload 5, 2) := by decide +kernel
theorem dX5_walks_123 : decode cX5_walks 123 = .ok (.lconst 0, 1) := by decide +kernel
theorem dX5_walks_124 : decode cX5_walks 124 = .ok (.lastore, 1) := by decide +kernel
theorem dX5_walks_125 : decode cX5_walks 125 = .ok (.iinc 5 1, 3) := by decide +kernel
theorem dX5_walks_128 : decode cX5_walks 128 = .ok (.goto (-34), 3) := by decide +kernel
theorem dX5_walks_131 : decode cX5_walks 131 = .ok (.iconst 0, 1) := by decide +kernel
theorem dX5_walks_132 : decode cX5_walks 132 = .ok (.istore 5, 2) := by decide +kernel
theorem dX5_walks_134 : decode cX5_walks 134 = .ok (.iload 5, 2) := by decide +kernel
theorem dX5_walks_136 : decode cX5_walks 136 = .ok (.aload_n 0, 1) := by decide +kernel
theorem dX5_walks_137 : decode cX5_walks 137 = .ok (.getfield 104, 3) := by decide +kernel
theorem dX5_walks_140 : decode cX5_walks 140 = .ok (.if_icmp .ge 34, 3) := by decide +kernel
theorem dX5_walks_143 : decode cX5_walks 143 = .ok (.aload_n 0, 1) := by decide +kernel
theorem dX5_walks_144 : decode cX5_walks 144 = .ok (.getfield 63, 3) := by decide +kernel
theorem dX5_walks_147 : decode cX5_walks 147 = .ok (.iload 5, 2) := by decide +kernel
theorem dX5_walks_149 : decode cX5_walks 149 = .ok (.laload, 1) := by decide +kernel
theorem dX5_walks_150 : decode cX5_walks 150 = .ok (.lconst 0, 1) := by decide +kernel
theorem dX5_walks_151 : decode cX5_walks 151 = .ok (.lcmp, 1) := by decide +kernel
theorem dX5_walks_152 : decode cX5_walks 152 = .ok (.ifCond .le 16, 3) := by decide +kernel
theorem dX5_walks_155 : decode cX5_walks 155 = .ok (.aload_n 0, 1) := by decide +kernel
theorem dX5_walks_156 : decode cX5_walks 156 = .ok (.iload 5, 2) := by decide +kernel
theorem dX5_walks_158 : decode cX5_walks 158 = .ok (.aload_n 0, 1) := by decide +kernel
theorem dX5_walks_159 : decode cX5_walks 159 = .ok (.getfield 63, 3) := by decide +kernel
theorem dX5_walks_162 : decode cX5_walks 162 = .ok (.iload 5, 2) := by decide +kernel
theorem dX5_walks_164 : decode cX5_walks 164 = .ok (.laload, 1) := by decide +kernel
theorem dX5_walks_165 : decode cX5_walks 165 = .ok (.invokevirtual 159, 3) := by decide +kernel
theorem dX5_walks_168 : decode cX5_walks 168 = .ok (.iinc 5 1, 3) := by decide +kernel
theorem dX5_walks_171 : decode cX5_walks 171 = .ok (.goto (-37), 3) := by decide +kernel
theorem dX5_walks_174 : decode cX5_walks 174 = .ok (.iinc 4 1, 3) := by decide +kernel
theorem dX5_walks_177 : decode cX5_walks 177 = .ok (.goto (-92), 3) := by decide +kernel
theorem dX5_walks_180 : decode cX5_walks 180 = .ok (.aload_n 0, 1) := by decide +kernel
theorem dX5_walks_181 : decode cX5_walks 181 = .ok (.aload_n 0, 1) := by decide +kernel
theorem dX5_walks_182 : decode cX5_walks 182 = .ok (.getfield 50, 3) := by decide +kernel
theorem dX5_walks_185 : decode cX5_walks 185 = .ok (.aload_n 0, 1) := by decide +kernel
theorem dX5_walks_186 : decode cX5_walks 186 = .ok (.iload_n 2, 1) := by decide +kernel
theorem dX5_walks_187 : decode cX5_walks 187 = .ok (.invokevirtual 125, 3) := by decide +kernel
theorem dX5_walks_190 : decode cX5_walks 190 = .ok (.laload, 1) := by decide +kernel
theorem dX5_walks_191 : decode cX5_walks 191 = .ok (.putfield 163, 3) := by decide +kernel
theorem dX5_walks_194 : decode cX5_walks 194 = .ok (.iconst 1, 1) := by decide +kernel
theorem dX5_walks_195 : decode cX5_walks 195 = .ok (.ireturn, 1) := by decide +kernel
theorem dX5_asked_0 : decode cX5_asked 0 = .ok (.aload_n 0, 1) := by decide +kernel
theorem dX5_asked_1 : decode cX5_asked 1 = .ok (.getfield 163, 3) := by decide +kernel
theorem dX5_asked_4 : decode cX5_asked 4 = .ok (.lreturn, 1) := by decide +kernel
theorem dX5_told_0 : decode cX5_told 0 = .ok (.iload_n 2, 1) := by decide +kernel
theorem dX5_told_1 : decode cX5_told 1 = .ok (.iconst 0, 1) := by decide +kernel
theorem dX5_told_2 : decode cX5_told 2 = .ok (.iconst 3, 1) := by decide +kernel
theorem dX5_told_3 : decode cX5_told 3 = .ok (.invokestatic 69, 3) := by decide +kernel
theorem dX5_told_6 : decode cX5_told 6 = .ok (.ifCond .ne 5, 3) := by decide +kernel
theorem dX5_told_9 : decode cX5_told 9 = .ok (.iconst (-1), 1) := by decide +kernel
theorem dX5_told_10 : decode cX5_told 10 = .ok (.ireturn, 1) := by decide +kernel
theorem dX5_told_11 : decode cX5_told 11 = .ok (.aload_n 0, 1) := by decide +kernel
theorem dX5_told_12 : decode cX5_told 12 = .ok (.iload_n 1, 1) := by decide +kernel
theorem dX5_told_13 : decode cX5_told 13 = .ok (.invokevirtual 81, 3) := by decide +kernel
theorem dX5_told_16 : decode cX5_told 16 = .ok (.istore_n 3, 1) := by decide +kernel
theorem dX5_told_17 : decode cX5_told 17 = .ok (.iload_n 3, 1) := by decide +kernel
theorem dX5_told_18 : decode cX5_told 18 = .ok (.ifCond .ge 5, 3) := by decide +kernel
theorem dX5_told_21 : decode cX5_told 21 = .ok (.iload_n 3, 1) := by decide +kernel
theorem dX5_told_22 : decode cX5_told 22 = .ok (.ireturn, 1) := by decide +kernel
theorem dX5_told_23 : decode cX5_told 23 = .ok (.iconst 0, 1) := by decide +kernel
theorem dX5_told_24 : decode cX5_told 24 = .ok (.istore 4, 2) := by decide +kernel
theorem dX5_told_26 : decode cX5_told 26 = .ok (.iconst 0, 1) := by decide +kernel
theorem dX5_told_27 : decode cX5_told 27 = .ok (.istore 5, 2) := by decide +kernel
theorem dX5_told_29 : decode cX5_told 29 = .ok (.iload 5, 2) := by decide +kernel
theorem dX5_told_31 : decode cX5_told 31 = .ok (.aload_n 0, 1) := by decide +kernel
theorem dX5_told_32 : decode cX5_told 32 = .ok (.getfield 13, 3) := by decide +kernel
theorem dX5_told_35 : decode cX5_told 35 = .ok (.iload_n 1, 1) := by decide +kernel
theorem dX5_told_36 : decode cX5_told 36 = .ok (.iaload, 1) := by decide +kernel
theorem dX5_told_37 : decode cX5_told 37 = .ok (.if_icmp .ge 53, 3) := by decide +kernel
theorem dX5_told_40 : decode cX5_told 40 = .ok (.iload 4, 2) := by decide +kernel
theorem dX5_told_42 : decode cX5_told 42 = .ok (.iload 5, 2) := by decide +kernel
theorem dX5_told_44 : decode cX5_told 44 = .ok (.ifCond .eq 32, 3) := by decide +kernel
theorem dX5_told_47 : decode cX5_told 47 = .ok (.aload_n 0, 1) := by decide +kernel
theorem dX5_told_48 : decode cX5_told 48 = .ok (.getfield 16, 3) := by decide +kernel
theorem dX5_told_51 : decode cX5_told 51 = .ok (.bipush 18, 2) := by decide +kernel
theorem dX5_told_53 : decode cX5_told 53 = .ok (.iload_n 1, 1) := by decide +kernel
theorem dX5_told_54 : decode cX5_told 54 = .ok (.imul, 1) := by decide +kernel
theorem dX5_told_55 : decode cX5_told 55 = .ok (.iload 5, 2) := by decide +kernel
theorem dX5_told_57 : decode cX5_told 57 = .ok (.iadd, 1) := by decide +kernel
theorem dX5_told_58 : decode cX5_told 58 = .ok (.iaload, 1) := by decide +kernel
theorem dX5_told_59 : decode cX5_told 59 = .ok (.aload_n 0, 1) := by decide +kernel
theorem dX5_told_60 : decode cX5_told 60 = .ok (.getfield 16, 3) := by decide +kernel
theorem dX5_told_63 : decode cX5_told 63 = .ok (.bipush 18, 2) := by decide +kernel
theorem dX5_told_65 : decode cX5_told 65 = .ok (.iload_n 1, 1) := by decide +kernel
theorem dX5_told_66 : decode cX5_told 66 = .ok (.imul, 1) := by decide +kernel
theorem dX5_told_67 : decode cX5_told 67 = .ok (.iload 5, 2) := by decide +kernel
theorem dX5_told_69 : decode cX5_told 69 = .ok (.iadd, 1) := by decide +kernel
theorem dX5_told_70 : decode cX5_told 70 = .ok (.iconst 1, 1) := by decide +kernel
theorem dX5_told_71 : decode cX5_told 71 = .ok (.isub, 1) := by decide +kernel
theorem dX5_told_72 : decode cX5_told 72 = .ok (.iaload, 1) := by decide +kernel
theorem dX5_told_73 : decode cX5_told 73 = .ok (.if_icmp .eq 7, 3) := by decide +kernel
theorem dX5_told_76 : decode cX5_told 76 = .ok (.iconst 1, 1) := by decide +kernel
theorem dX5_told_77 : decode cX5_told 77 = .ok (.goto 4, 3) := by decide +kernel
theorem dX5_told_80 : decode cX5_told 80 = .ok (.iconst 0, 1) := by decide +kernel
theorem dX5_told_81 : decode cX5_told 81 = .ok (.iadd, 1) := by decide +kernel
theorem dX5_told_82 : decode cX5_told 82 = .ok (.istore 4, 2) := by decide +kernel
theorem dX5_told_84 : decode cX5_told 84 = .ok (.iinc 5 1, 3) := by decide +kernel
theorem dX5_told_87 : decode cX5_told 87 = .ok (.goto (-58), 3) := by decide +kernel
theorem dX5_told_90 : decode cX5_told 90 = .ok (.iload_n 2, 1) := by decide +kernel
theorem dX5_told_91 : decode cX5_told 91 = .ok (.ifCond .ne 11, 3) := by decide +kernel
theorem dX5_told_94 : decode cX5_told 94 = .ok (.aload_n 0, 1) := by decide +kernel
theorem dX5_told_95 : decode cX5_told 95 = .ok (.iload_n 1, 1) := by decide +kernel
theorem dX5_told_96 : decode cX5_told 96 = .ok (.invokevirtual 84, 3) := by decide +kernel
theorem dX5_told_99 : decode cX5_told 99 = .ok (.goto 49, 3) := by decide +kernel
theorem dX5_told_102 : decode cX5_told 102 = .ok (.iload_n 2, 1) := by decide +kernel
theorem dX5_told_103 : decode cX5_told 103 = .ok (.iconst 1, 1) := by decide +kernel
theorem dX5_told_104 : decode cX5_told 104 = .ok (.if_icmp .ne 12, 3) := by decide +kernel
theorem dX5_told_107 : decode cX5_told 107 = .ok (.aload_n 0, 1) := by decide +kernel
theorem dX5_told_108 : decode cX5_told 108 = .ok (.getfield 13, 3) := by decide +kernel
theorem dX5_told_111 : decode cX5_told 111 = .ok (.iload_n 1, 1) := by decide +kernel
theorem dX5_told_112 : decode cX5_told 112 = .ok (.iaload, 1) := by decide +kernel
theorem dX5_told_113 : decode cX5_told 113 = .ok (.goto 35, 3) := by decide +kernel
theorem dX5_told_116 : decode cX5_told 116 = .ok (.iload_n 2, 1) := by decide +kernel
theorem dX5_told_117 : decode cX5_told 117 = .ok (.iconst 3, 1) := by decide +kernel
theorem dX5_told_118 : decode cX5_told 118 = .ok (.if_icmp .ne 8, 3) := by decide +kernel
theorem dX5_told_121 : decode cX5_told 121 = .ok (.iload 4, 2) := by decide +kernel
theorem dX5_told_123 : decode cX5_told 123 = .ok (.goto 25, 3) := by decide +kernel
theorem dX5_told_126 : decode cX5_told 126 = .ok (.aload_n 0, 1) := by decide +kernel
theorem dX5_told_127 : decode cX5_told 127 = .ok (.getfield 13, 3) := by decide +kernel
theorem dX5_told_130 : decode cX5_told 130 = .ok (.iload_n 1, 1) := by decide +kernel
theorem dX5_told_131 : decode cX5_told 131 = .ok (.iaload, 1) := by decide +kernel
theorem dX5_told_132 : decode cX5_told 132 = .ok (.ifCond .ne 7, 3) := by decide +kernel
theorem dX5_told_135 : decode cX5_told 135 = .ok (.iconst 0, 1) := by decide +kernel
theorem dX5_told_136 : decode cX5_told 136 = .ok (.goto 12, 3) := by decide +kernel
theorem dX5_told_139 : decode cX5_told 139 = .ok (.aload_n 0, 1) := by decide +kernel
theorem dX5_told_140 : decode cX5_told 140 = .ok (.getfield 16, 3) := by decide +kernel
theorem dX5_told_143 : decode cX5_told 143 = .ok (.bipush 18, 2) := by decide +kernel
theorem dX5_told_145 : decode cX5_told 145 = .ok (.iload_n 1, 1) := by decide +kernel
theorem dX5_told_146 : decode cX5_told 146 = .ok (.imul, 1) := by decide +kernel
theorem dX5_told_147 : decode cX5_told 147 = .ok (.iaload, 1) := by decide +kernel
theorem dX5_told_148 : decode cX5_told 148 = .ok (.ireturn, 1) := by decide +kernel
theorem dX5_count_0 : decode cX5_count 0 = .ok (.iconst 0, 1) := by decide +kernel
theorem dX5_count_1 : decode cX5_count 1 = .ok (.istore_n 2, 1) := by decide +kernel
theorem dX5_count_2 : decode cX5_count 2 = .ok (.iconst 0, 1) := by decide +kernel
theorem dX5_count_3 : decode cX5_count 3 = .ok (.istore_n 3, 1) := by decide +kernel
theorem dX5_count_4 : decode cX5_count 4 = .ok (.iload_n 3, 1) := by decide +kernel
theorem dX5_count_5 : decode cX5_count 5 = .ok (.bipush 12, 2) := by decide +kernel
theorem dX5_count_7 : decode cX5_count 7 = .ok (.if_icmp .ge 39, 3) := by decide +kernel
theorem dX5_count_10 : decode cX5_count 10 = .ok (.iload_n 2, 1) := by decide +kernel
theorem dX5_count_11 : decode cX5_count 11 = .ok (.aload_n 0, 1) := by decide +kernel
theorem dX5_count_12 : decode cX5_count 12 = .ok (.getfield 13, 3) := by decide +kernel
theorem dX5_count_15 : decode cX5_count 15 = .ok (.iload_n 3, 1) := by decide +kernel
theorem dX5_count_16 : decode cX5_count 16 = .ok (.iaload, 1) := by decide +kernel
theorem dX5_count_17 : decode cX5_count 17 = .ok (.ifCond .ge 7, 3) := by decide +kernel
theorem dX5_count_20 : decode cX5_count 20 = .ok (.iconst 0, 1) := by decide +kernel
theorem dX5_count_21 : decode cX5_count 21 = .ok (.goto 17, 3) := by decide +kernel
theorem dX5_count_24 : decode cX5_count 24 = .ok (.iload_n 1, 1) := by decide +kernel
theorem dX5_count_25 : decode cX5_count 25 = .ok (.iconst 1, 1) := by decide +kernel
theorem dX5_count_26 : decode cX5_count 26 = .ok (.if_icmp .ne 7, 3) := by decide +kernel
theorem dX5_count_29 : decode cX5_count 29 = .ok (.iconst 1, 1) := by decide +kernel
theorem dX5_count_30 : decode cX5_count 30 = .ok (.goto 8, 3) := by decide +kernel
theorem dX5_count_33 : decode cX5_count 33 = .ok (.aload_n 0, 1) := by decide +kernel
theorem dX5_count_34 : decode cX5_count 34 = .ok (.iload_n 3, 1) := by decide +kernel
theorem dX5_count_35 : decode cX5_count 35 = .ok (.invokevirtual 84, 3) := by decide +kernel
theorem dX5_count_38 : decode cX5_count 38 = .ok (.iadd, 1) := by decide +kernel
theorem dX5_count_39 : decode cX5_count 39 = .ok (.istore_n 2, 1) := by decide +kernel
theorem dX5_count_40 : decode cX5_count 40 = .ok (.iinc 3 1, 3) := by decide +kernel
theorem dX5_count_43 : decode cX5_count 43 = .ok (.goto (-39), 3) := by decide +kernel
theorem dX5_count_46 : decode cX5_count 46 = .ok (.iload_n 1, 1) := by decide +kernel
theorem dX5_count_47 : decode cX5_count 47 = .ok (.ifCond .ne 10, 3) := by decide +kernel
theorem dX5_count_50 : decode cX5_count 50 = .ok (.aload_n 0, 1) := by decide +kernel
theorem dX5_count_51 : decode cX5_count 51 = .ok (.getfield 91, 3) := by decide +kernel
theorem dX5_count_54 : decode cX5_count 54 = .ok (.goto 17, 3) := by decide +kernel
theorem dX5_count_57 : decode cX5_count 57 = .ok (.iload_n 1, 1) := by decide +kernel
theorem dX5_count_58 : decode cX5_count 58 = .ok (.iconst 1, 1) := by decide +kernel
theorem dX5_count_59 : decode cX5_count 59 = .ok (.iconst 2, 1) := by decide +kernel
theorem dX5_count_60 : decode cX5_count 60 = .ok (.invokestatic 69, 3) := by decide +kernel
theorem dX5_count_63 : decode cX5_count 63 = .ok (.ifCond .eq 7, 3) := by decide +kernel
theorem dX5_count_66 : decode cX5_count 66 = .ok (.iload_n 2, 1) := by decide +kernel
theorem dX5_count_67 : decode cX5_count 67 = .ok (.goto 4, 3) := by decide +kernel
theorem dX5_count_70 : decode cX5_count 70 = .ok (.iconst (-1), 1) := by decide +kernel
theorem dX5_count_71 : decode cX5_count 71 = .ok (.ireturn, 1) := by decide +kernel
theorem dX5_finding_0 : decode cX5_finding 0 = .ok (.aload_n 0, 1) := by decide +kernel
theorem dX5_finding_1 : decode cX5_finding 1 = .ok (.getfield 66, 3) := by decide +kernel
theorem dX5_finding_4 : decode cX5_finding 4 = .ok (.ireturn, 1) := by decide +kernel
theorem dX5_findings_0 : decode cX5_findings 0 = .ok (.iload_n 1, 1) := by decide +kernel
theorem dX5_findings_1 : decode cX5_findings 1 = .ok (.iconst 1, 1) := by decide +kernel
theorem dX5_findings_2 : decode cX5_findings 2 = .ok (.iconst 5, 1) := by decide +kernel
theorem dX5_findings_3 : decode cX5_findings 3 = .ok (.invokestatic 69, 3) := by decide +kernel
theorem dX5_findings_6 : decode cX5_findings 6 = .ok (.ifCond .eq 12, 3) := by decide +kernel
theorem dX5_findings_9 : decode cX5_findings 9 = .ok (.aload_n 0, 1) := by decide +kernel
theorem dX5_findings_10 : decode cX5_findings 10 = .ok (.getfield 7, 3) := by decide +kernel
theorem dX5_findings_13 : decode cX5_findings 13 = .ok (.iload_n 1, 1) := by decide +kernel
theorem dX5_findings_14 : decode cX5_findings 14 = .ok (.iaload, 1) := by decide +kernel
theorem dX5_findings_15 : decode cX5_findings 15 = .ok (.goto 4, 3) := by decide +kernel
theorem dX5_findings_18 : decode cX5_findings 18 = .ok (.iconst (-1), 1) := by decide +kernel
theorem dX5_findings_19 : decode cX5_findings 19 = .ok (.ireturn, 1) := by decide +kernel
theorem dX5_digest_0 : decode cX5_digest 0 = .ok (.ldc2_w 167, 3) := by decide +kernel
theorem dX5_digest_3 : decode cX5_digest 3 = .ok (.aload_n 0, 1) := by decide +kernel
theorem dX5_digest_4 : decode cX5_digest 4 = .ok (.getfield 91, 3) := by decide +kernel
theorem dX5_digest_7 : decode cX5_digest 7 = .ok (.i2l, 1) := by decide +kernel
theorem dX5_digest_8 : decode cX5_digest 8 = .ok (.ladd, 1) := by decide +kernel
theorem dX5_digest_9 : decode cX5_digest 9 = .ok (.lstore_n 1, 1) := by decide +kernel
theorem dX5_digest_10 : decode cX5_digest 10 = .ok (.iconst 0, 1) := by decide +kernel
theorem dX5_digest_11 : decode cX5_digest 11 = .ok (.istore_n 3, 1) := by decide +kernel
theorem dX5_digest_12 : decode cX5_digest 12 = .ok (.iload_n 3, 1) := by decide +kernel
theorem dX5_digest_13 : decode cX5_digest 13 = .ok (.bipush 12, 2) := by decide +kernel
theorem dX5_digest_15 : decode cX5_digest 15 = .ok (.if_icmp .ge 76, 3) := by decide +kernel
theorem dX5_digest_18 : decode cX5_digest 18 = .ok (.ldc2_w 169, 3) := by decide +kernel
theorem dX5_digest_21 : decode cX5_digest 21 = .ok (.lload_n 1, 1) := by decide +kernel
theorem dX5_digest_22 : decode cX5_digest 22 = .ok (.lmul, 1) := by decide +kernel
theorem dX5_digest_23 : decode cX5_digest 23 = .ok (.aload_n 0, 1) := by decide +kernel
theorem dX5_digest_24 : decode cX5_digest 24 = .ok (.getfield 13, 3) := by decide +kernel
theorem dX5_digest_27 : decode cX5_digest 27 = .ok (.iload_n 3, 1) := by decide +kernel
theorem dX5_digest_28 : decode cX5_digest 28 = .ok (.iaload, 1) := by decide +kernel
theorem dX5_digest_29 : decode cX5_digest 29 = .ok (.ifCond .ge 7, 3) := by decide +kernel
theorem dX5_digest_32 : decode cX5_digest 32 = .ok (.iconst (-1), 1) := by decide +kernel
theorem dX5_digest_33 : decode cX5_digest 33 = .ok (.goto 9, 3) := by decide +kernel
theorem dX5_digest_36 : decode cX5_digest 36 = .ok (.aload_n 0, 1) := by decide +kernel
theorem dX5_digest_37 : decode cX5_digest 37 = .ok (.getfield 13, 3) := by decide +kernel
theorem dX5_digest_40 : decode cX5_digest 40 = .ok (.iload_n 3, 1) := by decide +kernel
theorem dX5_digest_41 : decode cX5_digest 41 = .ok (.iaload, 1) := by decide +kernel
theorem dX5_digest_42 : decode cX5_digest 42 = .ok (.i2l, 1) := by decide +kernel
theorem dX5_digest_43 : decode cX5_digest 43 = .ok (.ladd, 1) := by decide +kernel
theorem dX5_digest_44 : decode cX5_digest 44 = .ok (.lstore_n 1, 1) := by decide +kernel
theorem dX5_digest_45 : decode cX5_digest 45 = .ok (.iconst 0, 1) := by decide +kernel
theorem dX5_digest_46 : decode cX5_digest 46 = .ok (.istore 4, 2) := by decide +kernel
theorem dX5_digest_48 : decode cX5_digest 48 = .ok (.iload 4, 2) := by decide +kernel
theorem dX5_digest_50 : decode cX5_digest 50 = .ok (.aload_n 0, 1) := by decide +kernel
theorem dX5_digest_51 : decode cX5_digest 51 = .ok (.getfield 13, 3) := by decide +kernel
theorem dX5_digest_54 : decode cX5_digest 54 = .ok (.iload_n 3, 1) := by decide +kernel
theorem dX5_digest_55 : decode cX5_digest 55 = .ok (.iaload, 1) := by decide +kernel
theorem dX5_digest_56 : decode cX5_digest 56 = .ok (.if_icmp .ge 29, 3) := by decide +kernel
theorem dX5_digest_59 : decode cX5_digest 59 = .ok (.ldc2_w 169, 3) := by decide +kernel
theorem dX5_digest_62 : decode cX5_digest 62 = .ok (.lload_n 1, 1) := by decide +kernel
theorem dX5_digest_63 : decode cX5_digest 63 = .ok (.lmul, 1) := by decide +kernel
theorem dX5_digest_64 : decode cX5_digest 64 = .ok (.aload_n 0, 1) := by decide +kernel
theorem dX5_digest_65 : decode cX5_digest 65 = .ok (.getfield 16, 3) := by decide +kernel
theorem dX5_digest_68 : decode cX5_digest 68 = .ok (.bipush 18, 2) := by decide +kernel
theorem dX5_digest_70 : decode cX5_digest 70 = .ok (.iload_n 3, 1) := by decide +kernel
theorem dX5_digest_71 : decode cX5_digest 71 = .ok (.imul, 1) := by decide +kernel
theorem dX5_digest_72 : decode cX5_digest 72 = .ok (.iload 4, 2) := by decide +kernel
theorem dX5_digest_74 : decode cX5_digest 74 = .ok (.iadd, 1) := by decide +kernel
theorem dX5_digest_75 : decode cX5_digest 75 = .ok (.iaload, 1) := by decide +kernel
theorem dX5_digest_76 : decode cX5_digest 76 = .ok (.i2l, 1) := by decide +kernel
theorem dX5_digest_77 : decode cX5_digest 77 = .ok (.ladd, 1) := by decide +kernel
theorem dX5_digest_78 : decode cX5_digest 78 = .ok (.lstore_n 1, 1) := by decide +kernel
theorem dX5_digest_79 : decode cX5_digest 79 = .ok (.iinc 4 1, 3) := by decide +kernel
theorem dX5_digest_82 : decode cX5_digest 82 = .ok (.goto (-34), 3) := by decide +kernel
theorem dX5_digest_85 : decode cX5_digest 85 = .ok (.iinc 3 1, 3) := by decide +kernel
theorem dX5_digest_88 : decode cX5_digest 88 = .ok (.goto (-76), 3) := by decide +kernel
theorem dX5_digest_91 : decode cX5_digest 91 = .ok (.lload_n 1, 1) := by decide +kernel
theorem dX5_digest_92 : decode cX5_digest 92 = .ok (.lreturn, 1) := by decide +kernel
end
section
theorem dL_law_0 : decode cL_law 0 = .ok (.new 7, 3) := by decide +kernel
theorem dL_law_3 : decode cL_law 3 = .ok (.dup, 1) := by decide +kernel
theorem dL_law_4 : decode cL_law 4 = .ok (.invokespecial 9, 3) := by decide +kernel
theorem dL_law_7 : decode cL_law 7 = .ok (.astore_n 1, 1) := by decide +kernel
theorem dL_law_8 : decode cL_law 8 = .ok (.new 10, 3) := by decide +kernel
theorem dL_law_11 : decode cL_law 11 = .ok (.dup, 1) := by decide +kernel
theorem dL_law_12 : decode cL_law 12 = .ok (.invokespecial 12, 3) := by decide +kernel
theorem dL_law_15 : decode cL_law 15 = .ok (.astore_n 2, 1) := by decide +kernel
theorem dL_law_16 : decode cL_law 16 = .ok (.iconst 0, 1) := by decide +kernel
theorem dL_law_17 : decode cL_law 17 = .ok (.istore_n 3, 1) := by decide +kernel
theorem dL_law_18 : decode cL_law 18 = .ok (.iload_n 3, 1) := by decide +kernel
theorem dL_law_19 : decode cL_law 19 = .ok (.aload_n 0, 1) := by decide +kernel
theorem dL_law_20 : decode cL_law 20 = .ok (.arraylength, 1) := by decide +kernel
theorem dL_law_21 : decode cL_law 21 = .ok (.iconst 5, 1) := by decide +kernel
theorem dL_law_22 : decode cL_law 22 = .ok (.isub, 1) := by decide +kernel
theorem dL_law_23 : decode cL_law 23 = .ok (.if_icmp .gt 1047, 3) := by decide +kernel
theorem dL_law_26 : decode cL_law 26 = .ok (.aload_n 0, 1) := by decide +kernel
theorem dL_law_27 : decode cL_law 27 = .ok (.iload_n 3, 1) := by decide +kernel
theorem dL_law_28 : decode cL_law 28 = .ok (.iaload, 1) := by decide +kernel
theorem dL_law_29 : decode cL_law 29 = .ok (.bipush 31, 2) := by decide +kernel
theorem dL_law_31 : decode cL_law 31 = .ok (.iand, 1) := by decide +kernel
theorem dL_law_32 : decode cL_law 32 = .ok (.tableswitch 1032 0 31 #[144, 167, 200, 233, 266, 289, 342, 365, 388, 421, 444, 467, 490, 533, 556, 589, 612, 635, 658, 691, 724, 747, 780, 813, 846, 869, 912, 926, 959, 982, 995, 1018], 144) := by decide +kernel
theorem dL_law_176 : decode cL_law 176 = .ok (.aload_n 1, 1) := by decide +kernel
theorem dL_law_177 : decode cL_law 177 = .ok (.aload_n 0, 1) := by decide +kernel
theorem dL_law_178 : decode cL_law 178 = .ok (.iload_n 3, 1) := by decide +kernel
theorem dL_law_179 : decode cL_law 179 = .ok (.iconst 1, 1) := by decide +kernel
theorem dL_law_180 : decode cL_law 180 = .ok (.iadd, 1) := by decide +kernel
theorem dL_law_181 : decode cL_law 181 = .ok (.iaload, 1) := by decide +kernel
theorem dL_law_182 : decode cL_law 182 = .ok (.invokevirtual 13, 3) := by decide +kernel
theorem dL_law_185 : decode cL_law 185 = .ok (.aload_n 2, 1) := by decide +kernel
theorem dL_law_186 : decode cL_law 186 = .ok (.aload_n 0, 1) := by decide +kernel
theorem dL_law_187 : decode cL_law 187 = .ok (.iload_n 3, 1) := by decide +kernel
theorem dL_law_188 : decode cL_law 188 = .ok (.iconst 1, 1) := by decide +kernel
theorem dL_law_189 : decode cL_law 189 = .ok (.iadd, 1) := by decide +kernel
theorem dL_law_190 : decode cL_law 190 = .ok (.iaload, 1) := by decide +kernel
theorem dL_law_191 : decode cL_law 191 = .ok (.invokevirtual 17, 3) := by decide +kernel
theorem dL_law_194 : decode cL_law 194 = .ok (.if_icmp .eq 870, 3) := by decide +kernel
theorem dL_law_197 : decode cL_law 197 = .ok (.iconst 0, 1) := by decide +kernel
theorem dL_law_198 : decode cL_law 198 = .ok (.ireturn, 1) := by decide +kernel
theorem dL_law_199 : decode cL_law 199 = .ok (.aload_n 1, 1) := by decide +kernel
theorem dL_law_200 : decode cL_law 200 = .ok (.aload_n 0, 1) := by decide +kernel
theorem dL_law_201 : decode cL_law 201 = .ok (.iload_n 3, 1) := by decide +kernel
theorem dL_law_202 : decode cL_law 202 = .ok (.iconst 1, 1) := by decide +kernel
theorem dL_law_203 : decode cL_law 203 = .ok (.iadd, 1) := by decide +kernel
theorem dL_law_204 : decode cL_law 204 = .ok (.iaload, 1) := by decide +kernel
theorem dL_law_205 : decode cL_law 205 = .ok (.aload_n 0, 1) := by decide +kernel
theorem dL_law_206 : decode cL_law 206 = .ok (.iload_n 3, 1) := by decide +kernel
theorem dL_law_207 : decode cL_law 207 = .ok (.iconst 2, 1) := by decide +kernel
theorem dL_law_208 : decode cL_law 208 = .ok (.iadd, 1) := by decide +kernel
theorem dL_law_209 : decode cL_law 209 = .ok (.iaload, 1) := by decide +kernel
theorem dL_law_210 : decode cL_law 210 = .ok (.invokevirtual 18, 3) := by decide +kernel
theorem dL_law_213 : decode cL_law 213 = .ok (.aload_n 2, 1) := by decide +kernel
theorem dL_law_214 : decode cL_law 214 = .ok (.aload_n 0, 1) := by decide +kernel
theorem dL_law_215 : decode cL_law 215 = .ok (.iload_n 3, 1) := by decide +kernel
theorem dL_law_216 : decode cL_law 216 = .ok (.iconst 1, 1) := by decide +kernel
theorem dL_law_217 : decode cL_law 217 = .ok (.iadd, 1) := by decide +kernel
theorem dL_law_218 : decode cL_law 218 = .ok (.iaload, 1) := by decide +kernel
theorem dL_law_219 : decode cL_law 219 = .ok (.aload_n 0, 1) := by decide +kernel
theorem dL_law_220 : decode cL_law 220 = .ok (.iload_n 3, 1) := by decide +kernel
theorem dL_law_221 : decode cL_law 221 = .ok (.iconst 2, 1) := by decide +kernel
theorem dL_law_222 : decode cL_law 222 = .ok (.iadd, 1) := by decide +kernel
theorem dL_law_223 : decode cL_law 223 = .ok (.iaload, 1) := by decide +kernel
theorem dL_law_224 : decode cL_law 224 = .ok (.invokevirtual 22, 3) := by decide +kernel
theorem dL_law_227 : decode cL_law 227 = .ok (.if_icmp .eq 837, 3) := by decide +kernel
theorem dL_law_230 : decode cL_law 230 = .ok (.iconst 0, 1) := by decide +kernel
theorem dL_law_231 : decode cL_law 231 = .ok (.ireturn, 1) := by decide +kernel
theorem dL_law_232 : decode cL_law 232 = .ok (.aload_n 1, 1) := by decide +kernel
theorem dL_law_233 : decode cL_law 233 = .ok (.aload_n 0, 1) := by decide +kernel
theorem dL_law_234 : decode cL_law 234 = .ok (.iload_n 3, 1) := by decide +kernel
theorem dL_law_235 : decode cL_law 235 = .ok (.iconst 1, 1) := by decide +kernel
theorem dL_law_236 : decode cL_law 236 = .ok (.iadd, 1) := by decide +kernel
theorem dL_law_237 : decode cL_law 237 = .ok (.iaload, 1) := by decide +kernel
theorem dL_law_238 : decode cL_law 238 = .ok (.aload_n 0, 1) := by decide +kernel
theorem dL_law_239 : decode cL_law 239 = .ok (.iload_n 3, 1) := by decide +kernel
theorem dL_law_240 : decode cL_law 240 = .ok (.iconst 2, 1) := by decide +kernel
theorem dL_law_241 : decode cL_law 241 = .ok (.iadd, 1) := by decide +kernel
theorem dL_law_242 : decode cL_law 242 = .ok (.iaload, 1) := by decide +kernel
theorem dL_law_243 : decode cL_law 243 = .ok (.invokevirtual 23, 3) := by decide +kernel
theorem dL_law_246 : decode cL_law 246 = .ok (.aload_n 2, 1) := by decide +kernel
theorem dL_law_247 : decode cL_law 247 = .ok (.aload_n 0, 1) := by decide +kernel
theorem dL_law_248 : decode cL_law 248 = .ok (.iload_n 3, 1) := by decide +kernel
theorem dL_law_249 : decode cL_law 249 = .ok (.iconst 1, 1) := by decide +kernel
theorem dL_law_250 : decode cL_law 250 = .ok (.iadd, 1) := by decide +kernel
theorem dL_law_251 : decode cL_law 251 = .ok (.iaload, 1) := by decide +kernel
theorem dL_law_252 : decode cL_law 252 = .ok (.aload_n 0, 1) := by decide +kernel
theorem dL_law_253 : decode cL_law 253 = .ok (.iload_n 3, 1) := by decide +kernel
theorem dL_law_254 : decode cL_law 254 = .ok (.iconst 2, 1) := by decide +kernel
theorem dL_law_255 : decode cL_law 255 = .ok (.iadd, 1) := by decide +kernel
theorem dL_law_256 : decode cL_law 256 = .ok (.iaload, 1) := by decide +kernel
theorem dL_law_257 : decode cL_law 257 = .ok (.invokevirtual 26, 3) := by decide +kernel
theorem dL_law_260 : decode cL_law 260 = .ok (.if_icmp .eq 804, 3) := by decide +kernel
theorem dL_law_263 : decode cL_law 263 = .ok (.iconst 0, 1) := by decide +kernel
theorem dL_law_264 : decode cL_law 264 = .ok (.ireturn, 1) := by decide +kernel
theorem dL_law_265 : decode cL_law 265 = .ok (.aload_n 1, 1) := by decide +kernel
theorem dL_law_266 : decode cL_law 266 = .ok (.aload_n 0, 1) := by decide +kernel
theorem dL_law_267 : decode cL_law 267 = .ok (.iload_n 3, 1) := by decide +kernel
theorem dL_law_268 : decode cL_law 268 = .ok (.iconst 1, 1) := by decide +kernel
theorem dL_law_269 : decode cL_law 269 = .ok (.iadd, 1) := by decide +kernel
theorem dL_law_270 : decode cL_law 270 = .ok (.iaload, 1) := by decide +kernel
theorem dL_law_271 : decode cL_law 271 = .ok (.aload_n 0, 1) := by decide +kernel
theorem dL_law_272 : decode cL_law 272 = .ok (.iload_n 3, 1) := by decide +kernel
theorem dL_law_273 : decode cL_law 273 = .ok (.iconst 2, 1) := by decide +kernel
theorem dL_law_274 : decode cL_law 274 = .ok (.iadd, 1) := by decide +kernel
theorem dL_law_275 : decode cL_law 275 = .ok (.iaload, 1) := by decide +kernel
theorem dL_law_276 : decode cL_law 276 = .ok (.invokevirtual 27, 3) := by decide +kernel
theorem dL_law_279 : decode cL_law 279 = .ok (.aload_n 2, 1) := by decide +kernel
theorem dL_law_280 : decode cL_law 280 = .ok (.aload_n 0, 1) := by decide +kernel
theorem dL_law_281 : decode cL_law 281 = .ok (.iload_n 3, 1) := by decide +kernel
theorem dL_law_282 : decode cL_law 282 = .ok (.iconst 1, 1) := by decide +kernel
theorem dL_law_283 : decode cL_law 283 = .ok (.iadd, 1) := by decide +kernel
theorem dL_law_284 : decode cL_law 284 = .ok (.iaload, 1) := by decide +kernel
theorem dL_law_285 : decode cL_law 285 = .ok (.aload_n 0, 1) := by decide +kernel
theorem dL_law_286 : decode cL_law 286 = .ok (.iload_n 3, 1) := by decide +kernel
theorem dL_law_287 : decode cL_law 287 = .ok (.iconst 2, 1) := by decide +kernel
theorem dL_law_288 : decode cL_law 288 = .ok (.iadd, 1) := by decide +kernel
theorem dL_law_289 : decode cL_law 289 = .ok (.iaload, 1) := by decide +kernel
theorem dL_law_290 : decode cL_law 290 = .ok (.invokevirtual 30, 3) := by decide +kernel
theorem dL_law_293 : decode cL_law 293 = .ok (.if_icmp .eq 771, 3) := by decide +kernel
theorem dL_law_296 : decode cL_law 296 = .ok (.iconst 0, 1) := by decide +kernel
theorem dL_law_297 : decode cL_law 297 = .ok (.ireturn, 1) := by decide +kernel
theorem dL_law_298 : decode cL_law 298 = .ok (.aload_n 1, 1) := by decide +kernel
theorem dL_law_299 : decode cL_law 299 = .ok (.aload_n 0, 1) := by decide +kernel
theorem dL_law_300 : decode cL_law 300 = .ok (.iload_n 3, 1) := by decide +kernel
theorem dL_law_301 : decode cL_law 301 = .ok (.iconst 1, 1) := by decide +kernel
theorem dL_law_302 : decode cL_law 302 = .ok (.iadd, 1) := by decide +kernel
theorem dL_law_303 : decode cL_law 303 = .ok (.iaload, 1) := by decide +kernel
theorem dL_law_304 : decode cL_law 304 = .ok (.invokevirtual 31, 3) := by decide +kernel
theorem dL_law_307 : decode cL_law 307 = .ok (.aload_n 2, 1) := by decide +kernel
theorem dL_law_308 : decode cL_law 308 = .ok (.aload_n 0, 1) := by decide +kernel
theorem dL_law_309 : decode cL_law 309 = .ok (.iload_n 3, 1) := by decide +kernel
theorem dL_law_310 : decode cL_law 310 = .ok (.iconst 1, 1) := by decide +kernel
theorem dL_law_311 : decode cL_law 311 = .ok (.iadd, 1) := by decide +kernel
theorem dL_law_312 : decode cL_law 312 = .ok (.iaload, 1) := by decide +kernel
theorem dL_law_313 : decode cL_law 313 = .ok (.invokevirtual 34, 3) := by decide +kernel
theorem dL_law_316 : decode cL_law 316 = .ok (.if_icmp .eq 748, 3) := by decide +kernel
theorem dL_law_319 : decode cL_law 319 = .ok (.iconst 0, 1) := by decide +kernel
theorem dL_law_320 : decode cL_law 320 = .ok (.ireturn, 1) := by decide +kernel
theorem dL_law_321 : decode cL_law 321 = .ok (.aload_n 1, 1) := by decide +kernel
theorem dL_law_322 : decode cL_law 322 = .ok (.aload_n 0, 1) := by decide +kernel
theorem dL_law_323 : decode cL_law 323 = .ok (.iload_n 3, 1) := by decide +kernel
theorem dL_law_324 : decode cL_law 324 = .ok (.iconst 1, 1) := by decide +kernel
theorem dL_law_325 : decode cL_law 325 = .ok (.iadd, 1) := by decide +kernel
theorem dL_law_326 : decode cL_law 326 = .ok (.iaload, 1) := by decide +kernel
theorem dL_law_327 : decode cL_law 327 = .ok (.aload_n 0, 1) := by decide +kernel
theorem dL_law_328 : decode cL_law 328 = .ok (.iload_n 3, 1) := by decide +kernel
theorem dL_law_329 : decode cL_law 329 = .ok (.iconst 2, 1) := by decide +kernel
theorem dL_law_330 : decode cL_law 330 = .ok (.iadd, 1) := by decide +kernel
theorem dL_law_331 : decode cL_law 331 = .ok (.iaload, 1) := by decide +kernel
theorem dL_law_332 : decode cL_law 332 = .ok (.aload_n 0, 1) := by decide +kernel
theorem dL_law_333 : decode cL_law 333 = .ok (.iload_n 3, 1) := by decide +kernel
theorem dL_law_334 : decode cL_law 334 = .ok (.iconst 3, 1) := by decide +kernel
theorem dL_law_335 : decode cL_law 335 = .ok (.iadd, 1) := by decide +kernel
theorem dL_law_336 : decode cL_law 336 = .ok (.iaload, 1) := by decide +kernel
theorem dL_law_337 : decode cL_law 337 = .ok (.aload_n 0, 1) := by decide +kernel
theorem dL_law_338 : decode cL_law 338 = .ok (.iload_n 3, 1) := by decide +kernel
theorem dL_law_339 : decode cL_law 339 = .ok (.iconst 4, 1) := by decide +kernel
theorem dL_law_340 : decode cL_law 340 = .ok (.iadd, 1) := by decide +kernel
theorem dL_law_341 : decode cL_law 341 = .ok (.iaload, 1) := by decide +kernel
theorem dL_law_342 : decode cL_law 342 = .ok (.invokevirtual 35, 3) := by decide +kernel
theorem dL_law_345 : decode cL_law 345 = .ok (.aload_n 2, 1) := by decide +kernel
theorem dL_law_346 : decode cL_law 346 = .ok (.aload_n 0, 1) := by decide +kernel
theorem dL_law_347 : decode cL_law 347 = .ok (.iload_n 3, 1) := by decide +kernel
theorem dL_law_348 : decode cL_law 348 = .ok (.iconst 1, 1) := by decide +kernel
theorem dL_law_349 : decode cL_law 349 = .ok (.iadd, 1) := by decide +kernel
theorem dL_law_350 : decode cL_law 350 = .ok (.iaload, 1) := by decide +kernel
theorem dL_law_351 : decode cL_law 351 = .ok (.aload_n 0, 1) := by decide +kernel
theorem dL_law_352 : decode cL_law 352 = .ok (.iload_n 3, 1) := by decide +kernel
theorem dL_law_353 : decode cL_law 353 = .ok (.iconst 2, 1) := by decide +kernel
theorem dL_law_354 : decode cL_law 354 = .ok (.iadd, 1) := by decide +kernel
theorem dL_law_355 : decode cL_law 355 = .ok (.iaload, 1) := by decide +kernel
theorem dL_law_356 : decode cL_law 356 = .ok (.aload_n 0, 1) := by decide +kernel
theorem dL_law_357 : decode cL_law 357 = .ok (.iload_n 3, 1) := by decide +kernel
theorem dL_law_358 : decode cL_law 358 = .ok (.iconst 3, 1) := by decide +kernel
theorem dL_law_359 : decode cL_law 359 = .ok (.iadd, 1) := by decide +kernel
theorem dL_law_360 : decode cL_law 360 = .ok (.iaload, 1) := by decide +kernel
theorem dL_law_361 : decode cL_law 361 = .ok (.aload_n 0, 1) := by decide +kernel
theorem dL_law_362 : decode cL_law 362 = .ok (.iload_n 3, 1) := by decide +kernel
theorem dL_law_363 : decode cL_law 363 = .ok (.iconst 4, 1) := by decide +kernel
theorem dL_law_364 : decode cL_law 364 = .ok (.iadd, 1) := by decide +kernel
theorem dL_law_365 : decode cL_law 365 = .ok (.iaload, 1) := by decide +kernel
theorem dL_law_366 : decode cL_law 366 = .ok (.invokevirtual 39, 3) := by decide +kernel
theorem dL_law_369 : decode cL_law 369 = .ok (.if_icmp .eq 695, 3) := by decide +kernel
theorem dL_law_372 : decode cL_law 372 = .ok (.iconst 0, 1) := by decide +kernel
theorem dL_law_373 : decode cL_law 373 = .ok (.ireturn, 1) := by decide +kernel
theorem dL_law_374 : decode cL_law 374 = .ok (.aload_n 1, 1) := by decide +kernel
theorem dL_law_375 : decode cL_law 375 = .ok (.aload_n 0, 1) := by decide +kernel
theorem dL_law_376 : decode cL_law 376 = .ok (.iload_n 3, 1) := by decide +kernel
theorem dL_law_377 : decode cL_law 377 = .ok (.iconst 1, 1) := by decide +kernel
theorem dL_law_378 : decode cL_law 378 = .ok (.iadd, 1) := by decide +kernel
theorem dL_law_379 : decode cL_law 379 = .ok (.iaload, 1) := by decide +kernel
theorem dL_law_380 : decode cL_law 380 = .ok (.invokevirtual 40, 3) := by decide +kernel
theorem dL_law_383 : decode cL_law 383 = .ok (.aload_n 2, 1) := by decide +kernel
theorem dL_law_384 : decode cL_law 384 = .ok (.aload_n 0, 1) := by decide +kernel
theorem dL_law_385 : decode cL_law 385 = .ok (.iload_n 3, 1) := by decide +kernel
theorem dL_law_386 : decode cL_law 386 = .ok (.iconst 1, 1) := by decide +kernel
theorem dL_law_387 : decode cL_law 387 = .ok (.iadd, 1) := by decide +kernel
theorem dL_law_388 : decode cL_law 388 = .ok (.iaload, 1) := by decide +kernel
theorem dL_law_389 : decode cL_law 389 = .ok (.invokevirtual 43, 3) := by decide +kernel
theorem dL_law_392 : decode cL_law 392 = .ok (.if_icmp .eq 672, 3) := by decide +kernel
theorem dL_law_395 : decode cL_law 395 = .ok (.iconst 0, 1) := by decide +kernel
theorem dL_law_396 : decode cL_law 396 = .ok (.ireturn, 1) := by decide +kernel
theorem dL_law_397 : decode cL_law 397 = .ok (.aload_n 1, 1) := by decide +kernel
theorem dL_law_398 : decode cL_law 398 = .ok (.aload_n 0, 1) := by decide +kernel
theorem dL_law_399 : decode cL_law 399 = .ok (.iload_n 3, 1) := by decide +kernel
theorem dL_law_400 : decode cL_law 400 = .ok (.iconst 1, 1) := by decide +kernel
theorem dL_law_401 : decode cL_law 401 = .ok (.iadd, 1) := by decide +kernel
theorem dL_law_402 : decode cL_law 402 = .ok (.iaload, 1) := by decide +kernel
theorem dL_law_403 : decode cL_law 403 = .ok (.invokevirtual 44, 3) := by decide +kernel
theorem dL_law_406 : decode cL_law 406 = .ok (.aload_n 2, 1) := by decide +kernel
theorem dL_law_407 : decode cL_law 407 = .ok (.aload_n 0, 1) := by decide +kernel
theorem dL_law_408 : decode cL_law 408 = .ok (.iload_n 3, 1) := by decide +kernel
theorem dL_law_409 : decode cL_law 409 = .ok (.iconst 1, 1) := by decide +kernel
theorem dL_law_410 : decode cL_law 410 = .ok (.iadd, 1) := by decide +kernel
theorem dL_law_411 : decode cL_law 411 = .ok (.iaload, 1) := by decide +kernel
theorem dL_law_412 : decode cL_law 412 = .ok (.invokevirtual 47, 3) := by decide +kernel
theorem dL_law_415 : decode cL_law 415 = .ok (.if_icmp .eq 649, 3) := by decide +kernel
theorem dL_law_418 : decode cL_law 418 = .ok (.iconst 0, 1) := by decide +kernel
theorem dL_law_419 : decode cL_law 419 = .ok (.ireturn, 1) := by decide +kernel
theorem dL_law_420 : decode cL_law 420 = .ok (.aload_n 1, 1) := by decide +kernel
theorem dL_law_421 : decode cL_law 421 = .ok (.aload_n 0, 1) := by decide +kernel
theorem dL_law_422 : decode cL_law 422 = .ok (.iload_n 3, 1) := by decide +kernel
theorem dL_law_423 : decode cL_law 423 = .ok (.iconst 1, 1) := by decide +kernel
theorem dL_law_424 : decode cL_law 424 = .ok (.iadd, 1) := by decide +kernel
theorem dL_law_425 : decode cL_law 425 = .ok (.iaload, 1) := by decide +kernel
theorem dL_law_426 : decode cL_law 426 = .ok (.aload_n 0, 1) := by decide +kernel
theorem dL_law_427 : decode cL_law 427 = .ok (.iload_n 3, 1) := by decide +kernel
theorem dL_law_428 : decode cL_law 428 = .ok (.iconst 2, 1) := by decide +kernel
theorem dL_law_429 : decode cL_law 429 = .ok (.iadd, 1) := by decide +kernel
theorem dL_law_430 : decode cL_law 430 = .ok (.iaload, 1) := by decide +kernel
theorem dL_law_431 : decode cL_law 431 = .ok (.invokevirtual 48, 3) := by decide +kernel
theorem dL_law_434 : decode cL_law 434 = .ok (.aload_n 2, 1) := by decide +kernel
theorem dL_law_435 : decode cL_law 435 = .ok (.aload_n 0, 1) := by decide +kernel
theorem dL_law_436 : decode cL_law 436 = .ok (.iload_n 3, 1) := by decide +kernel
theorem dL_law_437 : decode cL_law 437 = .ok (.iconst 1, 1) := by decide +kernel
theorem dL_law_438 : decode cL_law 438 = .ok (.iadd, 1) := by decide +kernel
theorem dL_law_439 : decode cL_law 439 = .ok (.iaload, 1) := by decide +kernel
theorem dL_law_440 : decode cL_law 440 = .ok (.aload_n 0, 1) := by decide +kernel
theorem dL_law_441 : decode cL_law 441 = .ok (.iload_n 3, 1) := by decide +kernel
theorem dL_law_442 : decode cL_law 442 = .ok (.iconst 2, 1) := by decide +kernel
theorem dL_law_443 : decode cL_law 443 = .ok (.iadd, 1) := by decide +kernel
theorem dL_law_444 : decode cL_law 444 = .ok (.iaload, 1) := by decide +kernel
theorem dL_law_445 : decode cL_law 445 = .ok (.invokevirtual 51, 3) := by decide +kernel
theorem dL_law_448 : decode cL_law 448 = .ok (.if_icmp .eq 616, 3) := by decide +kernel
theorem dL_law_451 : decode cL_law 451 = .ok (.iconst 0, 1) := by decide +kernel
theorem dL_law_452 : decode cL_law 452 = .ok (.ireturn, 1) := by decide +kernel
theorem dL_law_453 : decode cL_law 453 = .ok (.aload_n 1, 1) := by decide +kernel
theorem dL_law_454 : decode cL_law 454 = .ok (.aload_n 0, 1) := by decide +kernel
theorem dL_law_455 : decode cL_law 455 = .ok (.iload_n 3, 1) := by decide +kernel
theorem dL_law_456 : decode cL_law 456 = .ok (.iconst 1, 1) := by decide +kernel
theorem dL_law_457 : decode cL_law 457 = .ok (.iadd, 1) := by decide +kernel
theorem dL_law_458 : decode cL_law 458 = .ok (.iaload, 1) := by decide +kernel
theorem dL_law_459 : decode cL_law 459 = .ok (.invokevirtual 52, 3) := by decide +kernel
theorem dL_law_462 : decode cL_law 462 = .ok (.aload_n 2, 1) := by decide +kernel
theorem dL_law_463 : decode cL_law 463 = .ok (.aload_n 0, 1) := by decide +kernel
theorem dL_law_464 : decode cL_law 464 = .ok (.iload_n 3, 1) := by decide +kernel
theorem dL_law_465 : decode cL_law 465 = .ok (.iconst 1, 1) := by decide +kernel
theorem dL_law_466 : decode cL_law 466 = .ok (.iadd, 1) := by decide +kernel
theorem dL_law_467 : decode cL_law 467 = .ok (.iaload, 1) := by decide +kernel
theorem dL_law_468 : decode cL_law 468 = .ok (.invokevirtual 55, 3) := by decide +kernel
theorem dL_law_471 : decode cL_law 471 = .ok (.if_icmp .eq 593, 3) := by decide +kernel
theorem dL_law_474 : decode cL_law 474 = .ok (.iconst 0, 1) := by decide +kernel
theorem dL_law_475 : decode cL_law 475 = .ok (.ireturn, 1) := by decide +kernel
theorem dL_law_476 : decode cL_law 476 = .ok (.aload_n 1, 1) := by decide +kernel
theorem dL_law_477 : decode cL_law 477 = .ok (.aload_n 0, 1) := by decide +kernel
theorem dL_law_478 : decode cL_law 478 = .ok (.iload_n 3, 1) := by decide +kernel
theorem dL_law_479 : decode cL_law 479 = .ok (.iconst 1, 1) := by decide +kernel
theorem dL_law_480 : decode cL_law 480 = .ok (.iadd, 1) := by decide +kernel
theorem dL_law_481 : decode cL_law 481 = .ok (.iaload, 1) := by decide +kernel
theorem dL_law_482 : decode cL_law 482 = .ok (.invokevirtual 56, 3) := by decide +kernel
theorem dL_law_485 : decode cL_law 485 = .ok (.aload_n 2, 1) := by decide +kernel
theorem dL_law_486 : decode cL_law 486 = .ok (.aload_n 0, 1) := by decide +kernel
theorem dL_law_487 : decode cL_law 487 = .ok (.iload_n 3, 1) := by decide +kernel
theorem dL_law_488 : decode cL_law 488 = .ok (.iconst 1, 1) := by decide +kernel
theorem dL_law_489 : decode cL_law 489 = .ok (.iadd, 1) := by decide +kernel
theorem dL_law_490 : decode cL_law 490 = .ok (.iaload, 1) := by decide +kernel
theorem dL_law_491 : decode cL_law 491 = .ok (.invokevirtual 59, 3) := by decide +kernel
theorem dL_law_494 : decode cL_law 494 = .ok (.if_icmp .eq 570, 3) := by decide +kernel
theorem dL_law_497 : decode cL_law 497 = .ok (.iconst 0, 1) := by decide +kernel
theorem dL_law_498 : decode cL_law 498 = .ok (.ireturn, 1) := by decide +kernel
theorem dL_law_499 : decode cL_law 499 = .ok (.aload_n 1, 1) := by decide +kernel
theorem dL_law_500 : decode cL_law 500 = .ok (.aload_n 0, 1) := by decide +kernel
theorem dL_law_501 : decode cL_law 501 = .ok (.iload_n 3, 1) := by decide +kernel
theorem dL_law_502 : decode cL_law 502 = .ok (.iconst 1, 1) := by decide +kernel
theorem dL_law_503 : decode cL_law 503 = .ok (.iadd, 1) := by decide +kernel
theorem dL_law_504 : decode cL_law 504 = .ok (.iaload, 1) := by decide +kernel
theorem dL_law_505 : decode cL_law 505 = .ok (.invokevirtual 60, 3) := by decide +kernel
theorem dL_law_508 : decode cL_law 508 = .ok (.aload_n 2, 1) := by decide +kernel
theorem dL_law_509 : decode cL_law 509 = .ok (.aload_n 0, 1) := by decide +kernel
theorem dL_law_510 : decode cL_law 510 = .ok (.iload_n 3, 1) := by decide +kernel
theorem dL_law_511 : decode cL_law 511 = .ok (.iconst 1, 1) := by decide +kernel
theorem dL_law_512 : decode cL_law 512 = .ok (.iadd, 1) := by decide +kernel
theorem dL_law_513 : decode cL_law 513 = .ok (.iaload, 1) := by decide +kernel
theorem dL_law_514 : decode cL_law 514 = .ok (.invokevirtual 63, 3) := by decide +kernel
theorem dL_law_517 : decode cL_law 517 = .ok (.if_icmp .eq 547, 3) := by decide +kernel
theorem dL_law_520 : decode cL_law 520 = .ok (.iconst 0, 1) := by decide +kernel
theorem dL_law_521 : decode cL_law 521 = .ok (.ireturn, 1) := by decide +kernel
theorem dL_law_522 : decode cL_law 522 = .ok (.aload_n 1, 1) := by decide +kernel
theorem dL_law_523 : decode cL_law 523 = .ok (.aload_n 0, 1) := by decide +kernel
theorem dL_law_524 : decode cL_law 524 = .ok (.iload_n 3, 1) := by decide +kernel
theorem dL_law_525 : decode cL_law 525 = .ok (.iconst 1, 1) := by decide +kernel
theorem dL_law_526 : decode cL_law 526 = .ok (.iadd, 1) := by decide +kernel
theorem dL_law_527 : decode cL_law 527 = .ok (.iaload, 1) := by decide +kernel
theorem dL_law_528 : decode cL_law 528 = .ok (.aload_n 0, 1) := by decide +kernel
theorem dL_law_529 : decode cL_law 529 = .ok (.iload_n 3, 1) := by decide +kernel
theorem dL_law_530 : decode cL_law 530 = .ok (.iconst 2, 1) := by decide +kernel
theorem dL_law_531 : decode cL_law 531 = .ok (.iadd, 1) := by decide +kernel
theorem dL_law_532 : decode cL_law 532 = .ok (.iaload, 1) := by decide +kernel
theorem dL_law_533 : decode cL_law 533 = .ok (.aload_n 0, 1) := by decide +kernel
theorem dL_law_534 : decode cL_law 534 = .ok (.iload_n 3, 1) := by decide +kernel
theorem dL_law_535 : decode cL_law 535 = .ok (.iconst 3, 1) := by decide +kernel
theorem dL_law_536 : decode cL_law 536 = .ok (.iadd, 1) := by decide +kernel
theorem dL_law_537 : decode cL_law 537 = .ok (.iaload, 1) := by decide +kernel
theorem dL_law_538 : decode cL_law 538 = .ok (.invokevirtual 64, 3) := by decide +kernel
theorem dL_law_541 : decode cL_law 541 = .ok (.aload_n 2, 1) := by decide +kernel
theorem dL_law_542 : decode cL_law 542 = .ok (.aload_n 0, 1) := by decide +kernel
theorem dL_law_543 : decode cL_law 543 = .ok (.iload_n 3, 1) := by decide +kernel
theorem dL_law_544 : decode cL_law 544 = .ok (.iconst 1, 1) := by decide +kernel
theorem dL_law_545 : decode cL_law 545 = .ok (.iadd, 1) := by decide +kernel
theorem dL_law_546 : decode cL_law 546 = .ok (.iaload, 1) := by decide +kernel
theorem dL_law_547 : decode cL_law 547 = .ok (.aload_n 0, 1) := by decide +kernel
theorem dL_law_548 : decode cL_law 548 = .ok (.iload_n 3, 1) := by decide +kernel
theorem dL_law_549 : decode cL_law 549 = .ok (.iconst 2, 1) := by decide +kernel
theorem dL_law_550 : decode cL_law 550 = .ok (.iadd, 1) := by decide +kernel
theorem dL_law_551 : decode cL_law 551 = .ok (.iaload, 1) := by decide +kernel
theorem dL_law_552 : decode cL_law 552 = .ok (.aload_n 0, 1) := by decide +kernel
theorem dL_law_553 : decode cL_law 553 = .ok (.iload_n 3, 1) := by decide +kernel
theorem dL_law_554 : decode cL_law 554 = .ok (.iconst 3, 1) := by decide +kernel
theorem dL_law_555 : decode cL_law 555 = .ok (.iadd, 1) := by decide +kernel
theorem dL_law_556 : decode cL_law 556 = .ok (.iaload, 1) := by decide +kernel
theorem dL_law_557 : decode cL_law 557 = .ok (.invokevirtual 68, 3) := by decide +kernel
theorem dL_law_560 : decode cL_law 560 = .ok (.if_icmp .eq 504, 3) := by decide +kernel
theorem dL_law_563 : decode cL_law 563 = .ok (.iconst 0, 1) := by decide +kernel
theorem dL_law_564 : decode cL_law 564 = .ok (.ireturn, 1) := by decide +kernel
theorem dL_law_565 : decode cL_law 565 = .ok (.aload_n 1, 1) := by decide +kernel
theorem dL_law_566 : decode cL_law 566 = .ok (.aload_n 0, 1) := by decide +kernel
theorem dL_law_567 : decode cL_law 567 = .ok (.iload_n 3, 1) := by decide +kernel
theorem dL_law_568 : decode cL_law 568 = .ok (.iconst 1, 1) := by decide +kernel
theorem dL_law_569 : decode cL_law 569 = .ok (.iadd, 1) := by decide +kernel
theorem dL_law_570 : decode cL_law 570 = .ok (.iaload, 1) := by decide +kernel
theorem dL_law_571 : decode cL_law 571 = .ok (.invokevirtual 69, 3) := by decide +kernel
theorem dL_law_574 : decode cL_law 574 = .ok (.aload_n 2, 1) := by decide +kernel
theorem dL_law_575 : decode cL_law 575 = .ok (.aload_n 0, 1) := by decide +kernel
theorem dL_law_576 : decode cL_law 576 = .ok (.iload_n 3, 1) := by decide +kernel
theorem dL_law_577 : decode cL_law 577 = .ok (.iconst 1, 1) := by decide +kernel
theorem dL_law_578 : decode cL_law 578 = .ok (.iadd, 1) := by decide +kernel
theorem dL_law_579 : decode cL_law 579 = .ok (.iaload, 1) := by decide +kernel
theorem dL_law_580 : decode cL_law 580 = .ok (.invokevirtual 72, 3) := by decide +kernel
theorem dL_law_583 : decode cL_law 583 = .ok (.if_icmp .eq 481, 3) := by decide +kernel
theorem dL_law_586 : decode cL_law 586 = .ok (.iconst 0, 1) := by decide +kernel
theorem dL_law_587 : decode cL_law 587 = .ok (.ireturn, 1) := by decide +kernel
theorem dL_law_588 : decode cL_law 588 = .ok (.aload_n 1, 1) := by decide +kernel
theorem dL_law_589 : decode cL_law 589 = .ok (.aload_n 0, 1) := by decide +kernel
theorem dL_law_590 : decode cL_law 590 = .ok (.iload_n 3, 1) := by decide +kernel
theorem dL_law_591 : decode cL_law 591 = .ok (.iconst 1, 1) := by decide +kernel
theorem dL_law_592 : decode cL_law 592 = .ok (.iadd, 1) := by decide +kernel
theorem dL_law_593 : decode cL_law 593 = .ok (.iaload, 1) := by decide +kernel
theorem dL_law_594 : decode cL_law 594 = .ok (.aload_n 0, 1) := by decide +kernel
theorem dL_law_595 : decode cL_law 595 = .ok (.iload_n 3, 1) := by decide +kernel
theorem dL_law_596 : decode cL_law 596 = .ok (.iconst 2, 1) := by decide +kernel
theorem dL_law_597 : decode cL_law 597 = .ok (.iadd, 1) := by decide +kernel
theorem dL_law_598 : decode cL_law 598 = .ok (.iaload, 1) := by decide +kernel
theorem dL_law_599 : decode cL_law 599 = .ok (.invokevirtual 73, 3) := by decide +kernel
theorem dL_law_602 : decode cL_law 602 = .ok (.aload_n 2, 1) := by decide +kernel
theorem dL_law_603 : decode cL_law 603 = .ok (.aload_n 0, 1) := by decide +kernel
theorem dL_law_604 : decode cL_law 604 = .ok (.iload_n 3, 1) := by decide +kernel
theorem dL_law_605 : decode cL_law 605 = .ok (.iconst 1, 1) := by decide +kernel
theorem dL_law_606 : decode cL_law 606 = .ok (.iadd, 1) := by decide +kernel
theorem dL_law_607 : decode cL_law 607 = .ok (.iaload, 1) := by decide +kernel
theorem dL_law_608 : decode cL_law 608 = .ok (.aload_n 0, 1) := by decide +kernel
theorem dL_law_609 : decode cL_law 609 = .ok (.iload_n 3, 1) := by decide +kernel
theorem dL_law_610 : decode cL_law 610 = .ok (.iconst 2, 1) := by decide +kernel
theorem dL_law_611 : decode cL_law 611 = .ok (.iadd, 1) := by decide +kernel
theorem dL_law_612 : decode cL_law 612 = .ok (.iaload, 1) := by decide +kernel
theorem dL_law_613 : decode cL_law 613 = .ok (.invokevirtual 76, 3) := by decide +kernel
theorem dL_law_616 : decode cL_law 616 = .ok (.if_icmp .eq 448, 3) := by decide +kernel
theorem dL_law_619 : decode cL_law 619 = .ok (.iconst 0, 1) := by decide +kernel
theorem dL_law_620 : decode cL_law 620 = .ok (.ireturn, 1) := by decide +kernel
theorem dL_law_621 : decode cL_law 621 = .ok (.aload_n 1, 1) := by decide +kernel
theorem dL_law_622 : decode cL_law 622 = .ok (.aload_n 0, 1) := by decide +kernel
theorem dL_law_623 : decode cL_law 623 = .ok (.iload_n 3, 1) := by decide +kernel
theorem dL_law_624 : decode cL_law 624 = .ok (.iconst 1, 1) := by decide +kernel
theorem dL_law_625 : decode cL_law 625 = .ok (.iadd, 1) := by decide +kernel
theorem dL_law_626 : decode cL_law 626 = .ok (.iaload, 1) := by decide +kernel
theorem dL_law_627 : decode cL_law 627 = .ok (.invokevirtual 77, 3) := by decide +kernel
theorem dL_law_630 : decode cL_law 630 = .ok (.aload_n 2, 1) := by decide +kernel
theorem dL_law_631 : decode cL_law 631 = .ok (.aload_n 0, 1) := by decide +kernel
theorem dL_law_632 : decode cL_law 632 = .ok (.iload_n 3, 1) := by decide +kernel
theorem dL_law_633 : decode cL_law 633 = .ok (.iconst 1, 1) := by decide +kernel
theorem dL_law_634 : decode cL_law 634 = .ok (.iadd, 1) := by decide +kernel
theorem dL_law_635 : decode cL_law 635 = .ok (.iaload, 1) := by decide +kernel
theorem dL_law_636 : decode cL_law 636 = .ok (.invokevirtual 80, 3) := by decide +kernel
theorem dL_law_639 : decode cL_law 639 = .ok (.if_icmp .eq 425, 3) := by decide +kernel
theorem dL_law_642 : decode cL_law 642 = .ok (.iconst 0, 1) := by decide +kernel
theorem dL_law_643 : decode cL_law 643 = .ok (.ireturn, 1) := by decide +kernel
theorem dL_law_644 : decode cL_law 644 = .ok (.aload_n 1, 1) := by decide +kernel
theorem dL_law_645 : decode cL_law 645 = .ok (.aload_n 0, 1) := by decide +kernel
theorem dL_law_646 : decode cL_law 646 = .ok (.iload_n 3, 1) := by decide +kernel
theorem dL_law_647 : decode cL_law 647 = .ok (.iconst 1, 1) := by decide +kernel
theorem dL_law_648 : decode cL_law 648 = .ok (.iadd, 1) := by decide +kernel
theorem dL_law_649 : decode cL_law 649 = .ok (.iaload, 1) := by decide +kernel
theorem dL_law_650 : decode cL_law 650 = .ok (.invokevirtual 81, 3) := by decide +kernel
theorem dL_law_653 : decode cL_law 653 = .ok (.aload_n 2, 1) := by decide +kernel
theorem dL_law_654 : decode cL_law 654 = .ok (.aload_n 0, 1) := by decide +kernel
theorem dL_law_655 : decode cL_law 655 = .ok (.iload_n 3, 1) := by decide +kernel
theorem dL_law_656 : decode cL_law 656 = .ok (.iconst 1, 1) := by decide +kernel
theorem dL_law_657 : decode cL_law 657 = .ok (.iadd, 1) := by decide +kernel
theorem dL_law_658 : decode cL_law 658 = .ok (.iaload, 1) := by decide +kernel
theorem dL_law_659 : decode cL_law 659 = .ok (.invokevirtual 84, 3) := by decide +kernel
theorem dL_law_662 : decode cL_law 662 = .ok (.if_icmp .eq 402, 3) := by decide +kernel
theorem dL_law_665 : decode cL_law 665 = .ok (.iconst 0, 1) := by decide +kernel
theorem dL_law_666 : decode cL_law 666 = .ok (.ireturn, 1) := by decide +kernel
theorem dL_law_667 : decode cL_law 667 = .ok (.aload_n 1, 1) := by decide +kernel
theorem dL_law_668 : decode cL_law 668 = .ok (.aload_n 0, 1) := by decide +kernel
theorem dL_law_669 : decode cL_law 669 = .ok (.iload_n 3, 1) := by decide +kernel
theorem dL_law_670 : decode cL_law 670 = .ok (.iconst 1, 1) := by decide +kernel
theorem dL_law_671 : decode cL_law 671 = .ok (.iadd, 1) := by decide +kernel
theorem dL_law_672 : decode cL_law 672 = .ok (.iaload, 1) := by decide +kernel
theorem dL_law_673 : decode cL_law 673 = .ok (.invokevirtual 85, 3) := by decide +kernel
theorem dL_law_676 : decode cL_law 676 = .ok (.aload_n 2, 1) := by decide +kernel
theorem dL_law_677 : decode cL_law 677 = .ok (.aload_n 0, 1) := by decide +kernel
theorem dL_law_678 : decode cL_law 678 = .ok (.iload_n 3, 1) := by decide +kernel
theorem dL_law_679 : decode cL_law 679 = .ok (.iconst 1, 1) := by decide +kernel
theorem dL_law_680 : decode cL_law 680 = .ok (.iadd, 1) := by decide +kernel
theorem dL_law_681 : decode cL_law 681 = .ok (.iaload, 1) := by decide +kernel
theorem dL_law_682 : decode cL_law 682 = .ok (.invokevirtual 88, 3) := by decide +kernel
theorem dL_law_685 : decode cL_law 685 = .ok (.if_icmp .eq 379, 3) := by decide +kernel
theorem dL_law_688 : decode cL_law 688 = .ok (.iconst 0, 1) := by decide +kernel
theorem dL_law_689 : decode cL_law 689 = .ok (.ireturn, 1) := by decide +kernel
theorem dL_law_690 : decode cL_law 690 = .ok (.aload_n 1, 1) := by decide +kernel
theorem dL_law_691 : decode cL_law 691 = .ok (.aload_n 0, 1) := by decide +kernel
theorem dL_law_692 : decode cL_law 692 = .ok (.iload_n 3, 1) := by decide +kernel
theorem dL_law_693 : decode cL_law 693 = .ok (.iconst 1, 1) := by decide +kernel
theorem dL_law_694 : decode cL_law 694 = .ok (.iadd, 1) := by decide +kernel
theorem dL_law_695 : decode cL_law 695 = .ok (.iaload, 1) := by decide +kernel
theorem dL_law_696 : decode cL_law 696 = .ok (.aload_n 0, 1) := by decide +kernel
theorem dL_law_697 : decode cL_law 697 = .ok (.iload_n 3, 1) := by decide +kernel
theorem dL_law_698 : decode cL_law 698 = .ok (.iconst 2, 1) := by decide +kernel
theorem dL_law_699 : decode cL_law 699 = .ok (.iadd, 1) := by decide +kernel
theorem dL_law_700 : decode cL_law 700 = .ok (.iaload, 1) := by decide +kernel
theorem dL_law_701 : decode cL_law 701 = .ok (.invokevirtual 89, 3) := by decide +kernel
theorem dL_law_704 : decode cL_law 704 = .ok (.aload_n 2, 1) := by decide +kernel
theorem dL_law_705 : decode cL_law 705 = .ok (.aload_n 0, 1) := by decide +kernel
theorem dL_law_706 : decode cL_law 706 = .ok (.iload_n 3, 1) := by decide +kernel
theorem dL_law_707 : decode cL_law 707 = .ok (.iconst 1, 1) := by decide +kernel
theorem dL_law_708 : decode cL_law 708 = .ok (.iadd, 1) := by decide +kernel
theorem dL_law_709 : decode cL_law 709 = .ok (.iaload, 1) := by decide +kernel
theorem dL_law_710 : decode cL_law 710 = .ok (.aload_n 0, 1) := by decide +kernel
theorem dL_law_711 : decode cL_law 711 = .ok (.iload_n 3, 1) := by decide +kernel
theorem dL_law_712 : decode cL_law 712 = .ok (.iconst 2, 1) := by decide +kernel
theorem dL_law_713 : decode cL_law 713 = .ok (.iadd, 1) := by decide +kernel
theorem dL_law_714 : decode cL_law 714 = .ok (.iaload, 1) := by decide +kernel
theorem dL_law_715 : decode cL_law 715 = .ok (.invokevirtual 92, 3) := by decide +kernel
theorem dL_law_718 : decode cL_law 718 = .ok (.if_icmp .eq 346, 3) := by decide +kernel
theorem dL_law_721 : decode cL_law 721 = .ok (.iconst 0, 1) := by decide +kernel
theorem dL_law_722 : decode cL_law 722 = .ok (.ireturn, 1) := by decide +kernel
theorem dL_law_723 : decode cL_law 723 = .ok (.aload_n 1, 1) := by decide +kernel
theorem dL_law_724 : decode cL_law 724 = .ok (.aload_n 0, 1) := by decide +kernel
theorem dL_law_725 : decode cL_law 725 = .ok (.iload_n 3, 1) := by decide +kernel
theorem dL_law_726 : decode cL_law 726 = .ok (.iconst 1, 1) := by decide +kernel
theorem dL_law_727 : decode cL_law 727 = .ok (.iadd, 1) := by decide +kernel
theorem dL_law_728 : decode cL_law 728 = .ok (.iaload, 1) := by decide +kernel
theorem dL_law_729 : decode cL_law 729 = .ok (.aload_n 0, 1) := by decide +kernel
theorem dL_law_730 : decode cL_law 730 = .ok (.iload_n 3, 1) := by decide +kernel
theorem dL_law_731 : decode cL_law 731 = .ok (.iconst 2, 1) := by decide +kernel
theorem dL_law_732 : decode cL_law 732 = .ok (.iadd, 1) := by decide +kernel
theorem dL_law_733 : decode cL_law 733 = .ok (.iaload, 1) := by decide +kernel
theorem dL_law_734 : decode cL_law 734 = .ok (.invokevirtual 93, 3) := by decide +kernel
theorem dL_law_737 : decode cL_law 737 = .ok (.aload_n 2, 1) := by decide +kernel
theorem dL_law_738 : decode cL_law 738 = .ok (.aload_n 0, 1) := by decide +kernel
theorem dL_law_739 : decode cL_law 739 = .ok (.iload_n 3, 1) := by decide +kernel
theorem dL_law_740 : decode cL_law 740 = .ok (.iconst 1, 1) := by decide +kernel
theorem dL_law_741 : decode cL_law 741 = .ok (.iadd, 1) := by decide +kernel
theorem dL_law_742 : decode cL_law 742 = .ok (.iaload, 1) := by decide +kernel
theorem dL_law_743 : decode cL_law 743 = .ok (.aload_n 0, 1) := by decide +kernel
theorem dL_law_744 : decode cL_law 744 = .ok (.iload_n 3, 1) := by decide +kernel
theorem dL_law_745 : decode cL_law 745 = .ok (.iconst 2, 1) := by decide +kernel
theorem dL_law_746 : decode cL_law 746 = .ok (.iadd, 1) := by decide +kernel
theorem dL_law_747 : decode cL_law 747 = .ok (.iaload, 1) := by decide +kernel
theorem dL_law_748 : decode cL_law 748 = .ok (.invokevirtual 96, 3) := by decide +kernel
theorem dL_law_751 : decode cL_law 751 = .ok (.if_icmp .eq 313, 3) := by decide +kernel
theorem dL_law_754 : decode cL_law 754 = .ok (.iconst 0, 1) := by decide +kernel
theorem dL_law_755 : decode cL_law 755 = .ok (.ireturn, 1) := by decide +kernel
theorem dL_law_756 : decode cL_law 756 = .ok (.aload_n 1, 1) := by decide +kernel
theorem dL_law_757 : decode cL_law 757 = .ok (.aload_n 0, 1) := by decide +kernel
theorem dL_law_758 : decode cL_law 758 = .ok (.iload_n 3, 1) := by decide +kernel
theorem dL_law_759 : decode cL_law 759 = .ok (.iconst 1, 1) := by decide +kernel
theorem dL_law_760 : decode cL_law 760 = .ok (.iadd, 1) := by decide +kernel
theorem dL_law_761 : decode cL_law 761 = .ok (.iaload, 1) := by decide +kernel
theorem dL_law_762 : decode cL_law 762 = .ok (.invokevirtual 97, 3) := by decide +kernel
theorem dL_law_765 : decode cL_law 765 = .ok (.aload_n 2, 1) := by decide +kernel
theorem dL_law_766 : decode cL_law 766 = .ok (.aload_n 0, 1) := by decide +kernel
theorem dL_law_767 : decode cL_law 767 = .ok (.iload_n 3, 1) := by decide +kernel
theorem dL_law_768 : decode cL_law 768 = .ok (.iconst 1, 1) := by decide +kernel
theorem dL_law_769 : decode cL_law 769 = .ok (.iadd, 1) := by decide +kernel
theorem dL_law_770 : decode cL_law 770 = .ok (.iaload, 1) := by decide +kernel
theorem dL_law_771 : decode cL_law 771 = .ok (.invokevirtual 100, 3) := by decide +kernel
theorem dL_law_774 : decode cL_law 774 = .ok (.if_icmp .eq 290, 3) := by decide +kernel
theorem dL_law_777 : decode cL_law 777 = .ok (.iconst 0, 1) := by decide +kernel
theorem dL_law_778 : decode cL_law 778 = .ok (.ireturn, 1) := by decide +kernel
theorem dL_law_779 : decode cL_law 779 = .ok (.aload_n 1, 1) := by decide +kernel
theorem dL_law_780 : decode cL_law 780 = .ok (.aload_n 0, 1) := by decide +kernel
theorem dL_law_781 : decode cL_law 781 = .ok (.iload_n 3, 1) := by decide +kernel
theorem dL_law_782 : decode cL_law 782 = .ok (.iconst 1, 1) := by decide +kernel
theorem dL_law_783 : decode cL_law 783 = .ok (.iadd, 1) := by decide +kernel
theorem dL_law_784 : decode cL_law 784 = .ok (.iaload, 1) := by decide +kernel
theorem dL_law_785 : decode cL_law 785 = .ok (.aload_n 0, 1) := by decide +kernel
theorem dL_law_786 : decode cL_law 786 = .ok (.iload_n 3, 1) := by decide +kernel
theorem dL_law_787 : decode cL_law 787 = .ok (.iconst 2, 1) := by decide +kernel
theorem dL_law_788 : decode cL_law 788 = .ok (.iadd, 1) := by decide +kernel
theorem dL_law_789 : decode cL_law 789 = .ok (.iaload, 1) := by decide +kernel
theorem dL_law_790 : decode cL_law 790 = .ok (.invokevirtual 101, 3) := by decide +kernel
theorem dL_law_793 : decode cL_law 793 = .ok (.aload_n 2, 1) := by decide +kernel
theorem dL_law_794 : decode cL_law 794 = .ok (.aload_n 0, 1) := by decide +kernel
theorem dL_law_795 : decode cL_law 795 = .ok (.iload_n 3, 1) := by decide +kernel
theorem dL_law_796 : decode cL_law 796 = .ok (.iconst 1, 1) := by decide +kernel
theorem dL_law_797 : decode cL_law 797 = .ok (.iadd, 1) := by decide +kernel
theorem dL_law_798 : decode cL_law 798 = .ok (.iaload, 1) := by decide +kernel
theorem dL_law_799 : decode cL_law 799 = .ok (.aload_n 0, 1) := by decide +kernel
theorem dL_law_800 : decode cL_law 800 = .ok (.iload_n 3, 1) := by decide +kernel
theorem dL_law_801 : decode cL_law 801 = .ok (.iconst 2, 1) := by decide +kernel
theorem dL_law_802 : decode cL_law 802 = .ok (.iadd, 1) := by decide +kernel
theorem dL_law_803 : decode cL_law 803 = .ok (.iaload, 1) := by decide +kernel
theorem dL_law_804 : decode cL_law 804 = .ok (.invokevirtual 104, 3) := by decide +kernel
theorem dL_law_807 : decode cL_law 807 = .ok (.if_icmp .eq 257, 3) := by decide +kernel
theorem dL_law_810 : decode cL_law 810 = .ok (.iconst 0, 1) := by decide +kernel
theorem dL_law_811 : decode cL_law 811 = .ok (.ireturn, 1) := by decide +kernel
theorem dL_law_812 : decode cL_law 812 = .ok (.aload_n 1, 1) := by decide +kernel
theorem dL_law_813 : decode cL_law 813 = .ok (.aload_n 0, 1) := by decide +kernel
theorem dL_law_814 : decode cL_law 814 = .ok (.iload_n 3, 1) := by decide +kernel
theorem dL_law_815 : decode cL_law 815 = .ok (.iconst 1, 1) := by decide +kernel
theorem dL_law_816 : decode cL_law 816 = .ok (.iadd, 1) := by decide +kernel
theorem dL_law_817 : decode cL_law 817 = .ok (.iaload, 1) := by decide +kernel
theorem dL_law_818 : decode cL_law 818 = .ok (.aload_n 0, 1) := by decide +kernel
theorem dL_law_819 : decode cL_law 819 = .ok (.iload_n 3, 1) := by decide +kernel
theorem dL_law_820 : decode cL_law 820 = .ok (.iconst 2, 1) := by decide +kernel
theorem dL_law_821 : decode cL_law 821 = .ok (.iadd, 1) := by decide +kernel
theorem dL_law_822 : decode cL_law 822 = .ok (.iaload, 1) := by decide +kernel
theorem dL_law_823 : decode cL_law 823 = .ok (.invokevirtual 105, 3) := by decide +kernel
theorem dL_law_826 : decode cL_law 826 = .ok (.aload_n 2, 1) := by decide +kernel
theorem dL_law_827 : decode cL_law 827 = .ok (.aload_n 0, 1) := by decide +kernel
theorem dL_law_828 : decode cL_law 828 = .ok (.iload_n 3, 1) := by decide +kernel
theorem dL_law_829 : decode cL_law 829 = .ok (.iconst 1, 1) := by decide +kernel
theorem dL_law_830 : decode cL_law 830 = .ok (.iadd, 1) := by decide +kernel
theorem dL_law_831 : decode cL_law 831 = .ok (.iaload, 1) := by decide +kernel
theorem dL_law_832 : decode cL_law 832 = .ok (.aload_n 0, 1) := by decide +kernel
theorem dL_law_833 : decode cL_law 833 = .ok (.iload_n 3, 1) := by decide +kernel
theorem dL_law_834 : decode cL_law 834 = .ok (.iconst 2, 1) := by decide +kernel
theorem dL_law_835 : decode cL_law 835 = .ok (.iadd, 1) := by decide +kernel
theorem dL_law_836 : decode cL_law 836 = .ok (.iaload, 1) := by decide +kernel
theorem dL_law_837 : decode cL_law 837 = .ok (.invokevirtual 108, 3) := by decide +kernel
theorem dL_law_840 : decode cL_law 840 = .ok (.if_icmp .eq 224, 3) := by decide +kernel
theorem dL_law_843 : decode cL_law 843 = .ok (.iconst 0, 1) := by decide +kernel
theorem dL_law_844 : decode cL_law 844 = .ok (.ireturn, 1) := by decide +kernel
theorem dL_law_845 : decode cL_law 845 = .ok (.aload_n 1, 1) := by decide +kernel
theorem dL_law_846 : decode cL_law 846 = .ok (.aload_n 0, 1) := by decide +kernel
theorem dL_law_847 : decode cL_law 847 = .ok (.iload_n 3, 1) := by decide +kernel
theorem dL_law_848 : decode cL_law 848 = .ok (.iconst 1, 1) := by decide +kernel
theorem dL_law_849 : decode cL_law 849 = .ok (.iadd, 1) := by decide +kernel
theorem dL_law_850 : decode cL_law 850 = .ok (.iaload, 1) := by decide +kernel
theorem dL_law_851 : decode cL_law 851 = .ok (.aload_n 0, 1) := by decide +kernel
theorem dL_law_852 : decode cL_law 852 = .ok (.iload_n 3, 1) := by decide +kernel
theorem dL_law_853 : decode cL_law 853 = .ok (.iconst 2, 1) := by decide +kernel
theorem dL_law_854 : decode cL_law 854 = .ok (.iadd, 1) := by decide +kernel
theorem dL_law_855 : decode cL_law 855 = .ok (.iaload, 1) := by decide +kernel
theorem dL_law_856 : decode cL_law 856 = .ok (.invokevirtual 109, 3) := by decide +kernel
theorem dL_law_859 : decode cL_law 859 = .ok (.aload_n 2, 1) := by decide +kernel
theorem dL_law_860 : decode cL_law 860 = .ok (.aload_n 0, 1) := by decide +kernel
theorem dL_law_861 : decode cL_law 861 = .ok (.iload_n 3, 1) := by decide +kernel
theorem dL_law_862 : decode cL_law 862 = .ok (.iconst 1, 1) := by decide +kernel
theorem dL_law_863 : decode cL_law 863 = .ok (.iadd, 1) := by decide +kernel
theorem dL_law_864 : decode cL_law 864 = .ok (.iaload, 1) := by decide +kernel
theorem dL_law_865 : decode cL_law 865 = .ok (.aload_n 0, 1) := by decide +kernel
theorem dL_law_866 : decode cL_law 866 = .ok (.iload_n 3, 1) := by decide +kernel
theorem dL_law_867 : decode cL_law 867 = .ok (.iconst 2, 1) := by decide +kernel
theorem dL_law_868 : decode cL_law 868 = .ok (.iadd, 1) := by decide +kernel
theorem dL_law_869 : decode cL_law 869 = .ok (.iaload, 1) := by decide +kernel
theorem dL_law_870 : decode cL_law 870 = .ok (.invokevirtual 112, 3) := by decide +kernel
theorem dL_law_873 : decode cL_law 873 = .ok (.if_icmp .eq 191, 3) := by decide +kernel
theorem dL_law_876 : decode cL_law 876 = .ok (.iconst 0, 1) := by decide +kernel
theorem dL_law_877 : decode cL_law 877 = .ok (.ireturn, 1) := by decide +kernel
theorem dL_law_878 : decode cL_law 878 = .ok (.aload_n 1, 1) := by decide +kernel
theorem dL_law_879 : decode cL_law 879 = .ok (.aload_n 0, 1) := by decide +kernel
theorem dL_law_880 : decode cL_law 880 = .ok (.iload_n 3, 1) := by decide +kernel
theorem dL_law_881 : decode cL_law 881 = .ok (.iconst 1, 1) := by decide +kernel
theorem dL_law_882 : decode cL_law 882 = .ok (.iadd, 1) := by decide +kernel
theorem dL_law_883 : decode cL_law 883 = .ok (.iaload, 1) := by decide +kernel
theorem dL_law_884 : decode cL_law 884 = .ok (.invokevirtual 113, 3) := by decide +kernel
theorem dL_law_887 : decode cL_law 887 = .ok (.aload_n 2, 1) := by decide +kernel
theorem dL_law_888 : decode cL_law 888 = .ok (.aload_n 0, 1) := by decide +kernel
theorem dL_law_889 : decode cL_law 889 = .ok (.iload_n 3, 1) := by decide +kernel
theorem dL_law_890 : decode cL_law 890 = .ok (.iconst 1, 1) := by decide +kernel
theorem dL_law_891 : decode cL_law 891 = .ok (.iadd, 1) := by decide +kernel
theorem dL_law_892 : decode cL_law 892 = .ok (.iaload, 1) := by decide +kernel
theorem dL_law_893 : decode cL_law 893 = .ok (.invokevirtual 116, 3) := by decide +kernel
theorem dL_law_896 : decode cL_law 896 = .ok (.if_icmp .eq 168, 3) := by decide +kernel
theorem dL_law_899 : decode cL_law 899 = .ok (.iconst 0, 1) := by decide +kernel
theorem dL_law_900 : decode cL_law 900 = .ok (.ireturn, 1) := by decide +kernel
theorem dL_law_901 : decode cL_law 901 = .ok (.aload_n 1, 1) := by decide +kernel
theorem dL_law_902 : decode cL_law 902 = .ok (.aload_n 0, 1) := by decide +kernel
theorem dL_law_903 : decode cL_law 903 = .ok (.iload_n 3, 1) := by decide +kernel
theorem dL_law_904 : decode cL_law 904 = .ok (.iconst 1, 1) := by decide +kernel
theorem dL_law_905 : decode cL_law 905 = .ok (.iadd, 1) := by decide +kernel
theorem dL_law_906 : decode cL_law 906 = .ok (.iaload, 1) := by decide +kernel
theorem dL_law_907 : decode cL_law 907 = .ok (.aload_n 0, 1) := by decide +kernel
theorem dL_law_908 : decode cL_law 908 = .ok (.iload_n 3, 1) := by decide +kernel
theorem dL_law_909 : decode cL_law 909 = .ok (.iconst 2, 1) := by decide +kernel
theorem dL_law_910 : decode cL_law 910 = .ok (.iadd, 1) := by decide +kernel
theorem dL_law_911 : decode cL_law 911 = .ok (.iaload, 1) := by decide +kernel
theorem dL_law_912 : decode cL_law 912 = .ok (.aload_n 0, 1) := by decide +kernel
theorem dL_law_913 : decode cL_law 913 = .ok (.iload_n 3, 1) := by decide +kernel
theorem dL_law_914 : decode cL_law 914 = .ok (.iconst 3, 1) := by decide +kernel
theorem dL_law_915 : decode cL_law 915 = .ok (.iadd, 1) := by decide +kernel
theorem dL_law_916 : decode cL_law 916 = .ok (.iaload, 1) := by decide +kernel
theorem dL_law_917 : decode cL_law 917 = .ok (.invokevirtual 117, 3) := by decide +kernel
theorem dL_law_920 : decode cL_law 920 = .ok (.aload_n 2, 1) := by decide +kernel
theorem dL_law_921 : decode cL_law 921 = .ok (.aload_n 0, 1) := by decide +kernel
theorem dL_law_922 : decode cL_law 922 = .ok (.iload_n 3, 1) := by decide +kernel
theorem dL_law_923 : decode cL_law 923 = .ok (.iconst 1, 1) := by decide +kernel
theorem dL_law_924 : decode cL_law 924 = .ok (.iadd, 1) := by decide +kernel
theorem dL_law_925 : decode cL_law 925 = .ok (.iaload, 1) := by decide +kernel
theorem dL_law_926 : decode cL_law 926 = .ok (.aload_n 0, 1) := by decide +kernel
theorem dL_law_927 : decode cL_law 927 = .ok (.iload_n 3, 1) := by decide +kernel
theorem dL_law_928 : decode cL_law 928 = .ok (.iconst 2, 1) := by decide +kernel
theorem dL_law_929 : decode cL_law 929 = .ok (.iadd, 1) := by decide +kernel
theorem dL_law_930 : decode cL_law 930 = .ok (.iaload, 1) := by decide +kernel
theorem dL_law_931 : decode cL_law 931 = .ok (.aload_n 0, 1) := by decide +kernel
theorem dL_law_932 : decode cL_law 932 = .ok (.iload_n 3, 1) := by decide +kernel
theorem dL_law_933 : decode cL_law 933 = .ok (.iconst 3, 1) := by decide +kernel
theorem dL_law_934 : decode cL_law 934 = .ok (.iadd, 1) := by decide +kernel
theorem dL_law_935 : decode cL_law 935 = .ok (.iaload, 1) := by decide +kernel
theorem dL_law_936 : decode cL_law 936 = .ok (.invokevirtual 120, 3) := by decide +kernel
theorem dL_law_939 : decode cL_law 939 = .ok (.if_icmp .eq 125, 3) := by decide +kernel
theorem dL_law_942 : decode cL_law 942 = .ok (.iconst 0, 1) := by decide +kernel
theorem dL_law_943 : decode cL_law 943 = .ok (.ireturn, 1) := by decide +kernel
theorem dL_law_944 : decode cL_law 944 = .ok (.aload_n 1, 1) := by decide +kernel
theorem dL_law_945 : decode cL_law 945 = .ok (.invokevirtual 121, 3) := by decide +kernel
theorem dL_law_948 : decode cL_law 948 = .ok (.aload_n 2, 1) := by decide +kernel
theorem dL_law_949 : decode cL_law 949 = .ok (.invokevirtual 125, 3) := by decide +kernel
theorem dL_law_952 : decode cL_law 952 = .ok (.lcmp, 1) := by decide +kernel
theorem dL_law_953 : decode cL_law 953 = .ok (.ifCond .eq 111, 3) := by decide +kernel
theorem dL_law_956 : decode cL_law 956 = .ok (.iconst 0, 1) := by decide +kernel
theorem dL_law_957 : decode cL_law 957 = .ok (.ireturn, 1) := by decide +kernel
theorem dL_law_958 : decode cL_law 958 = .ok (.aload_n 1, 1) := by decide +kernel
theorem dL_law_959 : decode cL_law 959 = .ok (.aload_n 0, 1) := by decide +kernel
theorem dL_law_960 : decode cL_law 960 = .ok (.iload_n 3, 1) := by decide +kernel
theorem dL_law_961 : decode cL_law 961 = .ok (.iconst 1, 1) := by decide +kernel
theorem dL_law_962 : decode cL_law 962 = .ok (.iadd, 1) := by decide +kernel
theorem dL_law_963 : decode cL_law 963 = .ok (.iaload, 1) := by decide +kernel
theorem dL_law_964 : decode cL_law 964 = .ok (.aload_n 0, 1) := by decide +kernel
theorem dL_law_965 : decode cL_law 965 = .ok (.iload_n 3, 1) := by decide +kernel
theorem dL_law_966 : decode cL_law 966 = .ok (.iconst 2, 1) := by decide +kernel
theorem dL_law_967 : decode cL_law 967 = .ok (.iadd, 1) := by decide +kernel
theorem dL_law_968 : decode cL_law 968 = .ok (.iaload, 1) := by decide +kernel
theorem dL_law_969 : decode cL_law 969 = .ok (.invokevirtual 126, 3) := by decide +kernel
theorem dL_law_972 : decode cL_law 972 = .ok (.aload_n 2, 1) := by decide +kernel
theorem dL_law_973 : decode cL_law 973 = .ok (.aload_n 0, 1) := by decide +kernel
theorem dL_law_974 : decode cL_law 974 = .ok (.iload_n 3, 1) := by decide +kernel
theorem dL_law_975 : decode cL_law 975 = .ok (.iconst 1, 1) := by decide +kernel
theorem dL_law_976 : decode cL_law 976 = .ok (.iadd, 1) := by decide +kernel
theorem dL_law_977 : decode cL_law 977 = .ok (.iaload, 1) := by decide +kernel
theorem dL_law_978 : decode cL_law 978 = .ok (.aload_n 0, 1) := by decide +kernel
theorem dL_law_979 : decode cL_law 979 = .ok (.iload_n 3, 1) := by decide +kernel
theorem dL_law_980 : decode cL_law 980 = .ok (.iconst 2, 1) := by decide +kernel
theorem dL_law_981 : decode cL_law 981 = .ok (.iadd, 1) := by decide +kernel
theorem dL_law_982 : decode cL_law 982 = .ok (.iaload, 1) := by decide +kernel
theorem dL_law_983 : decode cL_law 983 = .ok (.invokevirtual 129, 3) := by decide +kernel
theorem dL_law_986 : decode cL_law 986 = .ok (.if_icmp .eq 78, 3) := by decide +kernel
theorem dL_law_989 : decode cL_law 989 = .ok (.iconst 0, 1) := by decide +kernel
theorem dL_law_990 : decode cL_law 990 = .ok (.ireturn, 1) := by decide +kernel
theorem dL_law_991 : decode cL_law 991 = .ok (.aload_n 1, 1) := by decide +kernel
theorem dL_law_992 : decode cL_law 992 = .ok (.aload_n 0, 1) := by decide +kernel
theorem dL_law_993 : decode cL_law 993 = .ok (.iload_n 3, 1) := by decide +kernel
theorem dL_law_994 : decode cL_law 994 = .ok (.iconst 1, 1) := by decide +kernel
theorem dL_law_995 : decode cL_law 995 = .ok (.iadd, 1) := by decide +kernel
theorem dL_law_996 : decode cL_law 996 = .ok (.iaload, 1) := by decide +kernel
theorem dL_law_997 : decode cL_law 997 = .ok (.invokevirtual 130, 3) := by decide +kernel
theorem dL_law_1000 : decode cL_law 1000 = .ok (.aload_n 2, 1) := by decide +kernel
theorem dL_law_1001 : decode cL_law 1001 = .ok (.aload_n 0, 1) := by decide +kernel
theorem dL_law_1002 : decode cL_law 1002 = .ok (.iload_n 3, 1) := by decide +kernel
theorem dL_law_1003 : decode cL_law 1003 = .ok (.iconst 1, 1) := by decide +kernel
theorem dL_law_1004 : decode cL_law 1004 = .ok (.iadd, 1) := by decide +kernel
theorem dL_law_1005 : decode cL_law 1005 = .ok (.iaload, 1) := by decide +kernel
theorem dL_law_1006 : decode cL_law 1006 = .ok (.invokevirtual 133, 3) := by decide +kernel
theorem dL_law_1009 : decode cL_law 1009 = .ok (.if_icmp .eq 55, 3) := by decide +kernel
theorem dL_law_1012 : decode cL_law 1012 = .ok (.iconst 0, 1) := by decide +kernel
theorem dL_law_1013 : decode cL_law 1013 = .ok (.ireturn, 1) := by decide +kernel
theorem dL_law_1014 : decode cL_law 1014 = .ok (.aload_n 1, 1) := by decide +kernel
theorem dL_law_1015 : decode cL_law 1015 = .ok (.invokevirtual 134, 3) := by decide +kernel
theorem dL_law_1018 : decode cL_law 1018 = .ok (.aload_n 2, 1) := by decide +kernel
theorem dL_law_1019 : decode cL_law 1019 = .ok (.invokevirtual 138, 3) := by decide +kernel
theorem dL_law_1022 : decode cL_law 1022 = .ok (.if_icmp .eq 42, 3) := by decide +kernel
theorem dL_law_1025 : decode cL_law 1025 = .ok (.iconst 0, 1) := by decide +kernel
theorem dL_law_1026 : decode cL_law 1026 = .ok (.ireturn, 1) := by decide +kernel
theorem dL_law_1027 : decode cL_law 1027 = .ok (.aload_n 1, 1) := by decide +kernel
theorem dL_law_1028 : decode cL_law 1028 = .ok (.aload_n 0, 1) := by decide +kernel
theorem dL_law_1029 : decode cL_law 1029 = .ok (.iload_n 3, 1) := by decide +kernel
theorem dL_law_1030 : decode cL_law 1030 = .ok (.iconst 1, 1) := by decide +kernel
theorem dL_law_1031 : decode cL_law 1031 = .ok (.iadd, 1) := by decide +kernel
theorem dL_law_1032 : decode cL_law 1032 = .ok (.iaload, 1) := by decide +kernel
theorem dL_law_1033 : decode cL_law 1033 = .ok (.invokevirtual 139, 3) := by decide +kernel
theorem dL_law_1036 : decode cL_law 1036 = .ok (.aload_n 2, 1) := by decide +kernel
theorem dL_law_1037 : decode cL_law 1037 = .ok (.aload_n 0, 1) := by decide +kernel
theorem dL_law_1038 : decode cL_law 1038 = .ok (.iload_n 3, 1) := by decide +kernel
theorem dL_law_1039 : decode cL_law 1039 = .ok (.iconst 1, 1) := by decide +kernel
theorem dL_law_1040 : decode cL_law 1040 = .ok (.iadd, 1) := by decide +kernel
theorem dL_law_1041 : decode cL_law 1041 = .ok (.iaload, 1) := by decide +kernel
theorem dL_law_1042 : decode cL_law 1042 = .ok (.invokevirtual 142, 3) := by decide +kernel
theorem dL_law_1045 : decode cL_law 1045 = .ok (.if_icmp .eq 19, 3) := by decide +kernel
theorem dL_law_1048 : decode cL_law 1048 = .ok (.iconst 0, 1) := by decide +kernel
theorem dL_law_1049 : decode cL_law 1049 = .ok (.ireturn, 1) := by decide +kernel
theorem dL_law_1050 : decode cL_law 1050 = .ok (.aload_n 1, 1) := by decide +kernel
theorem dL_law_1051 : decode cL_law 1051 = .ok (.invokevirtual 143, 3) := by decide +kernel
theorem dL_law_1054 : decode cL_law 1054 = .ok (.aload_n 2, 1) := by decide +kernel
theorem dL_law_1055 : decode cL_law 1055 = .ok (.invokevirtual 146, 3) := by decide +kernel
theorem dL_law_1058 : decode cL_law 1058 = .ok (.lcmp, 1) := by decide +kernel
theorem dL_law_1059 : decode cL_law 1059 = .ok (.ifCond .eq 5, 3) := by decide +kernel
theorem dL_law_1062 : decode cL_law 1062 = .ok (.iconst 0, 1) := by decide +kernel
theorem dL_law_1063 : decode cL_law 1063 = .ok (.ireturn, 1) := by decide +kernel
theorem dL_law_1064 : decode cL_law 1064 = .ok (.iinc 3 5, 3) := by decide +kernel
theorem dL_law_1067 : decode cL_law 1067 = .ok (.goto (-1049), 3) := by decide +kernel
theorem dL_law_1070 : decode cL_law 1070 = .ok (.iconst 1, 1) := by decide +kernel
theorem dL_law_1071 : decode cL_law 1071 = .ok (.ireturn, 1) := by decide +kernel
end
section
/-! ===== numbers, arrays of numbers, what changed ===== -/
def up {α : Type} (F : Nat → α) (k : Nat) (x : α) : Nat → α := fun j => if j = k then x else F j
theorem up_eq {α : Type} {F : Nat → α} {k : Nat} {x : α} : up F k x k = x := by simp [up]
theorem up_ne {α : Type} {F : Nat → α} {k j : Nat} {x : α} (n : j ≠ k) : up F k x j = F j := by simp [up, n]
def aI (n : Nat) (F : Nat → Nat) : mE := .inl (.int, n, .inl (fun i => nI (F i)))
def aJ (n : Nat) (F : Nat → Int64) : mE := .inl (.long, n, .inr (.inl F))
def aK (n : Nat) (F : Nat → Int32) : mE := .inl (.int, n, .inl F)
def aZ (n : Nat) (F : Nat → Int32) : mE := .inl (.boolean, n, .inl F)
def aA (C : String) (n : Nat) (F : Nat → Option Nat) : mE := .inl (.object C, n, .inr (.inr (.inr (.inr F))))
theorem aI_upd (F : Nat → Nat) (k x : Nat) : upd (fun i => nI (F i)) k (nI x) = fun i => nI (up F k x i) := by
  funext j
  by_cases c : j = k
  · subst c; simp [upd, up]
  · simp [upd, up, c]
theorem aK_upd (F : Nat → Int32) (k : Nat) (x : Int32) : upd F k x = up F k x := by
  funext j
  by_cases c : j = k
  · subst c; simp [upd, up]
  · simp [upd, up, c]
theorem aJ_upd (F : Nat → Int64) (k : Nat) (x : Int64) : vp_updL F k x = up F k x := by
  funext j
  by_cases c : j = k
  · subst c; simp [vp_updL, up]
  · simp [vp_updL, up, c]
theorem aA_upd (F : Nat → Option Nat) (k : Nat) (x : Option Nat) : va_up F k x = up F k x := by
  funext j
  by_cases c : j = k
  · subst c; simp [va_up, up]
  · simp [va_up, up, c]
/-- h' is h but for the cells A -/
def hx (A : List Nat) (h h' : mH) : Prop := h'.1 = h.1 ∧ ∀ q, q ∉ A → hc h' q = hc h q
theorem hx.rf {A : List Nat} {h : mH} : hx A h h := ⟨rfl, fun _ _ => rfl⟩
theorem hx.tr {A B C : List Nat} {h h1 h2 : mH} (a : hx A h h1) (b : hx B h1 h2) (hA : ∀ q ∈ A, q ∈ C) (hB : ∀ q ∈ B, q ∈ C) : hx C h h2 :=
  ⟨b.1.trans a.1, fun q n => (b.2 q (fun z => n (hB q z))).trans (a.2 q (fun z => n (hA q z)))⟩
theorem hx.tr' {A : List Nat} {h h1 h2 : mH} (a : hx A h h1) (b : hx A h1 h2) : hx A h h2 := a.tr b (fun _ q => q) (fun _ q => q)
theorem hx.mono {A C : List Nat} {h h1 : mH} (a : hx A h h1) (hA : ∀ q ∈ A, q ∈ C) : hx C h h1 := ⟨a.1, fun q n => a.2 q (fun z => n (hA q z))⟩
theorem hx_hs (h : mH) (a : Nat) (x : mE) : hx [a] h (hs h a x) := ⟨rfl, fun q n => hc_hs_ne (fun e => n (by simp [e]))⟩
theorem hx.at {A : List Nat} {h h1 : mH} {q : Nat} {x : mE} (a : hx A h h1) (n : q ∉ A) (e : hc h q = some x) : hc h1 q = some x := (a.2 q n).trans e
section BASE
variable {g : mG} {M : mM} {J : mJ} {pc : Nat} {L L' : List (Option Value)} {st : List Value} {h : mH} {uc us : Nat}
theorem okN_iadd {a b : Nat} (hd : decode M.2.1 pc = .ok (.iadd, 1)) (k : Ok g M J (pc + 1) L (.int (nI (a + b)) :: st) h uc us) : Ok g M J pc L (.int (nI b) :: .int (nI a) :: st) h uc us := ok_iadd hd (by rw [nI_add]; exact k)
theorem okN_isub {a b : Nat} (hd : decode M.2.1 pc = .ok (.isub, 1)) (hb : b ≤ a) (k : Ok g M J (pc + 1) L (.int (nI (a - b)) :: st) h uc us) : Ok g M J pc L (.int (nI b) :: .int (nI a) :: st) h uc us := ok_isub hd (by rw [pk_sub hb]; exact k)
theorem okN_imul {a b : Nat} (hd : decode M.2.1 pc = .ok (.imul, 1)) (k : Ok g M J (pc + 1) L (.int (nI (a * b)) :: st) h uc us) : Ok g M J pc L (.int (nI b) :: .int (nI a) :: st) h uc us := ok_imul hd (by rw [pk_mul]; exact k)
theorem okN_idiv {a b : Nat} (hd : decode M.2.1 pc = .ok (.idiv, 1)) (ha : a < 2 ^ 31) (h0 : 0 < b) (hb : b < 2 ^ 31) (k : Ok g M J (pc + 1) L (.int (nI (a / b)) :: st) h uc us) : Ok g M J pc L (.int (nI b) :: .int (nI a) :: st) h uc us := ok_idiv hd (nI_ne0 h0 hb) (by rw [pk_div ha h0 hb]; exact k)
theorem okN_inc {i a : Nat} (hd : decode M.2.1 pc = .ok (.iinc i 1, 3)) (hx : m_at L i = some (.int (nI a))) (hL : m_st L i (.int (nI (a + 1))) = L') (hi : i < M.2.2.1) (k : Ok g M J (pc + 3) L' st h uc us) : Ok g M J pc L st h uc us := ok_iinc hd hx (v := nI (a + 1)) (by rw [← nI_1]; rfl) hL hi k
theorem okN_dec {i a : Nat} (hd : decode M.2.1 pc = .ok (.iinc i (-1), 3)) (hx : m_at L i = some (.int (nI a))) (ha : 0 < a) (hL : m_st L i (.int (nI (a - 1))) = L') (hi : i < M.2.2.1) (k : Ok g M J (pc + 3) L' st h uc us) : Ok g M J pc L st h uc us := by
  obtain ⟨b, rfl⟩ : ∃ b, a = b + 1 := ⟨a - 1, by omega⟩
  have e : Int32.ofInt (-1) = -1 := by decide
  exact ok_iinc hd hx (v := nI b) (by rw [e]; exact pk_m1 b) hL hi k
theorem okN_icmp_eq {a b tgt : Nat} {off : Int} (hd : decode M.2.1 pc = .ok (.if_icmp .eq off, 3)) (ht : (pc : Int) + off = (tgt : Int)) (ha : a < 2 ^ 31) (hb : b < 2 ^ 31) (kt : a = b → Ok g M J tgt L st h uc us) (kf : a ≠ b → Ok g M J (pc + 3) L st h uc us) : Ok g M J pc L (.int (nI b) :: .int (nI a) :: st) h uc us := ok_icmp_eq hd ht (fun c => kt ((nI_eq ha hb).mp c)) (fun c => kf (fun e => c ((nI_eq ha hb).mpr e)))
theorem okN_icmp_ne {a b tgt : Nat} {off : Int} (hd : decode M.2.1 pc = .ok (.if_icmp .ne off, 3)) (ht : (pc : Int) + off = (tgt : Int)) (ha : a < 2 ^ 31) (hb : b < 2 ^ 31) (kt : a ≠ b → Ok g M J tgt L st h uc us) (kf : a = b → Ok g M J (pc + 3) L st h uc us) : Ok g M J pc L (.int (nI b) :: .int (nI a) :: st) h uc us := ok_icmp_ne hd ht (fun c => kt (fun e => c ((nI_eq ha hb).mpr e))) (fun c => kf ((nI_eq ha hb).mp c))
theorem okN_icmp_lt {a b tgt : Nat} {off : Int} (hd : decode M.2.1 pc = .ok (.if_icmp .lt off, 3)) (ht : (pc : Int) + off = (tgt : Int)) (ha : a < 2 ^ 31) (hb : b < 2 ^ 31) (kt : a < b → Ok g M J tgt L st h uc us) (kf : b ≤ a → Ok g M J (pc + 3) L st h uc us) : Ok g M J pc L (.int (nI b) :: .int (nI a) :: st) h uc us := ok_icmp_lt hd ht (fun c => kt ((nI_ltI ha hb).mp c)) (fun c => kf (Nat.le_of_not_lt fun e => c ((nI_ltI ha hb).mpr e)))
theorem okN_icmp_ge {a b tgt : Nat} {off : Int} (hd : decode M.2.1 pc = .ok (.if_icmp .ge off, 3)) (ht : (pc : Int) + off = (tgt : Int)) (ha : a < 2 ^ 31) (hb : b < 2 ^ 31) (kt : b ≤ a → Ok g M J tgt L st h uc us) (kf : a < b → Ok g M J (pc + 3) L st h uc us) : Ok g M J pc L (.int (nI b) :: .int (nI a) :: st) h uc us := ok_icmp_ge hd ht (fun c => kt ((nI_leI hb ha).mp c)) (fun c => kf (Nat.lt_of_not_le fun e => c ((nI_leI hb ha).mpr e)))
theorem okN_icmp_gt {a b tgt : Nat} {off : Int} (hd : decode M.2.1 pc = .ok (.if_icmp .gt off, 3)) (ht : (pc : Int) + off = (tgt : Int)) (ha : a < 2 ^ 31) (hb : b < 2 ^ 31) (kt : b < a → Ok g M J tgt L st h uc us) (kf : a ≤ b → Ok g M J (pc + 3) L st h uc us) : Ok g M J pc L (.int (nI b) :: .int (nI a) :: st) h uc us := ok_icmp_gt hd ht (fun c => kt ((nI_ltI hb ha).mp c)) (fun c => kf (Nat.le_of_not_lt fun e => c ((nI_ltI hb ha).mpr e)))
theorem okN_icmp_le {a b tgt : Nat} {off : Int} (hd : decode M.2.1 pc = .ok (.if_icmp .le off, 3)) (ht : (pc : Int) + off = (tgt : Int)) (ha : a < 2 ^ 31) (hb : b < 2 ^ 31) (kt : a ≤ b → Ok g M J tgt L st h uc us) (kf : b < a → Ok g M J (pc + 3) L st h uc us) : Ok g M J pc L (.int (nI b) :: .int (nI a) :: st) h uc us := ok_icmp_le hd ht (fun c => kt ((nI_leI ha hb).mp c)) (fun c => kf (Nat.lt_of_not_le fun e => c ((nI_leI ha hb).mpr e)))
theorem nI_z {a : Nat} (ha : a < 2 ^ 31) : nI a = 0 ↔ a = 0 := by rw [← nI_0]; exact nI_eq ha (by decide)
theorem nI_l0 {a : Nat} (ha : a < 2 ^ 31) : nI a ≤ 0 ↔ a = 0 := by rw [← nI_0, nI_leI ha (by decide)]; omega
theorem nI_p0 {a : Nat} (ha : a < 2 ^ 31) : 0 < nI a ↔ 0 < a := by rw [← nI_0, nI_ltI (by decide) ha]
theorem okN_if_eq {a tgt : Nat} {off : Int} (hd : decode M.2.1 pc = .ok (.ifCond .eq off, 3)) (ht : (pc : Int) + off = (tgt : Int)) (ha : a < 2 ^ 31) (kt : a = 0 → Ok g M J tgt L st h uc us) (kf : 0 < a → Ok g M J (pc + 3) L st h uc us) : Ok g M J pc L (.int (nI a) :: st) h uc us := ok_if_eq hd ht (fun c => kt ((nI_z ha).mp c)) (fun c => kf (Nat.pos_of_ne_zero fun e => c ((nI_z ha).mpr e)))
theorem okN_if_ne {a tgt : Nat} {off : Int} (hd : decode M.2.1 pc = .ok (.ifCond .ne off, 3)) (ht : (pc : Int) + off = (tgt : Int)) (ha : a < 2 ^ 31) (kt : 0 < a → Ok g M J tgt L st h uc us) (kf : a = 0 → Ok g M J (pc + 3) L st h uc us) : Ok g M J pc L (.int (nI a) :: st) h uc us := ok_if_ne hd ht (fun c => kt (Nat.pos_of_ne_zero fun e => c ((nI_z ha).mpr e))) (fun c => kf ((nI_z ha).mp c))
theorem okN_if_lt {a tgt : Nat} {off : Int} (hd : decode M.2.1 pc = .ok (.ifCond .lt off, 3)) (ht : (pc : Int) + off = (tgt : Int)) (ha : a < 2 ^ 31) (kf : Ok g M J (pc + 3) L st h uc us) : Ok g M J pc L (.int (nI a) :: st) h uc us := ok_if_lt hd ht (fun c => absurd c (nI_pos ha)) (fun _ => kf)
theorem okN_if_ge {a tgt : Nat} {off : Int} (hd : decode M.2.1 pc = .ok (.ifCond .ge off, 3)) (ht : (pc : Int) + off = (tgt : Int)) (ha : a < 2 ^ 31) (kt : Ok g M J tgt L st h uc us) : Ok g M J pc L (.int (nI a) :: st) h uc us := ok_if_ge hd ht (fun _ => kt) (fun c => absurd (nI_pos' ha) c)
theorem okN_if_le {a tgt : Nat} {off : Int} (hd : decode M.2.1 pc = .ok (.ifCond .le off, 3)) (ht : (pc : Int) + off = (tgt : Int)) (ha : a < 2 ^ 31) (kt : a = 0 → Ok g M J tgt L st h uc us) (kf : 0 < a → Ok g M J (pc + 3) L st h uc us) : Ok g M J pc L (.int (nI a) :: st) h uc us := ok_if_le hd ht (fun c => kt ((nI_l0 ha).mp c)) (fun c => kf (Nat.pos_of_ne_zero fun e => c ((nI_l0 ha).mpr e)))
theorem okN_if_gt {a tgt : Nat} {off : Int} (hd : decode M.2.1 pc = .ok (.ifCond .gt off, 3)) (ht : (pc : Int) + off = (tgt : Int)) (ha : a < 2 ^ 31) (kt : 0 < a → Ok g M J tgt L st h uc us) (kf : a = 0 → Ok g M J (pc + 3) L st h uc us) : Ok g M J pc L (.int (nI a) :: st) h uc us := ok_if_gt hd ht (fun c => kt ((nI_p0 ha).mp c)) (fun c => kf (Nat.eq_zero_of_not_pos fun e => c ((nI_p0 ha).mpr e)))
/-! arrays by a number -/
theorem okN_iald {a n j : Nat} {F : Nat → Nat} (hd : decode M.2.1 pc = .ok (.iaload, 1)) (hh : hc h a = some (aI n F)) (hj : j < n) (hn : n < 2 ^ 31) (k : Ok g M J (pc + 1) L (.int (nI (F j)) :: st) h uc us) : Ok g M J pc L (.int (nI j) :: .ref a :: st) h uc us := by
  refine ok_iald hd hh (vp_in_nI hj hn) ?_
  rw [nI_clamp (Nat.lt_trans hj hn)]
  exact k
theorem okN_kald {a n j : Nat} {F : Nat → Int32} (hd : decode M.2.1 pc = .ok (.iaload, 1)) (hh : hc h a = some (aK n F)) (hj : j < n) (hn : n < 2 ^ 31) (k : Ok g M J (pc + 1) L (.int (F j) :: st) h uc us) : Ok g M J pc L (.int (nI j) :: .ref a :: st) h uc us := by
  refine ok_iald hd hh (vp_in_nI hj hn) ?_
  rw [nI_clamp (Nat.lt_trans hj hn)]
  exact k
theorem okN_zald {a n j : Nat} {F : Nat → Int32} (hd : decode M.2.1 pc = .ok (.baload, 1)) (hh : hc h a = some (aZ n F)) (hj : j < n) (hn : n < 2 ^ 31) (k : Ok g M J (pc + 1) L (.int (F j) :: st) h uc us) : Ok g M J pc L (.int (nI j) :: .ref a :: st) h uc us := by
  refine ok_zald hd hh (vp_in_nI hj hn) ?_
  rw [nI_clamp (Nat.lt_trans hj hn)]
  exact k
theorem okN_lald {a n j : Nat} {F : Nat → Int64} (hd : decode M.2.1 pc = .ok (.laload, 1)) (hh : hc h a = some (aJ n F)) (hj : j < n) (hn : n < 2 ^ 31) (k : Ok g M J (pc + 1) L (.long (F j) :: st) h uc us) : Ok g M J pc L (.int (nI j) :: .ref a :: st) h uc us := by
  refine ok_lald hd hh (vp_in_nI hj hn) ?_
  rw [nI_clamp (Nat.lt_trans hj hn)]
  exact k
theorem okN_aald {a n j t : Nat} {C0 : String} {F : Nat → Option Nat} (hd : decode M.2.1 pc = .ok (.aaload, 1)) (ht : m_ty5[t]? = some (.object C0)) (hh : hc h a = some (aA C0 n F)) (hj : j < n) (hn : n < 2 ^ 31) (k : Ok g M J (pc + 1) L (m_rv (F j) :: st) h uc us) : Ok g M J pc L (.int (nI j) :: .ref a :: st) h uc us := by
  refine ok_aald hd ht hh (vp_in_nI hj hn) ?_
  rw [nI_clamp (Nat.lt_trans hj hn)]
  exact k
theorem okN_iast {a n j x : Nat} {F : Nat → Nat} (hd : decode M.2.1 pc = .ok (.iastore, 1)) (hh : hc h a = some (aI n F)) (hj : j < n) (hn : n < 2 ^ 31) (k : ∀ h1, hx [a] h h1 → hc h1 a = some (aI n (up F j x)) → Ok g M J (pc + 1) L st h1 uc us) : Ok g M J pc L (.int (nI x) :: .int (nI j) :: .ref a :: st) h uc us := by
  refine ok_iast hd hh (vp_in_nI hj hn) (k _ (hx_hs h a _) ?_)
  rw [nI_clamp (Nat.lt_trans hj hn), aI_upd]
  exact hc_hs hh
theorem okN_kast {a n j : Nat} {x : Int32} {F : Nat → Int32} (hd : decode M.2.1 pc = .ok (.iastore, 1)) (hh : hc h a = some (aK n F)) (hj : j < n) (hn : n < 2 ^ 31) (k : ∀ h1, hx [a] h h1 → hc h1 a = some (aK n (up F j x)) → Ok g M J (pc + 1) L st h1 uc us) : Ok g M J pc L (.int x :: .int (nI j) :: .ref a :: st) h uc us := by
  refine ok_iast hd hh (vp_in_nI hj hn) (k _ (hx_hs h a _) ?_)
  rw [nI_clamp (Nat.lt_trans hj hn), aK_upd]
  exact hc_hs hh
theorem okN_zast {a n j : Nat} {x : Int32} {F : Nat → Int32} (hd : decode M.2.1 pc = .ok (.bastore, 1)) (hx0 : narrow .boolean (.int x) = .int x) (hh : hc h a = some (aZ n F)) (hj : j < n) (hn : n < 2 ^ 31) (k : ∀ h1, hx [a] h h1 → hc h1 a = some (aZ n (up F j x)) → Ok g M J (pc + 1) L st h1 uc us) : Ok g M J pc L (.int x :: .int (nI j) :: .ref a :: st) h uc us := by
  refine ok_zast hd hx0 hh (vp_in_nI hj hn) (k _ (hx_hs h a _) ?_)
  rw [nI_clamp (Nat.lt_trans hj hn), aK_upd]
  exact hc_hs hh
theorem okN_last {a n j : Nat} {x : Int64} {F : Nat → Int64} (hd : decode M.2.1 pc = .ok (.lastore, 1)) (hh : hc h a = some (aJ n F)) (hj : j < n) (hn : n < 2 ^ 31) (k : ∀ h1, hx [a] h h1 → hc h1 a = some (aJ n (up F j x)) → Ok g M J (pc + 1) L st h1 uc us) : Ok g M J pc L (.long x :: .int (nI j) :: .ref a :: st) h uc us := by
  refine ok_last hd hh (vp_in_nI hj hn) (k _ (hx_hs h a _) ?_)
  rw [nI_clamp (Nat.lt_trans hj hn), aJ_upd]
  exact hc_hs hh
theorem okN_aast {a n t v ci j : Nat} {r : vw_C} {vs : List Value} {F : Nat → Option Nat} (hd : decode M.2.1 pc = .ok (.aastore, 1)) (ht : m_ty5[t]? = some (.object r.1)) (hc0 : m_cl[ci]? = some r) (hh : hc h a = some (aA r.1 n F)) (hv : hc h v = some (.inr (ci, vs))) (hj : j < n) (hn : n < 2 ^ 31) (k : ∀ h1, hx [a] h h1 → hc h1 a = some (aA r.1 n (up F j (some v))) → Ok g M J (pc + 1) L st h1 uc us) : Ok g M J pc L (.ref v :: .int (nI j) :: .ref a :: st) h uc us := by
  refine ok_aast hd ht hc0 hh hv (vp_in_nI hj hn) (k _ (hx_hs h a _) ?_)
  rw [nI_clamp (Nat.lt_trans hj hn), aA_upd]
  exact hc_hs hh
theorem okR_put {a ci k idx : Nat} {fs fs' : List Value} {v : Value} {ty : FieldType} (hd : decode M.2.1 pc = .ok (.putfield idx, 3)) (hf : m_fl M.1.cls idx ci k ty false) (hh : hc h a = some (.inr (ci, fs))) (hk : k < fs.length) (hn : ∀ b, narrow ty (m_sv b v) = m_sv b v ∧ fits ty (m_sv b v) = true) (hfs : fs.set k v = fs') (kk : ∀ h1, hx [a] h h1 → hc h1 a = some (.inr (ci, fs')) → Ok g M J (pc + 3) L st h1 uc us) : Ok g M J pc L (v :: .ref a :: st) h uc us := by
  subst hfs
  exact ok_put hd hf hh hk hn (kk _ (hx_hs h a _) (hc_hs hh))
theorem okR_putF {a ci k idx : Nat} {fs fs' : List Value} {v : Value} {ty : FieldType} (hd : decode M.2.1 pc = .ok (.putfield idx, 3)) (hin : M.1.name = "<init>") (hf : m_fl M.1.cls idx ci k ty true) (hh : hc h a = some (.inr (ci, fs))) (hk : k < fs.length) (hn : ∀ b, narrow ty (m_sv b v) = m_sv b v ∧ fits ty (m_sv b v) = true) (hfs : fs.set k v = fs') (kk : ∀ h1, hx [a] h h1 → hc h1 a = some (.inr (ci, fs')) → Ok g M J (pc + 3) L st h1 uc us) : Ok g M J pc L (v :: .ref a :: st) h uc us := by
  subst hfs
  exact ok_putF hd hin hf hh hk hn (kk _ (hx_hs h a _) (hc_hs hh))
theorem okN_alen {a n : Nat} {F : Nat → Nat} (hd : decode M.2.1 pc = .ok (.arraylength, 1)) (hh : hc h a = some (aI n F)) (k : Ok g M J (pc + 1) L (.int (nI n) :: st) h uc us) : Ok g M J pc L (.ref a :: st) h uc us := ok_alen (t := 0) hd rfl hh k
theorem okJ_alen {a n : Nat} {F : Nat → Int64} (hd : decode M.2.1 pc = .ok (.arraylength, 1)) (hh : hc h a = some (aJ n F)) (k : Ok g M J (pc + 1) L (.int (nI n) :: st) h uc us) : Ok g M J pc L (.ref a :: st) h uc us := ok_alen (t := 1) hd rfl hh k
end BASE
end
section
theorem set_1_0 {a0 v : Value} : [a0].set 0 v = [v] := rfl
theorem set_3_0 {a0 a1 a2 v : Value} : [a0, a1, a2].set 0 v = [v, a1, a2] := rfl
theorem set_3_1 {a0 a1 a2 v : Value} : [a0, a1, a2].set 1 v = [a0, v, a2] := rfl
theorem set_3_2 {a0 a1 a2 v : Value} : [a0, a1, a2].set 2 v = [a0, a1, v] := rfl
theorem set_8_0 {a0 a1 a2 a3 a4 a5 a6 a7 v : Value} : [a0, a1, a2, a3, a4, a5, a6, a7].set 0 v = [v, a1, a2, a3, a4, a5, a6, a7] := rfl
theorem set_8_1 {a0 a1 a2 a3 a4 a5 a6 a7 v : Value} : [a0, a1, a2, a3, a4, a5, a6, a7].set 1 v = [a0, v, a2, a3, a4, a5, a6, a7] := rfl
theorem set_8_2 {a0 a1 a2 a3 a4 a5 a6 a7 v : Value} : [a0, a1, a2, a3, a4, a5, a6, a7].set 2 v = [a0, a1, v, a3, a4, a5, a6, a7] := rfl
theorem set_8_3 {a0 a1 a2 a3 a4 a5 a6 a7 v : Value} : [a0, a1, a2, a3, a4, a5, a6, a7].set 3 v = [a0, a1, a2, v, a4, a5, a6, a7] := rfl
theorem set_8_4 {a0 a1 a2 a3 a4 a5 a6 a7 v : Value} : [a0, a1, a2, a3, a4, a5, a6, a7].set 4 v = [a0, a1, a2, a3, v, a5, a6, a7] := rfl
theorem set_8_5 {a0 a1 a2 a3 a4 a5 a6 a7 v : Value} : [a0, a1, a2, a3, a4, a5, a6, a7].set 5 v = [a0, a1, a2, a3, a4, v, a6, a7] := rfl
theorem set_8_6 {a0 a1 a2 a3 a4 a5 a6 a7 v : Value} : [a0, a1, a2, a3, a4, a5, a6, a7].set 6 v = [a0, a1, a2, a3, a4, a5, v, a7] := rfl
theorem set_8_7 {a0 a1 a2 a3 a4 a5 a6 a7 v : Value} : [a0, a1, a2, a3, a4, a5, a6, a7].set 7 v = [a0, a1, a2, a3, a4, a5, a6, v] := rfl
theorem set_11_0 {a0 a1 a2 a3 a4 a5 a6 a7 a8 a9 a10 v : Value} : [a0, a1, a2, a3, a4, a5, a6, a7, a8, a9, a10].set 0 v = [v, a1, a2, a3, a4, a5, a6, a7, a8, a9, a10] := rfl
theorem set_11_1 {a0 a1 a2 a3 a4 a5 a6 a7 a8 a9 a10 v : Value} : [a0, a1, a2, a3, a4, a5, a6, a7, a8, a9, a10].set 1 v = [a0, v, a2, a3, a4, a5, a6, a7, a8, a9, a10] := rfl
theorem set_11_2 {a0 a1 a2 a3 a4 a5 a6 a7 a8 a9 a10 v : Value} : [a0, a1, a2, a3, a4, a5, a6, a7, a8, a9, a10].set 2 v = [a0, a1, v, a3, a4, a5, a6, a7, a8, a9, a10] := rfl
theorem set_11_3 {a0 a1 a2 a3 a4 a5 a6 a7 a8 a9 a10 v : Value} : [a0, a1, a2, a3, a4, a5, a6, a7, a8, a9, a10].set 3 v = [a0, a1, a2, v, a4, a5, a6, a7, a8, a9, a10] := rfl
theorem set_11_4 {a0 a1 a2 a3 a4 a5 a6 a7 a8 a9 a10 v : Value} : [a0, a1, a2, a3, a4, a5, a6, a7, a8, a9, a10].set 4 v = [a0, a1, a2, a3, v, a5, a6, a7, a8, a9, a10] := rfl
theorem set_11_5 {a0 a1 a2 a3 a4 a5 a6 a7 a8 a9 a10 v : Value} : [a0, a1, a2, a3, a4, a5, a6, a7, a8, a9, a10].set 5 v = [a0, a1, a2, a3, a4, v, a6, a7, a8, a9, a10] := rfl
theorem set_11_6 {a0 a1 a2 a3 a4 a5 a6 a7 a8 a9 a10 v : Value} : [a0, a1, a2, a3, a4, a5, a6, a7, a8, a9, a10].set 6 v = [a0, a1, a2, a3, a4, a5, v, a7, a8, a9, a10] := rfl
theorem set_11_7 {a0 a1 a2 a3 a4 a5 a6 a7 a8 a9 a10 v : Value} : [a0, a1, a2, a3, a4, a5, a6, a7, a8, a9, a10].set 7 v = [a0, a1, a2, a3, a4, a5, a6, v, a8, a9, a10] := rfl
theorem set_11_8 {a0 a1 a2 a3 a4 a5 a6 a7 a8 a9 a10 v : Value} : [a0, a1, a2, a3, a4, a5, a6, a7, a8, a9, a10].set 8 v = [a0, a1, a2, a3, a4, a5, a6, a7, v, a9, a10] := rfl
theorem set_11_9 {a0 a1 a2 a3 a4 a5 a6 a7 a8 a9 a10 v : Value} : [a0, a1, a2, a3, a4, a5, a6, a7, a8, a9, a10].set 9 v = [a0, a1, a2, a3, a4, a5, a6, a7, a8, v, a10] := rfl
theorem set_11_10 {a0 a1 a2 a3 a4 a5 a6 a7 a8 a9 a10 v : Value} : [a0, a1, a2, a3, a4, a5, a6, a7, a8, a9, a10].set 10 v = [a0, a1, a2, a3, a4, a5, a6, a7, a8, a9, v] := rfl
theorem set_24_0 {a0 a1 a2 a3 a4 a5 a6 a7 a8 a9 a10 a11 a12 a13 a14 a15 a16 a17 a18 a19 a20 a21 a22 a23 v : Value} : [a0, a1, a2, a3, a4, a5, a6, a7, a8, a9, a10, a11, a12, a13, a14, a15, a16, a17, a18, a19, a20, a21, a22, a23].set 0 v = [v, a1, a2, a3, a4, a5, a6, a7, a8, a9, a10, a11, a12, a13, a14, a15, a16, a17, a18, a19, a20, a21, a22, a23] := rfl
theorem set_24_1 {a0 a1 a2 a3 a4 a5 a6 a7 a8 a9 a10 a11 a12 a13 a14 a15 a16 a17 a18 a19 a20 a21 a22 a23 v : Value} : [a0, a1, a2, a3, a4, a5, a6, a7, a8, a9, a10, a11, a12, a13, a14, a15, a16, a17, a18, a19, a20, a21, a22, a23].set 1 v = [a0, v, a2, a3, a4, a5, a6, a7, a8, a9, a10, a11, a12, a13, a14, a15, a16, a17, a18, a19, a20, a21, a22, a23] := rfl
theorem set_24_2 {a0 a1 a2 a3 a4 a5 a6 a7 a8 a9 a10 a11 a12 a13 a14 a15 a16 a17 a18 a19 a20 a21 a22 a23 v : Value} : [a0, a1, a2, a3, a4, a5, a6, a7, a8, a9, a10, a11, a12, a13, a14, a15, a16, a17, a18, a19, a20, a21, a22, a23].set 2 v = [a0, a1, v, a3, a4, a5, a6, a7, a8, a9, a10, a11, a12, a13, a14, a15, a16, a17, a18, a19, a20, a21, a22, a23] := rfl
theorem set_24_3 {a0 a1 a2 a3 a4 a5 a6 a7 a8 a9 a10 a11 a12 a13 a14 a15 a16 a17 a18 a19 a20 a21 a22 a23 v : Value} : [a0, a1, a2, a3, a4, a5, a6, a7, a8, a9, a10, a11, a12, a13, a14, a15, a16, a17, a18, a19, a20, a21, a22, a23].set 3 v = [a0, a1, a2, v, a4, a5, a6, a7, a8, a9, a10, a11, a12, a13, a14, a15, a16, a17, a18, a19, a20, a21, a22, a23] := rfl
theorem set_24_4 {a0 a1 a2 a3 a4 a5 a6 a7 a8 a9 a10 a11 a12 a13 a14 a15 a16 a17 a18 a19 a20 a21 a22 a23 v : Value} : [a0, a1, a2, a3, a4, a5, a6, a7, a8, a9, a10, a11, a12, a13, a14, a15, a16, a17, a18, a19, a20, a21, a22, a23].set 4 v = [a0, a1, a2, a3, v, a5, a6, a7, a8, a9, a10, a11, a12, a13, a14, a15, a16, a17, a18, a19, a20, a21, a22, a23] := rfl
theorem set_24_5 {a0 a1 a2 a3 a4 a5 a6 a7 a8 a9 a10 a11 a12 a13 a14 a15 a16 a17 a18 a19 a20 a21 a22 a23 v : Value} : [a0, a1, a2, a3, a4, a5, a6, a7, a8, a9, a10, a11, a12, a13, a14, a15, a16, a17, a18, a19, a20, a21, a22, a23].set 5 v = [a0, a1, a2, a3, a4, v, a6, a7, a8, a9, a10, a11, a12, a13, a14, a15, a16, a17, a18, a19, a20, a21, a22, a23] := rfl
theorem set_24_6 {a0 a1 a2 a3 a4 a5 a6 a7 a8 a9 a10 a11 a12 a13 a14 a15 a16 a17 a18 a19 a20 a21 a22 a23 v : Value} : [a0, a1, a2, a3, a4, a5, a6, a7, a8, a9, a10, a11, a12, a13, a14, a15, a16, a17, a18, a19, a20, a21, a22, a23].set 6 v = [a0, a1, a2, a3, a4, a5, v, a7, a8, a9, a10, a11, a12, a13, a14, a15, a16, a17, a18, a19, a20, a21, a22, a23] := rfl
theorem set_24_7 {a0 a1 a2 a3 a4 a5 a6 a7 a8 a9 a10 a11 a12 a13 a14 a15 a16 a17 a18 a19 a20 a21 a22 a23 v : Value} : [a0, a1, a2, a3, a4, a5, a6, a7, a8, a9, a10, a11, a12, a13, a14, a15, a16, a17, a18, a19, a20, a21, a22, a23].set 7 v = [a0, a1, a2, a3, a4, a5, a6, v, a8, a9, a10, a11, a12, a13, a14, a15, a16, a17, a18, a19, a20, a21, a22, a23] := rfl
theorem set_24_8 {a0 a1 a2 a3 a4 a5 a6 a7 a8 a9 a10 a11 a12 a13 a14 a15 a16 a17 a18 a19 a20 a21 a22 a23 v : Value} : [a0, a1, a2, a3, a4, a5, a6, a7, a8, a9, a10, a11, a12, a13, a14, a15, a16, a17, a18, a19, a20, a21, a22, a23].set 8 v = [a0, a1, a2, a3, a4, a5, a6, a7, v, a9, a10, a11, a12, a13, a14, a15, a16, a17, a18, a19, a20, a21, a22, a23] := rfl
theorem set_24_9 {a0 a1 a2 a3 a4 a5 a6 a7 a8 a9 a10 a11 a12 a13 a14 a15 a16 a17 a18 a19 a20 a21 a22 a23 v : Value} : [a0, a1, a2, a3, a4, a5, a6, a7, a8, a9, a10, a11, a12, a13, a14, a15, a16, a17, a18, a19, a20, a21, a22, a23].set 9 v = [a0, a1, a2, a3, a4, a5, a6, a7, a8, v, a10, a11, a12, a13, a14, a15, a16, a17, a18, a19, a20, a21, a22, a23] := rfl
theorem set_24_10 {a0 a1 a2 a3 a4 a5 a6 a7 a8 a9 a10 a11 a12 a13 a14 a15 a16 a17 a18 a19 a20 a21 a22 a23 v : Value} : [a0, a1, a2, a3, a4, a5, a6, a7, a8, a9, a10, a11, a12, a13, a14, a15, a16, a17, a18, a19, a20, a21, a22, a23].set 10 v = [a0, a1, a2, a3, a4, a5, a6, a7, a8, a9, v, a11, a12, a13, a14, a15, a16, a17, a18, a19, a20, a21, a22, a23] := rfl
theorem set_24_11 {a0 a1 a2 a3 a4 a5 a6 a7 a8 a9 a10 a11 a12 a13 a14 a15 a16 a17 a18 a19 a20 a21 a22 a23 v : Value} : [a0, a1, a2, a3, a4, a5, a6, a7, a8, a9, a10, a11, a12, a13, a14, a15, a16, a17, a18, a19, a20, a21, a22, a23].set 11 v = [a0, a1, a2, a3, a4, a5, a6, a7, a8, a9, a10, v, a12, a13, a14, a15, a16, a17, a18, a19, a20, a21, a22, a23] := rfl
theorem set_24_12 {a0 a1 a2 a3 a4 a5 a6 a7 a8 a9 a10 a11 a12 a13 a14 a15 a16 a17 a18 a19 a20 a21 a22 a23 v : Value} : [a0, a1, a2, a3, a4, a5, a6, a7, a8, a9, a10, a11, a12, a13, a14, a15, a16, a17, a18, a19, a20, a21, a22, a23].set 12 v = [a0, a1, a2, a3, a4, a5, a6, a7, a8, a9, a10, a11, v, a13, a14, a15, a16, a17, a18, a19, a20, a21, a22, a23] := rfl
theorem set_24_13 {a0 a1 a2 a3 a4 a5 a6 a7 a8 a9 a10 a11 a12 a13 a14 a15 a16 a17 a18 a19 a20 a21 a22 a23 v : Value} : [a0, a1, a2, a3, a4, a5, a6, a7, a8, a9, a10, a11, a12, a13, a14, a15, a16, a17, a18, a19, a20, a21, a22, a23].set 13 v = [a0, a1, a2, a3, a4, a5, a6, a7, a8, a9, a10, a11, a12, v, a14, a15, a16, a17, a18, a19, a20, a21, a22, a23] := rfl
theorem set_24_14 {a0 a1 a2 a3 a4 a5 a6 a7 a8 a9 a10 a11 a12 a13 a14 a15 a16 a17 a18 a19 a20 a21 a22 a23 v : Value} : [a0, a1, a2, a3, a4, a5, a6, a7, a8, a9, a10, a11, a12, a13, a14, a15, a16, a17, a18, a19, a20, a21, a22, a23].set 14 v = [a0, a1, a2, a3, a4, a5, a6, a7, a8, a9, a10, a11, a12, a13, v, a15, a16, a17, a18, a19, a20, a21, a22, a23] := rfl
theorem set_24_15 {a0 a1 a2 a3 a4 a5 a6 a7 a8 a9 a10 a11 a12 a13 a14 a15 a16 a17 a18 a19 a20 a21 a22 a23 v : Value} : [a0, a1, a2, a3, a4, a5, a6, a7, a8, a9, a10, a11, a12, a13, a14, a15, a16, a17, a18, a19, a20, a21, a22, a23].set 15 v = [a0, a1, a2, a3, a4, a5, a6, a7, a8, a9, a10, a11, a12, a13, a14, v, a16, a17, a18, a19, a20, a21, a22, a23] := rfl
theorem set_24_16 {a0 a1 a2 a3 a4 a5 a6 a7 a8 a9 a10 a11 a12 a13 a14 a15 a16 a17 a18 a19 a20 a21 a22 a23 v : Value} : [a0, a1, a2, a3, a4, a5, a6, a7, a8, a9, a10, a11, a12, a13, a14, a15, a16, a17, a18, a19, a20, a21, a22, a23].set 16 v = [a0, a1, a2, a3, a4, a5, a6, a7, a8, a9, a10, a11, a12, a13, a14, a15, v, a17, a18, a19, a20, a21, a22, a23] := rfl
theorem set_24_17 {a0 a1 a2 a3 a4 a5 a6 a7 a8 a9 a10 a11 a12 a13 a14 a15 a16 a17 a18 a19 a20 a21 a22 a23 v : Value} : [a0, a1, a2, a3, a4, a5, a6, a7, a8, a9, a10, a11, a12, a13, a14, a15, a16, a17, a18, a19, a20, a21, a22, a23].set 17 v = [a0, a1, a2, a3, a4, a5, a6, a7, a8, a9, a10, a11, a12, a13, a14, a15, a16, v, a18, a19, a20, a21, a22, a23] := rfl
theorem set_24_18 {a0 a1 a2 a3 a4 a5 a6 a7 a8 a9 a10 a11 a12 a13 a14 a15 a16 a17 a18 a19 a20 a21 a22 a23 v : Value} : [a0, a1, a2, a3, a4, a5, a6, a7, a8, a9, a10, a11, a12, a13, a14, a15, a16, a17, a18, a19, a20, a21, a22, a23].set 18 v = [a0, a1, a2, a3, a4, a5, a6, a7, a8, a9, a10, a11, a12, a13, a14, a15, a16, a17, v, a19, a20, a21, a22, a23] := rfl
theorem set_24_19 {a0 a1 a2 a3 a4 a5 a6 a7 a8 a9 a10 a11 a12 a13 a14 a15 a16 a17 a18 a19 a20 a21 a22 a23 v : Value} : [a0, a1, a2, a3, a4, a5, a6, a7, a8, a9, a10, a11, a12, a13, a14, a15, a16, a17, a18, a19, a20, a21, a22, a23].set 19 v = [a0, a1, a2, a3, a4, a5, a6, a7, a8, a9, a10, a11, a12, a13, a14, a15, a16, a17, a18, v, a20, a21, a22, a23] := rfl
theorem set_24_20 {a0 a1 a2 a3 a4 a5 a6 a7 a8 a9 a10 a11 a12 a13 a14 a15 a16 a17 a18 a19 a20 a21 a22 a23 v : Value} : [a0, a1, a2, a3, a4, a5, a6, a7, a8, a9, a10, a11, a12, a13, a14, a15, a16, a17, a18, a19, a20, a21, a22, a23].set 20 v = [a0, a1, a2, a3, a4, a5, a6, a7, a8, a9, a10, a11, a12, a13, a14, a15, a16, a17, a18, a19, v, a21, a22, a23] := rfl
theorem set_24_21 {a0 a1 a2 a3 a4 a5 a6 a7 a8 a9 a10 a11 a12 a13 a14 a15 a16 a17 a18 a19 a20 a21 a22 a23 v : Value} : [a0, a1, a2, a3, a4, a5, a6, a7, a8, a9, a10, a11, a12, a13, a14, a15, a16, a17, a18, a19, a20, a21, a22, a23].set 21 v = [a0, a1, a2, a3, a4, a5, a6, a7, a8, a9, a10, a11, a12, a13, a14, a15, a16, a17, a18, a19, a20, v, a22, a23] := rfl
theorem set_24_22 {a0 a1 a2 a3 a4 a5 a6 a7 a8 a9 a10 a11 a12 a13 a14 a15 a16 a17 a18 a19 a20 a21 a22 a23 v : Value} : [a0, a1, a2, a3, a4, a5, a6, a7, a8, a9, a10, a11, a12, a13, a14, a15, a16, a17, a18, a19, a20, a21, a22, a23].set 22 v = [a0, a1, a2, a3, a4, a5, a6, a7, a8, a9, a10, a11, a12, a13, a14, a15, a16, a17, a18, a19, a20, a21, v, a23] := rfl
theorem set_24_23 {a0 a1 a2 a3 a4 a5 a6 a7 a8 a9 a10 a11 a12 a13 a14 a15 a16 a17 a18 a19 a20 a21 a22 a23 v : Value} : [a0, a1, a2, a3, a4, a5, a6, a7, a8, a9, a10, a11, a12, a13, a14, a15, a16, a17, a18, a19, a20, a21, a22, a23].set 23 v = [a0, a1, a2, a3, a4, a5, a6, a7, a8, a9, a10, a11, a12, a13, a14, a15, a16, a17, a18, a19, a20, a21, a22, v] := rfl
section CALLS
variable {g : mG} {M : mM} {J : mJ} {pc : Nat} {L : List (Option Value)} {st : List Value} {h : mH} {uc us : Nat}
theorem call_X0_init {a : Nat} {x0 : Int32} {idx : Nat} (hd : decode M.2.1 pc = .ok (.invokespecial idx, 3)) (hl : m_lkI M.1.cls idx MX0_init) (hfit : m_fit M MX0_init uc us) (hw : (st.map fun v => v.category).sum ≤ 8) (k : Ok g MX0_init (m_J g MX0_init (fun v h' => Ok g M J (pc + 3) L (m_push v st) h' (uc + 5) (us + 1925))) 0 [some (.ref a), some (.int x0)] [] h 0 0) : Ok g M J pc L (.int x0 :: .ref a :: st) h uc us := ok_callI hd hl cdX0_init rfl hfit (av := [.int x0]) rfl hw (Nat.le_of_ble_eq_true rfl) rfl k
theorem call_X0_has {a : Nat} {fs : List Value} {x0 : Int32} {idx : Nat} (hd : decode M.2.1 pc = .ok (.invokevirtual idx, 3)) (hl : m_lkV M.1.cls idx MX0_has) (hfit : m_fit M MX0_has uc us) (hh : hc h a = some (.inr (0, fs))) (hw : (st.map fun v => v.category).sum ≤ 8) (k : Ok g MX0_has (m_J g MX0_has (fun v h' => Ok g M J (pc + 3) L (m_push v st) h' uc us)) 0 [some (.ref a), some (.int x0)] [] h 0 0) : Ok g M J pc L (.int x0 :: .ref a :: st) h uc us := ok_callV hd hl cdX0_has hfit hh rfl rfl (av := [.int x0]) rfl hw (Nat.le_of_ble_eq_true rfl) rfl k
theorem call_X0_link {a : Nat} {fs : List Value} {x0 : Int32} {x1 : Int32} {idx : Nat} (hd : decode M.2.1 pc = .ok (.invokevirtual idx, 3)) (hl : m_lkV M.1.cls idx MX0_link) (hfit : m_fit M MX0_link uc us) (hh : hc h a = some (.inr (0, fs))) (hw : (st.map fun v => v.category).sum ≤ 8) (k : Ok g MX0_link (m_J g MX0_link (fun v h' => Ok g M J (pc + 3) L (m_push v st) h' uc us)) 0 [some (.ref a), some (.int x0), some (.int x1)] [] h 0 0) : Ok g M J pc L (.int x1 :: .int x0 :: .ref a :: st) h uc us := ok_callV hd hl cdX0_link hfit hh rfl rfl (av := [.int x0, .int x1]) rfl hw (Nat.le_of_ble_eq_true rfl) rfl k
theorem call_X0_draw {a : Nat} {fs : List Value}  {idx : Nat} (hd : decode M.2.1 pc = .ok (.invokevirtual idx, 3)) (hl : m_lkV M.1.cls idx MX0_draw) (hfit : m_fit M MX0_draw uc us) (hh : hc h a = some (.inr (0, fs))) (hw : (st.map fun v => v.category).sum ≤ 8) (k : Ok g MX0_draw (m_J g MX0_draw (fun v h' => Ok g M J (pc + 3) L (m_push v st) h' (uc + 2) (us + 770))) 0 [some (.ref a), none, none, none, none] [] h 0 0) : Ok g M J pc L (.ref a :: st) h uc us := ok_callV hd hl cdX0_draw hfit hh rfl rfl (av := []) rfl hw (Nat.le_of_ble_eq_true rfl) rfl k
theorem call_X0_peel {a : Nat} {fs : List Value} {x0 : Nat} {x1 : Nat} {idx : Nat} (hd : decode M.2.1 pc = .ok (.invokevirtual idx, 3)) (hl : m_lkV M.1.cls idx MX0_peel) (hfit : m_fit M MX0_peel uc us) (hh : hc h a = some (.inr (0, fs))) (hw : (st.map fun v => v.category).sum ≤ 8) (k : Ok g MX0_peel (m_J g MX0_peel (fun v h' => Ok g M J (pc + 3) L (m_push v st) h' uc us)) 0 [some (.ref a), some (.ref x0), some (.ref x1), none, none, none] [] h 0 0) : Ok g M J pc L (.ref x1 :: .ref x0 :: .ref a :: st) h uc us := ok_callV hd hl cdX0_peel hfit hh rfl rfl (av := [.ref x0, .ref x1]) rfl hw (Nat.le_of_ble_eq_true rfl) rfl k
theorem call_X0_drawRing {a : Nat} {fs : List Value} {x0 : Int32} {x1 : Nat} {idx : Nat} (hd : decode M.2.1 pc = .ok (.invokevirtual idx, 3)) (hl : m_lkV M.1.cls idx MX0_drawRing) (hfit : m_fit M MX0_drawRing uc us) (hh : hc h a = some (.inr (0, fs))) (hw : (st.map fun v => v.category).sum ≤ 8) (k : Ok g MX0_drawRing (m_J g MX0_drawRing (fun v h' => Ok g M J (pc + 3) L (m_push v st) h' uc us)) 0 [some (.ref a), some (.int x0), some (.ref x1), none, none, none] [] h 0 0) : Ok g M J pc L (.ref x1 :: .int x0 :: .ref a :: st) h uc us := ok_callV hd hl cdX0_drawRing hfit hh rfl rfl (av := [.int x0, .ref x1]) rfl hw (Nat.le_of_ble_eq_true rfl) rfl k
theorem call_X0_drawTail {a : Nat} {fs : List Value} {x0 : Int32} {idx : Nat} (hd : decode M.2.1 pc = .ok (.invokevirtual idx, 3)) (hl : m_lkV M.1.cls idx MX0_drawTail) (hfit : m_fit M MX0_drawTail uc us) (hh : hc h a = some (.inr (0, fs))) (hw : (st.map fun v => v.category).sum ≤ 8) (k : Ok g MX0_drawTail (m_J g MX0_drawTail (fun v h' => Ok g M J (pc + 3) L (m_push v st) h' uc us)) 0 [some (.ref a), some (.int x0), none] [] h 0 0) : Ok g M J pc L (.int x0 :: .ref a :: st) h uc us := ok_callV hd hl cdX0_drawTail hfit hh rfl rfl (av := [.int x0]) rfl hw (Nat.le_of_ble_eq_true rfl) rfl k
theorem call_X0_kindOf {a : Nat} {fs : List Value} {x0 : Int32} {idx : Nat} (hd : decode M.2.1 pc = .ok (.invokevirtual idx, 3)) (hl : m_lkV M.1.cls idx MX0_kindOf) (hfit : m_fit M MX0_kindOf uc us) (hh : hc h a = some (.inr (0, fs))) (hw : (st.map fun v => v.category).sum ≤ 8) (k : Ok g MX0_kindOf (m_J g MX0_kindOf (fun v h' => Ok g M J (pc + 3) L (m_push v st) h' uc us)) 0 [some (.ref a), some (.int x0)] [] h 0 0) : Ok g M J pc L (.int x0 :: .ref a :: st) h uc us := ok_callV hd hl cdX0_kindOf hfit hh rfl rfl (av := [.int x0]) rfl hw (Nat.le_of_ble_eq_true rfl) rfl k
theorem call_X0_tailOf {a : Nat} {fs : List Value} {x0 : Int32} {idx : Nat} (hd : decode M.2.1 pc = .ok (.invokevirtual idx, 3)) (hl : m_lkV M.1.cls idx MX0_tailOf) (hfit : m_fit M MX0_tailOf uc us) (hh : hc h a = some (.inr (0, fs))) (hw : (st.map fun v => v.category).sum ≤ 8) (k : Ok g MX0_tailOf (m_J g MX0_tailOf (fun v h' => Ok g M J (pc + 3) L (m_push v st) h' uc us)) 0 [some (.ref a), some (.int x0)] [] h 0 0) : Ok g M J pc L (.int x0 :: .ref a :: st) h uc us := ok_callV hd hl cdX0_tailOf hfit hh rfl rfl (av := [.int x0]) rfl hw (Nat.le_of_ble_eq_true rfl) rfl k
theorem call_X0_beatOf {a : Nat} {fs : List Value} {x0 : Int32} {idx : Nat} (hd : decode M.2.1 pc = .ok (.invokevirtual idx, 3)) (hl : m_lkV M.1.cls idx MX0_beatOf) (hfit : m_fit M MX0_beatOf uc us) (hh : hc h a = some (.inr (0, fs))) (hw : (st.map fun v => v.category).sum ≤ 8) (k : Ok g MX0_beatOf (m_J g MX0_beatOf (fun v h' => Ok g M J (pc + 3) L (m_push v st) h' uc us)) 0 [some (.ref a), some (.int x0)] [] h 0 0) : Ok g M J pc L (.int x0 :: .ref a :: st) h uc us := ok_callV hd hl cdX0_beatOf hfit hh rfl rfl (av := [.int x0]) rfl hw (Nat.le_of_ble_eq_true rfl) rfl k
theorem call_X0_leaderOf {a : Nat} {fs : List Value} {x0 : Int32} {idx : Nat} (hd : decode M.2.1 pc = .ok (.invokevirtual idx, 3)) (hl : m_lkV M.1.cls idx MX0_leaderOf) (hfit : m_fit M MX0_leaderOf uc us) (hh : hc h a = some (.inr (0, fs))) (hw : (st.map fun v => v.category).sum ≤ 8) (k : Ok g MX0_leaderOf (m_J g MX0_leaderOf (fun v h' => Ok g M J (pc + 3) L (m_push v st) h' uc us)) 0 [some (.ref a), some (.int x0)] [] h 0 0) : Ok g M J pc L (.int x0 :: .ref a :: st) h uc us := ok_callV hd hl cdX0_leaderOf hfit hh rfl rfl (av := [.int x0]) rfl hw (Nat.le_of_ble_eq_true rfl) rfl k
theorem call_X0_comersTo {a : Nat} {fs : List Value} {x0 : Int32} {idx : Nat} (hd : decode M.2.1 pc = .ok (.invokevirtual idx, 3)) (hl : m_lkV M.1.cls idx MX0_comersTo) (hfit : m_fit M MX0_comersTo uc us) (hh : hc h a = some (.inr (0, fs))) (hw : (st.map fun v => v.category).sum ≤ 8) (k : Ok g MX0_comersTo (m_J g MX0_comersTo (fun v h' => Ok g M J (pc + 3) L (m_push v st) h' uc us)) 0 [some (.ref a), some (.int x0)] [] h 0 0) : Ok g M J pc L (.int x0 :: .ref a :: st) h uc us := ok_callV hd hl cdX0_comersTo hfit hh rfl rfl (av := [.int x0]) rfl hw (Nat.le_of_ble_eq_true rfl) rfl k
theorem call_X0_comerTo {a : Nat} {fs : List Value} {x0 : Int32} {x1 : Int32} {idx : Nat} (hd : decode M.2.1 pc = .ok (.invokevirtual idx, 3)) (hl : m_lkV M.1.cls idx MX0_comerTo) (hfit : m_fit M MX0_comerTo uc us) (hh : hc h a = some (.inr (0, fs))) (hw : (st.map fun v => v.category).sum ≤ 8) (k : Ok g MX0_comerTo (m_J g MX0_comerTo (fun v h' => Ok g M J (pc + 3) L (m_push v st) h' uc us)) 0 [some (.ref a), some (.int x0), some (.int x1), none, none] [] h 0 0) : Ok g M J pc L (.int x1 :: .int x0 :: .ref a :: st) h uc us := ok_callV hd hl cdX0_comerTo hfit hh rfl rfl (av := [.int x0, .int x1]) rfl hw (Nat.le_of_ble_eq_true rfl) rfl k
theorem call_X0_leaderOfRing {a : Nat} {fs : List Value} {x0 : Int32} {idx : Nat} (hd : decode M.2.1 pc = .ok (.invokevirtual idx, 3)) (hl : m_lkV M.1.cls idx MX0_leaderOfRing) (hfit : m_fit M MX0_leaderOfRing uc us) (hh : hc h a = some (.inr (0, fs))) (hw : (st.map fun v => v.category).sum ≤ 8) (k : Ok g MX0_leaderOfRing (m_J g MX0_leaderOfRing (fun v h' => Ok g M J (pc + 3) L (m_push v st) h' uc us)) 0 [some (.ref a), some (.int x0), none, none] [] h 0 0) : Ok g M J pc L (.int x0 :: .ref a :: st) h uc us := ok_callV hd hl cdX0_leaderOfRing hfit hh rfl rfl (av := [.int x0]) rfl hw (Nat.le_of_ble_eq_true rfl) rfl k
theorem call_X0_after {a : Nat} {fs : List Value} {x0 : Int32} {x1 : Int32} {idx : Nat} (hd : decode M.2.1 pc = .ok (.invokevirtual idx, 3)) (hl : m_lkV M.1.cls idx MX0_after) (hfit : m_fit M MX0_after uc us) (hh : hc h a = some (.inr (0, fs))) (hw : (st.map fun v => v.category).sum ≤ 8) (k : Ok g MX0_after (m_J g MX0_after (fun v h' => Ok g M J (pc + 3) L (m_push v st) h' uc us)) 0 [some (.ref a), some (.int x0), some (.int x1), none, none] [] h 0 0) : Ok g M J pc L (.int x1 :: .int x0 :: .ref a :: st) h uc us := ok_callV hd hl cdX0_after hfit hh rfl rfl (av := [.int x0, .int x1]) rfl hw (Nat.le_of_ble_eq_true rfl) rfl k
theorem call_X0_stepsBetween {a : Nat} {fs : List Value} {x0 : Int32} {x1 : Int32} {idx : Nat} (hd : decode M.2.1 pc = .ok (.invokevirtual idx, 3)) (hl : m_lkV M.1.cls idx MX0_stepsBetween) (hfit : m_fit M MX0_stepsBetween uc us) (hh : hc h a = some (.inr (0, fs))) (hw : (st.map fun v => v.category).sum ≤ 8) (k : Ok g MX0_stepsBetween (m_J g MX0_stepsBetween (fun v h' => Ok g M J (pc + 3) L (m_push v st) h' uc us)) 0 [some (.ref a), some (.int x0), some (.int x1), none, none] [] h 0 0) : Ok g M J pc L (.int x1 :: .int x0 :: .ref a :: st) h uc us := ok_callV hd hl cdX0_stepsBetween hfit hh rfl rfl (av := [.int x0, .int x1]) rfl hw (Nat.le_of_ble_eq_true rfl) rfl k
theorem call_X1_init {a : Nat}  {idx : Nat} (hd : decode M.2.1 pc = .ok (.invokespecial idx, 3)) (hl : m_lkI M.1.cls idx MX1_init) (hfit : m_fit M MX1_init uc us) (hw : (st.map fun v => v.category).sum ≤ 8) (k : Ok g MX1_init (m_J g MX1_init (fun v h' => Ok g M J (pc + 3) L (m_push v st) h' (uc + 1) (us + 361))) 0 [some (.ref a), none, none, none] [] h 0 0) : Ok g M J pc L (.ref a :: st) h uc us := ok_callI hd hl cdX1_init rfl hfit (av := []) rfl hw (Nat.le_of_ble_eq_true rfl) rfl k
theorem call_X1_cappedAt {a : Nat} {fs : List Value} {x0 : Int32} {x1 : Int32} {idx : Nat} (hd : decode M.2.1 pc = .ok (.invokevirtual idx, 3)) (hl : m_lkV M.1.cls idx MX1_cappedAt) (hfit : m_fit M MX1_cappedAt uc us) (hh : hc h a = some (.inr (1, fs))) (hw : (st.map fun v => v.category).sum ≤ 8) (k : Ok g MX1_cappedAt (m_J g MX1_cappedAt (fun v h' => Ok g M J (pc + 3) L (m_push v st) h' uc us)) 0 [some (.ref a), some (.int x0), some (.int x1)] [] h 0 0) : Ok g M J pc L (.int x1 :: .int x0 :: .ref a :: st) h uc us := ok_callV hd hl cdX1_cappedAt hfit hh rfl rfl (av := [.int x0, .int x1]) rfl hw (Nat.le_of_ble_eq_true rfl) rfl k
theorem call_X1_length {a : Nat} {fs : List Value} {x0 : Int32} {idx : Nat} (hd : decode M.2.1 pc = .ok (.invokevirtual idx, 3)) (hl : m_lkV M.1.cls idx MX1_length) (hfit : m_fit M MX1_length uc us) (hh : hc h a = some (.inr (1, fs))) (hw : (st.map fun v => v.category).sum ≤ 8) (k : Ok g MX1_length (m_J g MX1_length (fun v h' => Ok g M J (pc + 3) L (m_push v st) h' uc us)) 0 [some (.ref a), some (.int x0)] [] h 0 0) : Ok g M J pc L (.int x0 :: .ref a :: st) h uc us := ok_callV hd hl cdX1_length hfit hh rfl rfl (av := [.int x0]) rfl hw (Nat.le_of_ble_eq_true rfl) rfl k
theorem call_X1_numberOf {a : Nat} {fs : List Value} {x0 : Nat} {idx : Nat} (hd : decode M.2.1 pc = .ok (.invokevirtual idx, 3)) (hl : m_lkV M.1.cls idx MX1_numberOf) (hfit : m_fit M MX1_numberOf uc us) (hh : hc h a = some (.inr (1, fs))) (hw : (st.map fun v => v.category).sum ≤ 8) (k : Ok g MX1_numberOf (m_J g MX1_numberOf (fun v h' => Ok g M J (pc + 3) L (m_push v st) h' uc us)) 0 [some (.ref a), some (.ref x0), none, none, none, none, none] [] h 0 0) : Ok g M J pc L (.ref x0 :: .ref a :: st) h uc us := ok_callV hd hl cdX1_numberOf hfit hh rfl rfl (av := [.ref x0]) rfl hw (Nat.le_of_ble_eq_true rfl) rfl k
theorem call_X1_write {a : Nat} {fs : List Value} {x0 : Nat} {x1 : Int32} {x2 : Int32} {idx : Nat} (hd : decode M.2.1 pc = .ok (.invokevirtual idx, 3)) (hl : m_lkV M.1.cls idx MX1_write) (hfit : m_fit M MX1_write uc us) (hh : hc h a = some (.inr (1, fs))) (hw : (st.map fun v => v.category).sum ≤ 8) (k : Ok g MX1_write (m_J g MX1_write (fun v h' => Ok g M J (pc + 3) L (m_push v st) h' uc us)) 0 [some (.ref a), some (.ref x0), some (.int x1), some (.int x2), none, none, none, none, none] [] h 0 0) : Ok g M J pc L (.int x2 :: .int x1 :: .ref x0 :: .ref a :: st) h uc us := ok_callV hd hl cdX1_write hfit hh rfl rfl (av := [.ref x0, .int x1, .int x2]) rfl hw (Nat.le_of_ble_eq_true rfl) rfl k
theorem call_X2_init {a : Nat}  {idx : Nat} (hd : decode M.2.1 pc = .ok (.invokespecial idx, 3)) (hl : m_lkI M.1.cls idx MX2_init) (hfit : m_fit M MX2_init uc us) (hw : (st.map fun v => v.category).sum ≤ 8) (k : Ok g MX2_init (m_J g MX2_init (fun v h' => Ok g M J (pc + 3) L (m_push v st) h' (uc + 10) (us + 1233))) 0 [some (.ref a), none, none] [] h 0 0) : Ok g M J pc L (.ref a :: st) h uc us := ok_callI hd hl cdX2_init rfl hfit (av := []) rfl hw (Nat.le_of_ble_eq_true rfl) rfl k
theorem call_X2_chosenAt {a : Nat} {fs : List Value} {x0 : Int32} {x1 : Int32} {idx : Nat} (hd : decode M.2.1 pc = .ok (.invokevirtual idx, 3)) (hl : m_lkV M.1.cls idx MX2_chosenAt) (hfit : m_fit M MX2_chosenAt uc us) (hh : hc h a = some (.inr (2, fs))) (hw : (st.map fun v => v.category).sum ≤ 8) (k : Ok g MX2_chosenAt (m_J g MX2_chosenAt (fun v h' => Ok g M J (pc + 3) L (m_push v st) h' uc us)) 0 [some (.ref a), some (.int x0), some (.int x1)] [] h 0 0) : Ok g M J pc L (.int x1 :: .int x0 :: .ref a :: st) h uc us := ok_callV hd hl cdX2_chosenAt hfit hh rfl rfl (av := [.int x0, .int x1]) rfl hw (Nat.le_of_ble_eq_true rfl) rfl k
theorem call_X2_choicesBetween {a : Nat} {fs : List Value} {x0 : Nat} {x1 : Nat} {idx : Nat} (hd : decode M.2.1 pc = .ok (.invokevirtual idx, 3)) (hl : m_lkV M.1.cls idx MX2_choicesBetween) (hfit : m_fit M MX2_choicesBetween uc us) (hh : hc h a = some (.inr (2, fs))) (hw : (st.map fun v => v.category).sum ≤ 8) (k : Ok g MX2_choicesBetween (m_J g MX2_choicesBetween (fun v h' => Ok g M J (pc + 3) L (m_push v st) h' uc us)) 0 [some (.ref a), some (.ref x0), some (.ref x1), none, none] [] h 0 0) : Ok g M J pc L (.ref x1 :: .ref x0 :: .ref a :: st) h uc us := ok_callV hd hl cdX2_choicesBetween hfit hh rfl rfl (av := [.ref x0, .ref x1]) rfl hw (Nat.le_of_ble_eq_true rfl) rfl k
theorem call_X2_choicesGiving {a : Nat} {fs : List Value} {x0 : Int32} {x1 : Int32} {idx : Nat} (hd : decode M.2.1 pc = .ok (.invokevirtual idx, 3)) (hl : m_lkV M.1.cls idx MX2_choicesGiving) (hfit : m_fit M MX2_choicesGiving uc us) (hh : hc h a = some (.inr (2, fs))) (hw : (st.map fun v => v.category).sum ≤ 8) (k : Ok g MX2_choicesGiving (m_J g MX2_choicesGiving (fun v h' => Ok g M J (pc + 3) L (m_push v st) h' uc us)) 0 [some (.ref a), some (.int x0), some (.int x1), none, none, none, none, none] [] h 0 0) : Ok g M J pc L (.int x1 :: .int x0 :: .ref a :: st) h uc us := ok_callV hd hl cdX2_choicesGiving hfit hh rfl rfl (av := [.int x0, .int x1]) rfl hw (Nat.le_of_ble_eq_true rfl) rfl k
theorem call_X2_countReached {a : Nat} {fs : List Value} {x0 : Nat} {x1 : Nat} {idx : Nat} (hd : decode M.2.1 pc = .ok (.invokevirtual idx, 3)) (hl : m_lkV M.1.cls idx MX2_countReached) (hfit : m_fit M MX2_countReached uc us) (hh : hc h a = some (.inr (2, fs))) (hw : (st.map fun v => v.category).sum ≤ 8) (k : Ok g MX2_countReached (m_J g MX2_countReached (fun v h' => Ok g M J (pc + 3) L (m_push v st) h' uc us)) 0 [some (.ref a), some (.ref x0), some (.ref x1), none, none] [] h 0 0) : Ok g M J pc L (.ref x1 :: .ref x0 :: .ref a :: st) h uc us := ok_callV hd hl cdX2_countReached hfit hh rfl rfl (av := [.ref x0, .ref x1]) rfl hw (Nat.le_of_ble_eq_true rfl) rfl k
theorem call_X2_choicesOfSteps {a : Nat} {fs : List Value} {x0 : Nat} {x1 : Nat} {x2 : Nat} {x3 : Int32} {idx : Nat} (hd : decode M.2.1 pc = .ok (.invokevirtual idx, 3)) (hl : m_lkV M.1.cls idx MX2_choicesOfSteps) (hfit : m_fit M MX2_choicesOfSteps uc us) (hh : hc h a = some (.inr (2, fs))) (hw : (st.map fun v => v.category).sum ≤ 8) (k : Ok g MX2_choicesOfSteps (m_J g MX2_choicesOfSteps (fun v h' => Ok g M J (pc + 3) L (m_push v st) h' uc us)) 0 [some (.ref a), some (.ref x0), some (.ref x1), some (.ref x2), some (.int x3), none, none, none, none] [] h 0 0) : Ok g M J pc L (.int x3 :: .ref x2 :: .ref x1 :: .ref x0 :: .ref a :: st) h uc us := ok_callV hd hl cdX2_choicesOfSteps hfit hh rfl rfl (av := [.ref x0, .ref x1, .ref x2, .int x3]) rfl hw (Nat.le_of_ble_eq_true rfl) rfl k
theorem call_X2_spreadAll {a : Nat} {fs : List Value} {x0 : Nat} {x1 : Int32} {idx : Nat} (hd : decode M.2.1 pc = .ok (.invokevirtual idx, 3)) (hl : m_lkV M.1.cls idx MX2_spreadAll) (hfit : m_fit M MX2_spreadAll uc us) (hh : hc h a = some (.inr (2, fs))) (hw : (st.map fun v => v.category).sum ≤ 8) (k : Ok g MX2_spreadAll (m_J g MX2_spreadAll (fun v h' => Ok g M J (pc + 3) L (m_push v st) h' uc us)) 0 [some (.ref a), some (.ref x0), some (.int x1), none] [] h 0 0) : Ok g M J pc L (.int x1 :: .ref x0 :: .ref a :: st) h uc us := ok_callV hd hl cdX2_spreadAll hfit hh rfl rfl (av := [.ref x0, .int x1]) rfl hw (Nat.le_of_ble_eq_true rfl) rfl k
theorem call_X2_spread {a : Nat} {fs : List Value} {x0 : Nat} {x1 : Nat} {x2 : Int64} {idx : Nat} (hd : decode M.2.1 pc = .ok (.invokevirtual idx, 3)) (hl : m_lkV M.1.cls idx MX2_spread) (hfit : m_fit M MX2_spread uc us) (hh : hc h a = some (.inr (2, fs))) (hw : (st.map fun v => v.category).sum ≤ 8) (k : Ok g MX2_spread (m_J g MX2_spread (fun v h' => Ok g M J (pc + 3) L (m_push v st) h' uc us)) 0 [some (.ref a), some (.ref x0), some (.ref x1), some (.long x2), none, none, none] [] h 0 0) : Ok g M J pc L (.long x2 :: .ref x1 :: .ref x0 :: .ref a :: st) h uc us := ok_callV hd hl cdX2_spread hfit hh rfl rfl (av := [.ref x0, .ref x1, .long x2]) rfl hw (Nat.le_of_ble_eq_true rfl) rfl k
theorem call_X2_land {a : Nat} {fs : List Value} {x0 : Nat} {x1 : Int32} {x2 : Int64} {idx : Nat} (hd : decode M.2.1 pc = .ok (.invokevirtual idx, 3)) (hl : m_lkV M.1.cls idx MX2_land) (hfit : m_fit M MX2_land uc us) (hh : hc h a = some (.inr (2, fs))) (hw : (st.map fun v => v.category).sum ≤ 8) (k : Ok g MX2_land (m_J g MX2_land (fun v h' => Ok g M J (pc + 3) L (m_push v st) h' uc us)) 0 [some (.ref a), some (.ref x0), some (.int x1), some (.long x2), none, none, none, none, none, none, none] [] h 0 0) : Ok g M J pc L (.long x2 :: .int x1 :: .ref x0 :: .ref a :: st) h uc us := ok_callV hd hl cdX2_land hfit hh rfl rfl (av := [.ref x0, .int x1, .long x2]) rfl hw (Nat.le_of_ble_eq_true rfl) rfl k
theorem call_X2_nextGift {a : Nat} {fs : List Value}  {idx : Nat} (hd : decode M.2.1 pc = .ok (.invokevirtual idx, 3)) (hl : m_lkV M.1.cls idx MX2_nextGift) (hfit : m_fit M MX2_nextGift uc us) (hh : hc h a = some (.inr (2, fs))) (hw : (st.map fun v => v.category).sum ≤ 8) (k : Ok g MX2_nextGift (m_J g MX2_nextGift (fun v h' => Ok g M J (pc + 3) L (m_push v st) h' uc us)) 0 [some (.ref a), none] [] h 0 0) : Ok g M J pc L (.ref a :: st) h uc us := ok_callV hd hl cdX2_nextGift hfit hh rfl rfl (av := []) rfl hw (Nat.le_of_ble_eq_true rfl) rfl k
theorem callN_X3_init {a : Nat}  {idx : Nat} (hd : decode M.2.1 pc = .ok (.invokespecial idx, 3)) (hl : m_lkN M.1.cls idx MX3_init) (hfit : m_fit M MX3_init uc us) (hw : (st.map fun v => v.category).sum ≤ 8) (k : Ok g MX3_init (m_J g MX3_init (fun v h' => Ok g M J (pc + 3) L (m_push v st) h' (uc + 1) (us + 18))) 0 [some (.ref a)] [] h 0 0) : Ok g M J pc L (.ref a :: st) h uc us := ok_callN hd hl cdX3_init rfl hfit (av := []) rfl hw (Nat.le_of_ble_eq_true rfl) rfl k
theorem call_X3_clear {a : Nat} {fs : List Value}  {idx : Nat} (hd : decode M.2.1 pc = .ok (.invokevirtual idx, 3)) (hl : m_lkV M.1.cls idx MX3_clear) (hfit : m_fit M MX3_clear uc us) (hh : hc h a = some (.inr (3, fs))) (hw : (st.map fun v => v.category).sum ≤ 8) (k : Ok g MX3_clear (m_J g MX3_clear (fun v h' => Ok g M J (pc + 3) L (m_push v st) h' uc us)) 0 [some (.ref a)] [] h 0 0) : Ok g M J pc L (.ref a :: st) h uc us := ok_callV hd hl cdX3_clear hfit hh rfl rfl (av := []) rfl hw (Nat.le_of_ble_eq_true rfl) rfl k
theorem call_X3_has {a : Nat} {fs : List Value} {x0 : Int32} {idx : Nat} (hd : decode M.2.1 pc = .ok (.invokevirtual idx, 3)) (hl : m_lkV M.1.cls idx MX3_has) (hfit : m_fit M MX3_has uc us) (hh : hc h a = some (.inr (3, fs))) (hw : (st.map fun v => v.category).sum ≤ 8) (k : Ok g MX3_has (m_J g MX3_has (fun v h' => Ok g M J (pc + 3) L (m_push v st) h' uc us)) 0 [some (.ref a), some (.int x0)] [] h 0 0) : Ok g M J pc L (.int x0 :: .ref a :: st) h uc us := ok_callV hd hl cdX3_has hfit hh rfl rfl (av := [.int x0]) rfl hw (Nat.le_of_ble_eq_true rfl) rfl k
theorem call_X3_heapAt {a : Nat} {fs : List Value} {x0 : Int32} {idx : Nat} (hd : decode M.2.1 pc = .ok (.invokevirtual idx, 3)) (hl : m_lkV M.1.cls idx MX3_heapAt) (hfit : m_fit M MX3_heapAt uc us) (hh : hc h a = some (.inr (3, fs))) (hw : (st.map fun v => v.category).sum ≤ 8) (k : Ok g MX3_heapAt (m_J g MX3_heapAt (fun v h' => Ok g M J (pc + 3) L (m_push v st) h' uc us)) 0 [some (.ref a), some (.int x0)] [] h 0 0) : Ok g M J pc L (.int x0 :: .ref a :: st) h uc us := ok_callV hd hl cdX3_heapAt hfit hh rfl rfl (av := [.int x0]) rfl hw (Nat.le_of_ble_eq_true rfl) rfl k
theorem call_X3_hasRoomFor {a : Nat} {fs : List Value} {x0 : Int32} {idx : Nat} (hd : decode M.2.1 pc = .ok (.invokevirtual idx, 3)) (hl : m_lkV M.1.cls idx MX3_hasRoomFor) (hfit : m_fit M MX3_hasRoomFor uc us) (hh : hc h a = some (.inr (3, fs))) (hw : (st.map fun v => v.category).sum ≤ 8) (k : Ok g MX3_hasRoomFor (m_J g MX3_hasRoomFor (fun v h' => Ok g M J (pc + 3) L (m_push v st) h' uc us)) 0 [some (.ref a), some (.int x0)] [] h 0 0) : Ok g M J pc L (.int x0 :: .ref a :: st) h uc us := ok_callV hd hl cdX3_hasRoomFor hfit hh rfl rfl (av := [.int x0]) rfl hw (Nat.le_of_ble_eq_true rfl) rfl k
theorem call_X3_put {a : Nat} {fs : List Value} {x0 : Int32} {idx : Nat} (hd : decode M.2.1 pc = .ok (.invokevirtual idx, 3)) (hl : m_lkV M.1.cls idx MX3_put) (hfit : m_fit M MX3_put uc us) (hh : hc h a = some (.inr (3, fs))) (hw : (st.map fun v => v.category).sum ≤ 8) (k : Ok g MX3_put (m_J g MX3_put (fun v h' => Ok g M J (pc + 3) L (m_push v st) h' uc us)) 0 [some (.ref a), some (.int x0), none] [] h 0 0) : Ok g M J pc L (.int x0 :: .ref a :: st) h uc us := ok_callV hd hl cdX3_put hfit hh rfl rfl (av := [.int x0]) rfl hw (Nat.le_of_ble_eq_true rfl) rfl k
theorem call_X3_putPart {a : Nat} {fs : List Value} {x0 : Nat} {x1 : Int32} {x2 : Int32} {idx : Nat} (hd : decode M.2.1 pc = .ok (.invokevirtual idx, 3)) (hl : m_lkV M.1.cls idx MX3_putPart) (hfit : m_fit M MX3_putPart uc us) (hh : hc h a = some (.inr (3, fs))) (hw : (st.map fun v => v.category).sum ≤ 8) (k : Ok g MX3_putPart (m_J g MX3_putPart (fun v h' => Ok g M J (pc + 3) L (m_push v st) h' uc us)) 0 [some (.ref a), some (.ref x0), some (.int x1), some (.int x2), none] [] h 0 0) : Ok g M J pc L (.int x2 :: .int x1 :: .ref x0 :: .ref a :: st) h uc us := ok_callV hd hl cdX3_putPart hfit hh rfl rfl (av := [.ref x0, .int x1, .int x2]) rfl hw (Nat.le_of_ble_eq_true rfl) rfl k
theorem call_X3_drop {a : Nat} {fs : List Value} {x0 : Int32} {idx : Nat} (hd : decode M.2.1 pc = .ok (.invokevirtual idx, 3)) (hl : m_lkV M.1.cls idx MX3_drop) (hfit : m_fit M MX3_drop uc us) (hh : hc h a = some (.inr (3, fs))) (hw : (st.map fun v => v.category).sum ≤ 8) (k : Ok g MX3_drop (m_J g MX3_drop (fun v h' => Ok g M J (pc + 3) L (m_push v st) h' uc us)) 0 [some (.ref a), some (.int x0), none, none] [] h 0 0) : Ok g M J pc L (.int x0 :: .ref a :: st) h uc us := ok_callV hd hl cdX3_drop hfit hh rfl rfl (av := [.int x0]) rfl hw (Nat.le_of_ble_eq_true rfl) rfl k
theorem call_X3_heapsFrom {a : Nat} {fs : List Value} {x0 : Int32} {idx : Nat} (hd : decode M.2.1 pc = .ok (.invokevirtual idx, 3)) (hl : m_lkV M.1.cls idx MX3_heapsFrom) (hfit : m_fit M MX3_heapsFrom uc us) (hh : hc h a = some (.inr (3, fs))) (hw : (st.map fun v => v.category).sum ≤ 8) (k : Ok g MX3_heapsFrom (m_J g MX3_heapsFrom (fun v h' => Ok g M J (pc + 3) L (m_push v st) h' uc us)) 0 [some (.ref a), some (.int x0), none, none] [] h 0 0) : Ok g M J pc L (.int x0 :: .ref a :: st) h uc us := ok_callV hd hl cdX3_heapsFrom hfit hh rfl rfl (av := [.int x0]) rfl hw (Nat.le_of_ble_eq_true rfl) rfl k
theorem call_X3_unlikeHeaps {a : Nat} {fs : List Value}  {idx : Nat} (hd : decode M.2.1 pc = .ok (.invokevirtual idx, 3)) (hl : m_lkV M.1.cls idx MX3_unlikeHeaps) (hfit : m_fit M MX3_unlikeHeaps uc us) (hh : hc h a = some (.inr (3, fs))) (hw : (st.map fun v => v.category).sum ≤ 8) (k : Ok g MX3_unlikeHeaps (m_J g MX3_unlikeHeaps (fun v h' => Ok g M J (pc + 3) L (m_push v st) h' uc us)) 0 [some (.ref a), none, none] [] h 0 0) : Ok g M J pc L (.ref a :: st) h uc us := ok_callV hd hl cdX3_unlikeHeaps hfit hh rfl rfl (av := []) rfl hw (Nat.le_of_ble_eq_true rfl) rfl k
theorem call_X3_tallyInto {a : Nat} {fs : List Value} {x0 : Nat} {idx : Nat} (hd : decode M.2.1 pc = .ok (.invokevirtual idx, 3)) (hl : m_lkV M.1.cls idx MX3_tallyInto) (hfit : m_fit M MX3_tallyInto uc us) (hh : hc h a = some (.inr (3, fs))) (hw : (st.map fun v => v.category).sum ≤ 8) (k : Ok g MX3_tallyInto (m_J g MX3_tallyInto (fun v h' => Ok g M J (pc + 3) L (m_push v st) h' uc us)) 0 [some (.ref a), some (.ref x0), none, none] [] h 0 0) : Ok g M J pc L (.ref x0 :: .ref a :: st) h uc us := ok_callV hd hl cdX3_tallyInto hfit hh rfl rfl (av := [.ref x0]) rfl hw (Nat.le_of_ble_eq_true rfl) rfl k
theorem call_X3_digestOnto {a : Nat} {fs : List Value} {x0 : Int64} {idx : Nat} (hd : decode M.2.1 pc = .ok (.invokevirtual idx, 3)) (hl : m_lkV M.1.cls idx MX3_digestOnto) (hfit : m_fit M MX3_digestOnto uc us) (hh : hc h a = some (.inr (3, fs))) (hw : (st.map fun v => v.category).sum ≤ 8) (k : Ok g MX3_digestOnto (m_J g MX3_digestOnto (fun v h' => Ok g M J (pc + 3) L (m_push v st) h' uc us)) 0 [some (.ref a), some (.long x0), none, none, none, none] [] h 0 0) : Ok g M J pc L (.long x0 :: .ref a :: st) h uc us := ok_callV hd hl cdX3_digestOnto hfit hh rfl rfl (av := [.long x0]) rfl hw (Nat.le_of_ble_eq_true rfl) rfl k
theorem call_X4_init {a : Nat}  {idx : Nat} (hd : decode M.2.1 pc = .ok (.invokespecial idx, 3)) (hl : m_lkI M.1.cls idx MX4_init) (hfit : m_fit M MX4_init uc us) (hw : (st.map fun v => v.category).sum ≤ 8) (k : Ok g MX4_init (m_J g MX4_init (fun v h' => Ok g M J (pc + 3) L (m_push v st) h' (uc + 45) (us + 2003))) 0 [some (.ref a), none] [] h 0 0) : Ok g M J pc L (.ref a :: st) h uc us := ok_callI hd hl cdX4_init rfl hfit (av := []) rfl hw (Nat.le_of_ble_eq_true rfl) rfl k
theorem call_X4_parting {a : Nat} {fs : List Value} {x0 : Int32} {idx : Nat} (hd : decode M.2.1 pc = .ok (.invokevirtual idx, 3)) (hl : m_lkV M.1.cls idx MX4_parting) (hfit : m_fit M MX4_parting uc us) (hh : hc h a = some (.inr (4, fs))) (hw : (st.map fun v => v.category).sum ≤ 8) (k : Ok g MX4_parting (m_J g MX4_parting (fun v h' => Ok g M J (pc + 3) L (m_push v st) h' uc us)) 0 [some (.ref a), some (.int x0), none] [] h 0 0) : Ok g M J pc L (.int x0 :: .ref a :: st) h uc us := ok_callV hd hl cdX4_parting hfit hh rfl rfl (av := [.int x0]) rfl hw (Nat.le_of_ble_eq_true rfl) rfl k
theorem call_X4_heap {a : Nat} {fs : List Value} {x0 : Int32} {x1 : Int32} {idx : Nat} (hd : decode M.2.1 pc = .ok (.invokevirtual idx, 3)) (hl : m_lkV M.1.cls idx MX4_heap) (hfit : m_fit M MX4_heap uc us) (hh : hc h a = some (.inr (4, fs))) (hw : (st.map fun v => v.category).sum ≤ 8) (k : Ok g MX4_heap (m_J g MX4_heap (fun v h' => Ok g M J (pc + 3) L (m_push v st) h' uc us)) 0 [some (.ref a), some (.int x0), some (.int x1), none] [] h 0 0) : Ok g M J pc L (.int x1 :: .int x0 :: .ref a :: st) h uc us := ok_callV hd hl cdX4_heap hfit hh rfl rfl (av := [.int x0, .int x1]) rfl hw (Nat.le_of_ble_eq_true rfl) rfl k
theorem call_X4_at {a : Nat} {fs : List Value} {x0 : Int32} {x1 : Int32} {idx : Nat} (hd : decode M.2.1 pc = .ok (.invokevirtual idx, 3)) (hl : m_lkV M.1.cls idx MX4_at) (hfit : m_fit M MX4_at uc us) (hh : hc h a = some (.inr (4, fs))) (hw : (st.map fun v => v.category).sum ≤ 8) (k : Ok g MX4_at (m_J g MX4_at (fun v h' => Ok g M J (pc + 3) L (m_push v st) h' uc us)) 0 [some (.ref a), some (.int x0), some (.int x1), none] [] h 0 0) : Ok g M J pc L (.int x1 :: .int x0 :: .ref a :: st) h uc us := ok_callV hd hl cdX4_at hfit hh rfl rfl (av := [.int x0, .int x1]) rfl hw (Nat.le_of_ble_eq_true rfl) rfl k
theorem call_X4_take {a : Nat} {fs : List Value} {x0 : Int32} {x1 : Int32} {idx : Nat} (hd : decode M.2.1 pc = .ok (.invokevirtual idx, 3)) (hl : m_lkV M.1.cls idx MX4_take) (hfit : m_fit M MX4_take uc us) (hh : hc h a = some (.inr (4, fs))) (hw : (st.map fun v => v.category).sum ≤ 8) (k : Ok g MX4_take (m_J g MX4_take (fun v h' => Ok g M J (pc + 3) L (m_push v st) h' uc us)) 0 [some (.ref a), some (.int x0), some (.int x1), none] [] h 0 0) : Ok g M J pc L (.int x1 :: .int x0 :: .ref a :: st) h uc us := ok_callV hd hl cdX4_take hfit hh rfl rfl (av := [.int x0, .int x1]) rfl hw (Nat.le_of_ble_eq_true rfl) rfl k
theorem call_X4_tear {a : Nat} {fs : List Value} {x0 : Int32} {idx : Nat} (hd : decode M.2.1 pc = .ok (.invokevirtual idx, 3)) (hl : m_lkV M.1.cls idx MX4_tear) (hfit : m_fit M MX4_tear uc us) (hh : hc h a = some (.inr (4, fs))) (hw : (st.map fun v => v.category).sum ≤ 8) (k : Ok g MX4_tear (m_J g MX4_tear (fun v h' => Ok g M J (pc + 3) L (m_push v st) h' uc us)) 0 [some (.ref a), some (.int x0)] [] h 0 0) : Ok g M J pc L (.int x0 :: .ref a :: st) h uc us := ok_callV hd hl cdX4_tear hfit hh rfl rfl (av := [.int x0]) rfl hw (Nat.le_of_ble_eq_true rfl) rfl k
theorem call_X4_copy {a : Nat} {fs : List Value} {x0 : Int32} {x1 : Int32} {x2 : Int32} {x3 : Int32} {idx : Nat} (hd : decode M.2.1 pc = .ok (.invokevirtual idx, 3)) (hl : m_lkV M.1.cls idx MX4_copy) (hfit : m_fit M MX4_copy uc us) (hh : hc h a = some (.inr (4, fs))) (hw : (st.map fun v => v.category).sum ≤ 8) (k : Ok g MX4_copy (m_J g MX4_copy (fun v h' => Ok g M J (pc + 3) L (m_push v st) h' uc us)) 0 [some (.ref a), some (.int x0), some (.int x1), some (.int x2), some (.int x3), none, none] [] h 0 0) : Ok g M J pc L (.int x3 :: .int x2 :: .int x1 :: .int x0 :: .ref a :: st) h uc us := ok_callV hd hl cdX4_copy hfit hh rfl rfl (av := [.int x0, .int x1, .int x2, .int x3]) rfl hw (Nat.le_of_ble_eq_true rfl) rfl k
theorem call_X4_rule {a : Nat} {fs : List Value} {x0 : Int32} {idx : Nat} (hd : decode M.2.1 pc = .ok (.invokevirtual idx, 3)) (hl : m_lkV M.1.cls idx MX4_rule) (hfit : m_fit M MX4_rule uc us) (hh : hc h a = some (.inr (4, fs))) (hw : (st.map fun v => v.category).sum ≤ 8) (k : Ok g MX4_rule (m_J g MX4_rule (fun v h' => Ok g M J (pc + 3) L (m_push v st) h' uc us)) 0 [some (.ref a), some (.int x0), none] [] h 0 0) : Ok g M J pc L (.int x0 :: .ref a :: st) h uc us := ok_callV hd hl cdX4_rule hfit hh rfl rfl (av := [.int x0]) rfl hw (Nat.le_of_ble_eq_true rfl) rfl k
theorem call_X4_kind {a : Nat} {fs : List Value} {x0 : Int32} {idx : Nat} (hd : decode M.2.1 pc = .ok (.invokevirtual idx, 3)) (hl : m_lkV M.1.cls idx MX4_kind) (hfit : m_fit M MX4_kind uc us) (hh : hc h a = some (.inr (4, fs))) (hw : (st.map fun v => v.category).sum ≤ 8) (k : Ok g MX4_kind (m_J g MX4_kind (fun v h' => Ok g M J (pc + 3) L (m_push v st) h' (uc + 8) (us + 2706))) 0 [some (.ref a), some (.int x0), none] [] h 0 0) : Ok g M J pc L (.int x0 :: .ref a :: st) h uc us := ok_callV hd hl cdX4_kind hfit hh rfl rfl (av := [.int x0]) rfl hw (Nat.le_of_ble_eq_true rfl) rfl k
theorem call_X4_mark {a : Nat} {fs : List Value} {x0 : Int32} {x1 : Int32} {idx : Nat} (hd : decode M.2.1 pc = .ok (.invokevirtual idx, 3)) (hl : m_lkV M.1.cls idx MX4_mark) (hfit : m_fit M MX4_mark uc us) (hh : hc h a = some (.inr (4, fs))) (hw : (st.map fun v => v.category).sum ≤ 8) (k : Ok g MX4_mark (m_J g MX4_mark (fun v h' => Ok g M J (pc + 3) L (m_push v st) h' (uc + 8) (us + 2706))) 0 [some (.ref a), some (.int x0), some (.int x1), none, none, none, none, none] [] h 0 0) : Ok g M J pc L (.int x1 :: .int x0 :: .ref a :: st) h uc us := ok_callV hd hl cdX4_mark hfit hh rfl rfl (av := [.int x0, .int x1]) rfl hw (Nat.le_of_ble_eq_true rfl) rfl k
theorem call_X4_mean {a : Nat} {fs : List Value} {x0 : Int32} {idx : Nat} (hd : decode M.2.1 pc = .ok (.invokevirtual idx, 3)) (hl : m_lkV M.1.cls idx MX4_mean) (hfit : m_fit M MX4_mean uc us) (hh : hc h a = some (.inr (4, fs))) (hw : (st.map fun v => v.category).sum ≤ 8) (k : Ok g MX4_mean (m_J g MX4_mean (fun v h' => Ok g M J (pc + 3) L (m_push v st) h' uc us)) 0 [some (.ref a), some (.int x0), none] [] h 0 0) : Ok g M J pc L (.int x0 :: .ref a :: st) h uc us := ok_callV hd hl cdX4_mean hfit hh rfl rfl (av := [.int x0]) rfl hw (Nat.le_of_ble_eq_true rfl) rfl k
theorem call_X4_many {a : Nat} {fs : List Value} {x0 : Int32} {idx : Nat} (hd : decode M.2.1 pc = .ok (.invokevirtual idx, 3)) (hl : m_lkV M.1.cls idx MX4_many) (hfit : m_fit M MX4_many uc us) (hh : hc h a = some (.inr (4, fs))) (hw : (st.map fun v => v.category).sum ≤ 8) (k : Ok g MX4_many (m_J g MX4_many (fun v h' => Ok g M J (pc + 3) L (m_push v st) h' uc us)) 0 [some (.ref a), some (.int x0)] [] h 0 0) : Ok g M J pc L (.int x0 :: .ref a :: st) h uc us := ok_callV hd hl cdX4_many hfit hh rfl rfl (av := [.int x0]) rfl hw (Nat.le_of_ble_eq_true rfl) rfl k
theorem call_X4_rank {a : Nat} {fs : List Value} {x0 : Int32} {idx : Nat} (hd : decode M.2.1 pc = .ok (.invokevirtual idx, 3)) (hl : m_lkV M.1.cls idx MX4_rank) (hfit : m_fit M MX4_rank uc us) (hh : hc h a = some (.inr (4, fs))) (hw : (st.map fun v => v.category).sum ≤ 8) (k : Ok g MX4_rank (m_J g MX4_rank (fun v h' => Ok g M J (pc + 3) L (m_push v st) h' uc us)) 0 [some (.ref a), some (.int x0), none] [] h 0 0) : Ok g M J pc L (.int x0 :: .ref a :: st) h uc us := ok_callV hd hl cdX4_rank hfit hh rfl rfl (av := [.int x0]) rfl hw (Nat.le_of_ble_eq_true rfl) rfl k
theorem call_X4_list {a : Nat} {fs : List Value} {x0 : Int32} {x1 : Int32} {x2 : Int32} {idx : Nat} (hd : decode M.2.1 pc = .ok (.invokevirtual idx, 3)) (hl : m_lkV M.1.cls idx MX4_list) (hfit : m_fit M MX4_list uc us) (hh : hc h a = some (.inr (4, fs))) (hw : (st.map fun v => v.category).sum ≤ 8) (k : Ok g MX4_list (m_J g MX4_list (fun v h' => Ok g M J (pc + 3) L (m_push v st) h' uc us)) 0 [some (.ref a), some (.int x0), some (.int x1), some (.int x2)] [] h 0 0) : Ok g M J pc L (.int x2 :: .int x1 :: .int x0 :: .ref a :: st) h uc us := ok_callV hd hl cdX4_list hfit hh rfl rfl (av := [.int x0, .int x1, .int x2]) rfl hw (Nat.le_of_ble_eq_true rfl) rfl k
theorem call_X4_turn {a : Nat} {fs : List Value} {x0 : Int32} {idx : Nat} (hd : decode M.2.1 pc = .ok (.invokevirtual idx, 3)) (hl : m_lkV M.1.cls idx MX4_turn) (hfit : m_fit M MX4_turn uc us) (hh : hc h a = some (.inr (4, fs))) (hw : (st.map fun v => v.category).sum ≤ 8) (k : Ok g MX4_turn (m_J g MX4_turn (fun v h' => Ok g M J (pc + 3) L (m_push v st) h' uc us)) 0 [some (.ref a), some (.int x0), none, none] [] h 0 0) : Ok g M J pc L (.int x0 :: .ref a :: st) h uc us := ok_callV hd hl cdX4_turn hfit hh rfl rfl (av := [.int x0]) rfl hw (Nat.le_of_ble_eq_true rfl) rfl k
theorem call_X4_step {a : Nat} {fs : List Value} {x0 : Int32} {x1 : Int32} {idx : Nat} (hd : decode M.2.1 pc = .ok (.invokevirtual idx, 3)) (hl : m_lkV M.1.cls idx MX4_step) (hfit : m_fit M MX4_step uc us) (hh : hc h a = some (.inr (4, fs))) (hw : (st.map fun v => v.category).sum ≤ 8) (k : Ok g MX4_step (m_J g MX4_step (fun v h' => Ok g M J (pc + 3) L (m_push v st) h' (uc + 8) (us + 2706))) 0 [some (.ref a), some (.int x0), some (.int x1), none, none, none] [] h 0 0) : Ok g M J pc L (.int x1 :: .int x0 :: .ref a :: st) h uc us := ok_callV hd hl cdX4_step hfit hh rfl rfl (av := [.int x0, .int x1]) rfl hw (Nat.le_of_ble_eq_true rfl) rfl k
theorem call_X4_tail {a : Nat} {fs : List Value} {x0 : Int32} {idx : Nat} (hd : decode M.2.1 pc = .ok (.invokevirtual idx, 3)) (hl : m_lkV M.1.cls idx MX4_tail) (hfit : m_fit M MX4_tail uc us) (hh : hc h a = some (.inr (4, fs))) (hw : (st.map fun v => v.category).sum ≤ 8) (k : Ok g MX4_tail (m_J g MX4_tail (fun v h' => Ok g M J (pc + 3) L (m_push v st) h' (uc + 8) (us + 2706))) 0 [some (.ref a), some (.int x0), none] [] h 0 0) : Ok g M J pc L (.int x0 :: .ref a :: st) h uc us := ok_callV hd hl cdX4_tail hfit hh rfl rfl (av := [.int x0]) rfl hw (Nat.le_of_ble_eq_true rfl) rfl k
theorem call_X4_beat {a : Nat} {fs : List Value} {x0 : Int32} {idx : Nat} (hd : decode M.2.1 pc = .ok (.invokevirtual idx, 3)) (hl : m_lkV M.1.cls idx MX4_beat) (hfit : m_fit M MX4_beat uc us) (hh : hc h a = some (.inr (4, fs))) (hw : (st.map fun v => v.category).sum ≤ 8) (k : Ok g MX4_beat (m_J g MX4_beat (fun v h' => Ok g M J (pc + 3) L (m_push v st) h' (uc + 8) (us + 2706))) 0 [some (.ref a), some (.int x0), none] [] h 0 0) : Ok g M J pc L (.int x0 :: .ref a :: st) h uc us := ok_callV hd hl cdX4_beat hfit hh rfl rfl (av := [.int x0]) rfl hw (Nat.le_of_ble_eq_true rfl) rfl k
theorem call_X4_leader {a : Nat} {fs : List Value} {x0 : Int32} {idx : Nat} (hd : decode M.2.1 pc = .ok (.invokevirtual idx, 3)) (hl : m_lkV M.1.cls idx MX4_leader) (hfit : m_fit M MX4_leader uc us) (hh : hc h a = some (.inr (4, fs))) (hw : (st.map fun v => v.category).sum ≤ 8) (k : Ok g MX4_leader (m_J g MX4_leader (fun v h' => Ok g M J (pc + 3) L (m_push v st) h' (uc + 8) (us + 2706))) 0 [some (.ref a), some (.int x0), none] [] h 0 0) : Ok g M J pc L (.int x0 :: .ref a :: st) h uc us := ok_callV hd hl cdX4_leader hfit hh rfl rfl (av := [.int x0]) rfl hw (Nat.le_of_ble_eq_true rfl) rfl k
theorem call_X4_rounds {a : Nat} {fs : List Value} {x0 : Int32} {x1 : Int32} {idx : Nat} (hd : decode M.2.1 pc = .ok (.invokevirtual idx, 3)) (hl : m_lkV M.1.cls idx MX4_rounds) (hfit : m_fit M MX4_rounds uc us) (hh : hc h a = some (.inr (4, fs))) (hw : (st.map fun v => v.category).sum ≤ 8) (k : Ok g MX4_rounds (m_J g MX4_rounds (fun v h' => Ok g M J (pc + 3) L (m_push v st) h' (uc + 8) (us + 2706))) 0 [some (.ref a), some (.int x0), some (.int x1)] [] h 0 0) : Ok g M J pc L (.int x1 :: .int x0 :: .ref a :: st) h uc us := ok_callV hd hl cdX4_rounds hfit hh rfl rfl (av := [.int x0, .int x1]) rfl hw (Nat.le_of_ble_eq_true rfl) rfl k
theorem call_X4_ring {a : Nat} {fs : List Value} {x0 : Int32} {x1 : Int32} {idx : Nat} (hd : decode M.2.1 pc = .ok (.invokevirtual idx, 3)) (hl : m_lkV M.1.cls idx MX4_ring) (hfit : m_fit M MX4_ring uc us) (hh : hc h a = some (.inr (4, fs))) (hw : (st.map fun v => v.category).sum ≤ 8) (k : Ok g MX4_ring (m_J g MX4_ring (fun v h' => Ok g M J (pc + 3) L (m_push v st) h' (uc + 8) (us + 2706))) 0 [some (.ref a), some (.int x0), some (.int x1)] [] h 0 0) : Ok g M J pc L (.int x1 :: .int x0 :: .ref a :: st) h uc us := ok_callV hd hl cdX4_ring hfit hh rfl rfl (av := [.int x0, .int x1]) rfl hw (Nat.le_of_ble_eq_true rfl) rfl k
theorem call_X4_from {a : Nat} {fs : List Value} {x0 : Int32} {idx : Nat} (hd : decode M.2.1 pc = .ok (.invokevirtual idx, 3)) (hl : m_lkV M.1.cls idx MX4_from) (hfit : m_fit M MX4_from uc us) (hh : hc h a = some (.inr (4, fs))) (hw : (st.map fun v => v.category).sum ≤ 8) (k : Ok g MX4_from (m_J g MX4_from (fun v h' => Ok g M J (pc + 3) L (m_push v st) h' (uc + 8) (us + 2706))) 0 [some (.ref a), some (.int x0), none] [] h 0 0) : Ok g M J pc L (.int x0 :: .ref a :: st) h uc us := ok_callV hd hl cdX4_from hfit hh rfl rfl (av := [.int x0]) rfl hw (Nat.le_of_ble_eq_true rfl) rfl k
theorem call_X4_fromAt {a : Nat} {fs : List Value} {x0 : Int32} {x1 : Int32} {idx : Nat} (hd : decode M.2.1 pc = .ok (.invokevirtual idx, 3)) (hl : m_lkV M.1.cls idx MX4_fromAt) (hfit : m_fit M MX4_fromAt uc us) (hh : hc h a = some (.inr (4, fs))) (hw : (st.map fun v => v.category).sum ≤ 8) (k : Ok g MX4_fromAt (m_J g MX4_fromAt (fun v h' => Ok g M J (pc + 3) L (m_push v st) h' (uc + 8) (us + 2706))) 0 [some (.ref a), some (.int x0), some (.int x1), none] [] h 0 0) : Ok g M J pc L (.int x1 :: .int x0 :: .ref a :: st) h uc us := ok_callV hd hl cdX4_fromAt hfit hh rfl rfl (av := [.int x0, .int x1]) rfl hw (Nat.le_of_ble_eq_true rfl) rfl k
theorem call_X4_steps {a : Nat} {fs : List Value} {x0 : Int32} {x1 : Int32} {idx : Nat} (hd : decode M.2.1 pc = .ok (.invokevirtual idx, 3)) (hl : m_lkV M.1.cls idx MX4_steps) (hfit : m_fit M MX4_steps uc us) (hh : hc h a = some (.inr (4, fs))) (hw : (st.map fun v => v.category).sum ≤ 8) (k : Ok g MX4_steps (m_J g MX4_steps (fun v h' => Ok g M J (pc + 3) L (m_push v st) h' (uc + 8) (us + 2706))) 0 [some (.ref a), some (.int x0), some (.int x1), none, none] [] h 0 0) : Ok g M J pc L (.int x1 :: .int x0 :: .ref a :: st) h uc us := ok_callV hd hl cdX4_steps hfit hh rfl rfl (av := [.int x0, .int x1]) rfl hw (Nat.le_of_ble_eq_true rfl) rfl k
theorem call_X4_ways {a : Nat} {fs : List Value} {x0 : Int32} {x1 : Int32} {idx : Nat} (hd : decode M.2.1 pc = .ok (.invokevirtual idx, 3)) (hl : m_lkV M.1.cls idx MX4_ways) (hfit : m_fit M MX4_ways uc us) (hh : hc h a = some (.inr (4, fs))) (hw : (st.map fun v => v.category).sum ≤ 8) (k : Ok g MX4_ways (m_J g MX4_ways (fun v h' => Ok g M J (pc + 3) L (m_push v st) h' uc us)) 0 [some (.ref a), some (.int x0), some (.int x1), none, none] [] h 0 0) : Ok g M J pc L (.int x1 :: .int x0 :: .ref a :: st) h uc us := ok_callV hd hl cdX4_ways hfit hh rfl rfl (av := [.int x0, .int x1]) rfl hw (Nat.le_of_ble_eq_true rfl) rfl k
theorem call_X4_reach {a : Nat} {fs : List Value} {x0 : Int32} {idx : Nat} (hd : decode M.2.1 pc = .ok (.invokevirtual idx, 3)) (hl : m_lkV M.1.cls idx MX4_reach) (hfit : m_fit M MX4_reach uc us) (hh : hc h a = some (.inr (4, fs))) (hw : (st.map fun v => v.category).sum ≤ 8) (k : Ok g MX4_reach (m_J g MX4_reach (fun v h' => Ok g M J (pc + 3) L (m_push v st) h' uc us)) 0 [some (.ref a), some (.int x0), none] [] h 0 0) : Ok g M J pc L (.int x0 :: .ref a :: st) h uc us := ok_callV hd hl cdX4_reach hfit hh rfl rfl (av := [.int x0]) rfl hw (Nat.le_of_ble_eq_true rfl) rfl k
theorem call_X4_walks {a : Nat} {fs : List Value} {x0 : Int32} {x1 : Int32} {x2 : Int32} {idx : Nat} (hd : decode M.2.1 pc = .ok (.invokevirtual idx, 3)) (hl : m_lkV M.1.cls idx MX4_walks) (hfit : m_fit M MX4_walks uc us) (hh : hc h a = some (.inr (4, fs))) (hw : (st.map fun v => v.category).sum ≤ 8) (k : Ok g MX4_walks (m_J g MX4_walks (fun v h' => Ok g M J (pc + 3) L (m_push v st) h' uc us)) 0 [some (.ref a), some (.int x0), some (.int x1), some (.int x2), none, none] [] h 0 0) : Ok g M J pc L (.int x2 :: .int x1 :: .int x0 :: .ref a :: st) h uc us := ok_callV hd hl cdX4_walks hfit hh rfl rfl (av := [.int x0, .int x1, .int x2]) rfl hw (Nat.le_of_ble_eq_true rfl) rfl k
theorem call_X4_asked {a : Nat} {fs : List Value}  {idx : Nat} (hd : decode M.2.1 pc = .ok (.invokevirtual idx, 3)) (hl : m_lkV M.1.cls idx MX4_asked) (hfit : m_fit M MX4_asked uc us) (hh : hc h a = some (.inr (4, fs))) (hw : (st.map fun v => v.category).sum ≤ 8) (k : Ok g MX4_asked (m_J g MX4_asked (fun v h' => Ok g M J (pc + 3) L (m_push v st) h' uc us)) 0 [some (.ref a)] [] h 0 0) : Ok g M J pc L (.ref a :: st) h uc us := ok_callV hd hl cdX4_asked hfit hh rfl rfl (av := []) rfl hw (Nat.le_of_ble_eq_true rfl) rfl k
theorem call_X4_told {a : Nat} {fs : List Value} {x0 : Int32} {x1 : Int32} {idx : Nat} (hd : decode M.2.1 pc = .ok (.invokevirtual idx, 3)) (hl : m_lkV M.1.cls idx MX4_told) (hfit : m_fit M MX4_told uc us) (hh : hc h a = some (.inr (4, fs))) (hw : (st.map fun v => v.category).sum ≤ 8) (k : Ok g MX4_told (m_J g MX4_told (fun v h' => Ok g M J (pc + 3) L (m_push v st) h' uc us)) 0 [some (.ref a), some (.int x0), some (.int x1), none] [] h 0 0) : Ok g M J pc L (.int x1 :: .int x0 :: .ref a :: st) h uc us := ok_callV hd hl cdX4_told hfit hh rfl rfl (av := [.int x0, .int x1]) rfl hw (Nat.le_of_ble_eq_true rfl) rfl k
theorem call_X4_count {a : Nat} {fs : List Value} {x0 : Int32} {idx : Nat} (hd : decode M.2.1 pc = .ok (.invokevirtual idx, 3)) (hl : m_lkV M.1.cls idx MX4_count) (hfit : m_fit M MX4_count uc us) (hh : hc h a = some (.inr (4, fs))) (hw : (st.map fun v => v.category).sum ≤ 8) (k : Ok g MX4_count (m_J g MX4_count (fun v h' => Ok g M J (pc + 3) L (m_push v st) h' uc us)) 0 [some (.ref a), some (.int x0)] [] h 0 0) : Ok g M J pc L (.int x0 :: .ref a :: st) h uc us := ok_callV hd hl cdX4_count hfit hh rfl rfl (av := [.int x0]) rfl hw (Nat.le_of_ble_eq_true rfl) rfl k
theorem call_X4_finding {a : Nat} {fs : List Value}  {idx : Nat} (hd : decode M.2.1 pc = .ok (.invokevirtual idx, 3)) (hl : m_lkV M.1.cls idx MX4_finding) (hfit : m_fit M MX4_finding uc us) (hh : hc h a = some (.inr (4, fs))) (hw : (st.map fun v => v.category).sum ≤ 8) (k : Ok g MX4_finding (m_J g MX4_finding (fun v h' => Ok g M J (pc + 3) L (m_push v st) h' uc us)) 0 [some (.ref a)] [] h 0 0) : Ok g M J pc L (.ref a :: st) h uc us := ok_callV hd hl cdX4_finding hfit hh rfl rfl (av := []) rfl hw (Nat.le_of_ble_eq_true rfl) rfl k
theorem call_X4_findings {a : Nat} {fs : List Value} {x0 : Int32} {idx : Nat} (hd : decode M.2.1 pc = .ok (.invokevirtual idx, 3)) (hl : m_lkV M.1.cls idx MX4_findings) (hfit : m_fit M MX4_findings uc us) (hh : hc h a = some (.inr (4, fs))) (hw : (st.map fun v => v.category).sum ≤ 8) (k : Ok g MX4_findings (m_J g MX4_findings (fun v h' => Ok g M J (pc + 3) L (m_push v st) h' uc us)) 0 [some (.ref a), some (.int x0)] [] h 0 0) : Ok g M J pc L (.int x0 :: .ref a :: st) h uc us := ok_callV hd hl cdX4_findings hfit hh rfl rfl (av := [.int x0]) rfl hw (Nat.le_of_ble_eq_true rfl) rfl k
theorem call_X4_digest {a : Nat} {fs : List Value}  {idx : Nat} (hd : decode M.2.1 pc = .ok (.invokevirtual idx, 3)) (hl : m_lkV M.1.cls idx MX4_digest) (hfit : m_fit M MX4_digest uc us) (hh : hc h a = some (.inr (4, fs))) (hw : (st.map fun v => v.category).sum ≤ 8) (k : Ok g MX4_digest (m_J g MX4_digest (fun v h' => Ok g M J (pc + 3) L (m_push v st) h' uc us)) 0 [some (.ref a), none, none, none, none] [] h 0 0) : Ok g M J pc L (.ref a :: st) h uc us := ok_callV hd hl cdX4_digest hfit hh rfl rfl (av := []) rfl hw (Nat.le_of_ble_eq_true rfl) rfl k
theorem call_X4_isPlace {x0 : Int32} {idx : Nat} (hd : decode M.2.1 pc = .ok (.invokestatic idx, 3)) (hl : m_lkS M.1.cls idx MX4_isPlace) (hfit : m_fit M MX4_isPlace uc us) (hw : (st.map fun v => v.category).sum ≤ 8) (k : Ok g MX4_isPlace (m_J g MX4_isPlace (fun v h' => Ok g M J (pc + 3) L (m_push v st) h' uc us)) 0 [some (.int x0)] [] h 0 0) : Ok g M J pc L (.int x0 :: st) h uc us := ok_callS hd hl cdX4_isPlace hfit (av := [.int x0]) rfl hw (Nat.le_of_ble_eq_true rfl) rfl k
theorem call_X4_isCards {x0 : Int32} {idx : Nat} (hd : decode M.2.1 pc = .ok (.invokestatic idx, 3)) (hl : m_lkS M.1.cls idx MX4_isCards) (hfit : m_fit M MX4_isCards uc us) (hw : (st.map fun v => v.category).sum ≤ 8) (k : Ok g MX4_isCards (m_J g MX4_isCards (fun v h' => Ok g M J (pc + 3) L (m_push v st) h' uc us)) 0 [some (.int x0)] [] h 0 0) : Ok g M J pc L (.int x0 :: st) h uc us := ok_callS hd hl cdX4_isCards hfit (av := [.int x0]) rfl hw (Nat.le_of_ble_eq_true rfl) rfl k
theorem call_X4_rowAt {a : Nat} {fs : List Value} {x0 : Int32} {idx : Nat} (hd : decode M.2.1 pc = .ok (.invokevirtual idx, 3)) (hl : m_lkV M.1.cls idx MX4_rowAt) (hfit : m_fit M MX4_rowAt uc us) (hh : hc h a = some (.inr (4, fs))) (hw : (st.map fun v => v.category).sum ≤ 8) (k : Ok g MX4_rowAt (m_J g MX4_rowAt (fun v h' => Ok g M J (pc + 3) L (m_push v st) h' uc us)) 0 [some (.ref a), some (.int x0)] [] h 0 0) : Ok g M J pc L (.int x0 :: .ref a :: st) h uc us := ok_callV hd hl cdX4_rowAt hfit hh rfl rfl (av := [.int x0]) rfl hw (Nat.le_of_ble_eq_true rfl) rfl k
theorem call_X4_found {a : Nat} {fs : List Value} {x0 : Int32} {idx : Nat} (hd : decode M.2.1 pc = .ok (.invokevirtual idx, 3)) (hl : m_lkV M.1.cls idx MX4_found) (hfit : m_fit M MX4_found uc us) (hh : hc h a = some (.inr (4, fs))) (hw : (st.map fun v => v.category).sum ≤ 8) (k : Ok g MX4_found (m_J g MX4_found (fun v h' => Ok g M J (pc + 3) L (m_push v st) h' uc us)) 0 [some (.ref a), some (.int x0)] [] h 0 0) : Ok g M J pc L (.int x0 :: .ref a :: st) h uc us := ok_callV hd hl cdX4_found hfit hh rfl rfl (av := [.int x0]) rfl hw (Nat.le_of_ble_eq_true rfl) rfl k
theorem call_X4_rowsThere {a : Nat} {fs : List Value}  {idx : Nat} (hd : decode M.2.1 pc = .ok (.invokevirtual idx, 3)) (hl : m_lkV M.1.cls idx MX4_rowsThere) (hfit : m_fit M MX4_rowsThere uc us) (hh : hc h a = some (.inr (4, fs))) (hw : (st.map fun v => v.category).sum ≤ 8) (k : Ok g MX4_rowsThere (m_J g MX4_rowsThere (fun v h' => Ok g M J (pc + 3) L (m_push v st) h' uc us)) 0 [some (.ref a), none, none] [] h 0 0) : Ok g M J pc L (.ref a :: st) h uc us := ok_callV hd hl cdX4_rowsThere hfit hh rfl rfl (av := []) rfl hw (Nat.le_of_ble_eq_true rfl) rfl k
theorem call_X4_cardsInAll {a : Nat} {fs : List Value}  {idx : Nat} (hd : decode M.2.1 pc = .ok (.invokevirtual idx, 3)) (hl : m_lkV M.1.cls idx MX4_cardsInAll) (hfit : m_fit M MX4_cardsInAll uc us) (hh : hc h a = some (.inr (4, fs))) (hw : (st.map fun v => v.category).sum ≤ 8) (k : Ok g MX4_cardsInAll (m_J g MX4_cardsInAll (fun v h' => Ok g M J (pc + 3) L (m_push v st) h' uc us)) 0 [some (.ref a), none, none] [] h 0 0) : Ok g M J pc L (.ref a :: st) h uc us := ok_callV hd hl cdX4_cardsInAll hfit hh rfl rfl (av := []) rfl hw (Nat.le_of_ble_eq_true rfl) rfl k
theorem call_X4_chartOf {a : Nat} {fs : List Value} {x0 : Int32} {idx : Nat} (hd : decode M.2.1 pc = .ok (.invokevirtual idx, 3)) (hl : m_lkV M.1.cls idx MX4_chartOf) (hfit : m_fit M MX4_chartOf uc us) (hh : hc h a = some (.inr (4, fs))) (hw : (st.map fun v => v.category).sum ≤ 8) (k : Ok g MX4_chartOf (m_J g MX4_chartOf (fun v h' => Ok g M J (pc + 3) L (m_push v st) h' (uc + 8) (us + 2706))) 0 [some (.ref a), some (.int x0), none, none, none] [] h 0 0) : Ok g M J pc L (.int x0 :: .ref a :: st) h uc us := ok_callV hd hl cdX4_chartOf hfit hh rfl rfl (av := [.int x0]) rfl hw (Nat.le_of_ble_eq_true rfl) rfl k
theorem call_X4_stepInto {x0 : Nat} {x1 : Nat} {x2 : Int32} {idx : Nat} (hd : decode M.2.1 pc = .ok (.invokestatic idx, 3)) (hl : m_lkS M.1.cls idx MX4_stepInto) (hfit : m_fit M MX4_stepInto uc us) (hw : (st.map fun v => v.category).sum ≤ 8) (k : Ok g MX4_stepInto (m_J g MX4_stepInto (fun v h' => Ok g M J (pc + 3) L (m_push v st) h' uc us)) 0 [some (.ref x0), some (.ref x1), some (.int x2)] [] h 0 0) : Ok g M J pc L (.int x2 :: .ref x1 :: .ref x0 :: st) h uc us := ok_callS hd hl cdX4_stepInto hfit (av := [.ref x0, .ref x1, .int x2]) rfl hw (Nat.le_of_ble_eq_true rfl) rfl k
theorem call_X4_giveFromEach {x0 : Nat} {x1 : Nat} {x2 : Int32} {idx : Nat} (hd : decode M.2.1 pc = .ok (.invokestatic idx, 3)) (hl : m_lkS M.1.cls idx MX4_giveFromEach) (hfit : m_fit M MX4_giveFromEach uc us) (hw : (st.map fun v => v.category).sum ≤ 8) (k : Ok g MX4_giveFromEach (m_J g MX4_giveFromEach (fun v h' => Ok g M J (pc + 3) L (m_push v st) h' uc us)) 0 [some (.ref x0), some (.ref x1), some (.int x2), none, none, none] [] h 0 0) : Ok g M J pc L (.int x2 :: .ref x1 :: .ref x0 :: st) h uc us := ok_callS hd hl cdX4_giveFromEach hfit (av := [.ref x0, .ref x1, .int x2]) rfl hw (Nat.le_of_ble_eq_true rfl) rfl k
theorem call_X4_giveFromGreatest {x0 : Nat} {x1 : Nat} {idx : Nat} (hd : decode M.2.1 pc = .ok (.invokestatic idx, 3)) (hl : m_lkS M.1.cls idx MX4_giveFromGreatest) (hfit : m_fit M MX4_giveFromGreatest uc us) (hw : (st.map fun v => v.category).sum ≤ 8) (k : Ok g MX4_giveFromGreatest (m_J g MX4_giveFromGreatest (fun v h' => Ok g M J (pc + 3) L (m_push v st) h' uc us)) 0 [some (.ref x0), some (.ref x1)] [] h 0 0) : Ok g M J pc L (.ref x1 :: .ref x0 :: st) h uc us := ok_callS hd hl cdX4_giveFromGreatest hfit (av := [.ref x0, .ref x1]) rfl hw (Nat.le_of_ble_eq_true rfl) rfl k
theorem call_X4_giveLeastAway {x0 : Nat} {x1 : Nat} {idx : Nat} (hd : decode M.2.1 pc = .ok (.invokestatic idx, 3)) (hl : m_lkS M.1.cls idx MX4_giveLeastAway) (hfit : m_fit M MX4_giveLeastAway uc us) (hw : (st.map fun v => v.category).sum ≤ 8) (k : Ok g MX4_giveLeastAway (m_J g MX4_giveLeastAway (fun v h' => Ok g M J (pc + 3) L (m_push v st) h' uc us)) 0 [some (.ref x0), some (.ref x1), none, none, none, none] [] h 0 0) : Ok g M J pc L (.ref x1 :: .ref x0 :: st) h uc us := ok_callS hd hl cdX4_giveLeastAway hfit (av := [.ref x0, .ref x1]) rfl hw (Nat.le_of_ble_eq_true rfl) rfl k
theorem call_X5_init {a : Nat}  {idx : Nat} (hd : decode M.2.1 pc = .ok (.invokespecial idx, 3)) (hl : m_lkI M.1.cls idx MX5_init) (hfit : m_fit M MX5_init uc us) (hw : (st.map fun v => v.category).sum ≤ 8) (k : Ok g MX5_init (m_J g MX5_init (fun v h' => Ok g M J (pc + 3) L (m_push v st) h' (uc + 17) (us + 10336))) 0 [some (.ref a), none] [] h 0 0) : Ok g M J pc L (.ref a :: st) h uc us := ok_callI hd hl cdX5_init rfl hfit (av := []) rfl hw (Nat.le_of_ble_eq_true rfl) rfl k
theorem call_X5_in {x0 : Int32} {x1 : Int32} {x2 : Int32} {idx : Nat} (hd : decode M.2.1 pc = .ok (.invokestatic idx, 3)) (hl : m_lkS M.1.cls idx MX5_in) (hfit : m_fit M MX5_in uc us) (hw : (st.map fun v => v.category).sum ≤ 8) (k : Ok g MX5_in (m_J g MX5_in (fun v h' => Ok g M J (pc + 3) L (m_push v st) h' uc us)) 0 [some (.int x0), some (.int x1), some (.int x2)] [] h 0 0) : Ok g M J pc L (.int x2 :: .int x1 :: .int x0 :: st) h uc us := ok_callS hd hl cdX5_in hfit (av := [.int x0, .int x1, .int x2]) rfl hw (Nat.le_of_ble_eq_true rfl) rfl k
theorem call_X5_meets {a : Nat} {fs : List Value} {x0 : Int32} {idx : Nat} (hd : decode M.2.1 pc = .ok (.invokevirtual idx, 3)) (hl : m_lkV M.1.cls idx MX5_meets) (hfit : m_fit M MX5_meets uc us) (hh : hc h a = some (.inr (5, fs))) (hw : (st.map fun v => v.category).sum ≤ 8) (k : Ok g MX5_meets (m_J g MX5_meets (fun v h' => Ok g M J (pc + 3) L (m_push v st) h' uc us)) 0 [some (.ref a), some (.int x0)] [] h 0 0) : Ok g M J pc L (.int x0 :: .ref a :: st) h uc us := ok_callV hd hl cdX5_meets hfit hh rfl rfl (av := [.int x0]) rfl hw (Nat.le_of_ble_eq_true rfl) rfl k
theorem call_X5_isParting {x0 : Int32} {idx : Nat} (hd : decode M.2.1 pc = .ok (.invokestatic idx, 3)) (hl : m_lkS M.1.cls idx MX5_isParting) (hfit : m_fit M MX5_isParting uc us) (hw : (st.map fun v => v.category).sum ≤ 8) (k : Ok g MX5_isParting (m_J g MX5_isParting (fun v h' => Ok g M J (pc + 3) L (m_push v st) h' uc us)) 0 [some (.int x0)] [] h 0 0) : Ok g M J pc L (.int x0 :: st) h uc us := ok_callS hd hl cdX5_isParting hfit (av := [.int x0]) rfl hw (Nat.le_of_ble_eq_true rfl) rfl k
theorem call_X5_looked {a : Nat} {fs : List Value} {x0 : Int32} {idx : Nat} (hd : decode M.2.1 pc = .ok (.invokevirtual idx, 3)) (hl : m_lkV M.1.cls idx MX5_looked) (hfit : m_fit M MX5_looked uc us) (hh : hc h a = some (.inr (5, fs))) (hw : (st.map fun v => v.category).sum ≤ 8) (k : Ok g MX5_looked (m_J g MX5_looked (fun v h' => Ok g M J (pc + 3) L (m_push v st) h' uc us)) 0 [some (.ref a), some (.int x0)] [] h 0 0) : Ok g M J pc L (.int x0 :: .ref a :: st) h uc us := ok_callV hd hl cdX5_looked hfit hh rfl rfl (av := [.int x0]) rfl hw (Nat.le_of_ble_eq_true rfl) rfl k
theorem call_X5_cards {a : Nat} {fs : List Value} {x0 : Int32} {idx : Nat} (hd : decode M.2.1 pc = .ok (.invokevirtual idx, 3)) (hl : m_lkV M.1.cls idx MX5_cards) (hfit : m_fit M MX5_cards uc us) (hh : hc h a = some (.inr (5, fs))) (hw : (st.map fun v => v.category).sum ≤ 8) (k : Ok g MX5_cards (m_J g MX5_cards (fun v h' => Ok g M J (pc + 3) L (m_push v st) h' uc us)) 0 [some (.ref a), some (.int x0), none, none] [] h 0 0) : Ok g M J pc L (.int x0 :: .ref a :: st) h uc us := ok_callV hd hl cdX5_cards hfit hh rfl rfl (av := [.int x0]) rfl hw (Nat.le_of_ble_eq_true rfl) rfl k
theorem call_X5_parting {a : Nat} {fs : List Value} {x0 : Int32} {idx : Nat} (hd : decode M.2.1 pc = .ok (.invokevirtual idx, 3)) (hl : m_lkV M.1.cls idx MX5_parting) (hfit : m_fit M MX5_parting uc us) (hh : hc h a = some (.inr (5, fs))) (hw : (st.map fun v => v.category).sum ≤ 8) (k : Ok g MX5_parting (m_J g MX5_parting (fun v h' => Ok g M J (pc + 3) L (m_push v st) h' uc us)) 0 [some (.ref a), some (.int x0), none] [] h 0 0) : Ok g M J pc L (.int x0 :: .ref a :: st) h uc us := ok_callV hd hl cdX5_parting hfit hh rfl rfl (av := [.int x0]) rfl hw (Nat.le_of_ble_eq_true rfl) rfl k
theorem call_X5_put {a : Nat} {fs : List Value} {x0 : Int32} {x1 : Int32} {idx : Nat} (hd : decode M.2.1 pc = .ok (.invokevirtual idx, 3)) (hl : m_lkV M.1.cls idx MX5_put) (hfit : m_fit M MX5_put uc us) (hh : hc h a = some (.inr (5, fs))) (hw : (st.map fun v => v.category).sum ≤ 8) (k : Ok g MX5_put (m_J g MX5_put (fun v h' => Ok g M J (pc + 3) L (m_push v st) h' uc us)) 0 [some (.ref a), some (.int x0), some (.int x1), none] [] h 0 0) : Ok g M J pc L (.int x1 :: .int x0 :: .ref a :: st) h uc us := ok_callV hd hl cdX5_put hfit hh rfl rfl (av := [.int x0, .int x1]) rfl hw (Nat.le_of_ble_eq_true rfl) rfl k
theorem call_X5_heap {a : Nat} {fs : List Value} {x0 : Int32} {x1 : Int32} {idx : Nat} (hd : decode M.2.1 pc = .ok (.invokevirtual idx, 3)) (hl : m_lkV M.1.cls idx MX5_heap) (hfit : m_fit M MX5_heap uc us) (hh : hc h a = some (.inr (5, fs))) (hw : (st.map fun v => v.category).sum ≤ 8) (k : Ok g MX5_heap (m_J g MX5_heap (fun v h' => Ok g M J (pc + 3) L (m_push v st) h' uc us)) 0 [some (.ref a), some (.int x0), some (.int x1), none] [] h 0 0) : Ok g M J pc L (.int x1 :: .int x0 :: .ref a :: st) h uc us := ok_callV hd hl cdX5_heap hfit hh rfl rfl (av := [.int x0, .int x1]) rfl hw (Nat.le_of_ble_eq_true rfl) rfl k
theorem call_X5_at {a : Nat} {fs : List Value} {x0 : Int32} {x1 : Int32} {idx : Nat} (hd : decode M.2.1 pc = .ok (.invokevirtual idx, 3)) (hl : m_lkV M.1.cls idx MX5_at) (hfit : m_fit M MX5_at uc us) (hh : hc h a = some (.inr (5, fs))) (hw : (st.map fun v => v.category).sum ≤ 8) (k : Ok g MX5_at (m_J g MX5_at (fun v h' => Ok g M J (pc + 3) L (m_push v st) h' uc us)) 0 [some (.ref a), some (.int x0), some (.int x1), none] [] h 0 0) : Ok g M J pc L (.int x1 :: .int x0 :: .ref a :: st) h uc us := ok_callV hd hl cdX5_at hfit hh rfl rfl (av := [.int x0, .int x1]) rfl hw (Nat.le_of_ble_eq_true rfl) rfl k
theorem call_X5_take {a : Nat} {fs : List Value} {x0 : Int32} {x1 : Int32} {idx : Nat} (hd : decode M.2.1 pc = .ok (.invokevirtual idx, 3)) (hl : m_lkV M.1.cls idx MX5_take) (hfit : m_fit M MX5_take uc us) (hh : hc h a = some (.inr (5, fs))) (hw : (st.map fun v => v.category).sum ≤ 8) (k : Ok g MX5_take (m_J g MX5_take (fun v h' => Ok g M J (pc + 3) L (m_push v st) h' uc us)) 0 [some (.ref a), some (.int x0), some (.int x1), none, none, none] [] h 0 0) : Ok g M J pc L (.int x1 :: .int x0 :: .ref a :: st) h uc us := ok_callV hd hl cdX5_take hfit hh rfl rfl (av := [.int x0, .int x1]) rfl hw (Nat.le_of_ble_eq_true rfl) rfl k
theorem call_X5_tear {a : Nat} {fs : List Value} {x0 : Int32} {idx : Nat} (hd : decode M.2.1 pc = .ok (.invokevirtual idx, 3)) (hl : m_lkV M.1.cls idx MX5_tear) (hfit : m_fit M MX5_tear uc us) (hh : hc h a = some (.inr (5, fs))) (hw : (st.map fun v => v.category).sum ≤ 8) (k : Ok g MX5_tear (m_J g MX5_tear (fun v h' => Ok g M J (pc + 3) L (m_push v st) h' uc us)) 0 [some (.ref a), some (.int x0), none] [] h 0 0) : Ok g M J pc L (.int x0 :: .ref a :: st) h uc us := ok_callV hd hl cdX5_tear hfit hh rfl rfl (av := [.int x0]) rfl hw (Nat.le_of_ble_eq_true rfl) rfl k
theorem call_X5_copy {a : Nat} {fs : List Value} {x0 : Int32} {x1 : Int32} {x2 : Int32} {x3 : Int32} {idx : Nat} (hd : decode M.2.1 pc = .ok (.invokevirtual idx, 3)) (hl : m_lkV M.1.cls idx MX5_copy) (hfit : m_fit M MX5_copy uc us) (hh : hc h a = some (.inr (5, fs))) (hw : (st.map fun v => v.category).sum ≤ 8) (k : Ok g MX5_copy (m_J g MX5_copy (fun v h' => Ok g M J (pc + 3) L (m_push v st) h' uc us)) 0 [some (.ref a), some (.int x0), some (.int x1), some (.int x2), some (.int x3), none, none] [] h 0 0) : Ok g M J pc L (.int x3 :: .int x2 :: .int x1 :: .int x0 :: .ref a :: st) h uc us := ok_callV hd hl cdX5_copy hfit hh rfl rfl (av := [.int x0, .int x1, .int x2, .int x3]) rfl hw (Nat.le_of_ble_eq_true rfl) rfl k
theorem call_X5_rule {a : Nat} {fs : List Value} {x0 : Int32} {idx : Nat} (hd : decode M.2.1 pc = .ok (.invokevirtual idx, 3)) (hl : m_lkV M.1.cls idx MX5_rule) (hfit : m_fit M MX5_rule uc us) (hh : hc h a = some (.inr (5, fs))) (hw : (st.map fun v => v.category).sum ≤ 8) (k : Ok g MX5_rule (m_J g MX5_rule (fun v h' => Ok g M J (pc + 3) L (m_push v st) h' uc us)) 0 [some (.ref a), some (.int x0), none] [] h 0 0) : Ok g M J pc L (.int x0 :: .ref a :: st) h uc us := ok_callV hd hl cdX5_rule hfit hh rfl rfl (av := [.int x0]) rfl hw (Nat.le_of_ble_eq_true rfl) rfl k
theorem call_X5_load {a : Nat} {fs : List Value} {x0 : Int32} {idx : Nat} (hd : decode M.2.1 pc = .ok (.invokevirtual idx, 3)) (hl : m_lkV M.1.cls idx MX5_load) (hfit : m_fit M MX5_load uc us) (hh : hc h a = some (.inr (5, fs))) (hw : (st.map fun v => v.category).sum ≤ 8) (k : Ok g MX5_load (m_J g MX5_load (fun v h' => Ok g M J (pc + 3) L (m_push v st) h' uc us)) 0 [some (.ref a), some (.int x0), none] [] h 0 0) : Ok g M J pc L (.int x0 :: .ref a :: st) h uc us := ok_callV hd hl cdX5_load hfit hh rfl rfl (av := [.int x0]) rfl hw (Nat.le_of_ble_eq_true rfl) rfl k
theorem call_X5_keep {a : Nat} {fs : List Value} {x0 : Int32} {idx : Nat} (hd : decode M.2.1 pc = .ok (.invokevirtual idx, 3)) (hl : m_lkV M.1.cls idx MX5_keep) (hfit : m_fit M MX5_keep uc us) (hh : hc h a = some (.inr (5, fs))) (hw : (st.map fun v => v.category).sum ≤ 8) (k : Ok g MX5_keep (m_J g MX5_keep (fun v h' => Ok g M J (pc + 3) L (m_push v st) h' uc us)) 0 [some (.ref a), some (.int x0), none] [] h 0 0) : Ok g M J pc L (.int x0 :: .ref a :: st) h uc us := ok_callV hd hl cdX5_keep hfit hh rfl rfl (av := [.int x0]) rfl hw (Nat.le_of_ble_eq_true rfl) rfl k
theorem call_X5_settle {a : Nat} {fs : List Value}  {idx : Nat} (hd : decode M.2.1 pc = .ok (.invokevirtual idx, 3)) (hl : m_lkV M.1.cls idx MX5_settle) (hfit : m_fit M MX5_settle uc us) (hh : hc h a = some (.inr (5, fs))) (hw : (st.map fun v => v.category).sum ≤ 8) (k : Ok g MX5_settle (m_J g MX5_settle (fun v h' => Ok g M J (pc + 3) L (m_push v st) h' uc us)) 0 [some (.ref a), none, none, none, none] [] h 0 0) : Ok g M J pc L (.ref a :: st) h uc us := ok_callV hd hl cdX5_settle hfit hh rfl rfl (av := []) rfl hw (Nat.le_of_ble_eq_true rfl) rfl k
theorem call_X5_give {a : Nat} {fs : List Value} {x0 : Int32} {x1 : Int32} {x2 : Int32} {idx : Nat} (hd : decode M.2.1 pc = .ok (.invokevirtual idx, 3)) (hl : m_lkV M.1.cls idx MX5_give) (hfit : m_fit M MX5_give uc us) (hh : hc h a = some (.inr (5, fs))) (hw : (st.map fun v => v.category).sum ≤ 8) (k : Ok g MX5_give (m_J g MX5_give (fun v h' => Ok g M J (pc + 3) L (m_push v st) h' uc us)) 0 [some (.ref a), some (.int x0), some (.int x1), some (.int x2), none, none, none] [] h 0 0) : Ok g M J pc L (.int x2 :: .int x1 :: .int x0 :: .ref a :: st) h uc us := ok_callV hd hl cdX5_give hfit hh rfl rfl (av := [.int x0, .int x1, .int x2]) rfl hw (Nat.le_of_ble_eq_true rfl) rfl k
theorem call_X5_goOn {a : Nat} {fs : List Value}  {idx : Nat} (hd : decode M.2.1 pc = .ok (.invokevirtual idx, 3)) (hl : m_lkV M.1.cls idx MX5_goOn) (hfit : m_fit M MX5_goOn uc us) (hh : hc h a = some (.inr (5, fs))) (hw : (st.map fun v => v.category).sum ≤ 8) (k : Ok g MX5_goOn (m_J g MX5_goOn (fun v h' => Ok g M J (pc + 3) L (m_push v st) h' uc us)) 0 [some (.ref a), none] [] h 0 0) : Ok g M J pc L (.ref a :: st) h uc us := ok_callV hd hl cdX5_goOn hfit hh rfl rfl (av := []) rfl hw (Nat.le_of_ble_eq_true rfl) rfl k
theorem call_X5_setList {a : Nat} {fs : List Value} {x0 : Int32} {idx : Nat} (hd : decode M.2.1 pc = .ok (.invokevirtual idx, 3)) (hl : m_lkV M.1.cls idx MX5_setList) (hfit : m_fit M MX5_setList uc us) (hh : hc h a = some (.inr (5, fs))) (hw : (st.map fun v => v.category).sum ≤ 8) (k : Ok g MX5_setList (m_J g MX5_setList (fun v h' => Ok g M J (pc + 3) L (m_push v st) h' uc us)) 0 [some (.ref a), some (.int x0), none, none] [] h 0 0) : Ok g M J pc L (.int x0 :: .ref a :: st) h uc us := ok_callV hd hl cdX5_setList hfit hh rfl rfl (av := [.int x0]) rfl hw (Nat.le_of_ble_eq_true rfl) rfl k
theorem call_X5_later {a : Nat} {fs : List Value}  {idx : Nat} (hd : decode M.2.1 pc = .ok (.invokevirtual idx, 3)) (hl : m_lkV M.1.cls idx MX5_later) (hfit : m_fit M MX5_later uc us) (hh : hc h a = some (.inr (5, fs))) (hw : (st.map fun v => v.category).sum ≤ 8) (k : Ok g MX5_later (m_J g MX5_later (fun v h' => Ok g M J (pc + 3) L (m_push v st) h' uc us)) 0 [some (.ref a), none, none] [] h 0 0) : Ok g M J pc L (.ref a :: st) h uc us := ok_callV hd hl cdX5_later hfit hh rfl rfl (av := []) rfl hw (Nat.le_of_ble_eq_true rfl) rfl k
theorem call_X5_against {a : Nat} {fs : List Value} {x0 : Int32} {idx : Nat} (hd : decode M.2.1 pc = .ok (.invokevirtual idx, 3)) (hl : m_lkV M.1.cls idx MX5_against) (hfit : m_fit M MX5_against uc us) (hh : hc h a = some (.inr (5, fs))) (hw : (st.map fun v => v.category).sum ≤ 8) (k : Ok g MX5_against (m_J g MX5_against (fun v h' => Ok g M J (pc + 3) L (m_push v st) h' uc us)) 0 [some (.ref a), some (.int x0), none] [] h 0 0) : Ok g M J pc L (.int x0 :: .ref a :: st) h uc us := ok_callV hd hl cdX5_against hfit hh rfl rfl (av := [.int x0]) rfl hw (Nat.le_of_ble_eq_true rfl) rfl k
theorem call_X5_rankRow {a : Nat} {fs : List Value}  {idx : Nat} (hd : decode M.2.1 pc = .ok (.invokevirtual idx, 3)) (hl : m_lkV M.1.cls idx MX5_rankRow) (hfit : m_fit M MX5_rankRow uc us) (hh : hc h a = some (.inr (5, fs))) (hw : (st.map fun v => v.category).sum ≤ 8) (k : Ok g MX5_rankRow (m_J g MX5_rankRow (fun v h' => Ok g M J (pc + 3) L (m_push v st) h' uc us)) 0 [some (.ref a), none, none, none, none] [] h 0 0) : Ok g M J pc L (.ref a :: st) h uc us := ok_callV hd hl cdX5_rankRow hfit hh rfl rfl (av := []) rfl hw (Nat.le_of_ble_eq_true rfl) rfl k
theorem call_X5_loadListed {a : Nat} {fs : List Value} {x0 : Int32} {idx : Nat} (hd : decode M.2.1 pc = .ok (.invokevirtual idx, 3)) (hl : m_lkV M.1.cls idx MX5_loadListed) (hfit : m_fit M MX5_loadListed uc us) (hh : hc h a = some (.inr (5, fs))) (hw : (st.map fun v => v.category).sum ≤ 8) (k : Ok g MX5_loadListed (m_J g MX5_loadListed (fun v h' => Ok g M J (pc + 3) L (m_push v st) h' uc us)) 0 [some (.ref a), some (.int x0), none] [] h 0 0) : Ok g M J pc L (.int x0 :: .ref a :: st) h uc us := ok_callV hd hl cdX5_loadListed hfit hh rfl rfl (av := [.int x0]) rfl hw (Nat.le_of_ble_eq_true rfl) rfl k
theorem call_X5_rankOf {a : Nat} {fs : List Value} {x0 : Int32} {idx : Nat} (hd : decode M.2.1 pc = .ok (.invokevirtual idx, 3)) (hl : m_lkV M.1.cls idx MX5_rankOf) (hfit : m_fit M MX5_rankOf uc us) (hh : hc h a = some (.inr (5, fs))) (hw : (st.map fun v => v.category).sum ≤ 8) (k : Ok g MX5_rankOf (m_J g MX5_rankOf (fun v h' => Ok g M J (pc + 3) L (m_push v st) h' uc us)) 0 [some (.ref a), some (.int x0)] [] h 0 0) : Ok g M J pc L (.int x0 :: .ref a :: st) h uc us := ok_callV hd hl cdX5_rankOf hfit hh rfl rfl (av := [.int x0]) rfl hw (Nat.le_of_ble_eq_true rfl) rfl k
theorem call_X5_many {a : Nat} {fs : List Value} {x0 : Int32} {idx : Nat} (hd : decode M.2.1 pc = .ok (.invokevirtual idx, 3)) (hl : m_lkV M.1.cls idx MX5_many) (hfit : m_fit M MX5_many uc us) (hh : hc h a = some (.inr (5, fs))) (hw : (st.map fun v => v.category).sum ≤ 8) (k : Ok g MX5_many (m_J g MX5_many (fun v h' => Ok g M J (pc + 3) L (m_push v st) h' uc us)) 0 [some (.ref a), some (.int x0)] [] h 0 0) : Ok g M J pc L (.int x0 :: .ref a :: st) h uc us := ok_callV hd hl cdX5_many hfit hh rfl rfl (av := [.int x0]) rfl hw (Nat.le_of_ble_eq_true rfl) rfl k
theorem call_X5_rank {a : Nat} {fs : List Value} {x0 : Int32} {idx : Nat} (hd : decode M.2.1 pc = .ok (.invokevirtual idx, 3)) (hl : m_lkV M.1.cls idx MX5_rank) (hfit : m_fit M MX5_rank uc us) (hh : hc h a = some (.inr (5, fs))) (hw : (st.map fun v => v.category).sum ≤ 8) (k : Ok g MX5_rank (m_J g MX5_rank (fun v h' => Ok g M J (pc + 3) L (m_push v st) h' uc us)) 0 [some (.ref a), some (.int x0), none] [] h 0 0) : Ok g M J pc L (.int x0 :: .ref a :: st) h uc us := ok_callV hd hl cdX5_rank hfit hh rfl rfl (av := [.int x0]) rfl hw (Nat.le_of_ble_eq_true rfl) rfl k
theorem call_X5_list {a : Nat} {fs : List Value} {x0 : Int32} {x1 : Int32} {x2 : Int32} {idx : Nat} (hd : decode M.2.1 pc = .ok (.invokevirtual idx, 3)) (hl : m_lkV M.1.cls idx MX5_list) (hfit : m_fit M MX5_list uc us) (hh : hc h a = some (.inr (5, fs))) (hw : (st.map fun v => v.category).sum ≤ 8) (k : Ok g MX5_list (m_J g MX5_list (fun v h' => Ok g M J (pc + 3) L (m_push v st) h' uc us)) 0 [some (.ref a), some (.int x0), some (.int x1), some (.int x2)] [] h 0 0) : Ok g M J pc L (.int x2 :: .int x1 :: .int x0 :: .ref a :: st) h uc us := ok_callV hd hl cdX5_list hfit hh rfl rfl (av := [.int x0, .int x1, .int x2]) rfl hw (Nat.le_of_ble_eq_true rfl) rfl k
theorem call_X5_turn {a : Nat} {fs : List Value} {x0 : Int32} {idx : Nat} (hd : decode M.2.1 pc = .ok (.invokevirtual idx, 3)) (hl : m_lkV M.1.cls idx MX5_turn) (hfit : m_fit M MX5_turn uc us) (hh : hc h a = some (.inr (5, fs))) (hw : (st.map fun v => v.category).sum ≤ 8) (k : Ok g MX5_turn (m_J g MX5_turn (fun v h' => Ok g M J (pc + 3) L (m_push v st) h' uc us)) 0 [some (.ref a), some (.int x0), none, none, none, none] [] h 0 0) : Ok g M J pc L (.int x0 :: .ref a :: st) h uc us := ok_callV hd hl cdX5_turn hfit hh rfl rfl (av := [.int x0]) rfl hw (Nat.le_of_ble_eq_true rfl) rfl k
theorem call_X5_setSteps {a : Nat} {fs : List Value} {x0 : Int32} {idx : Nat} (hd : decode M.2.1 pc = .ok (.invokevirtual idx, 3)) (hl : m_lkV M.1.cls idx MX5_setSteps) (hfit : m_fit M MX5_setSteps uc us) (hh : hc h a = some (.inr (5, fs))) (hw : (st.map fun v => v.category).sum ≤ 8) (k : Ok g MX5_setSteps (m_J g MX5_setSteps (fun v h' => Ok g M J (pc + 3) L (m_push v st) h' uc us)) 0 [some (.ref a), some (.int x0), none, none, none, none, none] [] h 0 0) : Ok g M J pc L (.int x0 :: .ref a :: st) h uc us := ok_callV hd hl cdX5_setSteps hfit hh rfl rfl (av := [.int x0]) rfl hw (Nat.le_of_ble_eq_true rfl) rfl k
theorem call_X5_isRound {a : Nat} {fs : List Value} {x0 : Int32} {idx : Nat} (hd : decode M.2.1 pc = .ok (.invokevirtual idx, 3)) (hl : m_lkV M.1.cls idx MX5_isRound) (hfit : m_fit M MX5_isRound uc us) (hh : hc h a = some (.inr (5, fs))) (hw : (st.map fun v => v.category).sum ≤ 8) (k : Ok g MX5_isRound (m_J g MX5_isRound (fun v h' => Ok g M J (pc + 3) L (m_push v st) h' uc us)) 0 [some (.ref a), some (.int x0), none, none] [] h 0 0) : Ok g M J pc L (.int x0 :: .ref a :: st) h uc us := ok_callV hd hl cdX5_isRound hfit hh rfl rfl (av := [.int x0]) rfl hw (Nat.le_of_ble_eq_true rfl) rfl k
theorem call_X5_stepped {a : Nat} {fs : List Value} {x0 : Int32} {idx : Nat} (hd : decode M.2.1 pc = .ok (.invokevirtual idx, 3)) (hl : m_lkV M.1.cls idx MX5_stepped) (hfit : m_fit M MX5_stepped uc us) (hh : hc h a = some (.inr (5, fs))) (hw : (st.map fun v => v.category).sum ≤ 8) (k : Ok g MX5_stepped (m_J g MX5_stepped (fun v h' => Ok g M J (pc + 3) L (m_push v st) h' uc us)) 0 [some (.ref a), some (.int x0), none] [] h 0 0) : Ok g M J pc L (.int x0 :: .ref a :: st) h uc us := ok_callV hd hl cdX5_stepped hfit hh rfl rfl (av := [.int x0]) rfl hw (Nat.le_of_ble_eq_true rfl) rfl k
theorem call_X5_kindOf {a : Nat} {fs : List Value} {x0 : Int32} {idx : Nat} (hd : decode M.2.1 pc = .ok (.invokevirtual idx, 3)) (hl : m_lkV M.1.cls idx MX5_kindOf) (hfit : m_fit M MX5_kindOf uc us) (hh : hc h a = some (.inr (5, fs))) (hw : (st.map fun v => v.category).sum ≤ 8) (k : Ok g MX5_kindOf (m_J g MX5_kindOf (fun v h' => Ok g M J (pc + 3) L (m_push v st) h' uc us)) 0 [some (.ref a), some (.int x0)] [] h 0 0) : Ok g M J pc L (.int x0 :: .ref a :: st) h uc us := ok_callV hd hl cdX5_kindOf hfit hh rfl rfl (av := [.int x0]) rfl hw (Nat.le_of_ble_eq_true rfl) rfl k
theorem call_X5_kind {a : Nat} {fs : List Value} {x0 : Int32} {idx : Nat} (hd : decode M.2.1 pc = .ok (.invokevirtual idx, 3)) (hl : m_lkV M.1.cls idx MX5_kind) (hfit : m_fit M MX5_kind uc us) (hh : hc h a = some (.inr (5, fs))) (hw : (st.map fun v => v.category).sum ≤ 8) (k : Ok g MX5_kind (m_J g MX5_kind (fun v h' => Ok g M J (pc + 3) L (m_push v st) h' uc us)) 0 [some (.ref a), some (.int x0), none] [] h 0 0) : Ok g M J pc L (.int x0 :: .ref a :: st) h uc us := ok_callV hd hl cdX5_kind hfit hh rfl rfl (av := [.int x0]) rfl hw (Nat.le_of_ble_eq_true rfl) rfl k
theorem call_X5_mark {a : Nat} {fs : List Value} {x0 : Int32} {x1 : Int32} {idx : Nat} (hd : decode M.2.1 pc = .ok (.invokevirtual idx, 3)) (hl : m_lkV M.1.cls idx MX5_mark) (hfit : m_fit M MX5_mark uc us) (hh : hc h a = some (.inr (5, fs))) (hw : (st.map fun v => v.category).sum ≤ 8) (k : Ok g MX5_mark (m_J g MX5_mark (fun v h' => Ok g M J (pc + 3) L (m_push v st) h' uc us)) 0 [some (.ref a), some (.int x0), some (.int x1), none, none] [] h 0 0) : Ok g M J pc L (.int x1 :: .int x0 :: .ref a :: st) h uc us := ok_callV hd hl cdX5_mark hfit hh rfl rfl (av := [.int x0, .int x1]) rfl hw (Nat.le_of_ble_eq_true rfl) rfl k
theorem call_X5_mean {a : Nat} {fs : List Value} {x0 : Int32} {idx : Nat} (hd : decode M.2.1 pc = .ok (.invokevirtual idx, 3)) (hl : m_lkV M.1.cls idx MX5_mean) (hfit : m_fit M MX5_mean uc us) (hh : hc h a = some (.inr (5, fs))) (hw : (st.map fun v => v.category).sum ≤ 8) (k : Ok g MX5_mean (m_J g MX5_mean (fun v h' => Ok g M J (pc + 3) L (m_push v st) h' uc us)) 0 [some (.ref a), some (.int x0), none] [] h 0 0) : Ok g M J pc L (.int x0 :: .ref a :: st) h uc us := ok_callV hd hl cdX5_mean hfit hh rfl rfl (av := [.int x0]) rfl hw (Nat.le_of_ble_eq_true rfl) rfl k
theorem call_X5_step {a : Nat} {fs : List Value} {x0 : Int32} {x1 : Int32} {idx : Nat} (hd : decode M.2.1 pc = .ok (.invokevirtual idx, 3)) (hl : m_lkV M.1.cls idx MX5_step) (hfit : m_fit M MX5_step uc us) (hh : hc h a = some (.inr (5, fs))) (hw : (st.map fun v => v.category).sum ≤ 8) (k : Ok g MX5_step (m_J g MX5_step (fun v h' => Ok g M J (pc + 3) L (m_push v st) h' uc us)) 0 [some (.ref a), some (.int x0), some (.int x1), none, none] [] h 0 0) : Ok g M J pc L (.int x1 :: .int x0 :: .ref a :: st) h uc us := ok_callV hd hl cdX5_step hfit hh rfl rfl (av := [.int x0, .int x1]) rfl hw (Nat.le_of_ble_eq_true rfl) rfl k
theorem call_X5_tail {a : Nat} {fs : List Value} {x0 : Int32} {idx : Nat} (hd : decode M.2.1 pc = .ok (.invokevirtual idx, 3)) (hl : m_lkV M.1.cls idx MX5_tail) (hfit : m_fit M MX5_tail uc us) (hh : hc h a = some (.inr (5, fs))) (hw : (st.map fun v => v.category).sum ≤ 8) (k : Ok g MX5_tail (m_J g MX5_tail (fun v h' => Ok g M J (pc + 3) L (m_push v st) h' uc us)) 0 [some (.ref a), some (.int x0), none] [] h 0 0) : Ok g M J pc L (.int x0 :: .ref a :: st) h uc us := ok_callV hd hl cdX5_tail hfit hh rfl rfl (av := [.int x0]) rfl hw (Nat.le_of_ble_eq_true rfl) rfl k
theorem call_X5_beat {a : Nat} {fs : List Value} {x0 : Int32} {idx : Nat} (hd : decode M.2.1 pc = .ok (.invokevirtual idx, 3)) (hl : m_lkV M.1.cls idx MX5_beat) (hfit : m_fit M MX5_beat uc us) (hh : hc h a = some (.inr (5, fs))) (hw : (st.map fun v => v.category).sum ≤ 8) (k : Ok g MX5_beat (m_J g MX5_beat (fun v h' => Ok g M J (pc + 3) L (m_push v st) h' uc us)) 0 [some (.ref a), some (.int x0), none] [] h 0 0) : Ok g M J pc L (.int x0 :: .ref a :: st) h uc us := ok_callV hd hl cdX5_beat hfit hh rfl rfl (av := [.int x0]) rfl hw (Nat.le_of_ble_eq_true rfl) rfl k
theorem call_X5_leader {a : Nat} {fs : List Value} {x0 : Int32} {idx : Nat} (hd : decode M.2.1 pc = .ok (.invokevirtual idx, 3)) (hl : m_lkV M.1.cls idx MX5_leader) (hfit : m_fit M MX5_leader uc us) (hh : hc h a = some (.inr (5, fs))) (hw : (st.map fun v => v.category).sum ≤ 8) (k : Ok g MX5_leader (m_J g MX5_leader (fun v h' => Ok g M J (pc + 3) L (m_push v st) h' uc us)) 0 [some (.ref a), some (.int x0), none] [] h 0 0) : Ok g M J pc L (.int x0 :: .ref a :: st) h uc us := ok_callV hd hl cdX5_leader hfit hh rfl rfl (av := [.int x0]) rfl hw (Nat.le_of_ble_eq_true rfl) rfl k
theorem call_X5_rounds {a : Nat} {fs : List Value} {x0 : Int32} {x1 : Int32} {idx : Nat} (hd : decode M.2.1 pc = .ok (.invokevirtual idx, 3)) (hl : m_lkV M.1.cls idx MX5_rounds) (hfit : m_fit M MX5_rounds uc us) (hh : hc h a = some (.inr (5, fs))) (hw : (st.map fun v => v.category).sum ≤ 8) (k : Ok g MX5_rounds (m_J g MX5_rounds (fun v h' => Ok g M J (pc + 3) L (m_push v st) h' uc us)) 0 [some (.ref a), some (.int x0), some (.int x1), none, none, none, none] [] h 0 0) : Ok g M J pc L (.int x1 :: .int x0 :: .ref a :: st) h uc us := ok_callV hd hl cdX5_rounds hfit hh rfl rfl (av := [.int x0, .int x1]) rfl hw (Nat.le_of_ble_eq_true rfl) rfl k
theorem call_X5_ring {a : Nat} {fs : List Value} {x0 : Int32} {x1 : Int32} {idx : Nat} (hd : decode M.2.1 pc = .ok (.invokevirtual idx, 3)) (hl : m_lkV M.1.cls idx MX5_ring) (hfit : m_fit M MX5_ring uc us) (hh : hc h a = some (.inr (5, fs))) (hw : (st.map fun v => v.category).sum ≤ 8) (k : Ok g MX5_ring (m_J g MX5_ring (fun v h' => Ok g M J (pc + 3) L (m_push v st) h' uc us)) 0 [some (.ref a), some (.int x0), some (.int x1), none, none] [] h 0 0) : Ok g M J pc L (.int x1 :: .int x0 :: .ref a :: st) h uc us := ok_callV hd hl cdX5_ring hfit hh rfl rfl (av := [.int x0, .int x1]) rfl hw (Nat.le_of_ble_eq_true rfl) rfl k
theorem call_X5_from {a : Nat} {fs : List Value} {x0 : Int32} {idx : Nat} (hd : decode M.2.1 pc = .ok (.invokevirtual idx, 3)) (hl : m_lkV M.1.cls idx MX5_from) (hfit : m_fit M MX5_from uc us) (hh : hc h a = some (.inr (5, fs))) (hw : (st.map fun v => v.category).sum ≤ 8) (k : Ok g MX5_from (m_J g MX5_from (fun v h' => Ok g M J (pc + 3) L (m_push v st) h' uc us)) 0 [some (.ref a), some (.int x0), none] [] h 0 0) : Ok g M J pc L (.int x0 :: .ref a :: st) h uc us := ok_callV hd hl cdX5_from hfit hh rfl rfl (av := [.int x0]) rfl hw (Nat.le_of_ble_eq_true rfl) rfl k
theorem call_X5_fromAt {a : Nat} {fs : List Value} {x0 : Int32} {x1 : Int32} {idx : Nat} (hd : decode M.2.1 pc = .ok (.invokevirtual idx, 3)) (hl : m_lkV M.1.cls idx MX5_fromAt) (hfit : m_fit M MX5_fromAt uc us) (hh : hc h a = some (.inr (5, fs))) (hw : (st.map fun v => v.category).sum ≤ 8) (k : Ok g MX5_fromAt (m_J g MX5_fromAt (fun v h' => Ok g M J (pc + 3) L (m_push v st) h' uc us)) 0 [some (.ref a), some (.int x0), some (.int x1), none, none, none] [] h 0 0) : Ok g M J pc L (.int x1 :: .int x0 :: .ref a :: st) h uc us := ok_callV hd hl cdX5_fromAt hfit hh rfl rfl (av := [.int x0, .int x1]) rfl hw (Nat.le_of_ble_eq_true rfl) rfl k
theorem call_X5_steps {a : Nat} {fs : List Value} {x0 : Int32} {x1 : Int32} {idx : Nat} (hd : decode M.2.1 pc = .ok (.invokevirtual idx, 3)) (hl : m_lkV M.1.cls idx MX5_steps) (hfit : m_fit M MX5_steps uc us) (hh : hc h a = some (.inr (5, fs))) (hw : (st.map fun v => v.category).sum ≤ 8) (k : Ok g MX5_steps (m_J g MX5_steps (fun v h' => Ok g M J (pc + 3) L (m_push v st) h' uc us)) 0 [some (.ref a), some (.int x0), some (.int x1), none, none, none] [] h 0 0) : Ok g M J pc L (.int x1 :: .int x0 :: .ref a :: st) h uc us := ok_callV hd hl cdX5_steps hfit hh rfl rfl (av := [.int x0, .int x1]) rfl hw (Nat.le_of_ble_eq_true rfl) rfl k
theorem call_X5_choices {x0 : Int32} {x1 : Int32} {idx : Nat} (hd : decode M.2.1 pc = .ok (.invokestatic idx, 3)) (hl : m_lkS M.1.cls idx MX5_choices) (hfit : m_fit M MX5_choices uc us) (hw : (st.map fun v => v.category).sum ≤ 8) (k : Ok g MX5_choices (m_J g MX5_choices (fun v h' => Ok g M J (pc + 3) L (m_push v st) h' uc us)) 0 [some (.int x0), some (.int x1), none, none, none] [] h 0 0) : Ok g M J pc L (.int x1 :: .int x0 :: st) h uc us := ok_callS hd hl cdX5_choices hfit (av := [.int x0, .int x1]) rfl hw (Nat.le_of_ble_eq_true rfl) rfl k
theorem call_X5_addWays {a : Nat} {fs : List Value} {x0 : Int32} {x1 : Int64} {idx : Nat} (hd : decode M.2.1 pc = .ok (.invokevirtual idx, 3)) (hl : m_lkV M.1.cls idx MX5_addWays) (hfit : m_fit M MX5_addWays uc us) (hh : hc h a = some (.inr (5, fs))) (hw : (st.map fun v => v.category).sum ≤ 8) (k : Ok g MX5_addWays (m_J g MX5_addWays (fun v h' => Ok g M J (pc + 3) L (m_push v st) h' uc us)) 0 [some (.ref a), some (.int x0), some (.long x1), none, none, none, none, none, none, none] [] h 0 0) : Ok g M J pc L (.long x1 :: .int x0 :: .ref a :: st) h uc us := ok_callV hd hl cdX5_addWays hfit hh rfl rfl (av := [.int x0, .long x1]) rfl hw (Nat.le_of_ble_eq_true rfl) rfl k
theorem call_X5_noWays {a : Nat} {fs : List Value}  {idx : Nat} (hd : decode M.2.1 pc = .ok (.invokevirtual idx, 3)) (hl : m_lkV M.1.cls idx MX5_noWays) (hfit : m_fit M MX5_noWays uc us) (hh : hc h a = some (.inr (5, fs))) (hw : (st.map fun v => v.category).sum ≤ 8) (k : Ok g MX5_noWays (m_J g MX5_noWays (fun v h' => Ok g M J (pc + 3) L (m_push v st) h' uc us)) 0 [some (.ref a), none] [] h 0 0) : Ok g M J pc L (.ref a :: st) h uc us := ok_callV hd hl cdX5_noWays hfit hh rfl rfl (av := []) rfl hw (Nat.le_of_ble_eq_true rfl) rfl k
theorem call_X5_ways {a : Nat} {fs : List Value} {x0 : Int32} {x1 : Int32} {idx : Nat} (hd : decode M.2.1 pc = .ok (.invokevirtual idx, 3)) (hl : m_lkV M.1.cls idx MX5_ways) (hfit : m_fit M MX5_ways uc us) (hh : hc h a = some (.inr (5, fs))) (hw : (st.map fun v => v.category).sum ≤ 8) (k : Ok g MX5_ways (m_J g MX5_ways (fun v h' => Ok g M J (pc + 3) L (m_push v st) h' uc us)) 0 [some (.ref a), some (.int x0), some (.int x1)] [] h 0 0) : Ok g M J pc L (.int x1 :: .int x0 :: .ref a :: st) h uc us := ok_callV hd hl cdX5_ways hfit hh rfl rfl (av := [.int x0, .int x1]) rfl hw (Nat.le_of_ble_eq_true rfl) rfl k
theorem call_X5_reach {a : Nat} {fs : List Value} {x0 : Int32} {idx : Nat} (hd : decode M.2.1 pc = .ok (.invokevirtual idx, 3)) (hl : m_lkV M.1.cls idx MX5_reach) (hfit : m_fit M MX5_reach uc us) (hh : hc h a = some (.inr (5, fs))) (hw : (st.map fun v => v.category).sum ≤ 8) (k : Ok g MX5_reach (m_J g MX5_reach (fun v h' => Ok g M J (pc + 3) L (m_push v st) h' uc us)) 0 [some (.ref a), some (.int x0), none, none, none] [] h 0 0) : Ok g M J pc L (.int x0 :: .ref a :: st) h uc us := ok_callV hd hl cdX5_reach hfit hh rfl rfl (av := [.int x0]) rfl hw (Nat.le_of_ble_eq_true rfl) rfl k
theorem call_X5_walks {a : Nat} {fs : List Value} {x0 : Int32} {x1 : Int32} {x2 : Int32} {idx : Nat} (hd : decode M.2.1 pc = .ok (.invokevirtual idx, 3)) (hl : m_lkV M.1.cls idx MX5_walks) (hfit : m_fit M MX5_walks uc us) (hh : hc h a = some (.inr (5, fs))) (hw : (st.map fun v => v.category).sum ≤ 8) (k : Ok g MX5_walks (m_J g MX5_walks (fun v h' => Ok g M J (pc + 3) L (m_push v st) h' uc us)) 0 [some (.ref a), some (.int x0), some (.int x1), some (.int x2), none, none] [] h 0 0) : Ok g M J pc L (.int x2 :: .int x1 :: .int x0 :: .ref a :: st) h uc us := ok_callV hd hl cdX5_walks hfit hh rfl rfl (av := [.int x0, .int x1, .int x2]) rfl hw (Nat.le_of_ble_eq_true rfl) rfl k
theorem call_X5_asked {a : Nat} {fs : List Value}  {idx : Nat} (hd : decode M.2.1 pc = .ok (.invokevirtual idx, 3)) (hl : m_lkV M.1.cls idx MX5_asked) (hfit : m_fit M MX5_asked uc us) (hh : hc h a = some (.inr (5, fs))) (hw : (st.map fun v => v.category).sum ≤ 8) (k : Ok g MX5_asked (m_J g MX5_asked (fun v h' => Ok g M J (pc + 3) L (m_push v st) h' uc us)) 0 [some (.ref a)] [] h 0 0) : Ok g M J pc L (.ref a :: st) h uc us := ok_callV hd hl cdX5_asked hfit hh rfl rfl (av := []) rfl hw (Nat.le_of_ble_eq_true rfl) rfl k
theorem call_X5_told {a : Nat} {fs : List Value} {x0 : Int32} {x1 : Int32} {idx : Nat} (hd : decode M.2.1 pc = .ok (.invokevirtual idx, 3)) (hl : m_lkV M.1.cls idx MX5_told) (hfit : m_fit M MX5_told uc us) (hh : hc h a = some (.inr (5, fs))) (hw : (st.map fun v => v.category).sum ≤ 8) (k : Ok g MX5_told (m_J g MX5_told (fun v h' => Ok g M J (pc + 3) L (m_push v st) h' uc us)) 0 [some (.ref a), some (.int x0), some (.int x1), none, none, none] [] h 0 0) : Ok g M J pc L (.int x1 :: .int x0 :: .ref a :: st) h uc us := ok_callV hd hl cdX5_told hfit hh rfl rfl (av := [.int x0, .int x1]) rfl hw (Nat.le_of_ble_eq_true rfl) rfl k
theorem call_X5_count {a : Nat} {fs : List Value} {x0 : Int32} {idx : Nat} (hd : decode M.2.1 pc = .ok (.invokevirtual idx, 3)) (hl : m_lkV M.1.cls idx MX5_count) (hfit : m_fit M MX5_count uc us) (hh : hc h a = some (.inr (5, fs))) (hw : (st.map fun v => v.category).sum ≤ 8) (k : Ok g MX5_count (m_J g MX5_count (fun v h' => Ok g M J (pc + 3) L (m_push v st) h' uc us)) 0 [some (.ref a), some (.int x0), none, none] [] h 0 0) : Ok g M J pc L (.int x0 :: .ref a :: st) h uc us := ok_callV hd hl cdX5_count hfit hh rfl rfl (av := [.int x0]) rfl hw (Nat.le_of_ble_eq_true rfl) rfl k
theorem call_X5_finding {a : Nat} {fs : List Value}  {idx : Nat} (hd : decode M.2.1 pc = .ok (.invokevirtual idx, 3)) (hl : m_lkV M.1.cls idx MX5_finding) (hfit : m_fit M MX5_finding uc us) (hh : hc h a = some (.inr (5, fs))) (hw : (st.map fun v => v.category).sum ≤ 8) (k : Ok g MX5_finding (m_J g MX5_finding (fun v h' => Ok g M J (pc + 3) L (m_push v st) h' uc us)) 0 [some (.ref a)] [] h 0 0) : Ok g M J pc L (.ref a :: st) h uc us := ok_callV hd hl cdX5_finding hfit hh rfl rfl (av := []) rfl hw (Nat.le_of_ble_eq_true rfl) rfl k
theorem call_X5_findings {a : Nat} {fs : List Value} {x0 : Int32} {idx : Nat} (hd : decode M.2.1 pc = .ok (.invokevirtual idx, 3)) (hl : m_lkV M.1.cls idx MX5_findings) (hfit : m_fit M MX5_findings uc us) (hh : hc h a = some (.inr (5, fs))) (hw : (st.map fun v => v.category).sum ≤ 8) (k : Ok g MX5_findings (m_J g MX5_findings (fun v h' => Ok g M J (pc + 3) L (m_push v st) h' uc us)) 0 [some (.ref a), some (.int x0)] [] h 0 0) : Ok g M J pc L (.int x0 :: .ref a :: st) h uc us := ok_callV hd hl cdX5_findings hfit hh rfl rfl (av := [.int x0]) rfl hw (Nat.le_of_ble_eq_true rfl) rfl k
theorem call_X5_digest {a : Nat} {fs : List Value}  {idx : Nat} (hd : decode M.2.1 pc = .ok (.invokevirtual idx, 3)) (hl : m_lkV M.1.cls idx MX5_digest) (hfit : m_fit M MX5_digest uc us) (hh : hc h a = some (.inr (5, fs))) (hw : (st.map fun v => v.category).sum ≤ 8) (k : Ok g MX5_digest (m_J g MX5_digest (fun v h' => Ok g M J (pc + 3) L (m_push v st) h' uc us)) 0 [some (.ref a), none, none, none, none] [] h 0 0) : Ok g M J pc L (.ref a :: st) h uc us := ok_callV hd hl cdX5_digest hfit hh rfl rfl (av := []) rfl hw (Nat.le_of_ble_eq_true rfl) rfl k
theorem call_J7_fill_d0a16 {x0 : Nat} {x1 : Int64} {idx : Nat} (hd : decode M.2.1 pc = .ok (.invokestatic idx, 3)) (hl : m_lkS M.1.cls idx MJ7_fill_d0a16) (hfit : m_fit M MJ7_fill_d0a16 uc us) (hw : (st.map fun v => v.category).sum ≤ 8) (k : Ok g MJ7_fill_d0a16 (m_J g MJ7_fill_d0a16 (fun v h' => Ok g M J (pc + 3) L (m_push v st) h' uc us)) 0 [some (.ref x0), some (.long x1), none, none, none] [] h 0 0) : Ok g M J pc L (.long x1 :: .ref x0 :: st) h uc us := ok_callS hd hl cdJ7_fill_d0a16 hfit (av := [.ref x0, .long x1]) rfl hw (Nat.le_of_ble_eq_true rfl) rfl k
theorem call_J7_fill_53178 {x0 : Nat} {x1 : Int32} {idx : Nat} (hd : decode M.2.1 pc = .ok (.invokestatic idx, 3)) (hl : m_lkS M.1.cls idx MJ7_fill_53178) (hfit : m_fit M MJ7_fill_53178 uc us) (hw : (st.map fun v => v.category).sum ≤ 8) (k : Ok g MJ7_fill_53178 (m_J g MJ7_fill_53178 (fun v h' => Ok g M J (pc + 3) L (m_push v st) h' uc us)) 0 [some (.ref x0), some (.int x1), none, none] [] h 0 0) : Ok g M J pc L (.int x1 :: .ref x0 :: st) h uc us := ok_callS hd hl cdJ7_fill_53178 hfit (av := [.ref x0, .int x1]) rfl hw (Nat.le_of_ble_eq_true rfl) rfl k
end CALLS
end
section
/-! ===== what an array holds is what its places hold ===== -/
theorem arrV_congr {cA : ClassId} {N : Nat} {f f' : Nat → Value} (hf : ∀ j, j < N → f j = f' j) : arrV cA N f = arrV cA N f' := by
  unfold arrV
  congr 1
  apply Array.ext
  · simp
  · intro i h1 h2
    simp only [Array.getElem_ofFn]
    exact hf i (by simpa using h1)
theorem ok_ext {g : mG} {M : mM} {J : mJ} {pc : Nat} {L : List (Option Value)} {st : List Value} {h : mH} {uc us a : Nat} {x y : mE} (hh : hc h a = some x) (he : ∀ H, va_at (m_D g) m_cl (g.2.1 + a, m_sE g x) H → va_at (m_D g) m_cl (g.2.1 + a, m_sE g y) H) (k : ∀ h1, hx [a] h h1 → hc h1 a = some y → Ok g M J pc L st h1 uc us) : Ok g M J pc L st h uc us := by
  intro p e R s m args below meth c F C ls H locs hl hP hS
  refine k (hs h a y) (hx_hs h a y) (hc_hs hh) p e R s m args below meth c F C ls H locs hl (m_P_set hP hh (he H (hP.1 a _ (m_W_get hh))) rfl (fun q _ => rfl)) hS
theorem ok_extI {g : mG} {M : mM} {J : mJ} {pc : Nat} {L : List (Option Value)} {st : List Value} {h : mH} {uc us a N : Nat} {G G' : Nat → Nat} (hh : hc h a = some (aI N G)) (hG : ∀ j, j < N → G j = G' j) (k : ∀ h1, hx [a] h h1 → hc h1 a = some (aI N G') → Ok g M J pc L st h1 uc us) : Ok g M J pc L st h uc us := by
  refine ok_ext hh (fun H e => ?_) k
  have e1 : H[g.2.1 + a]? = some (arrV (g.2.2.2.2 .int) N (fun j => .int (nI (G j)))) := e
  show H[g.2.1 + a]? = some (arrV (g.2.2.2.2 .int) N (fun j => .int (nI (G' j))))
  rw [e1]
  congr 1
  exact arrV_congr (fun j hj => by rw [hG j hj])
theorem ok_extK {g : mG} {M : mM} {J : mJ} {pc : Nat} {L : List (Option Value)} {st : List Value} {h : mH} {uc us a N : Nat} {G G' : Nat → Int32} (hh : hc h a = some (aK N G)) (hG : ∀ j, j < N → G j = G' j) (k : ∀ h1, hx [a] h h1 → hc h1 a = some (aK N G') → Ok g M J pc L st h1 uc us) : Ok g M J pc L st h uc us := by
  refine ok_ext hh (fun H e => ?_) k
  have e1 : H[g.2.1 + a]? = some (arrV (g.2.2.2.2 .int) N (fun j => .int (G j))) := e
  show H[g.2.1 + a]? = some (arrV (g.2.2.2.2 .int) N (fun j => .int (G' j)))
  rw [e1]
  congr 1
  exact arrV_congr (fun j hj => by rw [hG j hj])
theorem ok_extJ {g : mG} {M : mM} {J : mJ} {pc : Nat} {L : List (Option Value)} {st : List Value} {h : mH} {uc us a N : Nat} {G G' : Nat → Int64} (hh : hc h a = some (aJ N G)) (hG : ∀ j, j < N → G j = G' j) (k : ∀ h1, hx [a] h h1 → hc h1 a = some (aJ N G') → Ok g M J pc L st h1 uc us) : Ok g M J pc L st h uc us := by
  refine ok_ext hh (fun H e => ?_) k
  have e1 : H[g.2.1 + a]? = some (arrV (g.2.2.2.2 .long) N (fun j => .long (G j))) := e
  show H[g.2.1 + a]? = some (arrV (g.2.2.2.2 .long) N (fun j => .long (G' j)))
  rw [e1]
  congr 1
  exact arrV_congr (fun j hj => by rw [hG j hj])
end
section
theorem nI_if {a b : Nat} (ha : a < 2 ^ 31) (hb : b < 2 ^ 31) (x y : Nat) : (if nI a < nI b then nI x else nI y) = nI (if a < b then x else y) := by
  by_cases c : a < b
  · rw [if_pos c, if_pos ((nI_ltI ha hb).mpr c)]
  · rw [if_neg c, if_neg (fun q => c ((nI_ltI ha hb).mp q))]
section MINMAX
variable {g : mG} {M : mM} {J : mJ} {pc : Nat} {L L' : List (Option Value)} {st : List Value} {h : mH} {uc us : Nat}
theorem okN_max {idx a b : Nat} (hd : decode M.2.1 pc = .ok (.invokestatic idx, 3)) (hl : Cond.methodLink M.1.cls idx Lib.Math.max.name ∈ m_tb ∧ Cond.static Lib.Math.max.name ∈ m_tb ∧ Cond.initialized "java/lang/Math" ∈ m_tb ∧ Cond.code Lib.Math.max.name Lib.Math.max.code 2 (some .int) ∈ m_tb) (hrk : 1 ≤ M.2.2.2.2.1) (hu : uc ≤ M.2.2.2.2.2.1 ∧ us ≤ M.2.2.2.2.2.2) (hw : (st.map fun v => v.category).sum ≤ 8) (ha : a < 2 ^ 31) (hb : b < 2 ^ 31) (k : Ok g M J (pc + 3) L (.int (nI (if a < b then b else a)) :: st) h uc us) : Ok g M J pc L (.int (nI b) :: .int (nI a) :: st) h uc us := by
  refine ok_max hd hl hrk hu hw ?_
  rw [nI_if ha hb]
  exact k
theorem okN_min {idx a b : Nat} (hd : decode M.2.1 pc = .ok (.invokestatic idx, 3)) (hl : Cond.methodLink M.1.cls idx Lib.Math.min.name ∈ m_tb ∧ Cond.static Lib.Math.min.name ∈ m_tb ∧ Cond.initialized "java/lang/Math" ∈ m_tb ∧ Cond.code Lib.Math.min.name Lib.Math.min.code 2 (some .int) ∈ m_tb) (hrk : 1 ≤ M.2.2.2.2.1) (hu : uc ≤ M.2.2.2.2.2.1 ∧ us ≤ M.2.2.2.2.2.2) (hw : (st.map fun v => v.category).sum ≤ 8) (ha : a < 2 ^ 31) (hb : b < 2 ^ 31) (k : Ok g M J (pc + 3) L (.int (nI (if b < a then b else a)) :: st) h uc us) : Ok g M J pc L (.int (nI b) :: .int (nI a) :: st) h uc us := by
  refine ok_min hd hl hrk hu hw ?_
  rw [nI_if hb ha]
  exact k
end MINMAX
end
section
/-! ===== heaps as lists ===== -/
def srt : List Nat → Prop
  | [] => True
  | x :: t => (∀ y ∈ t, y ≤ x) ∧ srt t
def okl (l : List Nat) : Prop := srt l ∧ (∀ x ∈ l, 1 ≤ x) ∧ l.sum ≤ 18
def ins (m : Nat) : List Nat → List Nat
  | [] => [m]
  | x :: t => if x < m then m :: x :: t else x :: ins m t
theorem gd_mem : ∀ (l : List Nat) (i : Nat), i < l.length → l.getD i 0 ∈ l
  | [], i, h => by simp at h
  | x :: t, 0, h => by simp
  | x :: t, i + 1, h => by
    rw [List.getD_cons_succ]
    exact List.mem_cons_of_mem _ (gd_mem t i (by simpa using h))
theorem srt_get : ∀ (l : List Nat) (i j : Nat), srt l → i ≤ j → j < l.length → l.getD j 0 ≤ l.getD i 0
  | [], i, j, _, _, h => by simp at h
  | x :: t, 0, 0, _, _, _ => Nat.le_refl _
  | x :: t, 0, j + 1, hs, _, h => by
    rw [List.getD_cons_succ, List.getD_cons_zero]
    exact hs.1 _ (gd_mem t j (by simpa using h))
  | x :: t, i + 1, 0, _, h, _ => by omega
  | x :: t, i + 1, j + 1, hs, h, hj => by
    rw [List.getD_cons_succ, List.getD_cons_succ]
    exact srt_get t i j hs.2 (by omega) (by simpa using hj)
theorem ins_mem (m : Nat) : ∀ (l : List Nat) (x : Nat), x ∈ ins m l → x = m ∨ x ∈ l
  | [], x, h => by simp [ins] at h; exact Or.inl h
  | y :: t, x, h => by
    unfold ins at h
    split at h
    · rcases List.mem_cons.mp h with e | e
      · exact Or.inl e
      · exact Or.inr e
    · rcases List.mem_cons.mp h with e | e
      · exact Or.inr (by simp [e])
      · rcases ins_mem m t x e with e | e
        · exact Or.inl e
        · exact Or.inr (List.mem_cons_of_mem _ e)
theorem ins_len (m : Nat) : ∀ (l : List Nat), (ins m l).length = l.length + 1
  | [] => rfl
  | y :: t => by
    unfold ins
    split
    · simp
    · simp [ins_len m t]
theorem ins_sum (m : Nat) : ∀ (l : List Nat), (ins m l).sum = m + l.sum
  | [] => by simp [ins]
  | y :: t => by
    unfold ins
    split
    · simp
    · simp [ins_sum m t]; omega
theorem ins_srt (m : Nat) : ∀ (l : List Nat), srt l → srt (ins m l)
  | [], _ => ⟨fun y h => by simp at h, trivial⟩
  | y :: t, hs => by
    unfold ins
    split
    · rename_i c
      refine ⟨fun z hz => ?_, hs⟩
      rcases List.mem_cons.mp hz with e | e
      · omega
      · have := hs.1 z e; omega
    · rename_i c
      refine ⟨fun z hz => ?_, ins_srt m t hs.2⟩
      rcases ins_mem m t z hz with e | e
      · omega
      · exact hs.1 z e
theorem ins_get (m : Nat) : ∀ (l : List Nat) (i j : Nat), i ≤ l.length → (∀ q, q < i → m ≤ l.getD q 0) → (∀ q, i ≤ q → q < l.length → l.getD q 0 < m) → j < l.length + 1 → (ins m l).getD j 0 = if j < i then l.getD j 0 else if j = i then m else l.getD (j - 1) 0
  | [], i, j, hi, h1, h2, hj => by
    simp at hi hj
    subst hi; subst hj
    simp [ins]
  | x :: t, 0, j, hi, h1, h2, hj => by
    have c : x < m := by simpa using h2 0 (Nat.le_refl _) (by simp)
    unfold ins
    rw [if_pos c]
    cases j with
    | zero => simp
    | succ j => simp
  | x :: t, i + 1, j, hi, h1, h2, hj => by
    have c : ¬ x < m := by have := h1 0 (by omega); simp at this; omega
    unfold ins
    rw [if_neg c]
    cases j with
    | zero => simp
    | succ j =>
      rw [List.getD_cons_succ, ins_get m t i j (by simpa using hi) (fun q hq => by have := h1 (q + 1) (by omega); simpa using this) (fun q h3 h4 => by have := h2 (q + 1) (by omega) (by simp; omega); simpa using this) (by simpa using hj)]
      simp only [Nat.add_lt_add_iff_right, Nat.add_right_cancel_iff, Nat.add_sub_cancel, List.getD_cons_succ]
      by_cases d : j < i
      · simp only [d, if_true]
      · by_cases e : j = i
        · simp only [e, Nat.lt_irrefl, if_false, if_true]
        · simp only [d, e, if_false]
          obtain ⟨j', rfl⟩ : ∃ j', j = j' + 1 := ⟨j - 1, by omega⟩
          rw [List.getD_cons_succ, Nat.add_sub_cancel]
theorem len_sum : ∀ (l : List Nat), (∀ x ∈ l, 1 ≤ x) → l.length ≤ l.sum
  | [], _ => by simp
  | x :: t, h => by
    have h1 := h x (by simp)
    have h2 := len_sum t (fun y hy => h y (List.mem_cons_of_mem _ hy))
    simp
    omega
theorem okl.len {l : List Nat} (h : okl l) : l.length ≤ 18 := by
  have := len_sum l h.2.1
  have := h.2.2
  omega
theorem okl_ins {m : Nat} {l : List Nat} (h : okl l) (hm : 1 ≤ m) (hs : m + l.sum ≤ 18) : okl (ins m l) :=
  ⟨ins_srt m l h.1, fun x hx => by rcases ins_mem m l x hx with e | e; · omega
                                   · exact h.2.1 x e, by rw [ins_sum]; exact hs⟩
theorem okl_nil : okl [] := ⟨trivial, fun x h => by simp at h, by simp⟩
theorem gd_sum : ∀ (l : List Nat) (i : Nat), l.getD i 0 ≤ l.sum
  | [], i => by simp
  | x :: t, 0 => by simp
  | x :: t, i + 1 => by
    have := gd_sum t i
    rw [List.getD_cons_succ, List.sum_cons]
    omega
/-- the first places of F are l -/
def arr (F : Nat → Nat) (l : List Nat) : Prop := ∀ i, i < l.length → F i = l.getD i 0
/-- a row's cells at a, b hold l -/
def Rw (h : mH) (a b : Nat) (l : List Nat) : Prop := hc h a = some (.inr (3, [.ref b, .int (nI l.length), .int (nI l.sum)])) ∧ ∃ F, hc h b = some (aI 18 F) ∧ arr F l
theorem Rw.at {h h' : mH} {A : List Nat} {a b : Nat} {l : List Nat} (r : Rw h a b l) (x : hx A h h') (n1 : a ∉ A) (n2 : b ∉ A) : Rw h' a b l := by
  obtain ⟨r1, F, r2, r3⟩ := r
  exact ⟨x.at n1 r1, F, x.at n2 r2, r3⟩
end
section
/-! ===== a place within, a row's cells ===== -/
def pl (n : Nat) (i : Int32) : Option Nat := if 0 ≤ i.toInt ∧ i.toInt < n then some i.toInt.toNat else none
theorem pl_lt {n : Nat} {i : Int32} (c : i < 0) : pl n i = none := by
  have : i.toInt < 0 := by simpa [Int32.lt_iff_toInt_lt] using c
  unfold pl
  rw [if_neg (by omega)]
theorem pl_ge {n : Nat} {i : Int32} (hn : n < 2 ^ 31) (c : nI n ≤ i) : pl n i = none := by
  have : (n : Int) ≤ i.toInt := by
    rw [Int32.le_iff_toInt_le, nI_toInt hn] at c
    exact c
  unfold pl
  rw [if_neg (by omega)]
theorem pl_nI {n j : Nat} (hn : n < 2 ^ 31) (h : j < n) : pl n (nI j) = some j := by
  unfold pl
  rw [nI_toInt (Nat.lt_trans h hn), if_pos (by omega)]
  simp
theorem pl_in {n : Nat} {i : Int32} (hn : n < 2 ^ 31) (c : ¬ i < 0) (d : ¬ nI n ≤ i) : ∃ j, pl n i = some j ∧ j < n ∧ i = nI j := by
  rcases pk_ix i hn with e | e | ⟨j, e1, e2⟩
  · exact absurd e c
  · exact absurd e d
  · exact ⟨j, by rw [e2]; exact pl_nI hn e1, e1, e2⟩
theorem pl_some {n j : Nat} {i : Int32} (hn : n < 2 ^ 31) (h : pl n i = some j) : j < n ∧ i = nI j := by
  unfold pl at h
  split at h
  · rename_i c
    have e := Option.some.inj h
    refine ⟨by omega, ?_⟩
    apply Int32.toInt_inj.mp
    rw [nI_toInt (by omega)]
    omega
  · cases h
abbrev rowc (b n c : Nat) : mE := .inr (3, [.ref b, .int (nI n), .int (nI c)])
section ROW1
variable {g : mG} {h : mH} {Q : Option Value → mH → Prop} {a b n c : Nat} {F : Nat → Nat}
theorem c_X4_isPlace {p : Int32} (k1 : ∀ j, pl 12 p = some j → j < 12 → p = nI j → Q (some (.int (nI 1))) h) (k0 : pl 12 p = none → Q (some (.int (nI 0))) h) : Ok g MX4_isPlace (m_J g MX4_isPlace Q) 0 [some (.int p)] [] h 0 0 := by
  refine ok_iload_n dX4_isPlace_0 rfl ?_
  refine ok_if_lt (tgt := 14) dX4_isPlace_1 (by decide) (fun c1 => ?_) (fun c1 => ?_)
  · refine ok_iconst (v := nI 0) dX4_isPlace_14 (by decide) ?_
    refine ok_iret dX4_isPlace_15 rfl rfl ⟨Nat.le_of_ble_eq_true rfl, Nat.le_of_ble_eq_true rfl⟩ ?_
    exact k0 (pl_lt c1)
  · refine ok_iload_n dX4_isPlace_4 rfl ?_
    refine ok_bipush (v := nI 12) dX4_isPlace_5 (by decide) ?_
    refine ok_icmp_ge (tgt := 14) dX4_isPlace_7 (by decide) (fun c2 => ?_) (fun c2 => ?_)
    · refine ok_iconst (v := nI 0) dX4_isPlace_14 (by decide) ?_
      refine ok_iret dX4_isPlace_15 rfl rfl ⟨Nat.le_of_ble_eq_true rfl, Nat.le_of_ble_eq_true rfl⟩ ?_
      exact k0 (pl_ge (by decide) c2)
    · refine ok_iconst (v := nI 1) dX4_isPlace_10 (by decide) ?_
      refine ok_goto (tgt := 15) dX4_isPlace_11 (by decide) ?_
      refine ok_iret dX4_isPlace_15 rfl rfl ⟨Nat.le_of_ble_eq_true rfl, Nat.le_of_ble_eq_true rfl⟩ ?_
      obtain ⟨j, e1, e2, e3⟩ := pl_in (n := 12) (by decide) c1 c2
      exact k1 j e1 e2 e3
theorem c_X4_isCards {p : Int32} (k1 : ∀ j, pl 19 p = some j → j < 19 → p = nI j → Q (some (.int (nI 1))) h) (k0 : pl 19 p = none → Q (some (.int (nI 0))) h) : Ok g MX4_isCards (m_J g MX4_isCards Q) 0 [some (.int p)] [] h 0 0 := by
  refine ok_iload_n dX4_isCards_0 rfl ?_
  refine ok_if_lt (tgt := 14) dX4_isCards_1 (by decide) (fun c1 => ?_) (fun c1 => ?_)
  · refine ok_iconst (v := nI 0) dX4_isCards_14 (by decide) ?_
    refine ok_iret dX4_isCards_15 rfl rfl ⟨Nat.le_of_ble_eq_true rfl, Nat.le_of_ble_eq_true rfl⟩ ?_
    exact k0 (pl_lt c1)
  · refine ok_iload_n dX4_isCards_4 rfl ?_
    refine ok_bipush (v := nI 18) dX4_isCards_5 (by decide) ?_
    refine ok_icmp_gt (tgt := 14) dX4_isCards_7 (by decide) (fun c2 => ?_) (fun c2 => ?_)
    · refine ok_iconst (v := nI 0) dX4_isCards_14 (by decide) ?_
      refine ok_iret dX4_isCards_15 rfl rfl ⟨Nat.le_of_ble_eq_true rfl, Nat.le_of_ble_eq_true rfl⟩ ?_
      refine k0 (pl_ge (by decide) ?_)
      revert c2
      rw [Int32.lt_iff_toInt_lt, Int32.le_iff_toInt_le, nI_toInt (by decide), nI_toInt (by decide)]
      omega
    · refine ok_iconst (v := nI 1) dX4_isCards_10 (by decide) ?_
      refine ok_goto (tgt := 15) dX4_isCards_11 (by decide) ?_
      refine ok_iret dX4_isCards_15 rfl rfl ⟨Nat.le_of_ble_eq_true rfl, Nat.le_of_ble_eq_true rfl⟩ ?_
      obtain ⟨j, e1, e2, e3⟩ := pl_in (n := 19) (i := p) (by decide) c1 (by
        revert c2
        rw [Int32.lt_iff_toInt_lt, Int32.le_iff_toInt_le, nI_toInt (by decide), nI_toInt (by decide)]
        omega)
      exact k1 j e1 e2 e3
theorem c_X3_clear (ha : hc h a = some (rowc b n c)) (k : ∀ h', hx [a] h h' → hc h' a = some (rowc b 0 0) → Q none h') : Ok g MX3_clear (m_J g MX3_clear Q) 0 [some (.ref a)] [] h 0 0 := by
  refine ok_aload_n dX3_clear_0 rfl rfl ?_
  refine ok_iconst (v := nI 0) dX3_clear_1 (by decide) ?_
  refine okR_put dX3_clear_2 fl_X3_15 (by assumption) (Nat.le_of_ble_eq_true rfl) (fun _ => ⟨rfl, rfl⟩) set_3_1 (fun h1 hx1 he1 => ?_)
  refine ok_aload_n dX3_clear_5 rfl rfl ?_
  refine ok_iconst (v := nI 0) dX3_clear_6 (by decide) ?_
  refine okR_put dX3_clear_7 fl_X3_19 (by assumption) (Nat.le_of_ble_eq_true rfl) (fun _ => ⟨rfl, rfl⟩) set_3_2 (fun h2 hx2 he2 => ?_)
  refine ok_vret dX3_clear_10 rfl ⟨Nat.le_of_ble_eq_true rfl, Nat.le_of_ble_eq_true rfl⟩ ?_
  exact k h2 (hx1.tr' hx2) he2
theorem c_X3_has {i : Int32} (ha : hc h a = some (rowc b n c)) (hn : n ≤ 18) (k1 : ∀ j, pl n i = some j → j < n → i = nI j → Q (some (.int (nI 1))) h) (k0 : pl n i = none → Q (some (.int (nI 0))) h) : Ok g MX3_has (m_J g MX3_has Q) 0 [some (.ref a), some (.int i)] [] h 0 0 := by
  refine ok_iload_n dX3_has_0 rfl ?_
  refine ok_if_lt (tgt := 16) dX3_has_1 (by decide) (fun c1 => ?_) (fun c1 => ?_)
  · refine ok_iconst (v := nI 0) dX3_has_16 (by decide) ?_
    refine ok_iret dX3_has_17 rfl rfl ⟨Nat.le_of_ble_eq_true rfl, Nat.le_of_ble_eq_true rfl⟩ ?_
    exact k0 (pl_lt c1)
  · refine ok_iload_n dX3_has_4 rfl ?_
    refine ok_aload_n dX3_has_5 rfl rfl ?_
    refine ok_get dX3_has_6 fl_X3_15 (by assumption) (by rfl) ?_
    refine ok_icmp_ge (tgt := 16) dX3_has_9 (by decide) (fun c2 => ?_) (fun c2 => ?_)
    · refine ok_iconst (v := nI 0) dX3_has_16 (by decide) ?_
      refine ok_iret dX3_has_17 rfl rfl ⟨Nat.le_of_ble_eq_true rfl, Nat.le_of_ble_eq_true rfl⟩ ?_
      exact k0 (pl_ge (by omega) c2)
    · refine ok_iconst (v := nI 1) dX3_has_12 (by decide) ?_
      refine ok_goto (tgt := 17) dX3_has_13 (by decide) ?_
      refine ok_iret dX3_has_17 rfl rfl ⟨Nat.le_of_ble_eq_true rfl, Nat.le_of_ble_eq_true rfl⟩ ?_
      obtain ⟨j, e1, e2, e3⟩ := pl_in (n := n) (by omega) c1 c2
      exact k1 j e1 e2 e3
theorem c_X3_heapAt {i : Int32} (ha : hc h a = some (rowc b n c)) (hb : hc h b = some (aI 18 F)) (hn : n ≤ 18) (k1 : ∀ j, pl n i = some j → j < n → i = nI j → Q (some (.int (nI (F j)))) h) (k0 : pl n i = none → Q (some (.int (nI 0))) h) : Ok g MX3_heapAt (m_J g MX3_heapAt Q) 0 [some (.ref a), some (.int i)] [] h 0 0 := by
  refine ok_iload_n dX3_heapAt_0 rfl ?_
  refine ok_if_lt (tgt := 21) dX3_heapAt_1 (by decide) (fun c1 => ?_) (fun c1 => ?_)
  · refine ok_iconst (v := nI 0) dX3_heapAt_21 (by decide) ?_
    refine ok_iret dX3_heapAt_22 rfl rfl ⟨Nat.le_of_ble_eq_true rfl, Nat.le_of_ble_eq_true rfl⟩ ?_
    exact k0 (pl_lt c1)
  · refine ok_iload_n dX3_heapAt_4 rfl ?_
    refine ok_aload_n dX3_heapAt_5 rfl rfl ?_
    refine ok_get dX3_heapAt_6 fl_X3_15 (by assumption) (by rfl) ?_
    refine ok_icmp_ge (tgt := 21) dX3_heapAt_9 (by decide) (fun c2 => ?_) (fun c2 => ?_)
    · refine ok_iconst (v := nI 0) dX3_heapAt_21 (by decide) ?_
      refine ok_iret dX3_heapAt_22 rfl rfl ⟨Nat.le_of_ble_eq_true rfl, Nat.le_of_ble_eq_true rfl⟩ ?_
      exact k0 (pl_ge (by omega) c2)
    · obtain ⟨j, e1, e2, e3⟩ := pl_in (n := n) (by omega) c1 c2
      subst e3
      refine ok_aload_n dX3_heapAt_12 rfl rfl ?_
      refine ok_get dX3_heapAt_13 fl_X3_9 (by assumption) (by rfl) ?_
      refine ok_iload_n dX3_heapAt_16 rfl ?_
      first | refine okN_iald dX3_heapAt_17 (by assumption) (by omega) (by decide) ?_ | refine okN_kald dX3_heapAt_17 (by assumption) (by omega) (by decide) ?_
      refine ok_goto (tgt := 22) dX3_heapAt_18 (by decide) ?_
      refine ok_iret dX3_heapAt_22 rfl rfl ⟨Nat.le_of_ble_eq_true rfl, Nat.le_of_ble_eq_true rfl⟩ ?_
      exact k1 j e1 e2 rfl
theorem c_X3_hasRoomFor {m : Nat} (ha : hc h a = some (rowc b n c)) (hc' : c ≤ 18) (hm : m < 2 ^ 31) (k1 : m + c ≤ 18 → Q (some (.int (nI 1))) h) (k0 : 18 < m + c → Q (some (.int (nI 0))) h) : Ok g MX3_hasRoomFor (m_J g MX3_hasRoomFor Q) 0 [some (.ref a), some (.int (nI m))] [] h 0 0 := by
  refine ok_iload_n dX3_hasRoomFor_0 rfl ?_
  refine ok_bipush (v := nI 18) dX3_hasRoomFor_1 (by decide) ?_
  refine ok_aload_n dX3_hasRoomFor_3 rfl rfl ?_
  refine ok_get dX3_hasRoomFor_4 fl_X3_19 (by assumption) (by rfl) ?_
  first | refine okN_isub dX3_hasRoomFor_7 (by omega) ?_ | refine ok_isub dX3_hasRoomFor_7 ?_
  refine okN_icmp_gt (tgt := 15) dX3_hasRoomFor_8 (by decide) (by omega) (by omega) (fun c1 => ?_) (fun c1 => ?_)
  · refine ok_iconst (v := nI 0) dX3_hasRoomFor_15 (by decide) ?_
    refine ok_iret dX3_hasRoomFor_16 rfl rfl ⟨Nat.le_of_ble_eq_true rfl, Nat.le_of_ble_eq_true rfl⟩ ?_
    exact k0 (by omega)
  · refine ok_iconst (v := nI 1) dX3_hasRoomFor_11 (by decide) ?_
    refine ok_goto (tgt := 16) dX3_hasRoomFor_12 (by decide) ?_
    refine ok_iret dX3_hasRoomFor_16 rfl rfl ⟨Nat.le_of_ble_eq_true rfl, Nat.le_of_ble_eq_true rfl⟩ ?_
    exact k1 (by omega)
end ROW1
end
section
/-! ===== a row's methods that put and take ===== -/
section ROW2
variable {g : mG} {h : mH} {Q : Option Value → mH → Prop} {a b n c : Nat} {F : Nat → Nat} {l : List Nat}
/-- a heap without cards is none -/
theorem c_X3_put0 (k : Q none h) : Ok g MX3_put (m_J g MX3_put Q) 0 [some (.ref a), some (.int (nI 0)), none] [] h 0 0 := by
  refine ok_iload_n dX3_put_0 rfl ?_
  refine ok_iconst (v := nI 1) dX3_put_1 (by decide) ?_
  refine okN_icmp_lt (tgt := 22) dX3_put_2 (by decide) (by omega) (by omega) (fun c1 => ?_) (fun c1 => ?_)
  · refine ok_vret dX3_put_22 rfl ⟨Nat.le_of_ble_eq_true rfl, Nat.le_of_ble_eq_true rfl⟩ ?_
    exact k
  · exact absurd c1 (by omega)
theorem l_X3_put {m : Nat} (hab : a ≠ b) (hl : okl l) (hm : 1 ≤ m) (hs : m + l.sum ≤ 18) (k : ∀ h', hx [a, b] h h' → Rw h' a b (ins m l) → Q none h') :
    ∀ (i : Nat) (h1 : mH) (G : Nat → Nat), hx [a, b] h h1 → hc h1 a = some (rowc b l.length l.sum) → hc h1 b = some (aI 18 G) → i ≤ l.length → (∀ j, j < i → G j = l.getD j 0) → (∀ j, i ≤ j → j < l.length → G (j + 1) = l.getD j 0) → (∀ j, i ≤ j → j < l.length → l.getD j 0 < m) →
    Ok g MX3_put (m_J g MX3_put Q) 28 [some (.ref a), some (.int (nI m)), some (.int (nI i))] [] h1 0 0 := by
  have hlen := hl.len
  have hlen2 := len_sum l hl.2.1
  have fin : ∀ (i : Nat) (h1 : mH) (G : Nat → Nat), hx [a, b] h h1 → hc h1 a = some (rowc b l.length l.sum) → hc h1 b = some (aI 18 G) → i ≤ l.length → (∀ j, j < i → G j = l.getD j 0) → (∀ j, i ≤ j → j < l.length → G (j + 1) = l.getD j 0) → (∀ j, i ≤ j → j < l.length → l.getD j 0 < m) → (∀ q, q < i → m ≤ l.getD q 0) →
      Ok g MX3_put (m_J g MX3_put Q) 64 [some (.ref a), some (.int (nI m)), some (.int (nI i))] [] h1 0 0 := by
    intro i h1 G x1 ea eb hi g1 g2 g3 g4
    refine ok_aload_n dX3_put_64 rfl rfl ?_
    refine ok_get dX3_put_65 fl_X3_9 (by assumption) (by rfl) ?_
    refine ok_iload_n dX3_put_68 rfl ?_
    refine ok_iload_n dX3_put_69 rfl ?_
    first | refine okN_iast dX3_put_70 (by assumption) (by omega) (by decide) (fun h2 hx2 he2 => ?_) | refine okN_kast dX3_put_70 (by assumption) (by omega) (by decide) (fun h2 hx2 he2 => ?_)
    have ea2 := hx2.at (by simp [hab]) ea
    refine ok_aload_n dX3_put_71 rfl rfl ?_
    refine ok_dup dX3_put_72 rfl ?_
    refine ok_get dX3_put_73 fl_X3_15 (by assumption) (by rfl) ?_
    refine ok_iconst (v := nI 1) dX3_put_76 (by decide) ?_
    first | refine okN_iadd dX3_put_77 ?_ | refine ok_iadd dX3_put_77 ?_
    refine okR_put dX3_put_78 fl_X3_15 (by assumption) (Nat.le_of_ble_eq_true rfl) (fun _ => ⟨rfl, rfl⟩) set_3_1 (fun h3 hx3 he3 => ?_)
    have eb3 := hx3.at (by simp [Ne.symm hab]) he2
    refine ok_aload_n dX3_put_81 rfl rfl ?_
    refine ok_dup dX3_put_82 rfl ?_
    refine ok_get dX3_put_83 fl_X3_19 (by assumption) (by rfl) ?_
    refine ok_iload_n dX3_put_86 rfl ?_
    first | refine okN_iadd dX3_put_87 ?_ | refine ok_iadd dX3_put_87 ?_
    refine okR_put dX3_put_88 fl_X3_19 (by assumption) (Nat.le_of_ble_eq_true rfl) (fun _ => ⟨rfl, rfl⟩) set_3_2 (fun h4 hx4 he4 => ?_)
    refine ok_vret dX3_put_91 rfl ⟨Nat.le_of_ble_eq_true rfl, Nat.le_of_ble_eq_true rfl⟩ ?_
    have eb4 := hx4.at (by simp [Ne.symm hab]) eb3
    refine k h4 (((x1.tr hx2 (C := [a, b]) (by simp) (by simp)).tr hx3 (C := [a, b]) (by simp) (by simp)).tr hx4 (C := [a, b]) (by simp) (by simp)) ⟨?_, _, eb4, ?_⟩
    · rw [ins_len, ins_sum, Nat.add_comm m]
      exact he4
    · intro j hj
      rw [ins_len] at hj
      rw [ins_get m l i j hi g4 g3 hj]
      by_cases d : j < i
      · rw [if_pos d, up_ne (by omega), g1 j d]
      · rw [if_neg d]
        by_cases e : j = i
        · rw [if_pos e, e, up_eq]
        · rw [if_neg e, up_ne e]
          obtain ⟨j', rfl⟩ : ∃ j', j = j' + 1 := ⟨j - 1, by omega⟩
          exact g2 j' (by omega) (by omega)
  intro i
  induction i with
  | zero =>
    intro h1 G x1 ea eb hi g1 g2 g3
    refine ok_iload_n dX3_put_28 rfl ?_
    refine okN_if_le (tgt := 64) dX3_put_29 (by decide) (by omega) (fun c1 => ?_) (fun c1 => ?_)
    · exact fin 0 h1 G x1 ea eb hi g1 g2 g3 (fun q hq => by omega)
    · exact absurd c1 (by omega)
  | succ i ih =>
    intro h1 G x1 ea eb hi g1 g2 g3
    have gi := g1 i (by omega)
    have gb := gd_sum l i
    refine ok_iload_n dX3_put_28 rfl ?_
    refine okN_if_le (tgt := 64) dX3_put_29 (by decide) (by omega) (fun c1 => ?_) (fun c1 => ?_)
    · exact absurd c1 (by omega)
    · refine ok_aload_n dX3_put_32 rfl rfl ?_
      refine ok_get dX3_put_33 fl_X3_9 (by assumption) (by rfl) ?_
      refine ok_iload_n dX3_put_36 rfl ?_
      refine ok_iconst (v := nI 1) dX3_put_37 (by decide) ?_
      first | refine okN_isub dX3_put_38 (by omega) ?_ | refine ok_isub dX3_put_38 ?_
      first | refine okN_iald dX3_put_39 (by assumption) (by omega) (by decide) ?_ | refine okN_kald dX3_put_39 (by assumption) (by omega) (by decide) ?_
      refine ok_iload_n dX3_put_40 rfl ?_
      rw [show i + 1 - 1 = i by omega, gi]
      refine okN_icmp_ge (tgt := 64) dX3_put_41 (by decide) (by omega) (by omega) (fun c2 => ?_) (fun c2 => ?_)
      · refine fin (i + 1) h1 G x1 ea eb hi g1 g2 g3 (fun q hq => ?_)
        have := srt_get l q i hl.1 (by omega) (by omega)
        omega
      · refine ok_aload_n dX3_put_44 rfl rfl ?_
        refine ok_get dX3_put_45 fl_X3_9 (by assumption) (by rfl) ?_
        refine ok_iload_n dX3_put_48 rfl ?_
        refine ok_aload_n dX3_put_49 rfl rfl ?_
        refine ok_get dX3_put_50 fl_X3_9 (by assumption) (by rfl) ?_
        refine ok_iload_n dX3_put_53 rfl ?_
        refine ok_iconst (v := nI 1) dX3_put_54 (by decide) ?_
        first | refine okN_isub dX3_put_55 (by omega) ?_ | refine ok_isub dX3_put_55 ?_
        first | refine okN_iald dX3_put_56 (by assumption) (by omega) (by decide) ?_ | refine okN_kald dX3_put_56 (by assumption) (by omega) (by decide) ?_
        rw [show i + 1 - 1 = i by omega]
        first | refine okN_iast dX3_put_57 (by assumption) (by omega) (by decide) (fun h2 hx2 he2 => ?_) | refine okN_kast dX3_put_57 (by assumption) (by omega) (by decide) (fun h2 hx2 he2 => ?_)
        refine okN_dec dX3_put_58 rfl (by omega) (st_3_2 rfl) (Nat.le_of_ble_eq_true rfl) ?_
        refine ok_goto (tgt := 28) dX3_put_61 (by decide) ?_
        refine ih h2 _ (x1.tr hx2 (by simp) (by simp)) (hx2.at (by simp [hab]) ea) he2 (by omega) (fun j hj => ?_) (fun j h3 h4 => ?_) (fun j h3 h4 => ?_)
        · rw [up_ne (by omega), g1 j (by omega)]
        · by_cases e : j = i
          · subst e; rw [up_eq, gi]
          · rw [up_ne (by omega)]
            exact g2 j (by omega) h4
        · by_cases e : j = i
          · subst e; exact c2
          · exact g3 j (by omega) h4
theorem c_X3_put {m : Nat} (r : Rw h a b l) (hab : a ≠ b) (hl : okl l) (hm : 1 ≤ m) (hs : m + l.sum ≤ 18) (k : ∀ h', hx [a, b] h h' → Rw h' a b (ins m l) → Q none h') : Ok g MX3_put (m_J g MX3_put Q) 0 [some (.ref a), some (.int (nI m)), none] [] h 0 0 := by
  obtain ⟨ea, F, eb, hF⟩ := r
  have hlen := len_sum l hl.2.1
  refine ok_iload_n dX3_put_0 rfl ?_
  refine ok_iconst (v := nI 1) dX3_put_1 (by decide) ?_
  refine okN_icmp_lt (tgt := 22) dX3_put_2 (by decide) (by omega) (by omega) (fun c1 => ?_) (fun c1 => ?_)
  · exact absurd c1 (by omega)
  · refine ok_aload_n dX3_put_5 rfl rfl ?_
    refine ok_iload_n dX3_put_6 rfl ?_
    refine call_X3_hasRoomFor dX3_put_7 lk_X3_22 ⟨Nat.le_of_ble_eq_true rfl, Nat.le_of_ble_eq_true rfl, Nat.le_of_ble_eq_true rfl⟩ (by assumption) (Nat.le_of_ble_eq_true rfl) ?_
    refine c_X3_hasRoomFor ea (by omega) (by omega) (fun c2 => ?_) (fun c2 => absurd c2 (by omega))
    refine okN_if_eq (tgt := 22) dX3_put_10 (by decide) (by omega) (fun c3 => ?_) (fun c3 => ?_)
    · exact absurd c3 (by decide)
    · refine ok_aload_n dX3_put_13 rfl rfl ?_
      refine ok_get dX3_put_14 fl_X3_15 (by assumption) (by rfl) ?_
      refine ok_bipush (v := nI 18) dX3_put_17 (by decide) ?_
      refine okN_icmp_lt (tgt := 23) dX3_put_19 (by decide) (by omega) (by omega) (fun c4 => ?_) (fun c4 => ?_)
      · refine ok_aload_n dX3_put_23 rfl rfl ?_
        refine ok_get dX3_put_24 fl_X3_15 (by assumption) (by rfl) ?_
        refine ok_istore_n dX3_put_27 (st_3_2 rfl) (Nat.le_of_ble_eq_true rfl) ?_
        exact l_X3_put hab hl hm hs k l.length h F hx.rf ea eb (Nat.le_refl _) hF (fun j h1 h2 => absurd h1 (by omega)) (fun j h1 h2 => absurd h1 (by omega))
      · exact absurd c4 (by omega)
end ROW2
end
section
/-! ===== the rest of a row's methods, Arrays.fill ===== -/
def hfr (c : Nat) : List Nat → Nat
  | [] => 0
  | x :: t => if c ≤ x then hfr c t + 1 else 0
theorem hfr_eq (c : Nat) : ∀ (l : List Nat) (i : Nat), i ≤ l.length → (∀ j, j < i → c ≤ l.getD j 0) → (i < l.length → l.getD i 0 < c) → hfr c l = i
  | [], i, hi, _, _ => by simp at hi; subst hi; rfl
  | x :: t, 0, hi, _, h2 => by
    have := h2 (by simp)
    rw [List.getD_cons_zero] at this
    unfold hfr
    rw [if_neg (by omega)]
  | x :: t, i + 1, hi, h1, h2 => by
    have h3 := h1 0 (by omega)
    rw [List.getD_cons_zero] at h3
    unfold hfr
    rw [if_pos h3, hfr_eq c t i (by simpa using hi) (fun j hj => by have := h1 (j + 1) (by omega); rwa [List.getD_cons_succ] at this) (fun hj => by have := h2 (by simpa using hj); rwa [List.getD_cons_succ] at this)]
def uhN (l : List Nat) : Nat → Nat
  | 0 => 0
  | i + 1 => uhN l i + (if i = 0 ∨ l.getD i 0 ≠ l.getD (i - 1) 0 then 1 else 0)
theorem uhN_le (l : List Nat) : ∀ i, uhN l i ≤ i
  | 0 => Nat.le_refl _
  | i + 1 => by
    have := uhN_le l i
    unfold uhN
    split <;> omega
def tlN (l : List Nat) : Nat → Nat → Nat
  | 0 => fun _ => 0
  | i + 1 => up (tlN l i) (l.getD i 0) (tlN l i (l.getD i 0) + 1)
theorem tlN_le (l : List Nat) : ∀ i c, tlN l i c ≤ i
  | 0, c => Nat.le_refl _
  | i + 1, c => by
    unfold tlN
    by_cases e : c = l.getD i 0
    · rw [e, up_eq]
      have := tlN_le l i (l.getD i 0)
      omega
    · rw [up_ne e]
      have := tlN_le l i c
      omega
def dgN (l : List Nat) (s : Int64) : Nat → Int64
  | 0 => 31 * s + lN l.length
  | i + 1 => 31 * dgN l s i + lN (l.getD i 0)
def ppN (ls : List Nat) (f : Nat) (l : List Nat) : Nat → List Nat
  | 0 => l
  | i + 1 => ins (ls.getD (f + i) 0) (ppN ls f l i)
section ROW3
variable {g : mG} {h : mH} {Q : Option Value → mH → Prop} {a b n c : Nat} {F : Nat → Nat} {l : List Nat}
theorem l_X3_heapsFrom {m : Nat} (ea : hc h a = some (rowc b l.length l.sum)) (eb : hc h b = some (aI 18 F)) (hF : arr F l) (hl : okl l) (hm : m < 2 ^ 31) (k : Q (some (.int (nI (hfr m l)))) h) :
    ∀ (d i : Nat), i + d = l.length → (∀ j, j < i → m ≤ l.getD j 0) → Ok g MX3_heapsFrom (m_J g MX3_heapsFrom Q) 4 [some (.ref a), some (.int (nI m)), some (.int (nI i)), some (.int (nI i))] [] h 0 0 := by
  have hlen := hl.len
  intro d
  induction d with
  | zero =>
    intro i hi h1
    refine ok_iload_n dX3_heapsFrom_4 rfl ?_
    refine ok_aload_n dX3_heapsFrom_5 rfl rfl ?_
    refine ok_get dX3_heapsFrom_6 fl_X3_15 (by assumption) (by rfl) ?_
    refine okN_icmp_ge (tgt := 31) dX3_heapsFrom_9 (by decide) (by omega) (by omega) (fun c1 => ?_) (fun c1 => ?_)
    · refine ok_iload_n dX3_heapsFrom_31 rfl ?_
      refine ok_iret dX3_heapsFrom_32 rfl rfl ⟨Nat.le_of_ble_eq_true rfl, Nat.le_of_ble_eq_true rfl⟩ ?_
      rw [← hfr_eq m l i (by omega) h1 (fun q => by omega)]
      exact k
    · exact absurd c1 (by omega)
  | succ d ih =>
    intro i hi h1
    have gb := gd_sum l i
    have gs := hl.2.2
    refine ok_iload_n dX3_heapsFrom_4 rfl ?_
    refine ok_aload_n dX3_heapsFrom_5 rfl rfl ?_
    refine ok_get dX3_heapsFrom_6 fl_X3_15 (by assumption) (by rfl) ?_
    refine okN_icmp_ge (tgt := 31) dX3_heapsFrom_9 (by decide) (by omega) (by omega) (fun c1 => ?_) (fun c1 => ?_)
    · exact absurd c1 (by omega)
    · refine ok_aload_n dX3_heapsFrom_12 rfl rfl ?_
      refine ok_get dX3_heapsFrom_13 fl_X3_9 (by assumption) (by rfl) ?_
      refine ok_iload_n dX3_heapsFrom_16 rfl ?_
      first | refine okN_iald dX3_heapsFrom_17 (by assumption) (by omega) (by decide) ?_ | refine okN_kald dX3_heapsFrom_17 (by assumption) (by omega) (by decide) ?_
      refine ok_iload_n dX3_heapsFrom_18 rfl ?_
      rw [hF i c1]
      refine okN_icmp_lt (tgt := 31) dX3_heapsFrom_19 (by decide) (by omega) (by omega) (fun c2 => ?_) (fun c2 => ?_)
      · refine ok_iload_n dX3_heapsFrom_31 rfl ?_
        refine ok_iret dX3_heapsFrom_32 rfl rfl ⟨Nat.le_of_ble_eq_true rfl, Nat.le_of_ble_eq_true rfl⟩ ?_
        rw [← hfr_eq m l i (by omega) h1 (fun q => by omega)]
        exact k
      · refine okN_inc dX3_heapsFrom_22 rfl (st_4_2 rfl) (Nat.le_of_ble_eq_true rfl) ?_
        refine okN_inc dX3_heapsFrom_25 rfl (st_4_3 rfl) (Nat.le_of_ble_eq_true rfl) ?_
        refine ok_goto (tgt := 4) dX3_heapsFrom_28 (by decide) ?_
        refine ih (i + 1) (by omega) (fun j hj => ?_)
        by_cases e : j = i
        · rw [e]; exact c2
        · exact h1 j (by omega)
theorem c_X3_heapsFrom {m : Nat} (r : Rw h a b l) (hl : okl l) (hm : m < 2 ^ 31) (k : Q (some (.int (nI (hfr m l)))) h) : Ok g MX3_heapsFrom (m_J g MX3_heapsFrom Q) 0 [some (.ref a), some (.int (nI m)), none, none] [] h 0 0 := by
  obtain ⟨ea, F, eb, hF⟩ := r
  refine ok_iconst (v := nI 0) dX3_heapsFrom_0 (by decide) ?_
  refine ok_istore_n dX3_heapsFrom_1 (st_4_2 rfl) (Nat.le_of_ble_eq_true rfl) ?_
  refine ok_iconst (v := nI 0) dX3_heapsFrom_2 (by decide) ?_
  refine ok_istore_n dX3_heapsFrom_3 (st_4_3 rfl) (Nat.le_of_ble_eq_true rfl) ?_
  exact l_X3_heapsFrom ea eb hF hl hm k l.length 0 (by omega) (fun j hj => by omega)
theorem l_X3_unlikeHeaps (ea : hc h a = some (rowc b l.length l.sum)) (eb : hc h b = some (aI 18 F)) (hF : arr F l) (hl : okl l) (k : Q (some (.int (nI (uhN l l.length)))) h) :
    ∀ (d i : Nat), i + d = l.length → Ok g MX3_unlikeHeaps (m_J g MX3_unlikeHeaps Q) 4 [some (.ref a), some (.int (nI (uhN l i))), some (.int (nI i))] [] h 0 0 := by
  have hlen := hl.len
  have gs := hl.2.2
  intro d
  induction d with
  | zero =>
    intro i hi
    refine ok_iload_n dX3_unlikeHeaps_4 rfl ?_
    refine ok_aload_n dX3_unlikeHeaps_5 rfl rfl ?_
    refine ok_get dX3_unlikeHeaps_6 fl_X3_15 (by assumption) (by rfl) ?_
    refine okN_icmp_ge (tgt := 47) dX3_unlikeHeaps_9 (by decide) (by omega) (by omega) (fun c1 => ?_) (fun c1 => ?_)
    · refine ok_iload_n dX3_unlikeHeaps_47 rfl ?_
      refine ok_iret dX3_unlikeHeaps_48 rfl rfl ⟨Nat.le_of_ble_eq_true rfl, Nat.le_of_ble_eq_true rfl⟩ ?_
      rw [show i = l.length by omega]
      exact k
    · exact absurd c1 (by omega)
  | succ d ih =>
    intro i hi
    have gb := gd_sum l i
    have gb1 := gd_sum l (i - 1)
    have step : Ok g MX3_unlikeHeaps (m_J g MX3_unlikeHeaps Q) 4 [some (.ref a), some (.int (nI (uhN l (i + 1)))), some (.int (nI (i + 1)))] [] h 0 0 := ih (i + 1) (by omega)
    refine ok_iload_n dX3_unlikeHeaps_4 rfl ?_
    refine ok_aload_n dX3_unlikeHeaps_5 rfl rfl ?_
    refine ok_get dX3_unlikeHeaps_6 fl_X3_15 (by assumption) (by rfl) ?_
    refine okN_icmp_ge (tgt := 47) dX3_unlikeHeaps_9 (by decide) (by omega) (by omega) (fun c1 => ?_) (fun c1 => ?_)
    · exact absurd c1 (by omega)
    · refine ok_iload_n dX3_unlikeHeaps_12 rfl ?_
      refine ok_iload_n dX3_unlikeHeaps_13 rfl ?_
      refine okN_if_eq (tgt := 34) dX3_unlikeHeaps_14 (by decide) (by omega) (fun c2 => ?_) (fun c2 => ?_)
      · refine ok_iconst (v := nI 1) dX3_unlikeHeaps_34 (by decide) ?_
        refine ok_goto (tgt := 39) dX3_unlikeHeaps_35 (by decide) ?_
        first | refine okN_iadd dX3_unlikeHeaps_39 ?_ | refine ok_iadd dX3_unlikeHeaps_39 ?_
        refine ok_istore_n dX3_unlikeHeaps_40 (st_3_1 rfl) (Nat.le_of_ble_eq_true rfl) ?_
        refine okN_inc dX3_unlikeHeaps_41 rfl (st_3_2 rfl) (Nat.le_of_ble_eq_true rfl) ?_
        refine ok_goto (tgt := 4) dX3_unlikeHeaps_44 (by decide) ?_
        unfold uhN at step
        rw [if_pos (Or.inl c2)] at step
        exact step
      · refine ok_aload_n dX3_unlikeHeaps_17 rfl rfl ?_
        refine ok_get dX3_unlikeHeaps_18 fl_X3_9 (by assumption) (by rfl) ?_
        refine ok_iload_n dX3_unlikeHeaps_21 rfl ?_
        first | refine okN_iald dX3_unlikeHeaps_22 (by assumption) (by omega) (by decide) ?_ | refine okN_kald dX3_unlikeHeaps_22 (by assumption) (by omega) (by decide) ?_
        refine ok_aload_n dX3_unlikeHeaps_23 rfl rfl ?_
        refine ok_get dX3_unlikeHeaps_24 fl_X3_9 (by assumption) (by rfl) ?_
        refine ok_iload_n dX3_unlikeHeaps_27 rfl ?_
        refine ok_iconst (v := nI 1) dX3_unlikeHeaps_28 (by decide) ?_
        first | refine okN_isub dX3_unlikeHeaps_29 (by omega) ?_ | refine ok_isub dX3_unlikeHeaps_29 ?_
        first | refine okN_iald dX3_unlikeHeaps_30 (by assumption) (by omega) (by decide) ?_ | refine okN_kald dX3_unlikeHeaps_30 (by assumption) (by omega) (by decide) ?_
        rw [hF i c1, hF (i - 1) (by omega)]
        refine okN_icmp_eq (tgt := 38) dX3_unlikeHeaps_31 (by decide) (by omega) (by omega) (fun c3 => ?_) (fun c3 => ?_)
        · refine ok_iconst (v := nI 0) dX3_unlikeHeaps_38 (by decide) ?_
          first | refine okN_iadd dX3_unlikeHeaps_39 ?_ | refine ok_iadd dX3_unlikeHeaps_39 ?_
          refine ok_istore_n dX3_unlikeHeaps_40 (st_3_1 rfl) (Nat.le_of_ble_eq_true rfl) ?_
          refine okN_inc dX3_unlikeHeaps_41 rfl (st_3_2 rfl) (Nat.le_of_ble_eq_true rfl) ?_
          refine ok_goto (tgt := 4) dX3_unlikeHeaps_44 (by decide) ?_
          unfold uhN at step
          rw [if_neg (by omega)] at step
          exact step
        · refine ok_iconst (v := nI 1) dX3_unlikeHeaps_34 (by decide) ?_
          refine ok_goto (tgt := 39) dX3_unlikeHeaps_35 (by decide) ?_
          first | refine okN_iadd dX3_unlikeHeaps_39 ?_ | refine ok_iadd dX3_unlikeHeaps_39 ?_
          refine ok_istore_n dX3_unlikeHeaps_40 (st_3_1 rfl) (Nat.le_of_ble_eq_true rfl) ?_
          refine okN_inc dX3_unlikeHeaps_41 rfl (st_3_2 rfl) (Nat.le_of_ble_eq_true rfl) ?_
          refine ok_goto (tgt := 4) dX3_unlikeHeaps_44 (by decide) ?_
          unfold uhN at step
          rw [if_pos (Or.inr c3)] at step
          exact step
theorem c_X3_unlikeHeaps (r : Rw h a b l) (hl : okl l) (k : Q (some (.int (nI (uhN l l.length)))) h) : Ok g MX3_unlikeHeaps (m_J g MX3_unlikeHeaps Q) 0 [some (.ref a), none, none] [] h 0 0 := by
  obtain ⟨ea, F, eb, hF⟩ := r
  refine ok_iconst (v := nI 0) dX3_unlikeHeaps_0 (by decide) ?_
  refine ok_istore_n dX3_unlikeHeaps_1 (st_3_1 rfl) (Nat.le_of_ble_eq_true rfl) ?_
  refine ok_iconst (v := nI 0) dX3_unlikeHeaps_2 (by decide) ?_
  refine ok_istore_n dX3_unlikeHeaps_3 (st_3_2 rfl) (Nat.le_of_ble_eq_true rfl) ?_
  exact l_X3_unlikeHeaps ea eb hF hl k l.length 0 (by omega)
theorem l_J7_fillI {x N : Nat} (hN : N < 2 ^ 31) (k : ∀ h', hx [a] h h' → hc h' a = some (aI N (fun _ => x)) → Q none h') :
    ∀ (d i : Nat) (h1 : mH) (G : Nat → Nat), i + d = N → hx [a] h h1 → hc h1 a = some (aI N G) → (∀ j, j < i → G j = x) → Ok g MJ7_fill_53178 (m_J g MJ7_fill_53178 Q) 5 [some (.ref a), some (.int (nI x)), some (.int (nI i)), some (.int (nI N))] [] h1 0 0 := by
  intro d
  induction d with
  | zero =>
    intro i h1 G hi x1 ea hG
    refine ok_extI (G' := fun _ => x) ea (fun j hj => hG j (by omega)) (fun h2 x2 ea2 => ?_)
    refine ok_iload_n dJ7_fill_53178_5 rfl ?_
    refine ok_iload_n dJ7_fill_53178_6 rfl ?_
    refine okN_icmp_ge (tgt := 20) dJ7_fill_53178_7 (by decide) (by omega) (by omega) (fun c1 => ?_) (fun c1 => ?_)
    · refine ok_vret dJ7_fill_53178_20 rfl ⟨Nat.le_of_ble_eq_true rfl, Nat.le_of_ble_eq_true rfl⟩ ?_
      exact k h2 (x1.tr' x2) ea2
    · exact absurd c1 (by omega)
  | succ d ih =>
    intro i h1 G hi x1 ea hG
    refine ok_iload_n dJ7_fill_53178_5 rfl ?_
    refine ok_iload_n dJ7_fill_53178_6 rfl ?_
    refine okN_icmp_ge (tgt := 20) dJ7_fill_53178_7 (by decide) (by omega) (by omega) (fun c1 => ?_) (fun c1 => ?_)
    · exact absurd c1 (by omega)
    · refine ok_aload_n dJ7_fill_53178_10 rfl rfl ?_
      refine ok_iload_n dJ7_fill_53178_11 rfl ?_
      refine ok_iload_n dJ7_fill_53178_12 rfl ?_
      refine okN_iast dJ7_fill_53178_13 ea (by omega) hN (fun h2 hx2 he2 => ?_)
      refine okN_inc dJ7_fill_53178_14 rfl (st_4_2 rfl) (Nat.le_of_ble_eq_true rfl) ?_
      refine ok_goto (tgt := 5) dJ7_fill_53178_17 (by decide) ?_
      refine ih (i + 1) h2 _ (by omega) (x1.tr' hx2) he2 (fun j hj => ?_)
      by_cases e : j = i
      · rw [e, up_eq]
      · rw [up_ne e]; exact hG j (by omega)
theorem c_J7_fillI {x N : Nat} (ea : hc h a = some (aI N F)) (hN : N < 2 ^ 31) (k : ∀ h', hx [a] h h' → hc h' a = some (aI N (fun _ => x)) → Q none h') : Ok g MJ7_fill_53178 (m_J g MJ7_fill_53178 Q) 0 [some (.ref a), some (.int (nI x)), none, none] [] h 0 0 := by
  refine ok_iconst (v := nI 0) dJ7_fill_53178_0 (by decide) ?_
  refine ok_istore_n dJ7_fill_53178_1 (st_4_2 rfl) (Nat.le_of_ble_eq_true rfl) ?_
  refine ok_aload_n dJ7_fill_53178_2 rfl rfl ?_
  first | refine okN_alen dJ7_fill_53178_3 (by assumption) ?_ | refine okJ_alen dJ7_fill_53178_3 (by assumption) ?_
  refine ok_istore_n dJ7_fill_53178_4 (st_4_3 rfl) (Nat.le_of_ble_eq_true rfl) ?_
  exact l_J7_fillI hN k N 0 h F (by omega) hx.rf ea (fun j hj => by omega)
theorem l_J7_fillJ {N : Nat} {x : Int64} (hN : N < 2 ^ 31) (k : ∀ h', hx [a] h h' → hc h' a = some (aJ N (fun _ => x)) → Q none h') :
    ∀ (d i : Nat) (h1 : mH) (G : Nat → Int64), i + d = N → hx [a] h h1 → hc h1 a = some (aJ N G) → (∀ j, j < i → G j = x) → Ok g MJ7_fill_d0a16 (m_J g MJ7_fill_d0a16 Q) 6 [some (.ref a), some (.long x), none, some (.int (nI i)), some (.int (nI N))] [] h1 0 0 := by
  intro d
  induction d with
  | zero =>
    intro i h1 G hi x1 ea hG
    refine ok_extJ (G' := fun _ => x) ea (fun j hj => hG j (by omega)) (fun h2 x2 ea2 => ?_)
    refine ok_iload_n dJ7_fill_d0a16_6 rfl ?_
    refine ok_iload dJ7_fill_d0a16_7 rfl ?_
    refine okN_icmp_ge (tgt := 22) dJ7_fill_d0a16_9 (by decide) (by omega) (by omega) (fun c1 => ?_) (fun c1 => ?_)
    · refine ok_vret dJ7_fill_d0a16_22 rfl ⟨Nat.le_of_ble_eq_true rfl, Nat.le_of_ble_eq_true rfl⟩ ?_
      exact k h2 (x1.tr' x2) ea2
    · exact absurd c1 (by omega)
  | succ d ih =>
    intro i h1 G hi x1 ea hG
    refine ok_iload_n dJ7_fill_d0a16_6 rfl ?_
    refine ok_iload dJ7_fill_d0a16_7 rfl ?_
    refine okN_icmp_ge (tgt := 22) dJ7_fill_d0a16_9 (by decide) (by omega) (by omega) (fun c1 => ?_) (fun c1 => ?_)
    · exact absurd c1 (by omega)
    · refine ok_aload_n dJ7_fill_d0a16_12 rfl rfl ?_
      refine ok_iload_n dJ7_fill_d0a16_13 rfl ?_
      refine ok_lload_n dJ7_fill_d0a16_14 rfl ?_
      refine okN_last dJ7_fill_d0a16_15 ea (by omega) hN (fun h2 hx2 he2 => ?_)
      refine okN_inc dJ7_fill_d0a16_16 rfl (st_5_3 rfl) (Nat.le_of_ble_eq_true rfl) ?_
      refine ok_goto (tgt := 6) dJ7_fill_d0a16_19 (by decide) ?_
      refine ih (i + 1) h2 _ (by omega) (x1.tr' hx2) he2 (fun j hj => ?_)
      by_cases e : j = i
      · rw [e, up_eq]
      · rw [up_ne e]; exact hG j (by omega)
theorem c_J7_fillJ {N : Nat} {x : Int64} {G : Nat → Int64} (ea : hc h a = some (aJ N G)) (hN : N < 2 ^ 31) (k : ∀ h', hx [a] h h' → hc h' a = some (aJ N (fun _ => x)) → Q none h') : Ok g MJ7_fill_d0a16 (m_J g MJ7_fill_d0a16 Q) 0 [some (.ref a), some (.long x), none, none, none] [] h 0 0 := by
  refine ok_iconst (v := nI 0) dJ7_fill_d0a16_0 (by decide) ?_
  refine ok_istore_n dJ7_fill_d0a16_1 (st_5_3 rfl) (Nat.le_of_ble_eq_true rfl) ?_
  refine ok_aload_n dJ7_fill_d0a16_2 rfl rfl ?_
  first | refine okN_alen dJ7_fill_d0a16_3 (by assumption) ?_ | refine okJ_alen dJ7_fill_d0a16_3 (by assumption) ?_
  refine ok_istore dJ7_fill_d0a16_4 (st_5_4 rfl) (Nat.le_of_ble_eq_true rfl) ?_
  exact l_J7_fillJ hN k N 0 h G (by omega) hx.rf ea (fun j hj => by omega)
theorem l_X3_tallyInto {t : Nat} (hta : t ≠ a) (htb : t ≠ b) (hF : arr F l) (hl : okl l) (k : ∀ h', hx [t] h h' → hc h' t = some (aI 20 (tlN l l.length)) → Q none h') :
    ∀ (d i : Nat) (h1 : mH), i + d = l.length → hx [t] h h1 → hc h1 a = some (rowc b l.length l.sum) → hc h1 b = some (aI 18 F) → hc h1 t = some (aI 20 (tlN l i)) → ∀ z, Ok g MX3_tallyInto (m_J g MX3_tallyInto Q) 7 [some (.ref a), some (.ref t), some (.int (nI i)), z] [] h1 0 0 := by
  have hlen := hl.len
  have gs := hl.2.2
  intro d
  induction d with
  | zero =>
    intro i h1 hi x1 ea eb et z
    refine ok_iload_n dX3_tallyInto_7 rfl ?_
    refine ok_aload_n dX3_tallyInto_8 rfl rfl ?_
    refine ok_get dX3_tallyInto_9 fl_X3_15 (by assumption) (by rfl) ?_
    refine okN_icmp_ge (tgt := 41) dX3_tallyInto_12 (by decide) (by omega) (by omega) (fun c1 => ?_) (fun c1 => ?_)
    · refine ok_vret dX3_tallyInto_41 rfl ⟨Nat.le_of_ble_eq_true rfl, Nat.le_of_ble_eq_true rfl⟩ ?_
      rw [show i = l.length by omega] at et
      exact k h1 x1 et
    · exact absurd c1 (by omega)
  | succ d ih =>
    intro i h1 hi x1 ea eb et z
    have gb := gd_sum l i
    have tb := tlN_le l i (l.getD i 0)
    refine ok_iload_n dX3_tallyInto_7 rfl ?_
    refine ok_aload_n dX3_tallyInto_8 rfl rfl ?_
    refine ok_get dX3_tallyInto_9 fl_X3_15 (by assumption) (by rfl) ?_
    refine okN_icmp_ge (tgt := 41) dX3_tallyInto_12 (by decide) (by omega) (by omega) (fun c1 => ?_) (fun c1 => ?_)
    · exact absurd c1 (by omega)
    · refine ok_aload_n dX3_tallyInto_15 rfl rfl ?_
      refine ok_get dX3_tallyInto_16 fl_X3_9 (by assumption) (by rfl) ?_
      refine ok_iload_n dX3_tallyInto_19 rfl ?_
      first | refine okN_iald dX3_tallyInto_20 (by assumption) (by omega) (by decide) ?_ | refine okN_kald dX3_tallyInto_20 (by assumption) (by omega) (by decide) ?_
      rw [hF i c1]
      refine ok_istore_n dX3_tallyInto_21 (st_4_3 rfl) (Nat.le_of_ble_eq_true rfl) ?_
      refine ok_iload_n dX3_tallyInto_22 rfl ?_
      refine ok_aload_n dX3_tallyInto_23 rfl rfl ?_
      first | refine okN_alen dX3_tallyInto_24 (by assumption) ?_ | refine okJ_alen dX3_tallyInto_24 (by assumption) ?_
      refine okN_icmp_ge (tgt := 35) dX3_tallyInto_25 (by decide) (by omega) (by omega) (fun c2 => ?_) (fun c2 => ?_)
      · exact absurd c2 (by omega)
      · refine ok_aload_n dX3_tallyInto_28 rfl rfl ?_
        refine ok_iload_n dX3_tallyInto_29 rfl ?_
        refine ok_dup2 dX3_tallyInto_30 rfl rfl ?_
        first | refine okN_iald dX3_tallyInto_31 (by assumption) (by omega) (by decide) ?_ | refine okN_kald dX3_tallyInto_31 (by assumption) (by omega) (by decide) ?_
        refine ok_iconst (v := nI 1) dX3_tallyInto_32 (by decide) ?_
        first | refine okN_iadd dX3_tallyInto_33 ?_ | refine ok_iadd dX3_tallyInto_33 ?_
        first | refine okN_iast dX3_tallyInto_34 (by assumption) (by omega) (by decide) (fun h2 hx2 he2 => ?_) | refine okN_kast dX3_tallyInto_34 (by assumption) (by omega) (by decide) (fun h2 hx2 he2 => ?_)
        refine okN_inc dX3_tallyInto_35 rfl (st_4_2 rfl) (Nat.le_of_ble_eq_true rfl) ?_
        refine ok_goto (tgt := 7) dX3_tallyInto_38 (by decide) ?_
        exact ih (i + 1) h2 (by omega) (x1.tr' hx2) (hx2.at (by simp [Ne.symm hta]) ea) (hx2.at (by simp [Ne.symm htb]) eb) he2 _
theorem c_X3_tallyInto {t : Nat} {G : Nat → Nat} (r : Rw h a b l) (hta : t ≠ a) (htb : t ≠ b) (hl : okl l) (et : hc h t = some (aI 20 G)) (k : ∀ h', hx [t] h h' → hc h' t = some (aI 20 (tlN l l.length)) → Q none h') : Ok g MX3_tallyInto (m_J g MX3_tallyInto Q) 0 [some (.ref a), some (.ref t), none, none] [] h 0 0 := by
  obtain ⟨ea, F, eb, hF⟩ := r
  refine ok_aload_n dX3_tallyInto_0 rfl rfl ?_
  refine ok_iconst (v := nI 0) dX3_tallyInto_1 (by decide) ?_
  refine call_J7_fill_53178 dX3_tallyInto_2 lk_X3_37 ⟨Nat.le_of_ble_eq_true rfl, Nat.le_of_ble_eq_true rfl, Nat.le_of_ble_eq_true rfl⟩ (Nat.le_of_ble_eq_true rfl) ?_
  refine c_J7_fillI et (by decide) (fun h1 x1 e1 => ?_)
  refine ok_iconst (v := nI 0) dX3_tallyInto_5 (by decide) ?_
  refine ok_istore_n dX3_tallyInto_6 (st_4_2 rfl) (Nat.le_of_ble_eq_true rfl) ?_
  exact l_X3_tallyInto hta htb hF hl k l.length 0 h1 (by omega) x1 (x1.at (by simp [Ne.symm hta]) ea) (x1.at (by simp [Ne.symm htb]) eb) e1 _
theorem l_X3_digestOnto {s : Int64} (ea : hc h a = some (rowc b l.length l.sum)) (eb : hc h b = some (aI 18 F)) (hF : arr F l) (hl : okl l) (k : Q (some (.long (dgN l s l.length))) h) :
    ∀ (d i : Nat), i + d = l.length → Ok g MX3_digestOnto (m_J g MX3_digestOnto Q) 15 [some (.ref a), some (.long s), none, some (.long (dgN l s i)), none, some (.int (nI i))] [] h 0 0 := by
  have hlen := hl.len
  have gs := hl.2.2
  intro d
  induction d with
  | zero =>
    intro i hi
    refine ok_iload dX3_digestOnto_15 rfl ?_
    refine ok_aload_n dX3_digestOnto_17 rfl rfl ?_
    refine ok_get dX3_digestOnto_18 fl_X3_15 (by assumption) (by rfl) ?_
    refine okN_icmp_ge (tgt := 45) dX3_digestOnto_21 (by decide) (by omega) (by omega) (fun c1 => ?_) (fun c1 => ?_)
    · refine ok_lload_n dX3_digestOnto_45 rfl ?_
      refine ok_lret dX3_digestOnto_46 rfl ⟨Nat.le_of_ble_eq_true rfl, Nat.le_of_ble_eq_true rfl⟩ ?_
      rw [show i = l.length by omega]
      exact k
    · exact absurd c1 (by omega)
  | succ d ih =>
    intro i hi
    have gb := gd_sum l i
    refine ok_iload dX3_digestOnto_15 rfl ?_
    refine ok_aload_n dX3_digestOnto_17 rfl rfl ?_
    refine ok_get dX3_digestOnto_18 fl_X3_15 (by assumption) (by rfl) ?_
    refine okN_icmp_ge (tgt := 45) dX3_digestOnto_21 (by decide) (by omega) (by omega) (fun c1 => ?_) (fun c1 => ?_)
    · exact absurd c1 (by omega)
    · refine ok_ldc2 dX3_digestOnto_24 kl_X3_43 ?_
      refine ok_lload_n dX3_digestOnto_27 rfl ?_
      refine ok_lmul dX3_digestOnto_28 ?_
      refine ok_aload_n dX3_digestOnto_29 rfl rfl ?_
      refine ok_get dX3_digestOnto_30 fl_X3_9 (by assumption) (by rfl) ?_
      refine ok_iload dX3_digestOnto_33 rfl ?_
      first | refine okN_iald dX3_digestOnto_35 (by assumption) (by omega) (by decide) ?_ | refine okN_kald dX3_digestOnto_35 (by assumption) (by omega) (by decide) ?_
      rw [hF i c1]
      refine ok_i2l dX3_digestOnto_36 ?_
      rw [nI_l (by omega)]
      refine ok_ladd dX3_digestOnto_37 ?_
      refine ok_lstore_n dX3_digestOnto_38 (st2_6_3 rfl) (Nat.le_of_ble_eq_true rfl) ?_
      refine okN_inc dX3_digestOnto_39 rfl (st_6_5 rfl) (Nat.le_of_ble_eq_true rfl) ?_
      refine ok_goto (tgt := 15) dX3_digestOnto_42 (by decide) ?_
      exact ih (i + 1) (by omega)
theorem c_X3_digestOnto {s : Int64} (r : Rw h a b l) (hl : okl l) (k : Q (some (.long (dgN l s l.length))) h) : Ok g MX3_digestOnto (m_J g MX3_digestOnto Q) 0 [some (.ref a), some (.long s), none, none, none, none] [] h 0 0 := by
  obtain ⟨ea, F, eb, hF⟩ := r
  have hlen := hl.len
  refine ok_ldc2 dX3_digestOnto_0 kl_X3_43 ?_
  refine ok_lload_n dX3_digestOnto_3 rfl ?_
  refine ok_lmul dX3_digestOnto_4 ?_
  refine ok_aload_n dX3_digestOnto_5 rfl rfl ?_
  refine ok_get dX3_digestOnto_6 fl_X3_15 (by assumption) (by rfl) ?_
  refine ok_i2l dX3_digestOnto_9 ?_
  rw [nI_l (by omega)]
  refine ok_ladd dX3_digestOnto_10 ?_
  refine ok_lstore_n dX3_digestOnto_11 (st2_6_3 rfl) (Nat.le_of_ble_eq_true rfl) ?_
  refine ok_iconst (v := nI 0) dX3_digestOnto_12 (by decide) ?_
  refine ok_istore dX3_digestOnto_13 (st_6_5 rfl) (Nat.le_of_ble_eq_true rfl) ?_
  exact l_X3_digestOnto ea eb hF hl k l.length 0 (by omega)
theorem l_X3_putPart {sa sb f m : Nat} {ls : List Nat} (hab : a ≠ b) (h1a : sa ≠ a) (h1b : sa ≠ b) (h2a : sb ≠ a) (h2b : sb ≠ b) (hls : okl ls) (hf : f + m ≤ ls.length) (hs : ∀ i, i ≤ m → okl (ppN ls f l i)) (k : ∀ h', hx [a, b] h h' → Rw h' a b (ppN ls f l m) → Q none h') :
    ∀ (d i : Nat) (h1 : mH), i + d = m → hx [a, b] h h1 → Rw h1 a b (ppN ls f l i) → Rw h1 sa sb ls → Ok g MX3_putPart (m_J g MX3_putPart Q) 3 [some (.ref a), some (.ref sa), some (.int (nI f)), some (.int (nI m)), some (.int (nI i))] [] h1 0 0 := by
  have hlen := hls.len
  intro d
  induction d with
  | zero =>
    intro i h1 hi x1 r1 r2
    refine ok_iload dX3_putPart_3 rfl ?_
    refine ok_iload_n dX3_putPart_5 rfl ?_
    refine okN_icmp_ge (tgt := 27) dX3_putPart_6 (by decide) (by omega) (by omega) (fun c1 => ?_) (fun c1 => ?_)
    · refine ok_vret dX3_putPart_27 rfl ⟨Nat.le_of_ble_eq_true rfl, Nat.le_of_ble_eq_true rfl⟩ ?_
      rw [show i = m by omega] at r1
      exact k h1 x1 r1
    · exact absurd c1 (by omega)
  | succ d ih =>
    intro i h1 hi x1 r1 r2
    obtain ⟨ea, F, eb, hF⟩ := id r2
    have er := r1.1
    refine ok_iload dX3_putPart_3 rfl ?_
    refine ok_iload_n dX3_putPart_5 rfl ?_
    refine okN_icmp_ge (tgt := 27) dX3_putPart_6 (by decide) (by omega) (by omega) (fun c1 => ?_) (fun c1 => ?_)
    · exact absurd c1 (by omega)
    · refine ok_aload_n dX3_putPart_9 rfl rfl ?_
      refine ok_aload_n dX3_putPart_10 rfl rfl ?_
      refine ok_iload_n dX3_putPart_11 rfl ?_
      refine ok_iload dX3_putPart_12 rfl ?_
      first | refine okN_iadd dX3_putPart_14 ?_ | refine ok_iadd dX3_putPart_14 ?_
      refine call_X3_heapAt dX3_putPart_15 lk_X3_26 ⟨Nat.le_of_ble_eq_true rfl, Nat.le_of_ble_eq_true rfl, Nat.le_of_ble_eq_true rfl⟩ (by assumption) (Nat.le_of_ble_eq_true rfl) ?_
      have hp1 : 1 ≤ ls.getD (f + i) 0 := hls.2.1 _ (gd_mem ls (f + i) (by omega))
      have hs1 : (ls.getD (f + i) 0) + (ppN ls f l i).sum ≤ 18 := by
        have := (hs (i + 1) (by omega)).2.2
        unfold ppN at this
        rw [ins_sum] at this
        exact this
      refine c_X3_heapAt ea eb (by omega) (fun j e1 e2 e3 => ?_) (fun e => absurd e (by rw [pl_nI (by omega) (by omega)]; simp))
      have e4 : f + i = j := (nI_eq (by omega) (by omega)).mp e3
      subst e4
      rw [hF _ e2]
      refine call_X3_put dX3_putPart_18 lk_X3_30 ⟨Nat.le_of_ble_eq_true rfl, Nat.le_of_ble_eq_true rfl, Nat.le_of_ble_eq_true rfl⟩ (by assumption) (Nat.le_of_ble_eq_true rfl) ?_
      refine c_X3_put r1 hab (hs i (by omega)) hp1 hs1 (fun h2 x2 r3 => ?_)
      refine okN_inc dX3_putPart_21 rfl (st_5_4 rfl) (Nat.le_of_ble_eq_true rfl) ?_
      refine ok_goto (tgt := 3) dX3_putPart_24 (by decide) ?_
      exact ih (i + 1) h2 (by omega) (x1.tr' x2) r3 (r2.at x2 (by simp [h1a, h1b]) (by simp [h2a, h2b]))
theorem c_X3_putPart {sa sb f m : Nat} {ls : List Nat} (r1 : Rw h a b l) (r2 : Rw h sa sb ls) (hab : a ≠ b) (h1a : sa ≠ a) (h1b : sa ≠ b) (h2a : sb ≠ a) (h2b : sb ≠ b) (hls : okl ls) (hf : f + m ≤ ls.length) (hs : ∀ i, i ≤ m → okl (ppN ls f l i)) (k : ∀ h', hx [a, b] h h' → Rw h' a b (ppN ls f l m) → Q none h') :
    Ok g MX3_putPart (m_J g MX3_putPart Q) 0 [some (.ref a), some (.ref sa), some (.int (nI f)), some (.int (nI m)), none] [] h 0 0 := by
  refine ok_iconst (v := nI 0) dX3_putPart_0 (by decide) ?_
  refine ok_istore dX3_putPart_1 (st_5_4 rfl) (Nat.le_of_ble_eq_true rfl) ?_
  exact l_X3_putPart hab h1a h1b h2a h2b hls hf hs k m 0 h (by omega) hx.rf r1 r2
end ROW3
end
section
/-! ===== THE LIST, counted ===== -/
def capL : List Nat := [1, 1, 1, 1, 1, 1, 1, 1, 1, 1, 1, 1, 1, 1, 1, 1, 1, 1, 1, 0, 1, 1, 1, 1, 1, 1, 1, 1, 1, 1, 1, 1, 1, 1, 1, 1, 1, 1, 0, 1, 2, 2, 2, 2, 2, 2, 2, 2, 2, 2, 2, 2, 2, 2, 2, 2, 2, 0, 1, 2, 3, 3, 3, 3, 3, 3, 3, 3, 3, 3, 3, 3, 3, 3, 3, 3, 0, 1, 3, 4, 5, 5, 5, 5, 5, 5, 5, 5, 5, 5, 5, 5, 5, 5, 5, 0, 1, 3, 5, 6, 7, 7, 7, 7, 7, 7, 7, 7, 7, 7, 7, 7, 7, 7, 0, 1, 4, 7, 9, 10, 11, 11, 11, 11, 11, 11, 11, 11, 11, 11, 11, 11, 11, 0, 1, 4, 8, 11, 13, 14, 15, 15, 15, 15, 15, 15, 15, 15, 15, 15, 15, 15, 0, 1, 5, 10, 15, 18, 20, 21, 22, 22, 22, 22, 22, 22, 22, 22, 22, 22, 22, 0, 1, 5, 12, 18, 23, 26, 28, 29, 30, 30, 30, 30, 30, 30, 30, 30, 30, 30, 0, 1, 6, 14, 23, 30, 35, 38, 40, 41, 42, 42, 42, 42, 42, 42, 42, 42, 42, 0, 1, 6, 16, 27, 37, 44, 49, 52, 54, 55, 56, 56, 56, 56, 56, 56, 56, 56, 0, 1, 7, 19, 34, 47, 58, 65, 70, 73, 75, 76, 77, 77, 77, 77, 77, 77, 77, 0, 1, 7, 21, 39, 57, 71, 82, 89, 94, 97, 99, 100, 101, 101, 101, 101, 101, 101, 0, 1, 8, 24, 47, 70, 90, 105, 116, 123, 128, 131, 133, 134, 135, 135, 135, 135, 135, 0, 1, 8, 27, 54, 84, 110, 131, 146, 157, 164, 169, 172, 174, 175, 176, 176, 176, 176, 0, 1, 9, 30, 64, 101, 136, 164, 186, 201, 212, 219, 224, 227, 229, 230, 231, 231, 231, 0, 1, 9, 33, 72, 119, 163, 201, 230, 252, 267, 278, 285, 290, 293, 295, 296, 297, 297, 0, 1, 10, 37, 84, 141, 199, 248, 288, 318, 340, 355, 366, 373, 378, 381, 383, 384, 385]
def capF (i : Nat) : Nat := capL.getD i 0
def cap (n m : Nat) : Nat := capF (n * 19 + m)
theorem cap_mono : ∀ n, n < 19 → ∀ m, m < 19 → ∀ q, q < m + 1 → cap n q ≤ cap n m := by decide +kernel
theorem cap_small : ∀ i, i < 361 → capF i < 386 := by decide +kernel
theorem cap_0 : ∀ m, m < 19 → capF m = 1 := by decide +kernel
theorem cap_n0 : ∀ n, n < 18 → capF ((n + 1) * 19) = 0 := by decide +kernel
theorem cap_nm : ∀ n, n < 18 → ∀ m, m < 18 → capF ((n + 1) * 19 + (m + 1)) = capF ((n + 1) * 19 + m) + (if m ≤ n then capF ((n - m) * 19 + (m + 1)) else 0) := by decide +kernel
theorem cap_lt {n m : Nat} (hn : n < 19) (hm : m < 19) : cap n m < 386 := cap_small _ (by omega)
def Ls (h : mH) (a b : Nat) : Prop := hc h a = some (.inr (1, [.ref b])) ∧ hc h b = some (aI 361 capF)
theorem Ls.at {h h' : mH} {A : List Nat} {a b : Nat} (r : Ls h a b) (x : hx A h h') (n1 : a ∉ A) (n2 : b ∉ A) : Ls h' a b := ⟨x.at n1 r.1, x.at n2 r.2⟩
def nbN (l : List Nat) : Nat → Nat × Nat × Nat
  | 0 => (0, l.sum, l.sum)
  | i + 1 => ((nbN l i).1 + (cap (nbN l i).2.1 (nbN l i).2.2 - cap (nbN l i).2.1 (l.getD i 0)), (nbN l i).2.1 - l.getD i 0, l.getD i 0)
def nb (l : List Nat) : Nat := (nbN l l.length).1
theorem drop_sum : ∀ (l : List Nat) (i : Nat), i < l.length → (l.drop i).sum = l.getD i 0 + (l.drop (i + 1)).sum
  | [], i, h => by simp at h
  | x :: t, 0, h => by simp
  | x :: t, i + 1, h => by
    rw [List.drop_succ_cons, List.drop_succ_cons, List.getD_cons_succ]
    exact drop_sum t i (by simpa using h)
theorem nbN_inv {l : List Nat} (hl : okl l) : ∀ i, i ≤ l.length → (nbN l i).2.1 = (l.drop i).sum ∧ (nbN l i).2.2 < 19 ∧ (i < l.length → l.getD i 0 ≤ (nbN l i).2.2)
  | 0, _ => ⟨by simp [nbN], by have := hl.2.2; simp [nbN]; omega, fun _ => gd_sum l 0⟩
  | i + 1, hi => by
    obtain ⟨e1, e2, e3⟩ := nbN_inv hl i (by omega)
    have ds := drop_sum l i (by omega)
    have g1 := gd_sum l i
    have g2 := hl.2.2
    refine ⟨?_, ?_, fun q => ?_⟩
    · show (nbN l i).2.1 - l.getD i 0 = _
      omega
    · show l.getD i 0 < 19
      omega
    · show l.getD (i + 1) 0 ≤ l.getD i 0
      exact srt_get l i (i + 1) hl.1 (by omega) q
theorem drop_le : ∀ (l : List Nat) (i : Nat), (l.drop i).sum ≤ l.sum
  | [], i => by simp
  | x :: t, 0 => by simp
  | x :: t, i + 1 => by
    have := drop_le t i
    rw [List.drop_succ_cons, List.sum_cons]
    omega
def wrI (c : Nat) : Nat → Nat × Nat × List Nat → Nat × Nat × List Nat
  | 0, s => s
  | f + 1, s => if c ≤ s.1 then (if cap (s.1 - c) c ≤ s.2.1 then (s.1, s.2.1 - cap (s.1 - c) c, s.2.2) else wrI c f (s.1 - c, s.2.1, ins c s.2.2)) else s
def wrO (n : Nat) : Nat → Nat × Nat × List Nat → Nat × Nat × List Nat
  | 0, s => s
  | c + 1, s => wrO n c (wrI (c + 1) n s)
def wr (n k : Nat) : List Nat := (wrO n n (n, k, [])).2.2
def wrV (n : Nat) (s : Nat × Nat × List Nat) : Prop := okl s.2.2 ∧ s.2.2.sum + s.1 = n ∧ s.2.1 < 2 ^ 31
section LISTS
variable {g : mG} {h : mH} {Q : Option Value → mH → Prop} {a b ra rb : Nat} {l : List Nat}
theorem c_X1_cappedAt {n m : Nat} (r : Ls h a b) (hn : n < 19) (hm : m < 19) (k : Q (some (.int (nI (cap n m)))) h) : Ok g MX1_cappedAt (m_J g MX1_cappedAt Q) 0 [some (.ref a), some (.int (nI n)), some (.int (nI m))] [] h 0 0 := by
  obtain ⟨ea, eb⟩ := r
  refine ok_iload_n dX1_cappedAt_0 rfl ?_
  refine okN_if_lt (tgt := 34) dX1_cappedAt_1 (by decide) (by omega) ?_
  refine ok_iload_n dX1_cappedAt_4 rfl ?_
  refine ok_bipush (v := nI 19) dX1_cappedAt_5 (by decide) ?_
  refine okN_icmp_ge (tgt := 34) dX1_cappedAt_7 (by decide) (by omega) (by omega) (fun c2 => ?_) (fun c2 => ?_)
  · exact absurd c2 (by omega)
  · refine ok_iload_n dX1_cappedAt_10 rfl ?_
    refine okN_if_lt (tgt := 34) dX1_cappedAt_11 (by decide) (by omega) ?_
    refine ok_iload_n dX1_cappedAt_14 rfl ?_
    refine ok_bipush (v := nI 19) dX1_cappedAt_15 (by decide) ?_
    refine okN_icmp_ge (tgt := 34) dX1_cappedAt_17 (by decide) (by omega) (by omega) (fun c4 => ?_) (fun c4 => ?_)
    · exact absurd c4 (by omega)
    · refine ok_aload_n dX1_cappedAt_20 rfl rfl ?_
      refine ok_get dX1_cappedAt_21 fl_X1_9 (by assumption) (by rfl) ?_
      refine ok_iload_n dX1_cappedAt_24 rfl ?_
      refine ok_bipush (v := nI 19) dX1_cappedAt_25 (by decide) ?_
      first | refine okN_imul dX1_cappedAt_27 ?_ | refine ok_imul dX1_cappedAt_27 ?_
      refine ok_iload_n dX1_cappedAt_28 rfl ?_
      first | refine okN_iadd dX1_cappedAt_29 ?_ | refine ok_iadd dX1_cappedAt_29 ?_
      first | refine okN_iald dX1_cappedAt_30 (by assumption) (by omega) (by decide) ?_ | refine okN_kald dX1_cappedAt_30 (by assumption) (by omega) (by decide) ?_
      refine ok_goto (tgt := 35) dX1_cappedAt_31 (by decide) ?_
      refine ok_iret dX1_cappedAt_35 rfl rfl ⟨Nat.le_of_ble_eq_true rfl, Nat.le_of_ble_eq_true rfl⟩ ?_
      exact k
theorem c_X1_length {n : Nat} (r : Ls h a b) (hn : n < 19) (k : Q (some (.int (nI (cap n n)))) h) : Ok g MX1_length (m_J g MX1_length Q) 0 [some (.ref a), some (.int (nI n))] [] h 0 0 := by
  have ea := r.1
  refine ok_aload_n dX1_length_0 rfl rfl ?_
  refine ok_iload_n dX1_length_1 rfl ?_
  refine ok_iload_n dX1_length_2 rfl ?_
  refine call_X1_cappedAt dX1_length_3 lk_X1_15 ⟨Nat.le_of_ble_eq_true rfl, Nat.le_of_ble_eq_true rfl, Nat.le_of_ble_eq_true rfl⟩ (by assumption) (Nat.le_of_ble_eq_true rfl) ?_
  refine c_X1_cappedAt r hn hn ?_
  refine ok_iret dX1_length_6 rfl rfl ⟨Nat.le_of_ble_eq_true rfl, Nat.le_of_ble_eq_true rfl⟩ ?_
  exact k
theorem l_X1_numberOf {F : Nat → Nat} (r : Ls h a b) (er : hc h ra = some (rowc rb l.length l.sum)) (eb : hc h rb = some (aI 18 F)) (hF : arr F l) (hl : okl l) (k : Q (some (.int (nI (nb l)))) h) :
    ∀ (d i : Nat) (z : Option Value), i + d = l.length → Ok g MX1_numberOf (m_J g MX1_numberOf Q) 13 [some (.ref a), some (.ref ra), some (.int (nI (nbN l i).1)), some (.int (nI (nbN l i).2.1)), some (.int (nI (nbN l i).2.2)), some (.int (nI i)), z] [] h 0 0 := by
  have hlen := hl.len
  have ea := r.1
  intro d
  induction d with
  | zero =>
    intro i z hi
    refine ok_iload dX1_numberOf_13 rfl ?_
    refine ok_aload_n dX1_numberOf_15 rfl rfl ?_
    refine ok_get dX1_numberOf_16 fl_X1_25 (by assumption) (by rfl) ?_
    refine okN_icmp_ge (tgt := 63) dX1_numberOf_19 (by decide) (by omega) (by omega) (fun c1 => ?_) (fun c1 => ?_)
    · refine ok_iload_n dX1_numberOf_63 rfl ?_
      refine ok_iret dX1_numberOf_64 rfl rfl ⟨Nat.le_of_ble_eq_true rfl, Nat.le_of_ble_eq_true rfl⟩ ?_
      rw [show i = l.length by omega]
      exact k
    · exact absurd c1 (by omega)
  | succ d ih =>
    intro i z hi
    obtain ⟨e1, e2, e3⟩ := nbN_inv hl i (by omega)
    have ds := drop_sum l i (by omega)
    have dl := drop_le l i
    have g2 := hl.2.2
    have e3' := e3 (by omega)
    have nx := ih (i + 1)
    have cm := cap_mono (nbN l i).2.1 (by omega) (nbN l i).2.2 e2 (l.getD i 0) (by omega)
    refine ok_iload dX1_numberOf_13 rfl ?_
    refine ok_aload_n dX1_numberOf_15 rfl rfl ?_
    refine ok_get dX1_numberOf_16 fl_X1_25 (by assumption) (by rfl) ?_
    refine okN_icmp_ge (tgt := 63) dX1_numberOf_19 (by decide) (by omega) (by omega) (fun c1 => ?_) (fun c1 => ?_)
    · exact absurd c1 (by omega)
    · refine ok_aload_n dX1_numberOf_22 rfl rfl ?_
      refine ok_iload dX1_numberOf_23 rfl ?_
      refine call_X3_heapAt dX1_numberOf_25 lk_X1_28 ⟨Nat.le_of_ble_eq_true rfl, Nat.le_of_ble_eq_true rfl, Nat.le_of_ble_eq_true rfl⟩ (by assumption) (Nat.le_of_ble_eq_true rfl) ?_
      refine c_X3_heapAt er eb (by omega) (fun j q1 q2 q3 => ?_) (fun q => absurd q (by rw [pl_nI (by omega) (by omega)]; simp))
      have e4 : i = j := (nI_eq (by omega) (by omega)).mp q3
      subst e4
      rw [hF _ q2]
      refine ok_istore dX1_numberOf_28 (st_7_6 rfl) (Nat.le_of_ble_eq_true rfl) ?_
      refine ok_iload_n dX1_numberOf_30 rfl ?_
      refine ok_aload_n dX1_numberOf_31 rfl rfl ?_
      refine ok_iload_n dX1_numberOf_32 rfl ?_
      refine ok_iload dX1_numberOf_33 rfl ?_
      refine call_X1_cappedAt dX1_numberOf_35 lk_X1_15 ⟨Nat.le_of_ble_eq_true rfl, Nat.le_of_ble_eq_true rfl, Nat.le_of_ble_eq_true rfl⟩ (by assumption) (Nat.le_of_ble_eq_true rfl) ?_
      refine c_X1_cappedAt r (by omega) (by omega) ?_
      refine ok_aload_n dX1_numberOf_38 rfl rfl ?_
      refine ok_iload_n dX1_numberOf_39 rfl ?_
      refine ok_iload dX1_numberOf_40 rfl ?_
      refine call_X1_cappedAt dX1_numberOf_42 lk_X1_15 ⟨Nat.le_of_ble_eq_true rfl, Nat.le_of_ble_eq_true rfl, Nat.le_of_ble_eq_true rfl⟩ (by assumption) (Nat.le_of_ble_eq_true rfl) ?_
      refine c_X1_cappedAt r (by omega) (by omega) ?_
      first | refine okN_isub dX1_numberOf_45 (by omega) ?_ | refine ok_isub dX1_numberOf_45 ?_
      first | refine okN_iadd dX1_numberOf_46 ?_ | refine ok_iadd dX1_numberOf_46 ?_
      refine ok_istore_n dX1_numberOf_47 (st_7_2 rfl) (Nat.le_of_ble_eq_true rfl) ?_
      refine ok_iload_n dX1_numberOf_48 rfl ?_
      refine ok_iload dX1_numberOf_49 rfl ?_
      first | refine okN_isub dX1_numberOf_51 (by omega) ?_ | refine ok_isub dX1_numberOf_51 ?_
      refine ok_istore_n dX1_numberOf_52 (st_7_3 rfl) (Nat.le_of_ble_eq_true rfl) ?_
      refine ok_iload dX1_numberOf_53 rfl ?_
      refine ok_istore dX1_numberOf_55 (st_7_4 rfl) (Nat.le_of_ble_eq_true rfl) ?_
      refine okN_inc dX1_numberOf_57 rfl (st_7_5 rfl) (Nat.le_of_ble_eq_true rfl) ?_
      refine ok_goto (tgt := 13) dX1_numberOf_60 (by decide) ?_
      exact nx _ (by omega)
theorem c_X1_numberOf (r : Ls h a b) (rr : Rw h ra rb l) (hl : okl l) (k : Q (some (.int (nI (nb l)))) h) : Ok g MX1_numberOf (m_J g MX1_numberOf Q) 0 [some (.ref a), some (.ref ra), none, none, none, none, none] [] h 0 0 := by
  obtain ⟨er, F, eb, hF⟩ := rr
  refine ok_iconst (v := nI 0) dX1_numberOf_0 (by decide) ?_
  refine ok_istore_n dX1_numberOf_1 (st_7_2 rfl) (Nat.le_of_ble_eq_true rfl) ?_
  refine ok_aload_n dX1_numberOf_2 rfl rfl ?_
  refine ok_get dX1_numberOf_3 fl_X1_19 (by assumption) (by rfl) ?_
  refine ok_istore_n dX1_numberOf_6 (st_7_3 rfl) (Nat.le_of_ble_eq_true rfl) ?_
  refine ok_iload_n dX1_numberOf_7 rfl ?_
  refine ok_istore dX1_numberOf_8 (st_7_4 rfl) (Nat.le_of_ble_eq_true rfl) ?_
  refine ok_iconst (v := nI 0) dX1_numberOf_10 (by decide) ?_
  refine ok_istore dX1_numberOf_11 (st_7_5 rfl) (Nat.le_of_ble_eq_true rfl) ?_
  exact l_X1_numberOf r er eb hF hl k l.length 0 _ (by omega)
theorem l_X1_wrI {n kk c : Nat} (hab : ra ≠ rb) (h1a : a ≠ ra) (h1b : a ≠ rb) (h2a : b ≠ ra) (h2b : b ≠ rb) (hn : n < 19) (hc0 : 1 ≤ c) (hcn : c < 19) :
    ∀ (f i : Nat) (s : Nat × Nat × List Nat) (h1 : mH) (z : Option Value), i + f = n → wrV n s → hx [ra, rb] h h1 → Ls h1 a b → Rw h1 ra rb s.2.2 →
    (∀ (h' : mH) (z7 z8 : Option Value), hx [ra, rb] h h' → Ls h' a b → Rw h' ra rb (wrI c f s).2.2 → wrV n (wrI c f s) → Ok g MX1_write (m_J g MX1_write Q) 83 [some (.ref a), some (.ref ra), some (.int (nI n)), some (.int (nI kk)), some (.int (nI (wrI c f s).1)), some (.int (nI (wrI c f s).2.1)), some (.int (nI c)), z7, z8] [] h' 0 0) →
    Ok g MX1_write (m_J g MX1_write Q) 21 [some (.ref a), some (.ref ra), some (.int (nI n)), some (.int (nI kk)), some (.int (nI s.1)), some (.int (nI s.2.1)), some (.int (nI c)), some (.int (nI i)), z] [] h1 0 0 := by
  intro f
  induction f with
  | zero =>
    intro i s h1 z hi hV x1 r1 rr K
    refine ok_iload dX1_write_21 rfl ?_
    refine ok_iload_n dX1_write_23 rfl ?_
    refine okN_icmp_ge (tgt := 83) dX1_write_24 (by decide) (by omega) (by omega) (fun c1 => ?_) (fun c1 => ?_)
    · exact K h1 _ _ x1 r1 rr hV
    · exact absurd c1 (by omega)
  | succ f ih =>
    intro i s h1 z hi hV x1 r1 rr K
    obtain ⟨left, ahead, l⟩ := s
    obtain ⟨v1, v2, v3⟩ := hV
    dsimp only at v1 v2 v3 rr ⊢
    have ea := r1.1
    have er := rr.1
    refine ok_iload dX1_write_21 rfl ?_
    refine ok_iload_n dX1_write_23 rfl ?_
    refine okN_icmp_ge (tgt := 83) dX1_write_24 (by decide) (by omega) (by omega) (fun c1 => ?_) (fun c1 => ?_)
    · exact absurd c1 (by omega)
    · refine ok_iload dX1_write_27 rfl ?_
      refine ok_iload dX1_write_29 rfl ?_
      unfold wrI at K
      dsimp only at K
      refine okN_icmp_gt (tgt := 83) dX1_write_31 (by decide) (by omega) (by omega) (fun c2 => ?_) (fun c2 => ?_)
      · rw [if_neg (by omega)] at K
        exact K h1 _ _ x1 r1 rr ⟨v1, v2, v3⟩
      · rw [if_pos c2] at K
        refine ok_aload_n dX1_write_34 rfl rfl ?_
        refine ok_iload dX1_write_35 rfl ?_
        refine ok_iload dX1_write_37 rfl ?_
        first | refine okN_isub dX1_write_39 (by omega) ?_ | refine ok_isub dX1_write_39 ?_
        refine ok_iload dX1_write_40 rfl ?_
        refine call_X1_cappedAt dX1_write_42 lk_X1_15 ⟨Nat.le_of_ble_eq_true rfl, Nat.le_of_ble_eq_true rfl, Nat.le_of_ble_eq_true rfl⟩ (by assumption) (Nat.le_of_ble_eq_true rfl) ?_
        refine c_X1_cappedAt r1 (by omega) (by omega) ?_
        have cl := cap_lt (n := left - c) (m := c) (by omega) (by omega)
        refine ok_istore dX1_write_45 (st_9_8 rfl) (Nat.le_of_ble_eq_true rfl) ?_
        refine ok_iload dX1_write_47 rfl ?_
        refine ok_iload dX1_write_49 rfl ?_
        refine okN_icmp_lt (tgt := 64) dX1_write_51 (by decide) (by omega) (by omega) (fun c3 => ?_) (fun c3 => ?_)
        · rw [if_neg (by omega)] at K
          refine ok_aload_n dX1_write_64 rfl rfl ?_
          refine ok_iload dX1_write_65 rfl ?_
          refine call_X3_put dX1_write_67 lk_X1_35 ⟨Nat.le_of_ble_eq_true rfl, Nat.le_of_ble_eq_true rfl, Nat.le_of_ble_eq_true rfl⟩ (by assumption) (Nat.le_of_ble_eq_true rfl) ?_
          refine c_X3_put rr hab v1 hc0 (by omega) (fun h2 x2 r3 => ?_)
          refine ok_iload dX1_write_70 rfl ?_
          refine ok_iload dX1_write_72 rfl ?_
          first | refine okN_isub dX1_write_74 (by omega) ?_ | refine ok_isub dX1_write_74 ?_
          refine ok_istore dX1_write_75 (st_9_4 rfl) (Nat.le_of_ble_eq_true rfl) ?_
          refine okN_inc dX1_write_77 rfl (st_9_7 rfl) (Nat.le_of_ble_eq_true rfl) ?_
          refine ok_goto (tgt := 21) dX1_write_80 (by decide) ?_
          refine ih (i + 1) (left - c, ahead, ins c l) h2 _ (by omega) ⟨okl_ins v1 hc0 (by omega), ?_, v3⟩ (x1.tr' x2) (r1.at x2 (by simp [h1a, h1b]) (by simp [h2a, h2b])) r3 K
          show (ins c l).sum + (left - c) = n
          rw [ins_sum]
          omega
        · rw [if_pos c3] at K
          refine ok_iload dX1_write_54 rfl ?_
          refine ok_iload dX1_write_56 rfl ?_
          first | refine okN_isub dX1_write_58 (by omega) ?_ | refine ok_isub dX1_write_58 ?_
          refine ok_istore dX1_write_59 (st_9_5 rfl) (Nat.le_of_ble_eq_true rfl) ?_
          refine ok_goto (tgt := 83) dX1_write_61 (by decide) ?_
          exact K h1 _ _ x1 r1 rr ⟨v1, v2, by show ahead - _ < _; omega⟩
theorem l_X1_wrO {n kk : Nat} (hab : ra ≠ rb) (h1a : a ≠ ra) (h1b : a ≠ rb) (h2a : b ≠ ra) (h2b : b ≠ rb) (hn : n < 19) :
    ∀ (c : Nat) (s : Nat × Nat × List Nat) (h1 : mH) (z7 z8 : Option Value), c < 19 → wrV n s → hx [ra, rb] h h1 → Ls h1 a b → Rw h1 ra rb s.2.2 →
    (∀ (h' : mH), hx [ra, rb] h h' → Rw h' ra rb (wrO n c s).2.2 → okl (wrO n c s).2.2 → Q none h') →
    Ok g MX1_write (m_J g MX1_write Q) 13 [some (.ref a), some (.ref ra), some (.int (nI n)), some (.int (nI kk)), some (.int (nI s.1)), some (.int (nI s.2.1)), some (.int (nI c)), z7, z8] [] h1 0 0 := by
  intro c
  induction c with
  | zero =>
    intro s h1 z7 z8 hc0 hV x1 r1 rr K
    refine ok_iload dX1_write_13 rfl ?_
    refine okN_if_le (tgt := 89) dX1_write_15 (by decide) (by omega) (fun c1 => ?_) (fun c1 => ?_)
    · refine ok_vret dX1_write_89 rfl ⟨Nat.le_of_ble_eq_true rfl, Nat.le_of_ble_eq_true rfl⟩ ?_
      exact K h1 x1 rr hV.1
    · exact absurd c1 (by omega)
  | succ c ih =>
    intro s h1 z7 z8 hc0 hV x1 r1 rr K
    refine ok_iload dX1_write_13 rfl ?_
    refine okN_if_le (tgt := 89) dX1_write_15 (by decide) (by omega) (fun c1 => ?_) (fun c1 => ?_)
    · exact absurd c1 (by omega)
    · refine ok_iconst (v := nI 0) dX1_write_18 (by decide) ?_
      refine ok_istore dX1_write_19 (st_9_7 rfl) (Nat.le_of_ble_eq_true rfl) ?_
      refine l_X1_wrI (h := h) hab h1a h1b h2a h2b hn (by omega) hc0 n 0 s h1 _ (by omega) hV x1 r1 rr (fun h' y7 y8 x2 r2 rr2 hV2 => ?_)
      refine okN_dec dX1_write_83 rfl (by omega) (st_9_6 rfl) (Nat.le_of_ble_eq_true rfl) ?_
      refine ok_goto (tgt := 13) dX1_write_86 (by decide) ?_
      exact ih _ h' _ _ (by omega) hV2 x2 r2 rr2 K
theorem c_X1_write {n kk : Nat} (r : Ls h a b) (rr : Rw h ra rb l) (hab : ra ≠ rb) (h1a : a ≠ ra) (h1b : a ≠ rb) (h2a : b ≠ ra) (h2b : b ≠ rb) (hn : n < 19) (hk : kk < 2 ^ 31) (k : ∀ h', hx [ra, rb] h h' → Rw h' ra rb (wr n kk) → okl (wr n kk) → Q none h') :
    Ok g MX1_write (m_J g MX1_write Q) 0 [some (.ref a), some (.ref ra), some (.int (nI n)), some (.int (nI kk)), none, none, none, none, none] [] h 0 0 := by
  obtain ⟨er, F, eb, hF⟩ := rr
  refine ok_aload_n dX1_write_0 rfl rfl ?_
  refine call_X3_clear dX1_write_1 lk_X1_32 ⟨Nat.le_of_ble_eq_true rfl, Nat.le_of_ble_eq_true rfl, Nat.le_of_ble_eq_true rfl⟩ (by assumption) (Nat.le_of_ble_eq_true rfl) ?_
  refine c_X3_clear er (fun h1 x1 e1 => ?_)
  refine ok_iload_n dX1_write_4 rfl ?_
  refine ok_istore dX1_write_5 (st_9_4 rfl) (Nat.le_of_ble_eq_true rfl) ?_
  refine ok_iload_n dX1_write_7 rfl ?_
  refine ok_istore dX1_write_8 (st_9_5 rfl) (Nat.le_of_ble_eq_true rfl) ?_
  refine ok_iload_n dX1_write_10 rfl ?_
  refine ok_istore dX1_write_11 (st_9_6 rfl) (Nat.le_of_ble_eq_true rfl) ?_
  exact l_X1_wrO (h := h) hab h1a h1b h2a h2b hn n (n, kk, []) h1 _ _ hn ⟨okl_nil, by simp, hk⟩ (x1.mono (by simp)) (r.at x1 (by simp [h1a]) (by simp [h2a])) ⟨e1, F, x1.at (by simp [Ne.symm hab]) eb, fun i hi => by simp at hi⟩ k
end LISTS
end
section
/-! ===== a STEP by each RULE ===== -/
def put0 (m : Nat) (l : List Nat) : List Nat := if m = 0 then l else ins m l
def mn (x y : Nat) : Nat := if y < x then y else x
def geN (q : Nat) (ls : List Nat) : Nat → List Nat × Nat
  | 0 => ([], 0)
  | i + 1 => (put0 (ls.getD i 0 - mn q (ls.getD i 0)) (geN q ls i).1, (geN q ls i).2 + mn q (ls.getD i 0))
def ge (q : Nat) (ls : List Nat) : List Nat := put0 (geN q ls ls.length).2 (geN q ls ls.length).1
def gg (ls : List Nat) : List Nat := if ls.length = 0 then [] else ins 1 (ppN ls 1 (put0 (ls.getD 0 0 - 1) []) (ls.length - 1))
def glN (ls : List Nat) (f : Nat) : Nat → List Nat × Nat
  | 0 => ([], f)
  | i + 1 => (ins (ls.getD i 0 + (if (glN ls f i).2 = 0 then 0 else 1)) (glN ls f i).1, (glN ls f i).2 - (if (glN ls f i).2 = 0 then 0 else 1))
def gl (ls : List Nat) : List Nat := put0 (glN ls (ls.getD (ls.length - 1) 0) (ls.length - 1)).2 (glN ls (ls.getD (ls.length - 1) 0) (ls.length - 1)).1
def stp (r : Nat) (ls : List Nat) : List Nat := if r = 1 then gg ls else if r = 2 then ge 2 ls else if r = 3 then gl ls else ge 1 ls
theorem put0_sum (m : Nat) (l : List Nat) : (put0 m l).sum = m + l.sum := by
  unfold put0
  split
  · omega
  · exact ins_sum m l
theorem okl_put0 {m : Nat} {l : List Nat} (h : okl l) (hs : m + l.sum ≤ 18) : okl (put0 m l) := by
  unfold put0
  split
  · exact h
  · exact okl_ins h (by omega) hs
theorem mn_le (x y : Nat) : mn x y ≤ y := by
  unfold mn
  split <;> omega
def tsum (ls : List Nat) (i : Nat) : Nat := (ls.take i).sum
theorem tsum_succ : ∀ (ls : List Nat) (i : Nat), i < ls.length → tsum ls (i + 1) = tsum ls i + ls.getD i 0
  | [], i, h => by simp at h
  | x :: t, 0, h => by simp [tsum]
  | x :: t, i + 1, h => by
    have := tsum_succ t i (by simpa using h)
    unfold tsum at this ⊢
    rw [List.take_succ_cons, List.sum_cons, this, List.take_succ_cons, List.sum_cons, List.getD_cons_succ]
    omega
theorem tsum_len (ls : List Nat) : tsum ls ls.length = ls.sum := by simp [tsum]
theorem tsum_0 (ls : List Nat) : tsum ls 0 = 0 := by simp [tsum]
theorem tsum_le : ∀ (ls : List Nat) (i : Nat), tsum ls i ≤ ls.sum
  | [], i => by simp [tsum]
  | x :: t, 0 => by simp [tsum]
  | x :: t, i + 1 => by
    have := tsum_le t i
    unfold tsum at this ⊢
    rw [List.take_succ_cons, List.sum_cons, List.sum_cons]
    omega
theorem geN_inv (q : Nat) {ls : List Nat} (hls : okl ls) : ∀ i, i ≤ ls.length → okl (geN q ls i).1 ∧ (geN q ls i).1.sum + (geN q ls i).2 = tsum ls i
  | 0, _ => ⟨okl_nil, by simp [geN, tsum]⟩
  | i + 1, hi => by
    obtain ⟨e1, e2⟩ := geN_inv q hls i (by omega)
    have ts := tsum_succ ls i (by omega)
    have tl := tsum_le ls (i + 1)
    have m1 := mn_le q (ls.getD i 0)
    have hs := hls.2.2
    refine ⟨okl_put0 e1 (by omega), ?_⟩
    show (put0 _ _).sum + ((geN q ls i).2 + _) = _
    rw [put0_sum]
    omega
theorem glN_inv {ls : List Nat} (hls : okl ls) (f : Nat) : ∀ i, i ≤ ls.length → f + tsum ls i ≤ 18 → okl (glN ls f i).1 ∧ (glN ls f i).1.sum + (glN ls f i).2 = f + tsum ls i
  | 0, _, _ => ⟨okl_nil, by simp [glN, tsum]⟩
  | i + 1, hi, hf => by
    have ts := tsum_succ ls i (by omega)
    obtain ⟨e1, e2⟩ := glN_inv hls f i (by omega) (by omega)
    have hp := hls.2.1 _ (gd_mem ls i (by omega))
    have key : (ls.getD i 0 + (if (glN ls f i).2 = 0 then 0 else 1)) + (glN ls f i).1.sum ≤ 18 := by split <;> omega
    refine ⟨okl_ins e1 (by omega) key, ?_⟩
    show (ins _ _).sum + ((glN ls f i).2 - _) = _
    rw [ins_sum]
    split <;> omega
section STEPS
variable {g : mG} {h : mH} {Q : Option Value → mH → Prop} {a b sa sb : Nat} {l ls : List Nat}
theorem c_X3_putZ {m : Nat} (r : Rw h a b l) (hab : a ≠ b) (hl : okl l) (hs : m + l.sum ≤ 18) (k : ∀ h', hx [a, b] h h' → Rw h' a b (put0 m l) → Q none h') : Ok g MX3_put (m_J g MX3_put Q) 0 [some (.ref a), some (.int (nI m)), none] [] h 0 0 := by
  unfold put0 at k
  by_cases c : m = 0
  · subst c
    rw [if_pos rfl] at k
    exact c_X3_put0 (k h hx.rf r)
  · rw [if_neg c] at k
    exact c_X3_put r hab hl (by omega) hs k
theorem c_X3_heapN {i : Nat} (r : Rw h a b l) (hl : okl l) (hi : i < l.length) (k : Q (some (.int (nI (l.getD i 0)))) h) : Ok g MX3_heapAt (m_J g MX3_heapAt Q) 0 [some (.ref a), some (.int (nI i))] [] h 0 0 := by
  obtain ⟨ea, F, eb, hF⟩ := r
  have hlen := hl.len
  refine c_X3_heapAt ea eb (by omega) (fun j q1 q2 q3 => ?_) (fun q => absurd q (by rw [pl_nI (by omega) (by omega)]; simp))
  have e4 : i = j := (nI_eq (by omega) (by omega)).mp q3
  subst e4
  rw [hF _ q2]
  exact k
theorem l_X4_giveFromEach {q : Nat} (hq : q < 2 ^ 31) (hab : a ≠ b) (h1a : sa ≠ a) (h1b : sa ≠ b) (h2a : sb ≠ a) (h2b : sb ≠ b) (hls : okl ls) (k : ∀ h', hx [a, b] h h' → Rw h' a b (ge q ls) → okl (ge q ls) → Q none h') :
    ∀ (d i : Nat) (h1 : mH) (z : Option Value), i + d = ls.length → hx [a, b] h h1 → Rw h1 sa sb ls → Rw h1 a b (geN q ls i).1 → Ok g MX4_giveFromEach (m_J g MX4_giveFromEach Q) 5 [some (.ref a), some (.ref sa), some (.int (nI q)), some (.int (nI (geN q ls i).2)), some (.int (nI i)), z] [] h1 0 0 := by
  have hlen := hls.len
  have hss := hls.2.2
  intro d
  induction d with
  | zero =>
    intro i h1 z hi x1 r2 r1
    have es := r2.1
    have er := r1.1
    obtain ⟨e1, e2⟩ := geN_inv q hls i (by omega)
    have tl := tsum_le ls i
    refine ok_iload dX4_giveFromEach_5 rfl ?_
    refine ok_aload_n dX4_giveFromEach_7 rfl rfl ?_
    refine ok_get dX4_giveFromEach_8 fl_X4_73 (by assumption) (by rfl) ?_
    refine okN_icmp_ge (tgt := 50) dX4_giveFromEach_11 (by decide) (by omega) (by omega) (fun c1 => ?_) (fun c1 => ?_)
    · refine ok_aload_n dX4_giveFromEach_50 rfl rfl ?_
      refine ok_iload_n dX4_giveFromEach_51 rfl ?_
      refine call_X3_put dX4_giveFromEach_52 lk_X4_69 ⟨Nat.le_of_ble_eq_true rfl, Nat.le_of_ble_eq_true rfl, Nat.le_of_ble_eq_true rfl⟩ (by assumption) (Nat.le_of_ble_eq_true rfl) ?_
      refine c_X3_putZ r1 hab e1 (by omega) (fun h2 x2 r3 => ?_)
      refine ok_vret dX4_giveFromEach_55 rfl ⟨Nat.le_of_ble_eq_true rfl, Nat.le_of_ble_eq_true rfl⟩ ?_
      have ei : i = ls.length := by omega
      subst ei
      exact k h2 (x1.tr' x2) r3 (okl_put0 e1 (by omega))
    · exact absurd c1 (by omega)
  | succ d ih =>
    intro i h1 z hi x1 r2 r1
    have es := r2.1
    have er := r1.1
    obtain ⟨e1, e2⟩ := geN_inv q hls i (by omega)
    have ts := tsum_succ ls i (by omega)
    have tl := tsum_le ls (i + 1)
    have gb := gd_sum ls i
    have ml := mn_le q (ls.getD i 0)
    refine ok_iload dX4_giveFromEach_5 rfl ?_
    refine ok_aload_n dX4_giveFromEach_7 rfl rfl ?_
    refine ok_get dX4_giveFromEach_8 fl_X4_73 (by assumption) (by rfl) ?_
    refine okN_icmp_ge (tgt := 50) dX4_giveFromEach_11 (by decide) (by omega) (by omega) (fun c1 => ?_) (fun c1 => ?_)
    · exact absurd c1 (by omega)
    · refine ok_iload_n dX4_giveFromEach_14 rfl ?_
      refine ok_aload_n dX4_giveFromEach_15 rfl rfl ?_
      refine ok_iload dX4_giveFromEach_16 rfl ?_
      refine call_X3_heapAt dX4_giveFromEach_18 lk_X4_80 ⟨Nat.le_of_ble_eq_true rfl, Nat.le_of_ble_eq_true rfl, Nat.le_of_ble_eq_true rfl⟩ (by assumption) (Nat.le_of_ble_eq_true rfl) ?_
      refine c_X3_heapN r2 hls c1 ?_
      refine okN_min dX4_giveFromEach_21 mmin_X4_221 (Nat.le_of_ble_eq_true rfl) ⟨Nat.le_of_ble_eq_true rfl, Nat.le_of_ble_eq_true rfl⟩ (Nat.le_of_ble_eq_true rfl) (by omega) (by omega) ?_
      rw [show (if ls.getD i 0 < q then ls.getD i 0 else q) = mn q (ls.getD i 0) from rfl]
      refine ok_istore dX4_giveFromEach_24 (st_6_5 rfl) (Nat.le_of_ble_eq_true rfl) ?_
      refine ok_aload_n dX4_giveFromEach_26 rfl rfl ?_
      refine ok_aload_n dX4_giveFromEach_27 rfl rfl ?_
      refine ok_iload dX4_giveFromEach_28 rfl ?_
      refine call_X3_heapAt dX4_giveFromEach_30 lk_X4_80 ⟨Nat.le_of_ble_eq_true rfl, Nat.le_of_ble_eq_true rfl, Nat.le_of_ble_eq_true rfl⟩ (by assumption) (Nat.le_of_ble_eq_true rfl) ?_
      refine c_X3_heapN r2 hls c1 ?_
      refine ok_iload dX4_giveFromEach_33 rfl ?_
      first | refine okN_isub dX4_giveFromEach_35 (by omega) ?_ | refine ok_isub dX4_giveFromEach_35 ?_
      refine call_X3_put dX4_giveFromEach_36 lk_X4_69 ⟨Nat.le_of_ble_eq_true rfl, Nat.le_of_ble_eq_true rfl, Nat.le_of_ble_eq_true rfl⟩ (by assumption) (Nat.le_of_ble_eq_true rfl) ?_
      refine c_X3_putZ r1 hab e1 (by omega) (fun h2 x2 r3 => ?_)
      refine ok_iload_n dX4_giveFromEach_39 rfl ?_
      refine ok_iload dX4_giveFromEach_40 rfl ?_
      first | refine okN_iadd dX4_giveFromEach_42 ?_ | refine ok_iadd dX4_giveFromEach_42 ?_
      refine ok_istore_n dX4_giveFromEach_43 (st_6_3 rfl) (Nat.le_of_ble_eq_true rfl) ?_
      refine okN_inc dX4_giveFromEach_44 rfl (st_6_4 rfl) (Nat.le_of_ble_eq_true rfl) ?_
      refine ok_goto (tgt := 5) dX4_giveFromEach_47 (by decide) ?_
      exact ih (i + 1) h2 _ (by omega) (x1.tr' x2) (r2.at x2 (by simp [h1a, h1b]) (by simp [h2a, h2b])) r3
theorem c_X4_giveFromEach {q : Nat} (r2 : Rw h sa sb ls) (r1 : Rw h a b []) (hq : q < 2 ^ 31) (hab : a ≠ b) (h1a : sa ≠ a) (h1b : sa ≠ b) (h2a : sb ≠ a) (h2b : sb ≠ b) (hls : okl ls) (k : ∀ h', hx [a, b] h h' → Rw h' a b (ge q ls) → okl (ge q ls) → Q none h') :
    Ok g MX4_giveFromEach (m_J g MX4_giveFromEach Q) 0 [some (.ref a), some (.ref sa), some (.int (nI q)), none, none, none] [] h 0 0 := by
  refine ok_iconst (v := nI 0) dX4_giveFromEach_0 (by decide) ?_
  refine ok_istore_n dX4_giveFromEach_1 (st_6_3 rfl) (Nat.le_of_ble_eq_true rfl) ?_
  refine ok_iconst (v := nI 0) dX4_giveFromEach_2 (by decide) ?_
  refine ok_istore dX4_giveFromEach_3 (st_6_4 rfl) (Nat.le_of_ble_eq_true rfl) ?_
  exact l_X4_giveFromEach (h := h) hq hab h1a h1b h2a h2b hls k ls.length 0 h _ (by omega) hx.rf r2 r1
theorem ppN_inv {ls l : List Nat} (hls : okl ls) (hl : okl l) (f : Nat) : ∀ i, f + i ≤ ls.length → l.sum + (tsum ls (f + i) - tsum ls f) ≤ 18 → okl (ppN ls f l i) ∧ (ppN ls f l i).sum = l.sum + (tsum ls (f + i) - tsum ls f)
  | 0, _, _ => ⟨hl, by simp [ppN]⟩
  | i + 1, hi, hf => by
    have ts := tsum_succ ls (f + i) (by omega)
    have mono : ∀ j, f + j ≤ ls.length → tsum ls f ≤ tsum ls (f + j) := by
      intro j
      induction j with
      | zero => intro _; exact Nat.le_refl _
      | succ j ih => intro hj; have := tsum_succ ls (f + j) (by omega); have := ih (by omega); rw [show f + (j + 1) = f + j + 1 by omega]; omega
    have m1 := mono i (by omega)
    rw [show f + (i + 1) = f + i + 1 by omega] at hf ⊢
    obtain ⟨e1, e2⟩ := ppN_inv hls hl f i (by omega) (by omega)
    have hp := hls.2.1 _ (gd_mem ls (f + i) (by omega))
    refine ⟨okl_ins e1 hp (by omega), ?_⟩
    show (ins _ _).sum = _
    rw [ins_sum]
    omega
theorem gg_ok {ls : List Nat} (hls : okl ls) (h0 : 0 < ls.length) : (∀ i, i ≤ ls.length - 1 → okl (ppN ls 1 (put0 (ls.getD 0 0 - 1) []) i)) ∧ (ppN ls 1 (put0 (ls.getD 0 0 - 1) []) (ls.length - 1)).sum + 1 = ls.sum ∧ okl (put0 (ls.getD 0 0 - 1) []) := by
  have hp := hls.2.1 _ (gd_mem ls 0 h0)
  have t1 := tsum_succ ls 0 h0
  rw [Nat.zero_add] at t1
  have t0 := tsum_0 ls
  have tl := tsum_len ls
  have hs := hls.2.2
  have g0 := gd_sum ls 0
  have hk : okl (put0 (ls.getD 0 0 - 1) []) := okl_put0 okl_nil (by rw [List.sum_nil]; omega)
  have ss : (put0 (ls.getD 0 0 - 1) []).sum = ls.getD 0 0 - 1 := by rw [put0_sum, List.sum_nil, Nat.add_zero]
  have all : ∀ i, 1 + i ≤ ls.length → okl (ppN ls 1 (put0 (ls.getD 0 0 - 1) []) i) ∧ (ppN ls 1 (put0 (ls.getD 0 0 - 1) []) i).sum = (ls.getD 0 0 - 1) + (tsum ls (1 + i) - tsum ls 1) := by
    intro i hi
    have tl2 := tsum_le ls (1 + i)
    have := ppN_inv hls hk 1 i hi (by rw [ss]; omega)
    rw [ss] at this
    exact this
  refine ⟨fun i hi => (all i (by omega)).1, ?_, hk⟩
  rw [(all (ls.length - 1) (by omega)).2, show 1 + (ls.length - 1) = ls.length by omega]
  have := tsum_le ls 1
  omega
theorem c_X4_giveFromGreatest (r2 : Rw h sa sb ls) (r1 : Rw h a b []) (hab : a ≠ b) (h1a : sa ≠ a) (h1b : sa ≠ b) (h2a : sb ≠ a) (h2b : sb ≠ b) (hls : okl ls) (k : ∀ h', hx [a, b] h h' → Rw h' a b (gg ls) → okl (gg ls) → Q none h') :
    Ok g MX4_giveFromGreatest (m_J g MX4_giveFromGreatest Q) 0 [some (.ref a), some (.ref sa)] [] h 0 0 := by
  have hlen := hls.len
  have hss := hls.2.2
  have es := r2.1
  have er := r1.1
  have g0 := gd_sum ls 0
  unfold gg at k
  refine ok_aload_n dX4_giveFromGreatest_0 rfl rfl ?_
  refine ok_get dX4_giveFromGreatest_1 fl_X4_73 (by assumption) (by rfl) ?_
  refine okN_if_le (tgt := 35) dX4_giveFromGreatest_4 (by decide) (by omega) (fun c1 => ?_) (fun c1 => ?_)
  · rw [if_pos c1] at k
    refine ok_vret dX4_giveFromGreatest_35 rfl ⟨Nat.le_of_ble_eq_true rfl, Nat.le_of_ble_eq_true rfl⟩ ?_
    exact k h hx.rf r1 okl_nil
  · rw [if_neg (by omega)] at k
    obtain ⟨w1, w2, w3⟩ := gg_ok hls c1
    have hp := hls.2.1 _ (gd_mem ls 0 c1)
    refine ok_aload_n dX4_giveFromGreatest_7 rfl rfl ?_
    refine ok_aload_n dX4_giveFromGreatest_8 rfl rfl ?_
    refine ok_iconst (v := nI 0) dX4_giveFromGreatest_9 (by decide) ?_
    refine call_X3_heapAt dX4_giveFromGreatest_10 lk_X4_80 ⟨Nat.le_of_ble_eq_true rfl, Nat.le_of_ble_eq_true rfl, Nat.le_of_ble_eq_true rfl⟩ (by assumption) (Nat.le_of_ble_eq_true rfl) ?_
    refine c_X3_heapN r2 hls c1 ?_
    refine ok_iconst (v := nI 1) dX4_giveFromGreatest_13 (by decide) ?_
    first | refine okN_isub dX4_giveFromGreatest_14 (by omega) ?_ | refine ok_isub dX4_giveFromGreatest_14 ?_
    refine call_X3_put dX4_giveFromGreatest_15 lk_X4_69 ⟨Nat.le_of_ble_eq_true rfl, Nat.le_of_ble_eq_true rfl, Nat.le_of_ble_eq_true rfl⟩ (by assumption) (Nat.le_of_ble_eq_true rfl) ?_
    refine c_X3_putZ r1 hab okl_nil (by rw [List.sum_nil]; omega) (fun h2 x2 r3 => ?_)
    have r4 := r2.at x2 (by simp [h1a, h1b]) (by simp [h2a, h2b])
    have er3 := r3.1
    have es4 := r4.1
    refine ok_aload_n dX4_giveFromGreatest_18 rfl rfl ?_
    refine ok_aload_n dX4_giveFromGreatest_19 rfl rfl ?_
    refine ok_iconst (v := nI 1) dX4_giveFromGreatest_20 (by decide) ?_
    refine ok_aload_n dX4_giveFromGreatest_21 rfl rfl ?_
    refine ok_get dX4_giveFromGreatest_22 fl_X4_73 (by assumption) (by rfl) ?_
    refine ok_iconst (v := nI 1) dX4_giveFromGreatest_25 (by decide) ?_
    first | refine okN_isub dX4_giveFromGreatest_26 (by omega) ?_ | refine ok_isub dX4_giveFromGreatest_26 ?_
    refine call_X3_putPart dX4_giveFromGreatest_27 lk_X4_86 ⟨Nat.le_of_ble_eq_true rfl, Nat.le_of_ble_eq_true rfl, Nat.le_of_ble_eq_true rfl⟩ (by assumption) (Nat.le_of_ble_eq_true rfl) ?_
    refine c_X3_putPart r3 r4 hab h1a h1b h2a h2b hls (by omega) w1 (fun h5 x5 r5 => ?_)
    have er5 := r5.1
    refine ok_aload_n dX4_giveFromGreatest_30 rfl rfl ?_
    refine ok_iconst (v := nI 1) dX4_giveFromGreatest_31 (by decide) ?_
    refine call_X3_put dX4_giveFromGreatest_32 lk_X4_69 ⟨Nat.le_of_ble_eq_true rfl, Nat.le_of_ble_eq_true rfl, Nat.le_of_ble_eq_true rfl⟩ (by assumption) (Nat.le_of_ble_eq_true rfl) ?_
    have wl := w1 (ls.length - 1) (Nat.le_refl _)
    refine c_X3_put r5 hab wl (by omega) (by omega) (fun h6 x6 r6 => ?_)
    refine ok_vret dX4_giveFromGreatest_35 rfl ⟨Nat.le_of_ble_eq_true rfl, Nat.le_of_ble_eq_true rfl⟩ ?_
    exact k h6 ((x2.tr' x5).tr' x6) r6 (okl_ins wl (by omega) (by omega))
theorem l_X4_giveLeastAway {f n : Nat} (hn : n < ls.length) (hf : f + tsum ls n ≤ 18) (hab : a ≠ b) (h1a : sa ≠ a) (h1b : sa ≠ b) (h2a : sb ≠ a) (h2b : sb ≠ b) (hls : okl ls) (k : ∀ h', hx [a, b] h h' → Rw h' a b (put0 (glN ls f n).2 (glN ls f n).1) → okl (put0 (glN ls f n).2 (glN ls f n).1) → Q none h') :
    ∀ (d i : Nat) (h1 : mH) (z : Option Value), i + d = n → hx [a, b] h h1 → Rw h1 sa sb ls → Rw h1 a b (glN ls f i).1 → Ok g MX4_giveLeastAway (m_J g MX4_giveLeastAway Q) 16 [some (.ref a), some (.ref sa), some (.int (nI n)), some (.int (nI (glN ls f i).2)), some (.int (nI i)), z] [] h1 0 0 := by
  have hlen := hls.len
  have hss := hls.2.2
  have mono : ∀ j, j ≤ n → tsum ls j ≤ tsum ls n := by
    have : ∀ d j, j + d = n → tsum ls j ≤ tsum ls n := by
      intro d
      induction d with
      | zero => intro j hj; rw [show j = n by omega]; exact Nat.le_refl _
      | succ d ih => intro j hj; have := ih (j + 1) (by omega); have := tsum_succ ls j (by omega); omega
    exact fun j hj => this (n - j) j (by omega)
  intro d
  induction d with
  | zero =>
    intro i h1 z hi x1 r2 r1
    have es := r2.1
    have er := r1.1
    have ei : i = n := by omega
    subst ei
    obtain ⟨e1, e2⟩ := glN_inv hls f i (by omega) hf
    refine ok_iload dX4_giveLeastAway_16 rfl ?_
    refine ok_iload_n dX4_giveLeastAway_18 rfl ?_
    refine okN_icmp_ge (tgt := 57) dX4_giveLeastAway_19 (by decide) (by omega) (by omega) (fun c1 => ?_) (fun c1 => ?_)
    · refine ok_aload_n dX4_giveLeastAway_57 rfl rfl ?_
      refine ok_iload_n dX4_giveLeastAway_58 rfl ?_
      refine call_X3_put dX4_giveLeastAway_59 lk_X4_69 ⟨Nat.le_of_ble_eq_true rfl, Nat.le_of_ble_eq_true rfl, Nat.le_of_ble_eq_true rfl⟩ (by assumption) (Nat.le_of_ble_eq_true rfl) ?_
      refine c_X3_putZ r1 hab e1 (by omega) (fun h2 x2 r3 => ?_)
      refine ok_vret dX4_giveLeastAway_62 rfl ⟨Nat.le_of_ble_eq_true rfl, Nat.le_of_ble_eq_true rfl⟩ ?_
      exact k h2 (x1.tr' x2) r3 (okl_put0 e1 (by omega))
    · exact absurd c1 (by omega)
  | succ d ih =>
    intro i h1 z hi x1 r2 r1
    have es := r2.1
    have er := r1.1
    have m1 := mono (i + 1) (by omega)
    have ts := tsum_succ ls i (by omega)
    obtain ⟨e1, e2⟩ := glN_inv hls f i (by omega) (by omega)
    have hp := hls.2.1 _ (gd_mem ls i (by omega))
    have nx := ih (i + 1)
    unfold glN at nx
    dsimp only at nx
    refine ok_iload dX4_giveLeastAway_16 rfl ?_
    refine ok_iload_n dX4_giveLeastAway_18 rfl ?_
    refine okN_icmp_ge (tgt := 57) dX4_giveLeastAway_19 (by decide) (by omega) (by omega) (fun c1 => ?_) (fun c1 => ?_)
    · exact absurd c1 (by omega)
    · refine ok_iload_n dX4_giveLeastAway_22 rfl ?_
      refine okN_if_le (tgt := 30) dX4_giveLeastAway_23 (by decide) (by omega) (fun c2 => ?_) (fun c2 => ?_)
      · rw [if_pos c2] at nx
        refine ok_iconst (v := nI 0) dX4_giveLeastAway_30 (by decide) ?_
        refine ok_istore dX4_giveLeastAway_31 (st_6_5 rfl) (Nat.le_of_ble_eq_true rfl) ?_
        refine ok_aload_n dX4_giveLeastAway_33 rfl rfl ?_
        refine ok_aload_n dX4_giveLeastAway_34 rfl rfl ?_
        refine ok_iload dX4_giveLeastAway_35 rfl ?_
        refine call_X3_heapAt dX4_giveLeastAway_37 lk_X4_80 ⟨Nat.le_of_ble_eq_true rfl, Nat.le_of_ble_eq_true rfl, Nat.le_of_ble_eq_true rfl⟩ (by assumption) (Nat.le_of_ble_eq_true rfl) ?_
        refine c_X3_heapN r2 hls (by omega) ?_
        refine ok_iload dX4_giveLeastAway_40 rfl ?_
        first | refine okN_iadd dX4_giveLeastAway_42 ?_ | refine ok_iadd dX4_giveLeastAway_42 ?_
        refine call_X3_put dX4_giveLeastAway_43 lk_X4_69 ⟨Nat.le_of_ble_eq_true rfl, Nat.le_of_ble_eq_true rfl, Nat.le_of_ble_eq_true rfl⟩ (by assumption) (Nat.le_of_ble_eq_true rfl) ?_
        refine c_X3_put r1 hab e1 (by omega) (by omega) (fun h2 x2 r3 => ?_)
        refine ok_iload_n dX4_giveLeastAway_46 rfl ?_
        refine ok_iload dX4_giveLeastAway_47 rfl ?_
        first | refine okN_isub dX4_giveLeastAway_49 (by omega) ?_ | refine ok_isub dX4_giveLeastAway_49 ?_
        refine ok_istore_n dX4_giveLeastAway_50 (st_6_3 rfl) (Nat.le_of_ble_eq_true rfl) ?_
        refine okN_inc dX4_giveLeastAway_51 rfl (st_6_4 rfl) (Nat.le_of_ble_eq_true rfl) ?_
        refine ok_goto (tgt := 16) dX4_giveLeastAway_54 (by decide) ?_
        exact nx h2 _ (by omega) (x1.tr' x2) (r2.at x2 (by simp [h1a, h1b]) (by simp [h2a, h2b])) r3
      · rw [if_neg (by omega)] at nx
        refine ok_iconst (v := nI 1) dX4_giveLeastAway_26 (by decide) ?_
        refine ok_goto (tgt := 31) dX4_giveLeastAway_27 (by decide) ?_
        refine ok_istore dX4_giveLeastAway_31 (st_6_5 rfl) (Nat.le_of_ble_eq_true rfl) ?_
        refine ok_aload_n dX4_giveLeastAway_33 rfl rfl ?_
        refine ok_aload_n dX4_giveLeastAway_34 rfl rfl ?_
        refine ok_iload dX4_giveLeastAway_35 rfl ?_
        refine call_X3_heapAt dX4_giveLeastAway_37 lk_X4_80 ⟨Nat.le_of_ble_eq_true rfl, Nat.le_of_ble_eq_true rfl, Nat.le_of_ble_eq_true rfl⟩ (by assumption) (Nat.le_of_ble_eq_true rfl) ?_
        refine c_X3_heapN r2 hls (by omega) ?_
        refine ok_iload dX4_giveLeastAway_40 rfl ?_
        first | refine okN_iadd dX4_giveLeastAway_42 ?_ | refine ok_iadd dX4_giveLeastAway_42 ?_
        refine call_X3_put dX4_giveLeastAway_43 lk_X4_69 ⟨Nat.le_of_ble_eq_true rfl, Nat.le_of_ble_eq_true rfl, Nat.le_of_ble_eq_true rfl⟩ (by assumption) (Nat.le_of_ble_eq_true rfl) ?_
        refine c_X3_put r1 hab e1 (by omega) (by omega) (fun h2 x2 r3 => ?_)
        refine ok_iload_n dX4_giveLeastAway_46 rfl ?_
        refine ok_iload dX4_giveLeastAway_47 rfl ?_
        first | refine okN_isub dX4_giveLeastAway_49 (by omega) ?_ | refine ok_isub dX4_giveLeastAway_49 ?_
        refine ok_istore_n dX4_giveLeastAway_50 (st_6_3 rfl) (Nat.le_of_ble_eq_true rfl) ?_
        refine okN_inc dX4_giveLeastAway_51 rfl (st_6_4 rfl) (Nat.le_of_ble_eq_true rfl) ?_
        refine ok_goto (tgt := 16) dX4_giveLeastAway_54 (by decide) ?_
        exact nx h2 _ (by omega) (x1.tr' x2) (r2.at x2 (by simp [h1a, h1b]) (by simp [h2a, h2b])) r3
theorem c_X4_giveLeastAway (r2 : Rw h sa sb ls) (r1 : Rw h a b []) (hab : a ≠ b) (h1a : sa ≠ a) (h1b : sa ≠ b) (h2a : sb ≠ a) (h2b : sb ≠ b) (hls : okl ls) (k : ∀ h', hx [a, b] h h' → Rw h' a b (gl ls) → okl (gl ls) → Q none h') :
    Ok g MX4_giveLeastAway (m_J g MX4_giveLeastAway Q) 0 [some (.ref a), some (.ref sa), none, none, none, none] [] h 0 0 := by
  have hlen := hls.len
  have hss := hls.2.2
  have es := r2.1
  have er := r1.1
  by_cases c0 : ls.length = 0
  · have e0 : ls = [] := List.eq_nil_of_length_eq_zero c0
    subst e0
    obtain ⟨es', F, eb, hF⟩ := r2
    refine ok_aload_n dX4_giveLeastAway_0 rfl rfl ?_
    refine ok_get dX4_giveLeastAway_1 fl_X4_73 (by assumption) (by rfl) ?_
    refine ok_iconst (v := nI 1) dX4_giveLeastAway_4 (by decide) ?_
    first | refine okN_isub dX4_giveLeastAway_5 (by omega) ?_ | refine ok_isub dX4_giveLeastAway_5 ?_
    refine ok_istore_n dX4_giveLeastAway_6 (st_6_2 rfl) (Nat.le_of_ble_eq_true rfl) ?_
    refine ok_aload_n dX4_giveLeastAway_7 rfl rfl ?_
    refine ok_iload_n dX4_giveLeastAway_8 rfl ?_
    refine call_X3_heapAt dX4_giveLeastAway_9 lk_X4_80 ⟨Nat.le_of_ble_eq_true rfl, Nat.le_of_ble_eq_true rfl, Nat.le_of_ble_eq_true rfl⟩ (by assumption) (Nat.le_of_ble_eq_true rfl) ?_
    refine c_X3_heapAt es' eb (by simp) (fun j q1 q2 q3 => absurd q2 (by simp)) (fun _ => ?_)
    refine ok_istore_n dX4_giveLeastAway_12 (st_6_3 rfl) (Nat.le_of_ble_eq_true rfl) ?_
    refine ok_iconst (v := nI 0) dX4_giveLeastAway_13 (by decide) ?_
    refine ok_istore dX4_giveLeastAway_14 (st_6_4 rfl) (Nat.le_of_ble_eq_true rfl) ?_
    refine ok_iload dX4_giveLeastAway_16 rfl ?_
    refine ok_iload_n dX4_giveLeastAway_18 rfl ?_
    refine ok_icmp_ge (tgt := 57) dX4_giveLeastAway_19 (by decide) (fun c1 => ?_) (fun c1 => ?_)
    · refine ok_aload_n dX4_giveLeastAway_57 rfl rfl ?_
      refine ok_iload_n dX4_giveLeastAway_58 rfl ?_
      refine call_X3_put dX4_giveLeastAway_59 lk_X4_69 ⟨Nat.le_of_ble_eq_true rfl, Nat.le_of_ble_eq_true rfl, Nat.le_of_ble_eq_true rfl⟩ (by assumption) (Nat.le_of_ble_eq_true rfl) ?_
      refine c_X3_put0 ?_
      refine ok_vret dX4_giveLeastAway_62 rfl ⟨Nat.le_of_ble_eq_true rfl, Nat.le_of_ble_eq_true rfl⟩ ?_
      exact k h hx.rf r1 okl_nil
    · exact absurd c1 (by decide)
  · have t1 := tsum_succ ls (ls.length - 1) (by omega)
    have tl := tsum_len ls
    rw [show ls.length - 1 + 1 = ls.length by omega] at t1
    refine ok_aload_n dX4_giveLeastAway_0 rfl rfl ?_
    refine ok_get dX4_giveLeastAway_1 fl_X4_73 (by assumption) (by rfl) ?_
    refine ok_iconst (v := nI 1) dX4_giveLeastAway_4 (by decide) ?_
    first | refine okN_isub dX4_giveLeastAway_5 (by omega) ?_ | refine ok_isub dX4_giveLeastAway_5 ?_
    refine ok_istore_n dX4_giveLeastAway_6 (st_6_2 rfl) (Nat.le_of_ble_eq_true rfl) ?_
    refine ok_aload_n dX4_giveLeastAway_7 rfl rfl ?_
    refine ok_iload_n dX4_giveLeastAway_8 rfl ?_
    refine call_X3_heapAt dX4_giveLeastAway_9 lk_X4_80 ⟨Nat.le_of_ble_eq_true rfl, Nat.le_of_ble_eq_true rfl, Nat.le_of_ble_eq_true rfl⟩ (by assumption) (Nat.le_of_ble_eq_true rfl) ?_
    refine c_X3_heapN r2 hls (by omega) ?_
    refine ok_istore_n dX4_giveLeastAway_12 (st_6_3 rfl) (Nat.le_of_ble_eq_true rfl) ?_
    refine ok_iconst (v := nI 0) dX4_giveLeastAway_13 (by decide) ?_
    refine ok_istore dX4_giveLeastAway_14 (st_6_4 rfl) (Nat.le_of_ble_eq_true rfl) ?_
    exact l_X4_giveLeastAway (h := h) (by omega) (by omega) hab h1a h1b h2a h2b hls k (ls.length - 1) 0 h _ (by omega) hx.rf r2 r1
theorem c_X4_stepInto {r : Nat} (r2 : Rw h sa sb ls) (r1 : Rw h a b l) (hr : r < 4) (hab : a ≠ b) (h1a : sa ≠ a) (h1b : sa ≠ b) (h2a : sb ≠ a) (h2b : sb ≠ b) (hls : okl ls) (k : ∀ h', hx [a, b] h h' → Rw h' a b (stp r ls) → okl (stp r ls) → Q none h') :
    Ok g MX4_stepInto (m_J g MX4_stepInto Q) 0 [some (.ref a), some (.ref sa), some (.int (nI r))] [] h 0 0 := by
  obtain ⟨er, F, eb, hF⟩ := r1
  have es := r2.1
  unfold stp at k
  refine ok_aload_n dX4_stepInto_0 rfl rfl ?_
  refine call_X3_clear dX4_stepInto_1 lk_X4_55 ⟨Nat.le_of_ble_eq_true rfl, Nat.le_of_ble_eq_true rfl, Nat.le_of_ble_eq_true rfl⟩ (by assumption) (Nat.le_of_ble_eq_true rfl) ?_
  refine c_X3_clear er (fun h1 x1 e1 => ?_)
  have r3 : Rw h1 a b [] := ⟨e1, F, x1.at (by simp [Ne.symm hab]) eb, fun i hi => by simp at hi⟩
  have r4 := r2.at x1 (by simp [h1a]) (by simp [h2a])
  have x1' : hx [a, b] h h1 := x1.mono (by simp)
  refine ok_iload_n dX4_stepInto_4 rfl ?_
  rcases (show r = 0 ∨ r = 1 ∨ r = 2 ∨ r = 3 by omega) with rfl | rfl | rfl | rfl
  · refine ok_tableOut (tgt := 57) dX4_stepInto_5 (by decide) (by decide) ?_
    refine ok_aload_n dX4_stepInto_57 rfl rfl ?_
    refine ok_aload_n dX4_stepInto_58 rfl rfl ?_
    refine ok_iconst (v := nI 1) dX4_stepInto_59 (by decide) ?_
    refine call_X4_giveFromEach dX4_stepInto_60 lk_X4_215 ⟨Nat.le_of_ble_eq_true rfl, Nat.le_of_ble_eq_true rfl, Nat.le_of_ble_eq_true rfl⟩ (Nat.le_of_ble_eq_true rfl) ?_
    refine c_X4_giveFromEach r4 r3 (by decide) hab h1a h1b h2a h2b hls (fun h2 x2 r5 o5 => ?_)
    refine ok_vret dX4_stepInto_63 rfl ⟨Nat.le_of_ble_eq_true rfl, Nat.le_of_ble_eq_true rfl⟩ ?_
    exact k h2 (x1'.tr' x2) r5 o5
  · refine ok_tableIn (tgt := 32) (off := 27) dX4_stepInto_5 (by decide) (by decide) (by decide) (by decide) ?_
    refine ok_aload_n dX4_stepInto_32 rfl rfl ?_
    refine ok_aload_n dX4_stepInto_33 rfl rfl ?_
    refine call_X4_giveFromGreatest dX4_stepInto_34 lk_X4_211 ⟨Nat.le_of_ble_eq_true rfl, Nat.le_of_ble_eq_true rfl, Nat.le_of_ble_eq_true rfl⟩ (Nat.le_of_ble_eq_true rfl) ?_
    refine c_X4_giveFromGreatest r4 r3 hab h1a h1b h2a h2b hls (fun h2 x2 r5 o5 => ?_)
    refine ok_goto (tgt := 63) dX4_stepInto_37 (by decide) ?_
    refine ok_vret dX4_stepInto_63 rfl ⟨Nat.le_of_ble_eq_true rfl, Nat.le_of_ble_eq_true rfl⟩ ?_
    exact k h2 (x1'.tr' x2) r5 o5
  · refine ok_tableIn (tgt := 40) (off := 35) dX4_stepInto_5 (by decide) (by decide) (by decide) (by decide) ?_
    refine ok_aload_n dX4_stepInto_40 rfl rfl ?_
    refine ok_aload_n dX4_stepInto_41 rfl rfl ?_
    refine ok_iconst (v := nI 2) dX4_stepInto_42 (by decide) ?_
    refine call_X4_giveFromEach dX4_stepInto_43 lk_X4_215 ⟨Nat.le_of_ble_eq_true rfl, Nat.le_of_ble_eq_true rfl, Nat.le_of_ble_eq_true rfl⟩ (Nat.le_of_ble_eq_true rfl) ?_
    refine c_X4_giveFromEach r4 r3 (by decide) hab h1a h1b h2a h2b hls (fun h2 x2 r5 o5 => ?_)
    refine ok_goto (tgt := 63) dX4_stepInto_46 (by decide) ?_
    refine ok_vret dX4_stepInto_63 rfl ⟨Nat.le_of_ble_eq_true rfl, Nat.le_of_ble_eq_true rfl⟩ ?_
    exact k h2 (x1'.tr' x2) r5 o5
  · refine ok_tableIn (tgt := 49) (off := 44) dX4_stepInto_5 (by decide) (by decide) (by decide) (by decide) ?_
    refine ok_aload_n dX4_stepInto_49 rfl rfl ?_
    refine ok_aload_n dX4_stepInto_50 rfl rfl ?_
    refine call_X4_giveLeastAway dX4_stepInto_51 lk_X4_218 ⟨Nat.le_of_ble_eq_true rfl, Nat.le_of_ble_eq_true rfl, Nat.le_of_ble_eq_true rfl⟩ (Nat.le_of_ble_eq_true rfl) ?_
    refine c_X4_giveLeastAway r4 r3 hab h1a h1b h2a h2b hls (fun h2 x2 r5 o5 => ?_)
    refine ok_goto (tgt := 63) dX4_stepInto_54 (by decide) ?_
    refine ok_vret dX4_stepInto_63 rfl ⟨Nat.le_of_ble_eq_true rfl, Nat.le_of_ble_eq_true rfl⟩ ?_
    exact k h2 (x1'.tr' x2) r5 o5
end STEPS
end
