/-! ===== what each call answers, and what it leaves ===== -/
abbrev RS : Type := Int32 × ST
def s_T (S : ST) (j : Nat) (b : Bool) : ST := (up S.1 j b, S.2.1, S.2.2)
def s_P (S : ST) (j : Nat) (l : List Nat) : ST := (S.1, up S.2.1 j l, S.2.2)
def s_TP (S : ST) (j : Nat) (l : List Nat) : ST := (up S.1 j true, up S.2.1 j l, S.2.2)
def s_ru (S : ST) (r : Nat) : ST := (S.1, S.2.1, r, S.2.2.2)
def s_wk (S : ST) (w : Int64) : ST := (S.1, S.2.1, S.2.2.1, S.2.2.2.1, S.2.2.2.2.1, w)
def fd (S : ST) (f : Nat) : RS := (-3, s_fd S f)
/-- of a PARTING p -/
def ofp (S : ST) (p : Int32) (f : Nat → RS) : RS := match pl 12 p with
  | none => (-1, S)
  | some j => if S.1 j = true then f j else fd S 1
def c18 (c : Int32) : Option Nat := match pl 19 c with
  | none => none
  | some m => if m = 0 then none else some m
def del (l : List Nat) (i : Nat) : List Nat := l.take i ++ l.drop (i + 1)
def sno (S : ST) (j : Nat) : Nat := 19 * S.2.2.1 + (S.2.1 j).sum
def kno (S : ST) (j : Nat) : Nat := nb (S.2.1 j)
def sp_parting (S : ST) (p : Int32) : RS := match pl 12 p with
  | none => (-1, S)
  | some j => (if S.1 j = true then nI 1 else nI 0, s_TP S j [])
def sp_heap (S : ST) (p c : Int32) : RS := match c18 c with
  | none => (-1, S)
  | some m => ofp S p (fun j => if m + (S.2.1 j).sum ≤ 18 then (nI ((S.2.1 j).length + 1), s_P S j (ins m (S.2.1 j))) else (-2, S))
def sp_at (S : ST) (p i : Int32) : RS := ofp S p (fun j => if i = -1 then (nI (S.2.1 j).length, S) else match pl (S.2.1 j).length i with
  | some x => (nI ((S.2.1 j).getD x 0), S)
  | none => fd S 2)
def sp_take (S : ST) (p i : Int32) : RS := ofp S p (fun j => match pl (S.2.1 j).length i with
  | some x => (nI ((S.2.1 j).getD x 0), s_P S j (del (S.2.1 j) x))
  | none => fd S 2)
def sp_tear (S : ST) (p : Int32) : RS := ofp S p (fun j => (nI 1, s_T S j false))
def sp_rule (S : ST) (r : Int32) : RS := match pl 4 r with
  | none => (-1, S)
  | some m => (nI S.2.2.1, s_ru S m)
def sp_kind (S : ST) (p : Int32) : RS := ofp S p (fun j => (nI (kdI (sno S j) (kno S j)), S))
def sp_mark (S : ST) (p kd : Int32) : RS := match pl 4 kd with
  | none => (-1, S)
  | some m => if m = 0 then (-1, S) else ofp S p (fun j => if kdI (sno S j) (kno S j) = m ∨ (kdI (sno S j) (kno S j) = 2 ∧ m = 1) then (nI (if m = 1 then c_be (sno S j) (kno S j) else if m = 2 then kno S j else c_ta (sno S j) (kno S j)), S) else fd S 3)
def sp_mean (S : ST) (p : Int32) : RS := ofp S p (fun j => if (S.2.1 j).length = 0 then fd S 4 else (nI ((S.2.1 j).sum / (S.2.1 j).length), S))
def sp_many (S : ST) (n : Int32) : RS := match pl 19 n with
  | none => (-1, S)
  | some m => (nI (cap m m), S)
def sp_rank (S : ST) (p : Int32) : RS := ofp S p (fun j => (nI (kno S j), S))
def sp_list (S : ST) (p n k : Int32) : RS := match pl 12 p, pl 19 n with
  | some j, some m => match pl (cap m m) k with
    | some x => (nI 1, s_TP S j (wr m x))
    | none => (-9, S)
  | _, _ => (-1, S)
/-- turned on its side -/
def trnN (l : List Nat) : Nat → List Nat
  | 0 => []
  | i + 1 => ins (hfr (i + 1) l) (trnN l i)
def trn (l : List Nat) : List Nat := trnN l (l.getD 0 0)
def sp_turn (S : ST) (p : Int32) : RS := ofp S p (fun j => (nI (trn (S.2.1 j)).length, s_P S j (trn (S.2.1 j))))
def stpN (r : Nat) (l : List Nat) : Nat → List Nat
  | 0 => l
  | i + 1 => stp r (stpN r l i)
def sp_step (S : ST) (p k : Int32) : RS := match pl 1001 k with
  | none => (-1, S)
  | some m => ofp S p (fun j => (nI (stpN S.2.2.1 (S.2.1 j) m).length, s_P S j (stpN S.2.2.1 (S.2.1 j) m)))
def sp_tail (S : ST) (p : Int32) : RS := ofp S p (fun j => (nI (c_ta (sno S j) (kno S j)), S))
def sp_beat (S : ST) (p : Int32) : RS := ofp S p (fun j => (nI (c_be (sno S j) (kno S j)), S))
def sp_leader (S : ST) (p : Int32) : RS := ofp S p (fun j => (nI (c_le (sno S j) (kno S j)), S))
def sp_from (S : ST) (p : Int32) : RS := ofp S p (fun j => (nI (c_co (sno S j) (kno S j)), S))
def sp_fromAt (S : ST) (p i : Int32) : RS := ofp S p (fun j => (nthI (fun x => nx (sno S j) x == kno S j) (NN (sno S j)) i, S))
def rnd (s w : Nat) : Nat := if w = 0 then (CH s).2.1 else if w = 1 then (CH s).2.2.1 else if w = 2 then (CH s).2.2.2.1 else if w = 3 then (CH s).2.2.2.2.1 else (CH s).2.2.2.2.2
def sp_rounds (S : ST) (n w : Int32) : RS := match pl 19 n, pl 5 w with
  | some m, some x => (nI (rnd (19 * S.2.2.1 + m) x), S)
  | _, _ => (-1, S)
def sp_ring (S : ST) (n i : Int32) : RS := match pl 19 n with
  | none => (-1, S)
  | some m => (nthI (fun x => c_le (19 * S.2.2.1 + m) x == x) (NN (19 * S.2.2.1 + m)) i, S)
def of2 (S : ST) (p q : Int32) (f : Nat → Nat → RS) : RS := match pl 12 p, pl 12 q with
  | some i, some j => if S.1 i = true ∧ S.1 j = true then f i j else fd S 1
  | _, _ => (-1, S)
def sp_steps (S : ST) (p q : Int32) : RS := of2 S p q (fun i j => if (S.2.1 i).sum = (S.2.1 j).sum then (fsI (sno S i) (kno S j) (NN (sno S i)) 0 (kno S i), S) else (-9, S))
def sp_told (S : ST) (p w : Int32) : RS := match pl 4 w with
  | none => (-1, S)
  | some x => ofp S p (fun j => (nI (if x = 0 then (S.2.1 j).sum else if x = 1 then (S.2.1 j).length else if x = 2 then (S.2.1 j).getD 0 0 else uhN (S.2.1 j) (S.2.1 j).length), S))
def thN (S : ST) : Nat → Nat
  | 0 => 0
  | p + 1 => thN S p + (if S.1 p = true then 1 else 0)
def cdN (S : ST) : Nat → Nat
  | 0 => 0
  | p + 1 => cdN S p + (if S.1 p = true then (S.2.1 p).sum else 0)
def sp_count (S : ST) (w : Int32) : RS := match pl 3 w with
  | none => (-1, S)
  | some x => (nI (if x = 0 then S.2.2.1 else if x = 1 then thN S 12 else cdN S 12), S)
def sp_finding (S : ST) : RS := (nI S.2.2.2.1, S)
def sp_findings (S : ST) (f : Int32) : RS := match pl 6 f with
  | none => (-1, S)
  | some x => if x = 0 then (-1, S) else (S.2.2.2.2.1 x, S)
def dgS (S : ST) : Nat → Int64
  | 0 => 527 + lN S.2.2.1
  | p + 1 => if S.1 p = true then dgN (S.2.1 p) (dgS S p) (S.2.1 p).length else 31 * dgS S p - 1
def sp_digest (S : ST) : Int64 := dgS S 12
def sp_asked (S : ST) : Int64 := S.2.2.2.2.2
def sp_copy (S : ST) (p i n to : Int32) : RS := match pl 12 p, pl 12 to with
  | some a, some b => if n < 0 then fd S 5 else if S.1 a = true ∧ S.1 b = true then
      (match pl ((S.2.1 a).length + 1) i, pl 19 n with
      | some x, some m => if x + m ≤ (S.2.1 a).length then (if (S.2.1 b).sum + (tsum (S.2.1 a) (x + m) - tsum (S.2.1 a) x) ≤ 18 then (nI ((S.2.1 b).length + m), s_P S b (ppN (S.2.1 a) x (S.2.1 b) m)) else (-2, S)) else fd S 2
      | _, _ => fd S 2) else fd S 1
  | _, _ => (-1, S)
