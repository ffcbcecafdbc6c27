/-! THE BORDERS: the reference's 15 bits as the class's long -/
def spos : Nat → Nat
  | 0 => 1 | 1 => 2 | 2 => 3 | 3 => 4 | 4 => 5 | 5 => 8 | 6 => 9 | 7 => 10 | 8 => 11 | 9 => 15 | 10 => 16 | 11 => 17 | 12 => 22 | 13 => 23 | _ => 29
def spr (n : Nat) : Nat → Nat
  | 0 => 0
  | k + 1 => spr n k + (if n.testBit k then 2 ^ spos k else 0)
def popc (n : Nat) : Nat → Nat
  | 0 => 0
  | k + 1 => popc n k + (if n.testBit k then 1 else 0)
def clOf (n : Nat) : Int64 := Int64.ofNat (spr n 15)
/-- the JDK's counting of a long's bits, step by step -/
def lA (a : Int64) : Int64 := a - ((a.toUInt64 >>> 1).toInt64 &&& (6148914691236517205 : Int64))
def lB (a : Int64) : Int64 := (a &&& (3689348814741910323 : Int64)) + ((a.toUInt64 >>> 2).toInt64 &&& 3689348814741910323)
def lC (a : Int64) : Int64 := (a + (a.toUInt64 >>> 4).toInt64) &&& 1085102592571150095
def lD (a : Int64) : Int64 := a + (a.toUInt64 >>> 8).toInt64
def lE (a : Int64) : Int64 := a + (a.toUInt64 >>> 16).toInt64
def lF (a : Int64) : Int64 := a + (a.toUInt64 >>> 32).toInt64
def lbc (a : Int64) : Int32 := (lF (lE (lD (lC (lB (lA a)))))).toInt32 &&& 127
def popT (n : Nat) : Bool := lbc (clOf n) == Int32.ofNat (popc n 15)
theorem pop_0 : (List.range 4096).all (fun n => popT (n + 0)) = true := by decide +kernel
theorem pop_1 : (List.range 4096).all (fun n => popT (n + 4096)) = true := by decide +kernel
theorem pop_2 : (List.range 4096).all (fun n => popT (n + 8192)) = true := by decide +kernel
theorem pop_3 : (List.range 4096).all (fun n => popT (n + 12288)) = true := by decide +kernel
theorem pop_4 : (List.range 4096).all (fun n => popT (n + 16384)) = true := by decide +kernel
theorem pop_5 : (List.range 4096).all (fun n => popT (n + 20480)) = true := by decide +kernel
theorem pop_6 : (List.range 4096).all (fun n => popT (n + 24576)) = true := by decide +kernel
theorem pop_7 : (List.range 4096).all (fun n => popT (n + 28672)) = true := by decide +kernel
theorem pop_at {n j : Nat} (h : (List.range 4096).all (fun n => popT (n + 4096 * j)) = true) (h1 : 4096 * j ≤ n) (h2 : n < 4096 * j + 4096) : lbc (clOf n) = Int32.ofNat (popc n 15) := by
  have := List.all_eq_true.mp h (n - 4096 * j) (List.mem_range.mpr (by omega))
  rw [show n - 4096 * j + 4096 * j = n by omega] at this
  exact eq_of_beq this
theorem pop_all {n : Nat} (h : n < 32768) : lbc (clOf n) = Int32.ofNat (popc n 15) := by
  rcases (show (0 ≤ n ∧ n < 4096) ∨ (4096 ≤ n ∧ n < 8192) ∨ (8192 ≤ n ∧ n < 12288) ∨ (12288 ≤ n ∧ n < 16384) ∨ (16384 ≤ n ∧ n < 20480) ∨ (20480 ≤ n ∧ n < 24576) ∨ (24576 ≤ n ∧ n < 28672) ∨ (28672 ≤ n ∧ n < 32768) by omega) with q | q | q | q | q | q | q | q
  · exact pop_at (j := 0) pop_0 q.1 q.2
  · exact pop_at (j := 1) pop_1 q.1 q.2
  · exact pop_at (j := 2) pop_2 q.1 q.2
  · exact pop_at (j := 3) pop_3 q.1 q.2
  · exact pop_at (j := 4) pop_4 q.1 q.2
  · exact pop_at (j := 5) pop_5 q.1 q.2
  · exact pop_at (j := 6) pop_6 q.1 q.2
  · exact pop_at (j := 7) pop_7 q.1 q.2
