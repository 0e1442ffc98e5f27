/-! sets of streets by fewest -/
def nxl (a : Int) : Int := zand a (-a)
def nxz (a : Int) : Int := zor (a + zand a (-a)) (zdiv (zushr (zxor a (a + zand a (-a))) 2) (zand a (-a)))
def nxt (v : Nat) : Int := zshl 2 (popN v : Int) - 1
def nxI (n v : Nat) : Nat := if nxl v = 0 then (nxt v).toNat else if ((2 ^ n : Nat) : Int) ≤ nxz v then (nxt v).toNat else (nxz v).toNat
def fkey (v : Nat) : Nat := popN v * 1024 + v
def ch : Nat → Nat → Nat
  | _, 0 => 1
  | 0, _ + 1 => 0
  | n + 1, k + 1 => ch n k + ch n (k + 1)
def rkB : Nat → Nat → Nat → Nat → Nat
  | 0, _, _, _ => 0
  | f + 1, p, i, v => if v % 2 = 1 then ch p (i + 1) + rkB f (p + 1) (i + 1) (v / 2) else rkB f (p + 1) i (v / 2)
def rkS (n : Nat) : Nat → Nat
  | 0 => 0
  | k + 1 => rkS n k + ch n k
def rk (n v : Nat) : Nat := rkS n (popN v) + rkB 10 0 0 v
def nxOk (n v : Nat) : Bool := bIn (-(v : Int)) && bIn ((v : Int) + zand v (-v)) && bIn (nxt v) && decide (0 ≤ nxt v) && decide (0 ≤ nxz v) && (decide (v + 1 = 2 ^ n) || (decide (nxI n v < 2 ^ n) && decide (fkey v < fkey (nxI n v)) && decide (rk n (nxI n v) = rk n v + 1)))
theorem nx_lo : ∀ n : Nat, n < 10 → ∀ v : Nat, v < 2 ^ n → nxOk n v = true := by decide +kernel
theorem nx_hi0 : ∀ v : Nat, v < 512 → nxOk 10 v = true := by decide +kernel
theorem nx_hi1 : ∀ v : Nat, v < 512 → nxOk 10 (512 + v) = true := by decide +kernel
theorem nx_all (n : Nat) (hn : n < 11) (v : Nat) (hv : v < 2 ^ n) : nxOk n v = true := by
  by_cases h : n < 10
  · exact nx_lo n h v hv
  · have e : n = 10 := by omega
    subst e
    have hv2 : v < 1024 := hv
    by_cases h2 : v < 512
    · exact nx_hi0 v h2
    · have := nx_hi1 (v - 512) (by omega)
      rw [show 512 + (v - 512) = v by omega] at this
      exact this
theorem rk_all : ∀ n : Nat, n < 11 → rk n 0 = 0 ∧ rk n (2 ^ n - 1) = 2 ^ n - 1 := by decide +kernel
