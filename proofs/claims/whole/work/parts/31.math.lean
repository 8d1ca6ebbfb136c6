/-! NUMBERS: Int32 within bounds as Int -/
theorem bm32 {x : Int} (h1 : -2147483648 ≤ x) (h2 : x < 2147483648) : x.bmod (2 ^ 32) = x := by
  rw [Int.bmod_def]
  have e : ((2 ^ 32 : Nat) : Int) = 4294967296 := by decide
  rw [e]
  split <;> omega
theorem tI_add {x y : Int32} (h1 : -2147483648 ≤ x.toInt + y.toInt) (h2 : x.toInt + y.toInt < 2147483648) : (x + y).toInt = x.toInt + y.toInt := by
  rw [Int32.toInt_add, bm32 h1 h2]
theorem tI_sub {x y : Int32} (h1 : -2147483648 ≤ x.toInt - y.toInt) (h2 : x.toInt - y.toInt < 2147483648) : (x - y).toInt = x.toInt - y.toInt := by
  rw [Int32.toInt_sub, bm32 h1 h2]
theorem tI_mul {x y : Int32} (h1 : -2147483648 ≤ x.toInt * y.toInt) (h2 : x.toInt * y.toInt < 2147483648) : (x * y).toInt = x.toInt * y.toInt := by
  rw [Int32.toInt_mul, bm32 h1 h2]
theorem tI_neg {x : Int32} (h1 : -2147483648 < x.toInt) : (-x).toInt = -x.toInt := by
  rw [Int32.toInt_neg, bm32 (by have := x.toInt_lt; omega) (by omega)]
theorem tI_div {x y : Int32} (h1 : -2147483648 < x.toInt) (hy : y.toInt ≠ 0) : (x / y).toInt = x.toInt.tdiv y.toInt := by
  rw [Int32.toInt_div]
  have hx := x.toInt_lt
  have hb : (x.toInt.tdiv y.toInt).natAbs ≤ x.toInt.natAbs := by
    rw [Int.natAbs_tdiv]; exact Nat.div_le_self _ _
  exact bm32 (by omega) (by omega)
theorem mulB {a b : Int} (A B : Nat) (h1 : -(A : Int) ≤ a) (h2 : a ≤ A) (h3 : -(B : Int) ≤ b) (h4 : b ≤ B) : -((A * B : Nat) : Int) ≤ a * b ∧ a * b ≤ ((A * B : Nat) : Int) := by
  have h : (a * b).natAbs ≤ A * B := by
    rw [Int.natAbs_mul]; exact Nat.mul_le_mul (by omega) (by omega)
  omega
/-- f times x, small -/
theorem tI_fx {f x : Int32} (f1 : -20 ≤ f.toInt) (f2 : f.toInt ≤ 20) (x1 : -50 ≤ x.toInt) (x2 : x.toInt ≤ 50) : (f * x).toInt = f.toInt * x.toInt ∧ -1000 ≤ f.toInt * x.toInt ∧ f.toInt * x.toInt ≤ 1000 := by
  have h := mulB 20 50 f1 f2 x1 x2
  refine ⟨tI_mul (by omega) (by omega), by omega, by omega⟩
/-- bounds of n names: each l is at most its u, all in -50 .. 50 -/
def bdR (n : Nat) (lo hi : Nat → Int32) : Prop := ∀ k, k < n → -50 ≤ (lo k).toInt ∧ (lo k).toInt ≤ (hi k).toInt ∧ (hi k).toInt ≤ 50
def fcR (n : Nat) (g : Nat → Int32) : Prop := ∀ k, k < n → -20 ≤ (g k).toInt ∧ (g k).toInt ≤ 20
/-- the least of a factor times l or u -/
def tmF (g lo hi : Int32) : Int32 := g * (if g ≤ 0 then hi else lo)
theorem i0 : (0 : Int32).toInt = 0 := by decide
theorem leF_tm {g lo hi : Int32} (g1 : -20 ≤ g.toInt) (g2 : g.toInt ≤ 20) (b1 : -50 ≤ lo.toInt) (b2 : lo.toInt ≤ hi.toInt) (b3 : hi.toInt ≤ 50) : leF g lo hi = tmF g lo hi := by
  obtain ⟨e1, -, -⟩ := tI_fx g1 g2 b1 (show lo.toInt ≤ 50 by omega)
  obtain ⟨e2, -, -⟩ := tI_fx g1 g2 (show -50 ≤ hi.toInt by omega) b3
  unfold leF tmF
  by_cases c : g ≤ 0
  · rw [if_pos c]
    rw [Int32.le_iff_toInt_le, i0] at c
    rw [if_pos]
    rw [Int32.le_iff_toInt_le, e1, e2]
    exact Int.mul_le_mul_of_nonpos_left c b2
  · rw [if_neg c]
    rw [Int32.le_iff_toInt_le, i0] at c
    by_cases d : g * hi ≤ g * lo
    · rw [if_pos d]
      rw [Int32.le_iff_toInt_le, e1, e2] at d
      have h3 : hi.toInt ≤ lo.toInt := Int.le_of_mul_le_mul_left d (by omega)
      have : hi = lo := Int32.toInt_inj.mp (by omega)
      rw [this]
    · rw [if_neg d]
/-- the sum of the least, the first n -/
def lsF (g lo hi : Nat → Int32) : Nat → Int32
  | 0 => 0
  | n + 1 => lsF g lo hi n + tmF (g n) (lo n) (hi n)
theorem bl_ls (lo hi f : Nat → Int32) (sg : Int32) : ∀ n, bl lo hi f sg n = lsF (fun k => sg * f k) lo hi n
  | 0 => rfl
  | n + 1 => by simp only [bl, lsF, tmF, bl_ls lo hi f sg n]
/-- the sum without k -/
def rsF' (g lo hi : Nat → Int32) (k : Nat) : Nat → Int32
  | 0 => 0
  | n + 1 => rsF' g lo hi k n + (if n = k then 0 else tmF (g n) (lo n) (hi n))
theorem rs_ge {g lo hi : Nat → Int32} {k : Nat} : ∀ n, n ≤ k → rsF' g lo hi k n = lsF g lo hi n
  | 0, _ => rfl
  | n + 1, h => by
    have h1 := rs_ge (g := g) (lo := lo) (hi := hi) (k := k) n (by omega)
    simp only [rsF', lsF, h1, if_neg (show ¬ n = k by omega)]
theorem rs_ls {g lo hi : Nat → Int32} {k : Nat} : ∀ n, k < n → lsF g lo hi n = rsF' g lo hi k n + tmF (g k) (lo k) (hi k)
  | 0, h => by omega
  | n + 1, h => by
    by_cases e : n = k
    · subst e
      have h1 := rs_ge (g := g) (lo := lo) (hi := hi) (k := n) n (Nat.le_refl _)
      simp only [rsF', lsF, if_true, h1, Int32.add_zero]
    · have h1 := rs_ls (g := g) (lo := lo) (hi := hi) (k := k) n (by omega)
      simp only [rsF', lsF, if_neg e, h1]
      rw [Int32.add_assoc, Int32.add_assoc, Int32.add_comm (tmF (g k) (lo k) (hi k))]
theorem sub_rs {a b c R : Int32} (e : a = b + c) : R - b = R - a + c := by
  subst e
  grind

