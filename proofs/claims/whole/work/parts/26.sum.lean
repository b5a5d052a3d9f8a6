/-! ===== sums ===== -/
def sm (f : Int → Int) : Nat → Int
  | 0 => 0
  | n + 1 => sm f n + f n
def ind (a b : Int) : Int := if a = b then 1 else 0
theorem sm_succ {f : Int → Int} {p : Int} (h : 0 ≤ p) : sm f (p + 1).toNat = sm f p.toNat + f p := by
  rw [show (p + 1).toNat = p.toNat + 1 by omega]
  show sm f p.toNat + f ((p.toNat : Nat) : Int) = _
  rw [show ((p.toNat : Nat) : Int) = p by omega]
theorem sm_congr {f g : Int → Int} : ∀ {n : Nat}, (∀ k : Int, 0 ≤ k → k < n → f k = g k) → sm f n = sm g n
  | 0, _ => rfl
  | n + 1, h => by
    show sm f n + f n = sm g n + g n
    rw [sm_congr (n := n) (fun k h0 h1 => h k h0 (by omega)), h n (by omega) (by omega)]
theorem sm_add {f g : Int → Int} : ∀ {n : Nat}, sm (fun k => f k + g k) n = sm f n + sm g n
  | 0 => rfl
  | n + 1 => by
    show sm (fun k => f k + g k) n + (f n + g n) = (sm f n + f n) + (sm g n + g n)
    rw [sm_add]
    omega
theorem sm_mul {f : Int → Int} (c : Int) : ∀ {n : Nat}, sm (fun k => c * f k) n = c * sm f n
  | 0 => by simp [sm]
  | n + 1 => by
    show sm (fun k => c * f k) n + c * f n = c * (sm f n + f n)
    rw [sm_mul, Int.mul_add]
theorem sm_zero {f : Int → Int} : ∀ {n : Nat}, (∀ k : Int, 0 ≤ k → k < n → f k = 0) → sm f n = 0
  | 0, _ => rfl
  | n + 1, h => by
    show sm f n + f n = 0
    rw [sm_zero (n := n) (fun k h0 h1 => h k h0 (by omega)), h n (by omega) (by omega)]
    rfl
theorem sm_nn {f : Int → Int} : ∀ {n : Nat}, (∀ k : Int, 0 ≤ k → k < n → 0 ≤ f k) → 0 ≤ sm f n
  | 0, _ => Int.le_refl 0
  | n + 1, h => by
    show 0 ≤ sm f n + f n
    have := sm_nn (n := n) (fun k h0 h1 => h k h0 (by omega))
    have := h n (by omega) (by omega)
    omega
theorem sm_le {f g : Int → Int} : ∀ {n : Nat}, (∀ k : Int, 0 ≤ k → k < n → f k ≤ g k) → sm f n ≤ sm g n
  | 0, _ => Int.le_refl 0
  | n + 1, h => by
    show sm f n + f n ≤ sm g n + g n
    have := sm_le (n := n) (fun k h0 h1 => h k h0 (by omega))
    have := h n (by omega) (by omega)
    omega
theorem sm_swap {f : Int → Int → Int} {m : Nat} : ∀ {n : Nat}, sm (fun a => sm (fun b => f a b) m) n = sm (fun b => sm (fun a => f a b) n) m
  | 0 => (sm_zero fun _ _ _ => rfl).symm
  | n + 1 => by
    show sm (fun a => sm (fun b => f a b) m) n + sm (fun b => f n b) m = sm (fun b => sm (fun a => f a b) n + f n b) m
    rw [sm_add, sm_swap]
theorem sm_ind {f : Int → Int} {a : Int} (h0 : 0 ≤ a) : ∀ {n : Nat}, a < n → sm (fun k => f k * ind k a) n = f a
  | 0, h => by omega
  | n + 1, h => by
    show sm (fun k => f k * ind k a) n + f n * ind n a = f a
    by_cases hn : a = n
    · rw [sm_zero (n := n) (fun k h2 h3 => by rw [ind, if_neg (by omega), Int.mul_zero]), ind, if_pos hn.symm, hn]
      omega
    · rw [sm_ind h0 (n := n) (by omega), ind, if_neg (fun q => hn q.symm), Int.mul_zero, Int.add_zero]
theorem sm_one {f : Int → Int} : ∀ {n : Nat}, (∀ k : Int, 0 ≤ k → k < n → 0 ≤ f k) → ∀ k : Int, 0 ≤ k → k < n → f k ≤ sm f n
  | 0, _, k, h0, h1 => by omega
  | n + 1, h, k, h0, h1 => by
    show f k ≤ sm f n + f n
    have h2 := h n (by omega) (by omega)
    have h3 := sm_nn (f := f) (n := n) (fun k h0 h1 => h k h0 (by omega))
    by_cases hk : k = n
    · subst hk; omega
    · have := sm_one (n := n) (fun k h0 h1 => h k h0 (by omega)) k h0 (by omega)
      omega
theorem ring_test (a b c d : Int) : (a + b) * (c + d) = a * c + d * a + (b * c + b * d) := by grind
/-! ===== chances ===== -/
def on (b : Int) : Int := bt b 0 + bt b 1 + bt b 2 + bt b 3
theorem bits16 {P : Int → Prop} {b : Int} (h : 0 ≤ b ∧ b < 16) (h0 : P 0) (h1 : P 1) (h2 : P 2) (h3 : P 3) (h4 : P 4) (h5 : P 5) (h6 : P 6) (h7 : P 7) (h8 : P 8) (h9 : P 9) (h10 : P 10) (h11 : P 11) (h12 : P 12) (h13 : P 13) (h14 : P 14) (h15 : P 15) : P b := by
  rcases (show b = 0 ∨ b = 1 ∨ b = 2 ∨ b = 3 ∨ b = 4 ∨ b = 5 ∨ b = 6 ∨ b = 7 ∨ b = 8 ∨ b = 9 ∨ b = 10 ∨ b = 11 ∨ b = 12 ∨ b = 13 ∨ b = 14 ∨ b = 15 by omega) with rfl | rfl | rfl | rfl | rfl | rfl | rfl | rfl | rfl | rfl | rfl | rfl | rfl | rfl | rfl | rfl <;> assumption
theorem four {P : Int → Prop} {b : Int} (h : 0 ≤ b ∧ b < 4) (h0 : P 0) (h1 : P 1) (h2 : P 2) (h3 : P 3) : P b := by
  rcases (show b = 0 ∨ b = 1 ∨ b = 2 ∨ b = 3 by omega) with rfl | rfl | rfl | rfl <;> assumption
theorem on_in {b : Int} : 0 ≤ on b ∧ on b ≤ 4 := by
  have a0 := bt_in (b := b) (k := 0)
  have a1 := bt_in (b := b) (k := 1)
  have a2 := bt_in (b := b) (k := 2)
  have a3 := bt_in (b := b) (k := 3)
  unfold on
  omega
/-- one less bit -/
theorem on_and {b : Int} (h : 0 ≤ b ∧ b < 16) (h0 : b ≠ 0) : 0 ≤ andI b (b - 1) ∧ andI b (b - 1) < b ∧ on (andI b (b - 1)) = on b - 1 := by
  revert h0
  refine bits16 (P := fun b => b ≠ 0 → 0 ≤ andI b (b - 1) ∧ andI b (b - 1) < b ∧ on (andI b (b - 1)) = on b - 1) h ?_ ?_ ?_ ?_ ?_ ?_ ?_ ?_ ?_ ?_ ?_ ?_ ?_ ?_ ?_ ?_ <;> decide +kernel
theorem on_0 : on 0 = 0 := by decide +kernel
/-- nobody gets it by these: twelve parts -/
def stp (sev b : Int) : Int := if on b = 0 ∨ (1 < on b ∧ sev = 0) then 12 else 0
/-- parts of twelve that p gets by these -/
def shp (sev b p : Int) : Int := if on b = 0 ∨ (1 < on b ∧ sev = 0) then 0 else if bt b p = 1 ∧ (sev = 2 ∨ b % (2 : Int) ^ p.toNat = 0) then (if sev = 2 then 12 / on b else 12) else 0
def tgt (law s p : Int) : Int := if law = 1 then (if s % 2 = 1 then s else 10 * p + 2 * (s / 2 % 5) + 1) else 10 * p + 2 * (s / 2 % 5 + (if law = 2 ∧ p ≠ s / 10 then 1 else 0))
theorem tgt_in {law s p : Int} (hs : 0 ≤ s ∧ s < 50) (hp : 0 ≤ p ∧ p < 4) : 0 ≤ tgt law s p ∧ tgt law s p < 50 := by
  unfold tgt
  omega
/-- quarters of one, also of who is not there -/
def qk (κ : Mem) (i p : Int) : Int := if p < κ 129 0 then kq κ p i else 0
def wyN (κ : Mem) (i b : Int) : Nat → Int
  | 0 => 1
  | n + 1 => wyN κ i b n * (if bt b n = 1 then qk κ i n else 4 - qk κ i n)
/-- in so many of 256 ways just these laugh -/
def wy (κ : Mem) (i b : Int) : Int := wyN κ i b 4
theorem qk_in {κ : Mem} (h : KR κ) {i p : Int} (hp : 0 ≤ p ∧ p < 4) (hi : 0 ≤ i ∧ i < 4) : 0 ≤ qk κ i p ∧ qk κ i p ≤ 4 := by
  unfold qk
  split
  · exact kq_in h hp hi
  · omega
theorem wyN_in {κ : Mem} (h : KR κ) {i b : Int} (hi : 0 ≤ i ∧ i < 4) : ∀ n : Nat, n ≤ 4 → 0 ≤ wyN κ i b n ∧ wyN κ i b n ≤ 4 ^ n
  | 0, _ => by unfold wyN; decide
  | n + 1, hn => by
    have h1 := wyN_in h hi (b := b) n (by omega)
    have h2 := qk_in h (i := i) (p := n) ⟨by omega, by omega⟩ hi
    unfold wyN
    have h3 : 0 ≤ (if bt b n = 1 then qk κ i n else 4 - qk κ i n) ∧ (if bt b n = 1 then qk κ i n else 4 - qk κ i n) ≤ 4 := by split <;> omega
    refine ⟨Int.mul_nonneg h1.1 h3.1, ?_⟩
    have := Int.mul_le_mul h1.2 h3.2 h3.1 (Int.le_of_lt (Int.pow_pos (by decide)))
    rw [Int.pow_succ]
    exact this
theorem wy_in {κ : Mem} (h : KR κ) {i b : Int} (hi : 0 ≤ i ∧ i < 4) : 0 ≤ wy κ i b ∧ wy κ i b ≤ 256 := by
  have := wyN_in h hi (b := b) 4 (by omega)
  exact this
/-- of all sets below m: who gets it, and that nobody does; in parts of 3072 -/
def pasN (κ : Mem) (i p : Int) (m : Nat) : Int := sm (fun b => wy κ i b * shp (κ 127 0) b p) m
def styN (κ : Mem) (i : Int) (m : Nat) : Int := sm (fun b => wy κ i b * stp (κ 127 0) b) m
def pP (κ : Mem) : Nat := 2 ^ (κ 129 0).toNat
def pas (κ : Mem) (i p : Int) : Int := pasN κ i p (pP κ)
def sty (κ : Mem) (i : Int) : Int := styN κ i (pP κ)
/-- one tale: from a state on, it stays (A), or comes to p (B p) -/
def stD (law : Int) (P : Nat) (A : Int) (B : Int → Int) (D : Int → Int) (k : Int) : Int := sm (fun s => D s * (A * ind k s + sm (fun p => B p * ind k (tgt law s p)) P)) 50
def DD (κ : Mem) : Nat → Int → Int
  | 0 => fun k => ind k (10 * κ 128 0)
  | i + 1 => stD (κ 126 0) (κ 129 0).toNat (sty κ i) (pas κ i) (DD κ i)
