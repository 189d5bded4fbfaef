/-! sums of the law, of the reference's numbers -/
def psum (f : Nat → Int32) : Nat → Int32
  | 0 => 0
  | n + 1 => psum f n + f n
theorem i_3 (x y z a b c : Int32) : (x + a) + (y + b) - (z + c) = (x + y - z) + (a + b - c) := by grind
theorem i_tst (l d m o : Int32) : (l - 1) + (d + 1) + m + o = l + d + m + o := by grind
theorem psum_cong {f h : Nat → Int32} : ∀ {n : Nat}, (∀ k, k < n → f k = h k) → psum f n = psum h n
  | 0, _ => rfl
  | n + 1, e => by
    unfold psum
    rw [e n (by omega), psum_cong (fun k hk => e k (by omega))]
theorem psum_add (f h : Nat → Int32) : ∀ (n : Nat), psum (fun k => f k + h k) n = psum f n + psum h n
  | 0 => rfl
  | n + 1 => by
    unfold psum
    rw [psum_add f h n]
    grind
theorem psum_sub (f h : Nat → Int32) : ∀ (n : Nat), psum (fun k => f k - h k) n = psum f n - psum h n
  | 0 => by show (0 : Int32) = 0 - 0; decide
  | n + 1 => by
    unfold psum
    rw [psum_sub f h n]
    grind
theorem psum_0 : ∀ (n : Nat), psum (fun _ => 0) n = 0
  | 0 => rfl
  | n + 1 => by
    unfold psum
    rw [psum_0 n]
    rfl
/-- one at j alone -/
def dl (j : Nat) : Nat → Int32 := fun k => if k = j then 1 else 0
theorem psum_dl {j : Nat} : ∀ {n : Nat}, psum (dl j) n = if j < n then 1 else 0
  | 0 => rfl
  | n + 1 => by
    unfold psum
    rw [psum_dl (n := n)]
    unfold dl
    by_cases h : j < n
    · rw [if_pos h, if_neg (show ¬ n = j by omega), if_pos (show j < n + 1 by omega)]; rfl
    · by_cases h2 : n = j
      · subst h2; rw [if_neg h, if_pos rfl, if_pos (Nat.lt_succ_self n)]; rfl
      · rw [if_neg h, if_neg h2, if_neg (show ¬ j < n + 1 by omega)]; rfl
