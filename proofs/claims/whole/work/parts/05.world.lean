/-! tables of the largest house, the states of both sides, sums -/
def TAl : List Int := [0, 1, 0, -1, -1, 0, 1, 2, 1, 0, -1, -2, -2, -2, -1, 0, 1, 2, 2, 3, 2, 1, 0, -1, -2, -3, -3, -3, -3, -2, -1, 0, 1, 2, 3, 3, 3, 4, 3, 2, 1, 0, -1, -2, -3, -4, -4, -4, -4, -4, -3, -2, -1, 0, 1, 2, 3, 4, 4, 4, 4, 5, 4, 3, 2, 1, 0, -1, -2, -3, -4, -5, -5, -5, -5, -5, -5, -4, -3, -2, -1, 0, 1, 2, 3, 4, 5, 5, 5, 5, 5]
def TDl : List Int := [0, 0, 1, 1, 0, -1, -1, 0, 1, 2, 2, 2, 1, 0, -1, -2, -2, -2, -1, 0, 1, 2, 3, 3, 3, 3, 2, 1, 0, -1, -2, -3, -3, -3, -3, -2, -1, 0, 1, 2, 3, 4, 4, 4, 4, 4, 3, 2, 1, 0, -1, -2, -3, -4, -4, -4, -4, -4, -3, -2, -1, 0, 1, 2, 3, 4, 5, 5, 5, 5, 5, 5, 4, 3, 2, 1, 0, -1, -2, -3, -4, -5, -5, -5, -5, -5, -5, -4, -3, -2, -1]
def TRl : List Int := [0, 1, 1, 1, 1, 1, 1, 2, 2, 2, 2, 2, 2, 2, 2, 2, 2, 2, 2, 3, 3, 3, 3, 3, 3, 3, 3, 3, 3, 3, 3, 3, 3, 3, 3, 3, 3, 4, 4, 4, 4, 4, 4, 4, 4, 4, 4, 4, 4, 4, 4, 4, 4, 4, 4, 4, 4, 4, 4, 4, 4, 5, 5, 5, 5, 5, 5, 5, 5, 5, 5, 5, 5, 5, 5, 5, 5, 5, 5, 5, 5, 5, 5, 5, 5, 5, 5, 5, 5, 5, 5]
def TCl : List Int := [-1, -1, -1, -1, -1, 81, 82, 83, 84, 85, 86, -1, -1, -1, -1, 80, 53, 54, 55, 56, 57, 87, -1, -1, -1, 79, 52, 31, 32, 33, 34, 58, 88, -1, -1, 78, 51, 30, 15, 16, 17, 35, 59, 89, -1, 77, 50, 29, 14, 5, 6, 18, 36, 60, 90, 76, 49, 28, 13, 4, 0, 1, 7, 19, 37, 61, 75, 48, 27, 12, 3, 2, 8, 20, 38, 62, -1, 74, 47, 26, 11, 10, 9, 21, 39, 63, -1, -1, 73, 46, 25, 24, 23, 22, 40, 64, -1, -1, -1, 72, 45, 44, 43, 42, 41, 65, -1, -1, -1, -1, 71, 70, 69, 68, 67, 66, -1, -1, -1, -1, -1]
def TNl : List Int := [1, 2, 3, 4, 5, 6, 7, 8, 2, 0, 6, 18, 8, 9, 10, 3, 0, 1, 2, 10, 11, 12, 4, 0, 0, 3, 12, 13, 14, 5, 6, 0, 4, 14, 15, 16, 18, 1, 0, 5, 16, 17, 19, 20, 8, 1, 18, 36, 20, 21, 9, 2, 1, 7, 21, 22, 23, 10, 2, 8, 9, 23, 24, 11, 3, 2, 10, 24, 25, 26, 12, 3, 3, 11, 26, 27, 13, 4, 4, 12, 27, 28, 29, 14, 5, 4, 13, 29, 30, 15, 16, 5, 14, 30, 31, 32, 17, 6, 5, 15, 32, 33, 35, 18, 6, 16, 33, 34, 36, 7, 1, 6, 17, 35, 37, 38, 20, 7, 36, 60, 38, 39, 21, 8, 7, 19, 39, 40, 22, 9, 8, 20, 40, 41, 42, 23, 9, 21, 22, 42, 43, 24, 10, 9, 23, 43, 44, 25, 11, 10, 24, 44, 45, 46, 26, 11, 11, 25, 46, 47, 27, 12, 12, 26, 47, 48, 28, 13, 13, 27, 48, 49, 50, 29, 14, 13, 28, 50, 51, 30, 15, 14, 29, 51, 52, 31, 32, 15, 30, 52, 53, 54, 33, 16, 15, 31, 54, 55, 34, 17, 16, 32, 55, 56, 58, 35, 17, 33, 56, 57, 59, 36, 18, 17, 34, 58, 60, 19, 7, 18, 35, 59, 61, 62, 38, 19, 60, 90, 62, 63, 39, 20, 19, 37, 63, 64, 40, 21, 20, 38, 64, 65, 41, 22, 21, 39, 65, 66, 67, 42, 22, 40, 41, 67, 68, 43, 23, 22, 42, 68, 69, 44, 24, 23, 43, 69, 70, 45, 25, 24, 44, 70, 71, 72, 46, 25, 25, 45, 72, 73, 47, 26, 26, 46, 73, 74, 48, 27, 27, 47, 74, 75, 49, 28, 28, 48, 75, 76, 77, 50, 29, 28, 49, 77, 78, 51, 30, 29, 50, 78, 79, 52, 31, 30, 51, 79, 80, 53, 54, 31, 52, 80, 81, 82, 55, 32, 31, 53, 82, 83, 56, 33, 32, 54, 83, 84, 57, 34, 33, 55, 84, 85, 87, 58, 34, 56, 85, 86, 88, 59, 35, 34, 57, 87, 89, 60, 36, 35, 58, 88, 90, 37, 19, 36, 59, 89, -1, -1, 62, 37, 90, -1, -1, -1, 63, 38, 37, 61, -1, -1, 64, 39, 38, 62, -1, -1, 65, 40, 39, 63, -1, -1, 66, 41, 40, 64, -1, -1, -1, 67, 41, 65, 66, -1, -1, 68, 42, 41, 67, -1, -1, 69, 43, 42, 68, -1, -1, 70, 44, 43, 69, -1, -1, 71, 45, 44, 70, -1, -1, -1, 72, 45, 45, 71, -1, -1, 73, 46, 46, 72, -1, -1, 74, 47, 47, 73, -1, -1, 75, 48, 48, 74, -1, -1, 76, 49, 49, 75, -1, -1, -1, 77, 50, 49, 76, -1, -1, 78, 51, 50, 77, -1, -1, 79, 52, 51, 78, -1, -1, 80, 53, 52, 79, -1, -1, 81, 82, 53, 80, -1, -1, -1, 83, 54, 53, 81, -1, -1, 84, 55, 54, 82, -1, -1, 85, 56, 55, 83, -1, -1, 86, 57, 56, 84, -1, -1, -1, 87, 57, 85, -1, -1, -1, 88, 58, 57, 86, -1, -1, 89, 59, 58, 87, -1, -1, 90, 60, 59, 88, -1, -1, 61, 37, 60, 89, -1]
def TPl : List Int := [5, 5, 5, 5, 5, 5, 4, 4, 5, 6, 5, 4, 4, 4, 4, 5, 6, 5, 5, 4, 4, 4, 5, 6, 6, 5, 4, 4, 4, 5, 5, 6, 5, 4, 4, 4, 4, 5, 6, 5, 4, 4, 3, 3, 5, 7, 5, 3, 3, 3, 4, 6, 6, 4, 3, 3, 3, 5, 7, 5, 4, 3, 3, 4, 6, 6, 5, 3, 3, 3, 5, 7, 6, 4, 3, 3, 4, 6, 7, 5, 3, 3, 3, 5, 6, 6, 4, 3, 3, 4, 5, 7, 5, 3, 3, 3, 4, 6, 6, 4, 3, 3, 3, 5, 7, 5, 3, 3, 3, 4, 6, 6, 4, 3, 2, 2, 5, 8, 5, 2, 2, 2, 4, 7, 6, 3, 2, 2, 3, 6, 7, 4, 2, 2, 2, 5, 8, 5, 3, 2, 2, 4, 7, 6, 4, 2, 2, 3, 6, 7, 5, 2, 2, 2, 5, 8, 6, 3, 2, 2, 4, 7, 7, 4, 2, 2, 3, 6, 8, 5, 2, 2, 2, 5, 7, 6, 3, 2, 2, 4, 6, 7, 4, 2, 2, 3, 5, 8, 5, 2, 2, 2, 4, 7, 6, 3, 2, 2, 3, 6, 7, 4, 2, 2, 2, 5, 8, 5, 2, 2, 2, 4, 7, 6, 3, 2, 2, 3, 6, 7, 4, 2, 1, 1, 5, 9, 5, 1, 1, 1, 4, 8, 6, 2, 1, 1, 3, 7, 7, 3, 1, 1, 2, 6, 8, 4, 1, 1, 1, 5, 9, 5, 2, 1, 1, 4, 8, 6, 3, 1, 1, 3, 7, 7, 4, 1, 1, 2, 6, 8, 5, 1, 1, 1, 5, 9, 6, 2, 1, 1, 4, 8, 7, 3, 1, 1, 3, 7, 8, 4, 1, 1, 2, 6, 9, 5, 1, 1, 1, 5, 8, 6, 2, 1, 1, 4, 7, 7, 3, 1, 1, 3, 6, 8, 4, 1, 1, 2, 5, 9, 5, 1, 1, 1, 4, 8, 6, 2, 1, 1, 3, 7, 7, 3, 1, 1, 2, 6, 8, 4, 1, 1, 1, 5, 9, 5, 1, 1, 1, 4, 8, 6, 2, 1, 1, 3, 7, 7, 3, 1, 1, 2, 6, 8, 4, 1, 0, 0, 5, 10, 5, 0, 0, 0, 4, 9, 6, 1, 0, 0, 3, 8, 7, 2, 0, 0, 2, 7, 8, 3, 0, 0, 1, 6, 9, 4, 0, 0, 0, 5, 10, 5, 1, 0, 0, 4, 9, 6, 2, 0, 0, 3, 8, 7, 3, 0, 0, 2, 7, 8, 4, 0, 0, 1, 6, 9, 5, 0, 0, 0, 5, 10, 6, 1, 0, 0, 4, 9, 7, 2, 0, 0, 3, 8, 8, 3, 0, 0, 2, 7, 9, 4, 0, 0, 1, 6, 10, 5, 0, 0, 0, 5, 9, 6, 1, 0, 0, 4, 8, 7, 2, 0, 0, 3, 7, 8, 3, 0, 0, 2, 6, 9, 4, 0, 0, 1, 5, 10, 5, 0, 0, 0, 4, 9, 6, 1, 0, 0, 3, 8, 7, 2, 0, 0, 2, 7, 8, 3, 0, 0, 1, 6, 9, 4, 0, 0, 0, 5, 10, 5, 0, 0, 0, 4, 9, 6, 1, 0, 0, 3, 8, 7, 2, 0, 0, 2, 7, 8, 3, 0, 0, 1, 6, 9, 4, 0]
def TA (j : Int) : Int := TAl.getD j.toNat 0
def TD (j : Int) : Int := TDl.getD j.toNat 0
def TR (j : Int) : Int := TRl.getD j.toNat 0
def TC (j : Int) : Int := TCl.getD j.toNat (-1)
def TN (j : Int) : Int := TNl.getD j.toNat (-1)
def TP (j : Int) : Int := TPl.getD j.toNat 0
def sA (S : Nat → Int → Int) (k : Nat) (f : Int → Int) : Nat → Int → Int := fun k2 => cond (Nat.beq k2 k) f (S k2)
theorem sA_at (S : Nat → Int → Int) (k : Nat) (f : Int → Int) : sA S k f k = f := by
  unfold sA
  rw [Nat.beq_refl]
  rfl
theorem sA_ne (S : Nat → Int → Int) {k k2 : Nat} (f : Int → Int) (h : k2 ≠ k) : sA S k f k2 = S k2 := by
  unfold sA
  have : Nat.beq k2 k = false := by
    cases hb : Nat.beq k2 k
    · rfl
    · exact absurd (Nat.eq_of_beq_eq_true hb) h
  rw [this]
  rfl
theorem sA_self (S : Nat → Int → Int) (k : Nat) : sA S k (S k) = S := by
  funext k2
  by_cases h : k2 = k
  · rw [h, sA_at]
  · rw [sA_ne S _ h]
theorem sA_sA (S : Nat → Int → Int) (k : Nat) (f g : Int → Int) : sA (sA S k f) k g = sA S k g := by
  funext k2
  by_cases h : k2 = k
  · rw [h, sA_at, sA_at]
  · rw [sA_ne _ _ h, sA_ne _ _ h, sA_ne _ _ h]
theorem sA_comm (S : Nat → Int → Int) {k j : Nat} (h : k ≠ j) (f g : Int → Int) : sA (sA S k f) j g = sA (sA S j g) k f := by
  funext k2
  by_cases h1 : k2 = k
  · rw [h1, sA_ne _ _ h, sA_at, sA_at]
  · by_cases h2 : k2 = j
    · rw [h2, sA_at, sA_ne _ _ (Ne.symm h), sA_at]
    · rw [sA_ne _ _ h2, sA_ne _ _ h1, sA_ne _ _ h1, sA_ne _ _ h2]
def wX (K : KK) (q : Nat → Nat) (S : Nat → Int → Int) : va_W := [(q 0, .inr (1, [.ref (q 1), .ref (q 7), .ref (q 8), .ref (q 9), .ref (q 10), .ref (q 11), .ref (q 12), .ref (q 13), .ref (q 14), .int (iI (S 0 9)), .int (iI (S 0 10))])), (q 1, .inr (0, [.ref (q 2), .ref (q 3), .ref (q 4), .ref (q 5), .ref (q 6)])), (q 2, aI K 91 TA), (q 3, aI K 91 TD), (q 4, aI K 91 TR), (q 5, aI K 121 TC), (q 6, aI K 546 TN), (q 7, aI K 91 (S 7)), (q 8, aZ K 546 (S 8)), (q 9, aI K 91 (S 9)), (q 10, aI K 91 (S 10)), (q 11, aI K 91 (S 11)), (q 12, aI K 91 (S 12)), (q 13, aI K 91 (S 13)), (q 14, aI K 91 (S 14))]
def wM (K : KK) (q : Nat → Nat) (S : Nat → Int → Int) : va_W := [(q 0, .inr (2, [.int (iI (S 0 0)), .int (iI (S 0 1)), .int (iI (S 0 2)), .ref (q 1), .ref (q 2), .ref (q 3), .ref (q 4), .ref (q 5), .ref (q 6), .ref (q 7), .ref (q 8), .ref (q 9), .ref (q 10)])), (q 1, aI K 91 (S 1)), (q 2, aI K 91 (S 2)), (q 3, aI K 91 (S 3)), (q 4, aI K 91 (S 4)), (q 5, aI K 121 (S 5)), (q 6, aZ K 546 (S 6)), (q 7, aI K 91 (S 7)), (q 8, aI K 91 (S 8)), (q 9, aI K 91 (S 9)), (q 10, aI K 91 (S 10))]
def wP (K : KK) (q : Nat → Nat) (S : Nat → Int → Int) : va_W := [(q 0, .inr (0, [.ref (q 1), .ref (q 2), .ref (q 3), .ref (q 4), .ref (q 5)])), (q 1, aI K 91 (S 1)), (q 2, aI K 91 (S 2)), (q 3, aI K 91 (S 3)), (q 4, aI K 121 (S 4)), (q 5, aI K 546 (S 5))]
abbrev rmL (i : Nat) : Room := { frames := i, cells := 0, slots := 0, locals := 32 * i }
def smN (g : Int → Int) (a : Int) : Nat → Int
  | 0 => 0
  | n + 1 => smN g a n + g (a + n)
def sm (g : Int → Int) (a b : Int) : Int := smN g a (b - a).toNat
theorem sm_0 (g : Int → Int) (a : Int) : sm g a a = 0 := by
  unfold sm
  rw [Int.sub_self]
  rfl
theorem sm_out (g : Int → Int) {a b : Int} (h : b ≤ a) : sm g a b = 0 := by
  unfold sm
  rw [show (b - a).toNat = 0 by omega]
  rfl
theorem sm_s (g : Int → Int) {a b : Int} (h : a ≤ b) : sm g a (b + 1) = sm g a b + g b := by
  unfold sm
  rw [show (b + 1 - a).toNat = (b - a).toNat + 1 by omega]
  show smN g a (b - a).toNat + g (a + ((b - a).toNat : Int)) = _
  rw [show a + ((b - a).toNat : Int) = b by omega]
theorem sm_ind {P : Int → Prop} {a : Int} (h0 : P a) (hs : ∀ b, a ≤ b → P b → P (b + 1)) : ∀ b, a ≤ b → P b := by
  have key : ∀ n : Nat, P (a + n) := by
    intro n
    induction n with
    | zero => rw [show a + ((0 : Nat) : Int) = a by omega]; exact h0
    | succ n ih => rw [show a + ((n + 1 : Nat) : Int) = a + n + 1 by omega]; exact hs _ (by omega) ih
  intro b hb
  have := key (b - a).toNat
  rw [show a + ((b - a).toNat : Int) = b by omega] at this
  exact this
theorem sm_cong {g h : Int → Int} {a b : Int} (e : ∀ j, a ≤ j → j < b → g j = h j) : sm g a b = sm h a b := by
  by_cases hab : a ≤ b
  · have key : ∀ c, a ≤ c → (c ≤ b → sm g a c = sm h a c) := by
      intro c hc
      refine sm_ind (P := fun c => c ≤ b → sm g a c = sm h a c) (fun _ => by rw [sm_0, sm_0]) (fun c hac ih hcb => ?_) c hc
      rw [sm_s g hac, sm_s h hac, ih (by omega), e c hac (by omega)]
    exact key b hab (Int.le_refl _)
  · rw [sm_out g (by omega), sm_out h (by omega)]
theorem sm_le {g : Int → Int} {a b : Int} (hab : a ≤ b) {c : Int} (e : ∀ j, a ≤ j → j < b → 0 ≤ g j ∧ g j ≤ c) : 0 ≤ sm g a b ∧ sm g a b ≤ c * (b - a) := by
  have key : ∀ d, a ≤ d → (d ≤ b → 0 ≤ sm g a d ∧ sm g a d ≤ c * (d - a)) := by
    intro d hd
    refine sm_ind (P := fun d => d ≤ b → 0 ≤ sm g a d ∧ sm g a d ≤ c * (d - a)) (fun _ => by rw [sm_0, Int.sub_self, Int.mul_zero]; omega) (fun d had ih hdb => ?_) d hd
    have h1 := ih (by omega)
    have h2 := e d had (by omega)
    rw [sm_s g had, show d + 1 - a = (d - a) + 1 by omega, Int.mul_add, Int.mul_one]
    omega
  exact key b hab (Int.le_refl _)
def FR (k : Int) : Int := if k < 1 then 0 else 1 + 3 * k * (k - 1)
def SZ (k : Int) : Int := if k < 1 then 1 else 6 * k
def NX (n r s : Int) : Int := if TN (r * 6 + s) < n then TN (r * 6 + s) else -1
def ON (n : Int) (f h : Int → Int) (r s : Int) : Int := if NX n r s = -1 ∨ ¬ h (r * 6 + s) = 0 ∨ f (NX n r s) = 1 then -1 else NX n r s
theorem getD_all {l : List Int} {P : Int → Prop} {d : Int} (hd : P d) (h : ∀ x ∈ l, P x) (j : Nat) : P (l.getD j d) := by
  rw [List.getD_eq_getElem?_getD]
  cases hj : l[j]? with
  | none => exact hd
  | some x => exact h x (List.mem_of_getElem? hj)
theorem TN_b (j : Int) : -1 ≤ TN j ∧ TN j ≤ 90 := getD_all (P := fun x => -1 ≤ x ∧ x ≤ 90) (by decide) (by decide +kernel) _
theorem TA_b (j : Int) : -5 ≤ TA j ∧ TA j ≤ 5 := getD_all (P := fun x => -5 ≤ x ∧ x ≤ 5) (by decide) (by decide +kernel) _
theorem TD_b (j : Int) : -5 ≤ TD j ∧ TD j ≤ 5 := getD_all (P := fun x => -5 ≤ x ∧ x ≤ 5) (by decide) (by decide +kernel) _
theorem TR_b (j : Int) : 0 ≤ TR j ∧ TR j ≤ 5 := getD_all (P := fun x => 0 ≤ x ∧ x ≤ 5) (by decide) (by decide +kernel) _
theorem TC_b (j : Int) : -1 ≤ TC j ∧ TC j ≤ 90 := getD_all (P := fun x => -1 ≤ x ∧ x ≤ 90) (by decide) (by decide +kernel) _
theorem NX_b (n r s : Int) : NX n r s = -1 ∨ (0 ≤ NX n r s ∧ NX n r s < n ∧ NX n r s ≤ 90) := by
  have h := TN_b (r * 6 + s)
  unfold NX
  by_cases c : TN (r * 6 + s) < n
  · rw [if_pos c]
    omega
  · rw [if_neg c]
    exact Or.inl rfl
theorem ON_b (n : Int) (f h : Int → Int) (r s : Int) : ON n f h r s = -1 ∨ (0 ≤ ON n f h r s ∧ ON n f h r s < n ∧ ON n f h r s ≤ 90) := by
  unfold ON
  by_cases c : NX n r s = -1 ∨ ¬ h (r * 6 + s) = 0 ∨ f (NX n r s) = 1
  · rw [if_pos c]
    exact Or.inl rfl
  · rw [if_neg c]
    exact NX_b n r s
def HS (S : Nat → Int → Int) : Prop := (1 ≤ S 0 9 ∧ S 0 9 ≤ 5) ∧ S 0 10 = FR (S 0 9 + 1) ∧ (∀ j, 0 ≤ j → j < 91 → 0 ≤ S 7 j ∧ S 7 j ≤ 2) ∧ (∀ j, 0 ≤ j → j < 546 → 0 ≤ S 8 j ∧ S 8 j ≤ 1)
theorem FR_5 {k : Int} (h : 1 ≤ k ∧ k ≤ 5) : FR (k + 1) = (if k = 1 then 7 else if k = 2 then 19 else if k = 3 then 37 else if k = 4 then 61 else 91) := by
  rcases (by omega : k = 1 ∨ k = 2 ∨ k = 3 ∨ k = 4 ∨ k = 5) with h | h | h | h | h <;> subst h <;> decide +kernel
theorem FR_n {k : Int} (h : 1 ≤ k ∧ k ≤ 5) : 7 ≤ FR (k + 1) ∧ FR (k + 1) ≤ 91 := by
  rcases (by omega : k = 1 ∨ k = 2 ∨ k = 3 ∨ k = 4 ∨ k = 5) with h | h | h | h | h <;> subst h <;> decide +kernel
theorem HS.n {S : Nat → Int → Int} (h : HS S) : 7 ≤ S 0 10 ∧ S 0 10 ≤ 91 := by
  rw [h.2.1]
  exact FR_n h.1
def fF (f : Int → Int) (n v : Int) : Int → Int := fun j => if 0 ≤ j ∧ j < n then v else f j
theorem fF_0 (f : Int → Int) (v : Int) : fF f 0 v = f := by
  funext j
  unfold fF
  rw [if_neg (by omega)]
theorem fF_s (f : Int → Int) {n : Int} (v : Int) (h : 0 ≤ n) : fU (fF f n v) n v = fF f (n + 1) v := by
  funext j
  unfold fU fF
  by_cases e : j = n
  · rw [if_pos e, if_pos (by omega)]
  · rw [if_neg e]
    by_cases c : 0 ≤ j ∧ j < n
    · rw [if_pos c, if_pos (by omega)]
    · rw [if_neg c, if_neg (by omega)]
section G2
variable {p : Program} {l : Launch} {e : Env} {R : Room} {s : State} {m : MethodId} {args : Array Value} {below : List Frame} {meth : Method} {c : Code} {cc : ByteArray} {nL : Nat} {rt : Option FieldType} {Ts : List Cond} {own : String} {K : KK} {A : Nat → Prop} {k n : Nat} {Q : State → Prop} {pc : Nat} {lv lv' : List (Nat × Value)} {st : List Value} {ws : va_W}
theorem g_sub (ks : List Nat) (h : lv_pick lv ks = lv') (kk : hG p l e R s m args below meth c nL K A k n Q pc lv' st ws) : hG p l e R s m args below meth c nL K A k n Q pc lv st ws :=
  fun H locs ls hP hD hS hl => kk H locs ls hP hD hS (lv_sub hl ks h)
theorem g_copy (C : hCx p s m args meth c cc nL rt Ts own K A) {index : Nat} (hlink : Cond.methodLink own index arraycopyName ∈ Ts) (hnat : Cond.native arraycopyName ∈ Ts) (hstat : Cond.static arraycopyName ∈ Ts) (hini : Cond.initialized "java/lang/System" ∈ Ts) (q0 q1 : Nat) {a0 a n0 n1 : Nat} {f g : Int → Int} (ha0 : ws[q0]? = some (a0, aI K n0 f)) (ha1 : ws[q1]? = some (a, aI K n1 g)) {sp dp cnt : Int} (h1 : 0 ≤ sp ∧ sp + cnt ≤ n0) (h2 : 0 ≤ dp ∧ dp + cnt ≤ n1) (h3 : 0 ≤ cnt) (hN : n0 < 100000 ∧ n1 < 100000) (hfr : 1 ≤ R.frames) (hlo : (st.map fun v => v.category).sum + (nativeFrameWords "java/lang/System" "arraycopy" 5 + 11) ≤ R.locals) (d : decode cc pc = .ok (.invokestatic index, 3)) {ws' : va_W} (hw : ws.set q1 (a, aI K n1 (fC f g sp dp cnt)) = ws') (kk : hG p l e R s m args below meth c nL K A k n Q (pc + 3) lv st ws') : hG p l e R s m args below meth c nL K A k n Q pc lv (.int (iI cnt) :: .int (iI dp) :: .ref a :: .int (iI sp) :: .ref a0 :: st) ws := by
  intro H locs ls hP hD hS hl
  have nz : ∀ z : Int, 0 ≤ z → z < 2147483648 → ¬ iI z < 0 := by
    intro z h0 hz
    rw [← iI_0, iI_lt (by omega) (by omega)]
    omega
  refine va_copyi (c0 := K.2.1 0) (c1 := K.2.1 0) (f := vF f) (g := vF g) (ty := .int) C.hx C.hb (C.hml.trans hl.1.symm) C.hown (C.hts _ hlink) (C.hts _ hnat) (C.hts _ hstat) (C.hts _ hini) C.hK hP hD hS q0 q1 0 0 ha0 ha1 rfl rfl rfl (nz sp h1.1 (by omega)) (nz dp h2.1 (by omega)) (nz cnt h3 (by omega)) ?_ ?_ (fun _ _ => rfl) hfr hlo d (fun H1 locs1 hP hD hS => ?_)
  · rw [iI_clamp (by omega), iI_clamp (by omega)]
    omega
  · rw [iI_clamp (by omega), iI_clamp (by omega)]
    omega
  · rw [vF_cpy f g (by omega) (by omega) (by omega)] at hP hD
    subst hw
    exact kk H1 locs1 ls hP hD hS hl
theorem g_abs (C : hCx p s m args meth c cc nL rt Ts own K A) {index : Nat} (hlink : Cond.methodLink own index Lib.Math.abs.name ∈ Ts) (hstat : Cond.static Lib.Math.abs.name ∈ Ts) (hini : Cond.initialized "java/lang/Math" ∈ Ts) (hcode : Cond.code Lib.Math.abs.name Lib.Math.abs.code 1 (some .int) ∈ Ts) (hfr : 1 ≤ R.frames) (hlo : (st.map fun v => v.category).sum + 13 ≤ R.locals) (hk : k ≤ R.cells ∧ n ≤ R.slots) {x : Int} (hx : -2147483648 ≤ x ∧ x < 2147483648) (d : decode cc pc = .ok (.invokestatic index, 3)) (kk : hG p l e R s m args below meth c nL K A k n Q (pc + 3) lv (.int (iI (if 0 ≤ x then x else -x)) :: st) ws) : hG p l e R s m args below meth c nL K A k n Q pc lv (.int (iI x) :: st) ws :=
  fun H locs ls hP hD hS hl => va_mabs C.hx C.hb (C.hml.trans hl.1.symm) C.hown (C.hts _ hlink) (C.hts _ hstat) (C.hts _ hini) (C.hts _ hcode) hfr hlo hk.1 hk.2 d (by rw [iI_abs hx]; exact kk H locs ls hP hD hS hl)
theorem g_i2l (C : hCx p s m args meth c cc nL rt Ts own K A) {z : Int} (hz : -2147483648 ≤ z ∧ z < 2147483648) (d : decode cc pc = .ok (.i2l, 1)) (kk : hG p l e R s m args below meth c nL K A k n Q (pc + 1) lv (.long (Int64.ofInt z) :: st) ws) : hG p l e R s m args below meth c nL K A k n Q pc lv (.int (iI z) :: st) ws :=
  fun H locs ls hP hD hS hl => lv_i2l C.hx C.hb d (by show (iI z).toInt64 = _; exact Int32.toInt64_ofInt (by rw [show Int32.minValue.toInt = -2147483648 from by decide +kernel]; omega) (by rw [show Int32.maxValue.toInt = 2147483647 from by decide +kernel]; omega)) (kk H locs ls hP hD hS hl)
theorem g_lmul (C : hCx p s m args meth c cc nL rt Ts own K A) {x y : Int64} (d : decode cc pc = .ok (.lmul, 1)) (kk : hG p l e R s m args below meth c nL K A k n Q (pc + 1) lv (.long (x * y) :: st) ws) : hG p l e R s m args below meth c nL K A k n Q pc lv (.long y :: .long x :: st) ws :=
  fun H locs ls hP hD hS hl => lv_lmul C.hx C.hb d (kk H locs ls hP hD hS hl)
theorem g_ladd (C : hCx p s m args meth c cc nL rt Ts own K A) {x y : Int64} (d : decode cc pc = .ok (.ladd, 1)) (kk : hG p l e R s m args below meth c nL K A k n Q (pc + 1) lv (.long (x + y) :: st) ws) : hG p l e R s m args below meth c nL K A k n Q pc lv (.long y :: .long x :: st) ws :=
  fun H locs ls hP hD hS hl => lv_ladd C.hx C.hb d (kk H locs ls hP hD hS hl)
theorem g_ldc2 (C : hCx p s m args meth c cc nL rt Ts own K A) {index : Nat} {v : Int64} (hc : Cond.constantLong own index v ∈ Ts) (d : decode cc pc = .ok (.ldc2_w index, 3)) (kk : hG p l e R s m args below meth c nL K A k n Q (pc + 3) lv (.long v :: st) ws) : hG p l e R s m args below meth c nL K A k n Q pc lv st ws :=
  fun H locs ls hP hD hS hl => lv_ldc2 C.hx C.hb C.hown (C.hts _ hc) d (kk H locs ls hP hD hS hl)
end G2
theorem set_at {ws : va_W} {q0 : Nat} {x y : Nat × va_E} (h : ws[q0]? = some x) : (ws.set q0 y)[q0]? = some y := by
  have hl : q0 < ws.length := (List.getElem?_eq_some_iff.mp h).1
  rw [List.getElem?_set_self hl]
theorem set_set {ws : va_W} {q0 : Nat} {x y : Nat × va_E} : (ws.set q0 x).set q0 y = ws.set q0 y := List.set_set _
theorem set_id {ws : va_W} {q0 : Nat} {x : Nat × va_E} (h : ws[q0]? = some x) : ws.set q0 x = ws := by
  apply List.ext_getElem?
  intro i
  by_cases e : i = q0
  · subst e
    rw [set_at h, h]
  · rw [List.getElem?_set_ne (fun q => e q.symm)]
set_option maxHeartbeats 4000000 in
set_option maxRecDepth 100000 in
theorem c_J7_fill (l : Launch) (K : KK) (ws ws' : va_W) (q0 : Nat) {a N : Nat} {f : Int → Int} (v : Int) (he : ws[q0]? = some (a, aI K N f)) (hw : ws.set q0 (a, aI K N (fF f N v)) = ws') (hN : N < 100000) : hMV l yJ7_fill_53178 wsJ7_fill_53178 (rmL 0) K [.ref a, .int (iI v)] ws (fun w => w = ws') := by
  refine in_MV (cc := cJ7_fill_53178) (maxL := 4) (rt := none) (lv := [(0, .ref a), (1, .int (iI v))]) (by decide) rfl (Nat.le_of_ble_eq_true rfl) rfl ?_
  intro p e s m args below meth c A C
  refine g_iconst (pc := 0) C dJ7_fill_53178_0 ?_
  refine g_istore_n (pc := 1) (lv' := [(2, .int (iI 0)), (0, .ref a), (1, .int (iI v))]) C dJ7_fill_53178_1 rfl (by decide) rfl ?_
  refine g_aload_n (pc := 2) C dJ7_fill_53178_2 rfl rfl ?_
  refine g_alen (pc := 3) C q0 he dJ7_fill_53178_3 ?_
  refine g_istore_n (pc := 4) (lv' := [(3, .int (iI N)), (2, .int (iI 0)), (0, .ref a), (1, .int (iI v))]) C dJ7_fill_53178_4 rfl (by decide) rfl ?_
  have loop5 : ∀ (fu : Nat) (i : Int), (0 ≤ i ∧ i ≤ N) → N - i < (fu : Int) → hG p l e (rmL 0) s m args below meth c 4 K A 0 0 (QV K A below args s (fun w => w = ws')) 5 [(3, .int (iI N)), (2, .int (iI i)), (0, .ref a), (1, .int (iI v))] [] (ws.set q0 (a, aI K N (fF f i v))) := by
    intro fu
    induction fu with
    | zero =>
      intro i h1 hm
      exact absurd hm (by omega)
    | succ fu ih =>
      intro i h1 hm
      refine g_iload_n (pc := 5) C dJ7_fill_53178_5 rfl rfl ?_
      refine g_iload_n (pc := 6) C dJ7_fill_53178_6 rfl rfl ?_
      refine g_icmp_ge (pc := 7) (tgt := 20) C dJ7_fill_53178_7 (by decide) (by omega) (by omega) (fun c1 => ?_) (fun c1 => ?_)
      · exact g_return (pc := 20) C rfl dJ7_fill_53178_20 (by rw [show i = (N : Int) by omega]; exact hw)
      · refine g_aload_n (pc := 10) C dJ7_fill_53178_10 rfl rfl ?_
        refine g_iload_n (pc := 11) C dJ7_fill_53178_11 rfl rfl ?_
        refine g_iload_n (pc := 12) C dJ7_fill_53178_12 rfl rfl ?_
        refine g_iastore (pc := 13) C q0 (set_at he) (by omega) dJ7_fill_53178_13 set_set ?_
        rw [fF_s f v h1.1]
        refine g_iinc (pc := 14) (lv' := [(2, .int (iI (i + 1))), (3, .int (iI N)), (0, .ref a), (1, .int (iI v))]) C dJ7_fill_53178_14 rfl (by decide) rfl ?_
        refine g_goto (pc := 17) (tgt := 5) C dJ7_fill_53178_17 (by decide) ?_
        refine g_sub (lv' := [(3, .int (iI N)), (2, .int (iI (i + 1))), (0, .ref a), (1, .int (iI v))]) [1, 0, 2, 3] rfl ?_
        exact ih (i + 1) (by omega) (by omega)
  have h0 := loop5 (N + 1) 0 (by omega) (by omega)
  rw [fF_0, set_id he] at h0
  exact h0

