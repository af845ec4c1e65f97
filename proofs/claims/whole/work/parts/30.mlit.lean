def FBl : List (List Int) := [[0, 1, 7, 19, 37, 61, 2, 9, 22, 41, 66, 3, 11, 25, 45, 71, 4, 13, 28, 49, 76, 5, 15, 31, 53, 81, 6, 17, 34, 57, 86], [1, 7, 19, 37, 61, 8, 21, 40, 65, 2, 10, 24, 44, 70, 0, 4, 13, 28, 49, 76, 6, 16, 32, 54, 82, 18, 35, 58, 87], [2, 8, 20, 38, 62, 9, 22, 41, 66, 10, 24, 44, 70, 3, 12, 27, 48, 75, 0, 5, 15, 31, 53, 81, 1, 18, 35, 58, 87], [3, 2, 8, 20, 38, 62, 10, 23, 42, 67, 11, 25, 45, 71, 12, 27, 48, 75, 4, 14, 30, 52, 80, 0, 6, 17, 34, 57, 86], [4, 0, 1, 7, 19, 37, 61, 3, 10, 23, 42, 67, 12, 26, 46, 72, 13, 28, 49, 76, 14, 30, 52, 80, 5, 16, 33, 56, 85], [5, 6, 18, 36, 60, 90, 0, 2, 9, 22, 41, 66, 4, 12, 26, 46, 72, 14, 29, 50, 77, 15, 31, 53, 81, 16, 33, 56, 85], [6, 18, 36, 60, 90, 1, 8, 21, 40, 65, 0, 3, 11, 25, 45, 71, 5, 14, 29, 50, 77, 16, 32, 54, 82, 17, 34, 57, 86], [7, 19, 37, 61, 20, 39, 64, 8, 9, 23, 43, 69, 1, 0, 4, 13, 28, 49, 76, 18, 17, 33, 55, 83, 36, 59, 88], [8, 20, 38, 62, 21, 40, 65, 9, 23, 43, 69, 2, 3, 12, 27, 48, 75, 1, 6, 16, 32, 54, 82, 7, 36, 59, 88], [9, 21, 39, 63, 22, 41, 66, 23, 43, 69, 10, 11, 26, 47, 74, 2, 0, 5, 15, 31, 53, 81, 8, 7, 36, 59, 88], [10, 9, 21, 39, 63, 23, 42, 67, 24, 44, 70, 11, 26, 47, 74, 3, 4, 14, 30, 52, 80, 2, 1, 18, 35, 58, 87], [11, 10, 9, 21, 39, 63, 24, 43, 68, 25, 45, 71, 26, 47, 74, 12, 13, 29, 51, 79, 3, 0, 6, 17, 34, 57, 86], [12, 3, 2, 8, 20, 38, 62, 11, 24, 43, 68, 26, 46, 72, 27, 48, 75, 13, 29, 51, 79, 4, 5, 16, 33, 56, 85], [13, 4, 0, 1, 7, 19, 37, 61, 12, 11, 24, 43, 68, 27, 47, 73, 28, 49, 76, 29, 51, 79, 14, 15, 32, 55, 84], [14, 5, 6, 18, 36, 60, 90, 4, 3, 10, 23, 42, 67, 13, 27, 47, 73, 29, 50, 77, 30, 52, 80, 15, 32, 55, 84], [15, 16, 17, 35, 59, 89, 5, 0, 2, 9, 22, 41, 66, 14, 13, 27, 47, 73, 30, 51, 78, 31, 53, 81, 32, 55, 84], [16, 17, 35, 59, 89, 6, 1, 8, 21, 40, 65, 5, 4, 12, 26, 46, 72, 15, 30, 51, 78, 32, 54, 82, 33, 56, 85], [17, 35, 59, 89, 18, 7, 20, 39, 64, 6, 0, 3, 11, 25, 45, 71, 16, 15, 30, 51, 78, 33, 55, 83, 34, 57, 86], [18, 36, 60, 90, 7, 20, 39, 64, 1, 2, 10, 24, 44, 70, 6, 5, 14, 29, 50, 77, 17, 33, 55, 83, 35, 58, 87], [19, 37, 61, 38, 63, 20, 21, 22, 42, 68, 7, 1, 0, 4, 13, 28, 49, 76, 36, 35, 34, 56, 84, 60, 89], [20, 38, 62, 39, 64, 21, 22, 42, 68, 8, 2, 3, 12, 27, 48, 75, 7, 18, 17, 33, 55, 83, 19, 60, 89], [21, 39, 63, 40, 65, 22, 42, 68, 9, 10, 11, 26, 47, 74, 8, 1, 6, 16, 32, 54, 82, 20, 19, 60, 89], [22, 40, 64, 41, 66, 42, 68, 23, 24, 25, 46, 73, 9, 2, 0, 5, 15, 31, 53, 81, 21, 20, 19, 60, 89], [23, 22, 40, 64, 42, 67, 43, 69, 24, 25, 46, 73, 10, 3, 4, 14, 30, 52, 80, 9, 8, 7, 36, 59, 88], [24, 23, 22, 40, 64, 43, 68, 44, 70, 25, 46, 73, 11, 12, 13, 29, 51, 79, 10, 2, 1, 18, 35, 58, 87], [25, 24, 23, 22, 40, 64, 44, 69, 45, 71, 46, 73, 26, 27, 28, 50, 78, 11, 3, 0, 6, 17, 34, 57, 86], [26, 11, 10, 9, 21, 39, 63, 25, 44, 69, 46, 72, 47, 74, 27, 28, 50, 78, 12, 4, 5, 16, 33, 56, 85], [27, 12, 3, 2, 8, 20, 38, 62, 26, 25, 44, 69, 47, 73, 48, 75, 28, 50, 78, 13, 14, 15, 32, 55, 84], [28, 13, 4, 0, 1, 7, 19, 37, 61, 27, 26, 25, 44, 69, 48, 74, 49, 76, 50, 78, 29, 30, 31, 54, 83], [29, 14, 5, 6, 18, 36, 60, 90, 13, 12, 11, 24, 43, 68, 28, 48, 74, 50, 77, 51, 79, 30, 31, 54, 83], [30, 15, 16, 17, 35, 59, 89, 14, 4, 3, 10, 23, 42, 67, 29, 28, 48, 74, 51, 78, 52, 80, 31, 54, 83], [31, 32, 33, 34, 58, 88, 15, 5, 0, 2, 9, 22, 41, 66, 30, 29, 28, 48, 74, 52, 79, 53, 81, 54, 83], [32, 33, 34, 58, 88, 16, 6, 1, 8, 21, 40, 65, 15, 14, 13, 27, 47, 73, 31, 52, 79, 54, 82, 55, 84], [33, 34, 58, 88, 17, 18, 7, 20, 39, 64, 16, 5, 4, 12, 26, 46, 72, 32, 31, 52, 79, 55, 83, 56, 85], [34, 58, 88, 35, 36, 19, 38, 63, 17, 6, 0, 3, 11, 25, 45, 71, 33, 32, 31, 52, 79, 56, 84, 57, 86], [35, 59, 89, 36, 19, 38, 63, 18, 1, 2, 10, 24, 44, 70, 17, 16, 15, 30, 51, 78, 34, 56, 84, 58, 87], [36, 60, 90, 19, 38, 63, 7, 8, 9, 23, 43, 69, 18, 6, 5, 14, 29, 50, 77, 35, 34, 56, 84, 59, 88], [37, 61, 62, 38, 39, 40, 41, 67, 19, 7, 1, 0, 4, 13, 28, 49, 76, 60, 59, 58, 57, 85, 90], [38, 62, 63, 39, 40, 41, 67, 20, 8, 2, 3, 12, 27, 48, 75, 19, 36, 35, 34, 56, 84, 37, 90], [39, 63, 64, 40, 41, 67, 21, 9, 10, 11, 26, 47, 74, 20, 7, 18, 17, 33, 55, 83, 38, 37, 90], [40, 64, 65, 41, 67, 22, 23, 24, 25, 46, 73, 21, 8, 1, 6, 16, 32, 54, 82, 39, 38, 37, 90], [41, 65, 66, 67, 42, 43, 44, 45, 72, 22, 9, 2, 0, 5, 15, 31, 53, 81, 40, 39, 38, 37, 90], [42, 41, 65, 67, 68, 43, 44, 45, 72, 23, 10, 3, 4, 14, 30, 52, 80, 22, 21, 20, 19, 60, 89], [43, 42, 41, 65, 68, 69, 44, 45, 72, 24, 11, 12, 13, 29, 51, 79, 23, 9, 8, 7, 36, 59, 88], [44, 43, 42, 41, 65, 69, 70, 45, 72, 25, 26, 27, 28, 50, 78, 24, 10, 2, 1, 18, 35, 58, 87], [45, 44, 43, 42, 41, 65, 70, 71, 72, 46, 47, 48, 49, 77, 25, 11, 3, 0, 6, 17, 34, 57, 86], [46, 25, 24, 23, 22, 40, 64, 45, 70, 72, 73, 47, 48, 49, 77, 26, 12, 4, 5, 16, 33, 56, 85], [47, 26, 11, 10, 9, 21, 39, 63, 46, 45, 70, 73, 74, 48, 49, 77, 27, 13, 14, 15, 32, 55, 84], [48, 27, 12, 3, 2, 8, 20, 38, 62, 47, 46, 45, 70, 74, 75, 49, 77, 28, 29, 30, 31, 54, 83], [49, 28, 13, 4, 0, 1, 7, 19, 37, 61, 48, 47, 46, 45, 70, 75, 76, 77, 50, 51, 52, 53, 82], [50, 29, 14, 5, 6, 18, 36, 60, 90, 28, 27, 26, 25, 44, 69, 49, 75, 77, 78, 51, 52, 53, 82], [51, 30, 15, 16, 17, 35, 59, 89, 29, 13, 12, 11, 24, 43, 68, 50, 49, 75, 78, 79, 52, 53, 82], [52, 31, 32, 33, 34, 58, 88, 30, 14, 4, 3, 10, 23, 42, 67, 51, 50, 49, 75, 79, 80, 53, 82], [53, 54, 55, 56, 57, 87, 31, 15, 5, 0, 2, 9, 22, 41, 66, 52, 51, 50, 49, 75, 80, 81, 82], [54, 55, 56, 57, 87, 32, 16, 6, 1, 8, 21, 40, 65, 31, 30, 29, 28, 48, 74, 53, 80, 82, 83], [55, 56, 57, 87, 33, 17, 18, 7, 20, 39, 64, 32, 15, 14, 13, 27, 47, 73, 54, 53, 80, 83, 84], [56, 57, 87, 34, 35, 36, 19, 38, 63, 33, 16, 5, 4, 12, 26, 46, 72, 55, 54, 53, 80, 84, 85], [57, 87, 58, 59, 60, 37, 62, 34, 17, 6, 0, 3, 11, 25, 45, 71, 56, 55, 54, 53, 80, 85, 86], [58, 88, 59, 60, 37, 62, 35, 18, 1, 2, 10, 24, 44, 70, 34, 33, 32, 31, 52, 79, 57, 85, 87], [59, 89, 60, 37, 62, 36, 7, 8, 9, 23, 43, 69, 35, 17, 16, 15, 30, 51, 78, 58, 57, 85, 88], [60, 90, 37, 62, 19, 20, 21, 22, 42, 68, 36, 18, 6, 5, 14, 29, 50, 77, 59, 58, 57, 85, 89], [61, 62, 63, 64, 65, 66, 37, 19, 7, 1, 0, 4, 13, 28, 49, 76, 90, 89, 88, 87, 86], [62, 63, 64, 65, 66, 38, 20, 8, 2, 3, 12, 27, 48, 75, 37, 60, 59, 58, 57, 85, 61], [63, 64, 65, 66, 39, 21, 9, 10, 11, 26, 47, 74, 38, 19, 36, 35, 34, 56, 84, 62, 61], [64, 65, 66, 40, 22, 23, 24, 25, 46, 73, 39, 20, 7, 18, 17, 33, 55, 83, 63, 62, 61], [65, 66, 41, 42, 43, 44, 45, 72, 40, 21, 8, 1, 6, 16, 32, 54, 82, 64, 63, 62, 61], [66, 67, 68, 69, 70, 71, 41, 22, 9, 2, 0, 5, 15, 31, 53, 81, 65, 64, 63, 62, 61], [67, 66, 68, 69, 70, 71, 42, 23, 10, 3, 4, 14, 30, 52, 80, 41, 40, 39, 38, 37, 90], [68, 67, 66, 69, 70, 71, 43, 24, 11, 12, 13, 29, 51, 79, 42, 22, 21, 20, 19, 60, 89], [69, 68, 67, 66, 70, 71, 44, 25, 26, 27, 28, 50, 78, 43, 23, 9, 8, 7, 36, 59, 88], [70, 69, 68, 67, 66, 71, 45, 46, 47, 48, 49, 77, 44, 24, 10, 2, 1, 18, 35, 58, 87], [71, 70, 69, 68, 67, 66, 72, 73, 74, 75, 76, 45, 25, 11, 3, 0, 6, 17, 34, 57, 86], [72, 45, 44, 43, 42, 41, 65, 71, 73, 74, 75, 76, 46, 26, 12, 4, 5, 16, 33, 56, 85], [73, 46, 25, 24, 23, 22, 40, 64, 72, 71, 74, 75, 76, 47, 27, 13, 14, 15, 32, 55, 84], [74, 47, 26, 11, 10, 9, 21, 39, 63, 73, 72, 71, 75, 76, 48, 28, 29, 30, 31, 54, 83], [75, 48, 27, 12, 3, 2, 8, 20, 38, 62, 74, 73, 72, 71, 76, 49, 50, 51, 52, 53, 82], [76, 49, 28, 13, 4, 0, 1, 7, 19, 37, 61, 75, 74, 73, 72, 71, 77, 78, 79, 80, 81], [77, 50, 29, 14, 5, 6, 18, 36, 60, 90, 49, 48, 47, 46, 45, 70, 76, 78, 79, 80, 81], [78, 51, 30, 15, 16, 17, 35, 59, 89, 50, 28, 27, 26, 25, 44, 69, 77, 76, 79, 80, 81], [79, 52, 31, 32, 33, 34, 58, 88, 51, 29, 13, 12, 11, 24, 43, 68, 78, 77, 76, 80, 81], [80, 53, 54, 55, 56, 57, 87, 52, 30, 14, 4, 3, 10, 23, 42, 67, 79, 78, 77, 76, 81], [81, 82, 83, 84, 85, 86, 53, 31, 15, 5, 0, 2, 9, 22, 41, 66, 80, 79, 78, 77, 76], [82, 83, 84, 85, 86, 54, 32, 16, 6, 1, 8, 21, 40, 65, 53, 52, 51, 50, 49, 75, 81], [83, 84, 85, 86, 55, 33, 17, 18, 7, 20, 39, 64, 54, 31, 30, 29, 28, 48, 74, 82, 81], [84, 85, 86, 56, 34, 35, 36, 19, 38, 63, 55, 32, 15, 14, 13, 27, 47, 73, 83, 82, 81], [85, 86, 57, 58, 59, 60, 37, 62, 56, 33, 16, 5, 4, 12, 26, 46, 72, 84, 83, 82, 81], [86, 87, 88, 89, 90, 61, 57, 34, 17, 6, 0, 3, 11, 25, 45, 71, 85, 84, 83, 82, 81], [87, 88, 89, 90, 61, 58, 35, 18, 1, 2, 10, 24, 44, 70, 57, 56, 55, 54, 53, 80, 86], [88, 89, 90, 61, 59, 36, 7, 8, 9, 23, 43, 69, 58, 34, 33, 32, 31, 52, 79, 87, 86], [89, 90, 61, 60, 19, 20, 21, 22, 42, 68, 59, 35, 17, 16, 15, 30, 51, 78, 88, 87, 86], [90, 61, 37, 38, 39, 40, 41, 67, 60, 36, 18, 6, 5, 14, 29, 50, 77, 89, 88, 87, 86]]
def FB (r : Nat) : List Int := FBl.getD r []
def zf : Int → Int := fun _ => 0
def FBok : Bool := (List.range 91).all (fun r => decide (beam 91 zf zf r = FB r))
theorem FBok_t : FBok = true := by decide +kernel
def c1 (l : List Int) : Bool := l.all (fun x => decide (sL (ind x) l ≤ 1))
theorem FB1_t : (List.range 91).all (fun r => c1 (FB r)) = true := by decide +kernel
theorem sL_out {l : List Int} {j : Int} (h : ¬ j ∈ l) : sL (ind j) l = 0 := by
  induction l with
  | nil => rfl
  | cons x t ih =>
    show ind j x + sL (ind j) t = 0
    rw [ih (fun q => h (List.mem_cons_of_mem _ q))]
    unfold ind
    rw [if_neg (fun e => h (by rw [e]; exact List.mem_cons_self))]
    omega
theorem full_1 {r : Int} (hr : 0 ≤ r ∧ r < 91) (j : Int) : sL (ind j) (beam 91 zf zf r) ≤ 1 := by
  have h1 := List.all_eq_true.mp FBok_t r.toNat (List.mem_range.mpr (by omega))
  have h2 := List.all_eq_true.mp FB1_t r.toNat (List.mem_range.mpr (by omega))
  rw [decide_eq_true_eq, show ((r.toNat : Nat) : Int) = r by omega] at h1
  rw [h1]
  by_cases c : j ∈ FB r.toNat
  · have h3 := List.all_eq_true.mp h2 j c
    rw [decide_eq_true_eq] at h3
    exact h3
  · rw [sL_out c]
    omega
theorem ON_full (r t : Int) (hr : 0 ≤ r ∧ r < 91) (ht : 0 ≤ t ∧ t < 6) : ON 91 zf zf r t = TN (r * 6 + t) := by
  have hb := TN_b (r * 6 + t)
  have hx : NX 91 r t = TN (r * 6 + t) := if_pos (by omega)
  unfold ON zf
  rw [hx]
  by_cases c : TN (r * 6 + t) = -1
  · rw [if_pos (Or.inl c), c]
  · rw [if_neg (by omega)]
theorem ray_le {n : Int} (hn : n ≤ 91) (f h : Int → Int) {t : Int} (ht : 0 ≤ t ∧ t < 6) (j : Int) : ∀ (k : Nat) (x : Int), (x = -1 ∨ (0 ≤ x ∧ x < n)) → sL (ind j) (rayN n f h t k x) ≤ sL (ind j) (rayN 91 zf zf t k x)
  | 0, _, _ => Int.le_refl _
  | k + 1, x, hx => by
    by_cases c : x = -1
    · rw [c, rayN_none, rayN_none]
      exact Int.le_refl _
    · rw [rayN_some _ _ _ _ _ c, rayN_some _ _ _ _ _ c]
      show ind j x + _ ≤ ind j x + _
      have h1 := ON_TN n f h x t
      have h2 := ON_b n f h x t
      rcases h1 with e | ⟨e, _, _⟩
      · rw [e, rayN_none]
        have := sL_nn (ind j) (fun y => (ind_b j y).1) (rayN 91 zf zf t k (ON 91 zf zf x t))
        show ind j x + 0 ≤ _
        omega
      · have := ray_le hn f h ht j k (ON n f h x t) (by omega)
        rw [ON_full x t (by omega) ht, ← e]
        omega
theorem bm_le {n : Int} (hn : n ≤ 91) (f h : Int → Int) {r : Int} (hr : 0 ≤ r ∧ r < n) (j : Int) : ∀ t : Nat, t ≤ 6 → sL (ind j) (bm n f h r t) ≤ sL (ind j) (bm 91 zf zf r t)
  | 0, _ => Int.le_refl _
  | t + 1, ht => by
    have h1 := bm_le hn f h hr j t (by omega)
    show sL (ind j) (bm n f h r t ++ ray n f h r t) ≤ sL (ind j) (bm 91 zf zf r t ++ ray 91 zf zf r t)
    rw [sL_app, sL_app]
    have h2 : sL (ind j) (ray n f h r t) ≤ sL (ind j) (ray 91 zf zf r t) := by
      unfold ray
      have h3 := ON_TN n f h r t
      have h4 := ON_b n f h r t
      rcases h3 with e | ⟨e, _, _⟩
      · rw [e, rayN_none]
        exact sL_nn (ind j) (fun y => (ind_b j y).1) _
      · rw [ON_full r t (by omega) (by omega), ← e]
        exact ray_le hn f h (by omega) j 11 _ (by omega)
    omega
theorem beam_1 {n : Int} (hn : n ≤ 91) (f h : Int → Int) {r : Int} (hr : 0 ≤ r ∧ r < n) (j : Int) : 0 ≤ sL (ind j) (beam n f h r) ∧ sL (ind j) (beam n f h r) ≤ 1 := by
  have h1 := bm_le hn f h hr j 6 (Nat.le_refl _)
  have h2 := full_1 (r := r) (by omega) j
  have h3 := sL_nn (ind j) (fun y => (ind_b j y).1) (beam n f h r)
  exact ⟨h3, Int.le_trans h1 h2⟩
theorem ON_wall {n : Int} {f g h : Int → Int} (e : ∀ j, f j = 1 ↔ g j = 1) (r t : Int) : ON n f h r t = ON n g h r t := by
  unfold ON
  by_cases c : NX n r t = -1 ∨ ¬ h (r * 6 + t) = 0 ∨ f (NX n r t) = 1
  · rw [if_pos c, if_pos]
    rcases c with c | c | c
    · exact Or.inl c
    · exact Or.inr (Or.inl c)
    · exact Or.inr (Or.inr ((e _).mp c))
  · rw [if_neg c, if_neg]
    intro c2
    apply c
    rcases c2 with c2 | c2 | c2
    · exact Or.inl c2
    · exact Or.inr (Or.inl c2)
    · exact Or.inr (Or.inr ((e _).mpr c2))
theorem rayN_wall {n : Int} {f g h : Int → Int} (e : ∀ j, f j = 1 ↔ g j = 1) (t : Int) : ∀ (k : Nat) (x : Int), rayN n f h t k x = rayN n g h t k x
  | 0, _ => rfl
  | k + 1, x => by
    by_cases c : x = -1
    · rw [c, rayN_none, rayN_none]
    · rw [rayN_some _ _ _ _ _ c, rayN_some _ _ _ _ _ c, ON_wall e, rayN_wall e t k]
theorem bm_wall {n : Int} {f g h : Int → Int} (e : ∀ j, f j = 1 ↔ g j = 1) (r : Int) : ∀ t : Nat, bm n f h r t = bm n g h r t
  | 0 => rfl
  | t + 1 => by
    show bm n f h r t ++ ray n f h r t = bm n g h r t ++ ray n g h r t
    unfold ray
    rw [bm_wall e r t, ON_wall e, rayN_wall e]
theorem sm_upd (g : Int → Int) {r n : Int} (hr : 0 ≤ r ∧ r < n) (v : Int) : sm (fun i => if i = r then g i + v else g i) 0 n = sm g 0 n + v := by
  have h1 : sm (fun i => if i = r then g i + v else g i) 0 n = sm (fun i => g i + (if r = i then v else 0)) 0 n := sm_cong (fun i _ _ => by
    show (if i = r then g i + v else g i) = g i + (if r = i then v else 0)
    by_cases e : i = r
    · rw [if_pos e, if_pos e.symm]
    · rw [if_neg e, if_neg (fun q => e q.symm)]
      omega)
  rw [h1, sm_add _ _ (by omega), sm_pick hr]
theorem sm_sL (w : Int → Int) {n : Int} (hn : 0 ≤ n) : ∀ l : List Int, (∀ x ∈ l, 0 ≤ x ∧ x < n) → sm (fun j => w j * sL (ind j) l) 0 n = sL w l
  | [], _ => by
    exact sm_zero (fun j _ _ => Int.mul_zero _)
  | x :: t, hl => by
    have h1 := sm_sL w hn t (fun y hy => hl y (List.mem_cons_of_mem _ hy))
    have h2 : sm (fun j => w j * sL (ind j) (x :: t)) 0 n = sm (fun j => (if x = j then w x else 0) + w j * sL (ind j) t) 0 n := sm_cong (fun j _ _ => by
      show w j * (ind j x + sL (ind j) t) = (if x = j then w x else 0) + w j * sL (ind j) t
      rw [Int.mul_add]
      congr 1
      unfold ind
      by_cases e : x = j
      · rw [if_pos e, if_pos e, e, Int.mul_one]
      · rw [if_neg e, if_neg e, Int.mul_zero])
    rw [h2, sm_add _ _ hn, sm_pick (hl x List.mem_cons_self), h1]
    rfl
theorem LIT_up {n : Int} (hn : 0 ≤ n ∧ n ≤ 91) {f h : Int → Int} {r : Int} (hr : 0 ≤ r ∧ r < n) (hf : f r = 0) : LIT n (fU f r 2) h = LIT n f h + DK n f h r := by
  have hw : ∀ j, fU f r 2 j = 1 ↔ f j = 1 := by
    intro j
    unfold fU
    by_cases e : j = r
    · rw [if_pos e, e, hf]
      omega
    · rw [if_neg e]
  have hL : ∀ j, LT n (fU f r 2) h n j = LT n f h n j + sL (ind j) (beam n f h r) := by
    intro j
    unfold LT
    rw [← sm_upd _ hr]
    refine sm_cong (fun i h0 h1 => ?_)
    show (if fU f r 2 i = 2 then sL (ind j) (bm n (fU f r 2) h i 6) else 0) = _
    rw [bm_wall hw]
    by_cases e : i = r
    · rw [e, fU_at, if_pos rfl, if_pos rfl, hf, if_neg (by omega)]
      show sL (ind j) (bm n f h r 6) = 0 + sL (ind j) (beam n f h r)
      unfold beam
      omega
    · rw [fU_ne _ _ _ e, if_neg e]
      rfl
  have h3 : LIT n (fU f r 2) h = sm (fun j => (if 0 < LT n f h n j then 1 else 0) + (if LT n f h n j = 0 then 1 else 0) * sL (ind j) (beam n f h r)) 0 n := sm_cong (fun j h0 h1 => by
    show (if 0 < LT n (fU f r 2) h n j then (1 : Int) else 0) = (if 0 < LT n f h n j then 1 else 0) + (if LT n f h n j = 0 then 1 else 0) * sL (ind j) (beam n f h r)
    rw [hL j]
    have h4 := beam_1 hn.2 f h hr j
    have h5 := (LT_b n f h hn.1 j).1
    by_cases c : LT n f h n j = 0
    · rw [if_pos c, Int.one_mul, if_neg (show ¬ 0 < LT n f h n j by omega)]
      by_cases c2 : sL (ind j) (beam n f h r) = 0
      · rw [if_neg (by omega), c2]
        omega
      · rw [if_pos (by omega)]
        omega
    · rw [if_neg c, Int.zero_mul, if_pos (show 0 < LT n f h n j by omega), if_pos (by omega)]
      omega)
  rw [h3, sm_add _ _ hn.1, sm_sL (fun j => if LT n f h n j = 0 then 1 else 0) hn.1 (beam n f h r) (bm_mem n f h hr 6)]
  rfl
theorem SM6_6 {n : Int} (hn : n ≤ 91) (f : Int → Int) : SM6 n f 6 := by
  intro j h0 h1
  have h2 := TR_r (j := j) (by omega)
  have h3 := TR_b j
  have h4 := FR_SZ (k := TR j) h3
  unfold AT
  congr 1
  rcases h4 with ⟨e, e1, e2⟩ | ⟨e, e1, e2⟩ | ⟨e, e1, e2⟩ | ⟨e, e1, e2⟩ | ⟨e, e1, e2⟩ | ⟨e, e1, e2⟩ <;> rw [e1, e2] at h2 ⊢ <;> rw [e] <;> omega
theorem SM6_ok {k n : Int} (hk : 1 ≤ k ∧ k ≤ 5) (hn : n = FR (k + 1)) {f : Int → Int} {b : Int} (h : ∀ g, 1 ≤ g → g ≤ k → ∀ p, 0 ≤ p → p < SZ g → f (FR g + p) = f (FR g + (p + g * b) % SZ g)) : SM6 n f b := by
  intro j h0 h1
  have hn2 := FR_n hk
  have h2 := TR_r (j := j) (by omega)
  have h3 := TR_b j
  have h4 := FR_SZ (k := TR j) h3
  have hm := rot_m (k := TR j) (b := 0) h3 (j - FR (TR j) - TR j * b)
  by_cases c : TR j = 0
  · have h5 : j = 0 := by omega
    rw [h5, AT_0]
  · have h6 : TR j ≤ k := by
      refine Classical.byContradiction fun q => ?_
      have h7 := FR_m (k := k) (m := TR j - 1) (by omega) (by omega)
      rw [show TR j - 1 + 1 = TR j by omega] at h7
      have h8 := FR_s (k := k) (by omega)
      omega
    unfold AT
    rw [h (TR j) (by omega) h6 _ hm.1 hm.2]
    congr 1
    exact ((rot_i (b := TR j * b) h3 hm h2).mp rfl).symm
theorem SM6_no {k n : Int} (hk : 1 ≤ k ∧ k ≤ 5) (hn : n = FR (k + 1)) {f : Int → Int} {b g p : Int} (hg : 1 ≤ g ∧ g ≤ k) (hp : 0 ≤ p ∧ p < SZ g) (hne : ¬ f (FR g + p) = f (FR g + (p + g * b) % SZ g)) : ¬ SM6 n f b := by
  intro S
  have hm := rot_m (k := g) (b := 0) (by omega) (p + g * b)
  have h1 := FR_m (k := g) (m := k) (by omega) hk.2
  have h2 := FR_SZ (k := g) (by omega)
  have h3 : TR (FR g + (p + g * b) % SZ g) = g := TR_u (by omega) (by omega)
  have h4 := S (FR g + (p + g * b) % SZ g) (by omega) (by omega)
  unfold AT at h4
  rw [h3, (rot_i (b := g * b) (i := p) (by omega) hp (by omega)).mpr rfl] at h4
  exact hne h4
theorem SX_u {n : Int} {f : Int → Int} {z z2 : Int} (hn : n ≤ 91) (p : SX n f z) (r : SX n f z2) : z = z2 := by
  obtain ⟨p1, p2, p3⟩ := p
  obtain ⟨r1, r2, r3⟩ := r
  have q1 : SM6 n f z := p3.elim (fun e => by rw [e]; exact SM6_6 hn f) id
  have q2 : SM6 n f z2 := r3.elim (fun e => by rw [e]; exact SM6_6 hn f) id
  by_cases c1 : z < z2
  · exact absurd q1 (r2 z p1.1 c1)
  · by_cases c2 : z2 < z
    · exact absurd q2 (p2 z2 r1.1 c2)
    · omega
theorem AV_u {n : Int} {f h : Int → Int} {k z z2 : Int} (p : AV n f h k z) (r : AV n f h k z2) : z = z2 := by
  have h1 := p.2 z2 r.1.1 r.1.2
  have h2 := r.2 z p.1.1 p.1.2
  omega
theorem BS_u {n : Int} {f h : Int → Int} {z z2 : Int} (p : BS n f h z) (r : BS n f h z2) : z = z2 := by
  rcases p with ⟨p1, p2⟩ | ⟨p1, p2, p3⟩
  · rcases r with ⟨r1, r2⟩ | ⟨r1, r2, r3⟩
    · omega
    · exact absurd r2 (p2 z2 r1.1 r1.2)
  · rcases r with ⟨r1, r2⟩ | ⟨r1, r2, r3⟩
    · exact absurd p2 (r2 z p1.1 p1.2)
    · have h1 := p3 z2 r1.1 r1.2 r2
      have h2 := r3 z p1.1 p1.2 p2
      omega
