/-- the shapes of all cells behind both constructors; the first two are the script and the limits -/
def bg_SH (n : Nat) : List bg_C := (16, n, []) :: (16, 7, []) :: [(8, 14, [some 3, some 6, some 22, some 38, some 41, some 46, some 53, some 56, some 68, some 73, some 74, some 75, some 76, none]), (6, 4, [some 4, some 5, none, none]), (10, 400, []), (10, 7, []), (2, 8, [some 7, some 20, some 21, none, none, none, none, none]), (14, 12, [some 8, some 9, some 10, some 11, some 12, some 13, some 14, some 15, some 16, some 17, some 18, some 19]), (10, 7, []), (10, 7, []), (10, 7, []), (10, 7, []), (10, 7, []), (10, 7, []), (10, 7, []), (10, 7, []), (10, 7, []), (10, 7, []), (10, 7, []), (10, 7, []), (10, 3, []), (10, 3, []), (2, 8, [some 23, some 36, some 37, none, none, none, none, none]), (14, 12, [some 24, some 25, some 26, some 27, some 28, some 29, some 30, some 31, some 32, some 33, some 34, some 35]), (10, 7, []), (10, 7, []), (10, 7, []), (10, 7, []), (10, 7, []), (10, 7, []), (10, 7, []), (10, 7, []), (10, 7, []), (10, 7, []), (10, 7, []), (10, 7, []), (10, 3, []), (10, 3, []), (0, 4, [some 39, some 40, none, none]), (10, 64, []), (10, 12, []), (7, 6, [some 42, some 43, some 44, some 45, none, none]), (10, 2800, []), (10, 400, []), (10, 400, []), (10, 7, []), (4, 12, [some 47, some 48, some 49, some 50, some 51, some 52, none, none, none, none, none, none]), (10, 4096, []), (10, 4096, []), (10, 4096, []), (10, 12, []), (10, 301, []), (10, 301, []), (3, 2, [some 54, some 55]), (10, 4, []), (10, 4, []), (1, 6, [some 57, some 62, some 63, some 64, none, none]), (14, 4, [some 58, some 59, some 60, some 61]), (10, 4, []), (10, 4, []), (10, 4, []), (10, 4, []), (11, 4, []), (11, 4, []), (15, 3, [some 65, some 66, some 67]), (11, 3, []), (11, 3, []), (11, 3, []), (5, 4, [some 69, some 70, some 71, some 72]), (10, 4, []), (10, 4, []), (10, 4, []), (10, 4, []), (10, 12, []), (10, 4, []), (12, 2, [some 77, some 96]), (13, 2, [some 93, some 112]), (2, 8, [some 78, some 91, some 92, none, none, none, none, none]), (14, 12, [some 79, some 80, some 81, some 82, some 83, some 84, some 85, some 86, some 87, some 88, some 89, some 90]), (10, 7, []), (10, 7, []), (10, 7, []), (10, 7, []), (10, 7, []), (10, 7, []), (10, 7, []), (10, 7, []), (10, 7, []), (10, 7, []), (10, 7, []), (10, 7, []), (10, 3, []), (10, 3, []), (3, 2, [some 94, some 95]), (10, 4, []), (10, 4, []), (2, 8, [some 97, some 110, some 111, none, none, none, none, none]), (14, 12, [some 98, some 99, some 100, some 101, some 102, some 103, some 104, some 105, some 106, some 107, some 108, some 109]), (10, 7, []), (10, 7, []), (10, 7, []), (10, 7, []), (10, 7, []), (10, 7, []), (10, 7, []), (10, 7, []), (10, 7, []), (10, 7, []), (10, 7, []), (10, 7, []), (10, 3, []), (10, 3, []), (3, 2, [some 113, some 114]), (10, 4, []), (10, 4, []), (9, 33, [none, some 116, some 117, some 118, some 119, some 120, some 121, some 122, some 123, none, some 124, some 125, none, some 126, none, none, some 127, some 128, none, some 129, some 130, some 131, some 132, none, some 133, some 134, some 135, some 136, none, none, some 137, some 138, some 139]), (10, 400, []), (10, 4, []), (10, 336, []), (10, 4, []), (10, 36, []), (10, 12, []), (10, 12, []), (10, 12, []), (10, 12, []), (10, 4, []), (10, 4096, []), (10, 400, []), (10, 2800, []), (10, 7, []), (10, 12, []), (10, 12, []), (10, 8, []), (10, 8, []), (11, 4096, []), (11, 25, []), (11, 8, []), (10, 8, []), (10, 4, []), (10, 4, [])]
def bg_la : List bg_V → bg_L → bg_L
  | [], r => r
  | .inr (.inl x) :: vs, r => some (.inr (.inl x)) :: none :: bg_la vs r
  | .inl x :: vs, r => some (.inl x) :: bg_la vs r
  | .inr (.inr x) :: vs, r => some (.inr (.inr x)) :: bg_la vs r
def bg_n0 : Nat → bg_L
  | 0 => []
  | n + 1 => none :: bg_n0 n
theorem bg_lay_n0 : ∀ n : Nat, bg_lay [] n = bg_n0 n
  | 0 => by simp [bg_lay, bg_n0]
  | n + 1 => by simp [bg_lay, bg_n0, bg_lay_n0 n]
theorem bg_lay_eq : ∀ (as : List bg_V) (n : Nat), bg_lay as n = bg_la as (bg_n0 (n - bg_cats as))
  | [], n => by simp [bg_la, bg_cats, bg_lay_n0]
  | .inr (.inl x) :: vs, n => by simp [bg_lay, bg_la, bg_cats, bg_lay_eq vs, Nat.sub_sub]
  | .inl x :: vs, n => by simp [bg_lay, bg_la, bg_cats, bg_lay_eq vs, Nat.sub_sub]
  | .inr (.inr x) :: vs, n => by simp [bg_lay, bg_la, bg_cats, bg_lay_eq vs, Nat.sub_sub]
theorem bg_ca {d k ml i : Nat} {y : MethodName} {bytes : ByteArray} {ret : Option FieldType} {cd : bg_K} {mx : Nat × Nat} {as : List bg_V} {H : bg_H} {Rt : bg_R} (hM : bg_nth bg_MS k = some (y, bytes, ml, ret, cd, mx, i)) (hc : Nat.ble (bg_cats as) ml = true) (h : ∀ X : bg_F → Prop, (∀ g, bg_st (bg_Ca bg_MS d) cd mx g X Rt → X g) → X (0, bg_la as (bg_n0 (ml - bg_cats as)), [], H, (0, 0))) : bg_Ca bg_MS (d + 1) k as H Rt := by
  unfold bg_Ca
  rw [hM]
  show bg_if _ _
  rw [hc, bg_lay_eq]
  exact h
theorem bg_w_id {x : Int} (h1 : -2147483648 ≤ x) (h2 : x ≤ 2147483647) : bg_w x = x := by
  unfold bg_w
  rw [Int32.toInt_ofInt, Int.bmod_eq_of_le (by simp; omega) (by simp; omega)]
theorem bg_W_id {x : Int} (h1 : -9223372036854775808 ≤ x) (h2 : x ≤ 9223372036854775807) : bg_W x = x := by
  unfold bg_W
  rw [Int64.toInt_ofInt, Int.bmod_eq_of_le (by simp; omega) (by simp; omega)]
