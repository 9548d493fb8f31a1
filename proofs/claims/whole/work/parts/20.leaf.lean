/-! small methods of both sides -/
abbrev vI (x : Int) : bg_V := .inl x
abbrev vL (x : Int) : bg_V := .inr (.inl x)
abbrev vR (k : Nat) : bg_V := .inr (.inr (some k))
abbrev oI (x : Int) : Option bg_V := some (.inl x)
abbrev oL (x : Int) : Option bg_V := some (.inr (.inl x))
abbrev oR (k : Nat) : Option bg_V := some (.inr (.inr (some k)))
theorem bg_Cmp_lt {x y : Int} : (bg_w (bg_Cmp x y) < 0) ↔ bg_W x < bg_W y := by
  have h1 : bg_w 1 = 1 := bg_w_id (by omega) (by omega)
  have h0 : bg_w 0 = 0 := bg_w_id (by omega) (by omega)
  have h2 : bg_w (-1) = -1 := bg_w_id (by omega) (by omega)
  unfold bg_Cmp
  split
  · rw [h1]; omega
  · split
    · rw [h0]; omega
    · rw [h2]; omega
theorem bg_Cmp_gt {x y : Int} : (0 < bg_w (bg_Cmp x y)) ↔ bg_W y < bg_W x := by
  have h1 : bg_w 1 = 1 := bg_w_id (by omega) (by omega)
  have h0 : bg_w 0 = 0 := bg_w_id (by omega) (by omega)
  have h2 : bg_w (-1) = -1 := bg_w_id (by omega) (by omega)
  unfold bg_Cmp
  split
  · rw [h1]; omega
  · split
    · rw [h0]; omega
    · rw [h2]; omega
theorem bg_Cmp_eq {x y : Int} : (bg_w (bg_Cmp x y) = 0) ↔ bg_W x = bg_W y := by
  have h1 : bg_w 1 = 1 := bg_w_id (by omega) (by omega)
  have h0 : bg_w 0 = 0 := bg_w_id (by omega) (by omega)
  have h2 : bg_w (-1) = -1 := bg_w_id (by omega) (by omega)
  unfold bg_Cmp
  split
  · rw [h1]; omega
  · split
    · rw [h0]; omega
    · rw [h2]; omega
theorem bt_w (s i : Int) : bg_w (bt s i) = bt s i := by
  rcases bt_01 s i with h | h <;> rw [h] <;> exact bg_w_id (by omega) (by omega)
/-- X9.in: a whole number between two -/
theorem s_in (d : Nat) (v lo hi : Int) (H : bg_H) (Rt : bg_R) (h1 : -9223372036854775808 ≤ v ∧ v ≤ 9223372036854775807) (h2 : -9223372036854775808 ≤ lo ∧ lo ≤ 9223372036854775807) (h3 : -9223372036854775808 ≤ hi ∧ hi ≤ 9223372036854775807) (hR : Rt (some (.inl (if lo ≤ v ∧ v ≤ hi then 1 else 0))) H) : bg_Ca bg_MS (d + 1) 112 [vL v, vL lo, vL hi] H Rt := by
  have e1 := bg_W_id h1.1 h1.2
  have e2 := bg_W_id h2.1 h2.2
  have e3 := bg_W_id h3.1 h3.2
  refine bg_ca (cd := cd_X9_in) rfl rfl ?_
  intro X hX
  iterate 3 (refine hX _ ?_; conv => whnf)
  refine hX _ ?_; conv => whnf
  refine ⟨fun q => ?_, fun q => ?_⟩ <;> (try simp (disch := omega) only [bg_w_id, Int.toNat_natCast, rw_land, sh_land, not_true_eq_false] at q)
  · refine hX _ ?_; conv => whnf
    refine hX _ ?_; conv => whnf
    refine ⟨Or.inl rfl, ?_⟩
    rw [bg_Cmp_lt] at q
    rw [if_neg (by omega)] at hR
    exact hR
  · iterate 3 (refine hX _ ?_; conv => whnf)
    refine hX _ ?_; conv => whnf
    refine ⟨fun q2 => ?_, fun q2 => ?_⟩ <;> (try simp (disch := omega) only [bg_w_id, Int.toNat_natCast, rw_land, sh_land, not_true_eq_false] at q2)
    · refine hX _ ?_; conv => whnf
      refine hX _ ?_; conv => whnf
      refine ⟨Or.inl rfl, ?_⟩
      rw [bg_Cmp_gt] at q2
      rw [if_neg (by omega)] at hR
      exact hR
    · iterate 2 (refine hX _ ?_; conv => whnf)
      refine hX _ ?_; conv => whnf
      refine ⟨Or.inr rfl, ?_⟩
      rw [bg_Cmp_lt] at q
      rw [bg_Cmp_gt] at q2
      rw [if_pos (by omega)] at hR
      exact hR
theorem s_has (d : Nat) (a i : Int) (H : bg_H) (Rt : bg_R) (hR : Rt (some (.inl (bt a i))) H) : bg_Ca bg_MS (d + 1) 113 [vI a, vI i] H Rt := by
  refine bg_ca (cd := cd_X9_has) rfl rfl ?_
  intro X hX
  iterate 6 (refine hX _ ?_; conv => whnf)
  refine hX _ ?_; conv => whnf
  refine ⟨fun q => ?_, fun q => ?_⟩ <;> (try simp (disch := omega) only [bg_w_id, Int.toNat_natCast, rw_land, sh_land, not_true_eq_false] at q)
  · refine hX _ ?_; conv => whnf
    refine hX _ ?_; conv => whnf
    refine ⟨Or.inl rfl, ?_⟩
    have q : ¬ bg_w (bt a i) = bg_w 1 := q
    rw [bt_w, bg_w_id (x := 1) (by omega) (by omega)] at q
    rw [(bt_01 a i).resolve_right q] at hR
    exact hR
  · iterate 2 (refine hX _ ?_; conv => whnf)
    refine hX _ ?_; conv => whnf
    refine ⟨Or.inr rfl, ?_⟩
    have q : bg_w (bt a i) = bg_w 1 := q
    rw [bt_w, bg_w_id (x := 1) (by omega) (by omega)] at q
    rw [q] at hR
    exact hR
theorem s_isPath (d n : Nat) (p : Int) (h : bg_G) (Rt : bg_R) (hp : -2147483648 ≤ p ∧ p ≤ 2147483647) (hn : 0 ≤ h 117 0 ∧ h 117 0 ≤ 12) (hR : Rt (some (.inl (if 0 ≤ p ∧ p < h 117 0 then 1 else 0))) (bg_SH n, h)) : bg_Ca bg_MS (d + 2) 128 [vR 115, vI p] (bg_SH n, h) Rt := by
  refine bg_ca (cd := cd_X9_isPath) rfl rfl ?_
  intro X hX
  iterate 6 (refine hX _ ?_; conv => whnf)
  refine hX _ ?_; conv => whnf
  try (simp (disch := omega) only [bg_w_id, Int.toNat_natCast, rw_land, sh_land, not_true_eq_false]; try conv => whnf)
  refine ⟨by first | omega | (simp (disch := omega) only [bg_w_id, Int.toNat_natCast, rw_land, sh_land, not_true_eq_false]; omega), ?_⟩
  iterate 3 (refine hX _ ?_; conv => whnf)
  try simp (disch := omega) only [bg_w_id, Int.toNat_natCast, rw_land, sh_land, not_true_eq_false]
  refine hX _ ?_; conv => whnf
  simp (disch := omega) only [bg_w_id]
  refine s_in d _ _ _ _ _ (by omega) (by omega) (by omega) ?_
  conv => whnf
  refine hX _ ?_; conv => whnf
  have e : (if 0 ≤ p ∧ p ≤ h 117 0 - 1 then (1 : Int) else 0) = if 0 ≤ p ∧ p < h 117 0 then 1 else 0 := by
    by_cases c : 0 ≤ p ∧ p < h 117 0
    · rw [if_pos c, if_pos (by omega)]
    · rw [if_neg c, if_neg (by omega)]
  rw [e]
  refine ⟨?_, hR⟩
  split
  · exact Or.inr rfl
  · exact Or.inl rfl
/-- the set of all posts that there are -/
def allp (np nt : Int) : Int := bg_or (bg_shl 1 np - 1) (bg_shl (bg_shl 1 nt - 1) 12)
def isp (np nt s : Int) : Int := if bg_and s (bg_xor (allp np nt) (-1)) = 0 then 1 else 0
theorem bg_and_w (x y : Int) : bg_w (bg_and x y) = bg_and x y := by
  unfold bg_w bg_and
  rw [Int32.ofInt_toInt]
theorem s_hasPosts (d n : Nat) (s : Int) (h : bg_G) (Rt : bg_R) (hR : Rt (some (.inl (isp (h 22 3) (h 22 4) s))) (bg_SH n, h)) : bg_Ca bg_MS (d + 1) 37 [vR 22, vI s] (bg_SH n, h) Rt := by
  refine bg_ca (cd := cd_X2_hasPosts) rfl rfl ?_
  intro X hX
  iterate 21 (refine hX _ ?_; conv => whnf)
  try simp only [kc0, kc1, kc2, kc3, kc4, kc5, kc6, kc7, kc8, kc9, kc10, kc11, kc12, kc13, kc14, kc15, kc16, kc17, kc18, kc19, kc20, kc21, kc22, kc23, kc24, kc25, kc26, kc27, kc28, kc29, kc30, kc31, kc32, kc33]
  refine hX _ ?_; conv => whnf
  refine ⟨fun q => ?_, fun q => ?_⟩ <;> (try simp (disch := omega) only [bg_w_id, Int.toNat_natCast, rw_land, sh_land, not_true_eq_false] at q)
  · refine hX _ ?_; conv => whnf
    refine hX _ ?_; conv => whnf
    refine ⟨Or.inl rfl, ?_⟩
    rw [bg_and_w] at q
    unfold isp allp at hR
    rw [if_neg q] at hR
    exact hR
  · iterate 2 (refine hX _ ?_; conv => whnf)
    refine hX _ ?_; conv => whnf
    refine ⟨Or.inr rfl, ?_⟩
    rw [bg_and_w] at q
    unfold isp allp at hR
    rw [if_pos q] at hR
    exact hR
theorem s_hasPath (d n : Nat) (p : Int) (h : bg_G) (Rt : bg_R) (hp : -2147483648 ≤ p ∧ p ≤ 2147483647) (hn : 0 ≤ h 22 3 ∧ h 22 3 ≤ 12) (hR : Rt (some (.inl (if 0 ≤ p ∧ p < h 22 3 then 1 else 0))) (bg_SH n, h)) : bg_Ca bg_MS (d + 1) 36 [vR 22, vI p] (bg_SH n, h) Rt := by
  refine bg_ca (cd := cd_X2_hasPath) rfl rfl ?_
  intro X hX
  refine hX _ ?_; conv => whnf
  refine hX _ ?_; conv => whnf
  refine ⟨fun q => ?_, fun q => ?_⟩ <;> (try simp (disch := omega) only [bg_w_id, Int.toNat_natCast, rw_land, sh_land, not_true_eq_false] at q)
  · refine hX _ ?_; conv => whnf
    refine hX _ ?_; conv => whnf
    rw [if_neg (by omega)] at hR
    exact ⟨Or.inl rfl, hR⟩
  · iterate 3 (refine hX _ ?_; conv => whnf)
    try simp only [kc0, kc1, kc2, kc3, kc4, kc5, kc6, kc7, kc8, kc9, kc10, kc11, kc12, kc13, kc14, kc15, kc16, kc17, kc18, kc19, kc20, kc21, kc22, kc23, kc24, kc25, kc26, kc27, kc28, kc29, kc30, kc31, kc32, kc33]
    refine hX _ ?_; conv => whnf
    refine ⟨fun q2 => ?_, fun q2 => ?_⟩ <;> (try simp (disch := omega) only [bg_w_id, Int.toNat_natCast, rw_land, sh_land, not_true_eq_false] at q2)
    · refine hX _ ?_; conv => whnf
      refine hX _ ?_; conv => whnf
      rw [if_neg (by omega)] at hR
      exact ⟨Or.inl rfl, hR⟩
    · iterate 2 (refine hX _ ?_; conv => whnf)
      refine hX _ ?_; conv => whnf
      refine ⟨fun q3 => ?_, fun q3 => ?_⟩ <;> (try simp (disch := omega) only [bg_w_id, Int.toNat_natCast, rw_land, sh_land, not_true_eq_false] at q3)
      · omega
      · iterate 2 (refine hX _ ?_; conv => whnf)
        refine hX _ ?_; conv => whnf
        rw [if_pos (by omega)] at hR
        exact ⟨Or.inr rfl, hR⟩
