/-! plain facts for walks of the abstract machine -/
theorem kc0 : ((0 : Nat) : Int) = 0 := rfl
theorem kc1 : ((1 : Nat) : Int) = 1 := rfl
theorem kc2 : ((2 : Nat) : Int) = 2 := rfl
theorem kc3 : ((3 : Nat) : Int) = 3 := rfl
theorem kc4 : ((4 : Nat) : Int) = 4 := rfl
theorem kc5 : ((5 : Nat) : Int) = 5 := rfl
theorem kc6 : ((6 : Nat) : Int) = 6 := rfl
theorem kc7 : ((7 : Nat) : Int) = 7 := rfl
theorem kc8 : ((8 : Nat) : Int) = 8 := rfl
theorem kc9 : ((9 : Nat) : Int) = 9 := rfl
theorem kc10 : ((10 : Nat) : Int) = 10 := rfl
theorem kc11 : ((11 : Nat) : Int) = 11 := rfl
theorem kc12 : ((12 : Nat) : Int) = 12 := rfl
theorem kc13 : ((13 : Nat) : Int) = 13 := rfl
theorem kc14 : ((14 : Nat) : Int) = 14 := rfl
theorem kc15 : ((15 : Nat) : Int) = 15 := rfl
theorem kc16 : ((16 : Nat) : Int) = 16 := rfl
theorem kc17 : ((17 : Nat) : Int) = 17 := rfl
theorem kc18 : ((18 : Nat) : Int) = 18 := rfl
theorem kc19 : ((19 : Nat) : Int) = 19 := rfl
theorem kc20 : ((20 : Nat) : Int) = 20 := rfl
theorem kc21 : ((21 : Nat) : Int) = 21 := rfl
theorem kc22 : ((22 : Nat) : Int) = 22 := rfl
theorem kc23 : ((23 : Nat) : Int) = 23 := rfl
theorem kc24 : ((24 : Nat) : Int) = 24 := rfl
theorem kc25 : ((25 : Nat) : Int) = 25 := rfl
theorem kc26 : ((26 : Nat) : Int) = 26 := rfl
theorem kc27 : ((27 : Nat) : Int) = 27 := rfl
theorem kc28 : ((28 : Nat) : Int) = 28 := rfl
theorem kc29 : ((29 : Nat) : Int) = 29 := rfl
theorem kc30 : ((30 : Nat) : Int) = 30 := rfl
theorem kc31 : ((31 : Nat) : Int) = 31 := rfl
theorem kc32 : ((32 : Nat) : Int) = 32 := rfl
theorem kc33 : ((33 : Nat) : Int) = 33 := rfl
theorem lp_up (N : Nat) (P : Nat → Prop) (hend : P N) (hstep : ∀ i, i < N → P (i + 1) → P i) : ∀ i, i ≤ N → P i := by
  intro i hi
  obtain ⟨m, hm⟩ : ∃ m, m = N - i := ⟨_, rfl⟩
  induction m generalizing i with
  | zero => have : i = N := by omega
            subst this; exact hend
  | succ m ih => exact hstep i (by omega) (ih (i + 1) (by omega) (by omega))
def sm : Nat → (Nat → Int) → Int
  | 0, _ => 0
  | n + 1, f => sm n f + f n
theorem sm_congr {n : Nat} {f g : Nat → Int} (h : ∀ i, i < n → f i = g i) : sm n f = sm n g := by
  induction n with
  | zero => rfl
  | succ n ih => rw [sm, sm, ih (fun i hi => h i (by omega)), h n (by omega)]
theorem rw_land {k : Nat} (h : k < 12) : bg_nth [some 24, some 25, some 26, some 27, some 28, some 29, some 30, some 31, some 32, some 33, some 34, some 35] k = some (some (24 + k)) := by
  revert k; decide
theorem sh_land {n k : Nat} (h : k < 12) : bg_nth (bg_SH n) (24 + k) = some (10, 7, []) := by
  have : ∀ k, k < 12 → bg_nth (bg_SH n) (24 + k) = some (10, 7, []) := by
    intro k hk
    match k, hk with
    | 0, _ => rfl | 1, _ => rfl | 2, _ => rfl | 3, _ => rfl | 4, _ => rfl | 5, _ => rfl | 6, _ => rfl | 7, _ => rfl | 8, _ => rfl | 9, _ => rfl | 10, _ => rfl | 11, _ => rfl
    | k + 12, h => exact absurd h (by omega)
  exact this k h
/-- bit i of a set -/
def bt (s i : Int) : Int := bg_and (bg_shr s i) 1
theorem bt_01 (s i : Int) : bt s i = 0 ∨ bt s i = 1 := by
  unfold bt bg_and
  generalize Int32.ofInt (bg_shr s i) = a
  have h : (a &&& Int32.ofInt 1) = Int32.ofInt 0 ∨ (a &&& Int32.ofInt 1) = Int32.ofInt 1 := by
    have : (a &&& Int32.ofInt 1).toBitVec = a.toBitVec &&& 1#32 := rfl
    have h2 : a.toBitVec &&& 1#32 = 0#32 ∨ a.toBitVec &&& 1#32 = 1#32 := by
      generalize a.toBitVec = b
      have e : (b &&& 1#32).toNat = b.toNat % 2 := by rw [BitVec.toNat_and]; exact Nat.and_one_is_mod _
      rcases Nat.mod_two_eq_zero_or_one b.toNat with h | h
      · exact Or.inl (BitVec.eq_of_toNat_eq (by rw [e, h]; rfl))
      · exact Or.inr (BitVec.eq_of_toNat_eq (by rw [e, h]; rfl))
    rcases h2 with h2 | h2
    · exact Or.inl (Int32.toBitVec_inj.mp (by rw [this, h2]; rfl))
    · exact Or.inr (Int32.toBitVec_inj.mp (by rw [this, h2]; rfl))
  rcases h with h | h <;> rw [h]
  · exact Or.inl rfl
  · exact Or.inr rfl
theorem s_costOf (d n : Nat) (posts : Int) (h : bg_G) (Rt : bg_R) (hR : Rt (some (.inl (sm 12 (fun i => bt posts i * h (24 + i) 4) + sm 3 (fun t => bt posts (12 + t) * h 37 t)))) (bg_SH n, h)) : bg_Ca bg_MS (d + 1) 38 [.inr (.inr (some 22)), .inl posts] (bg_SH n, h) Rt := by
  refine bg_ca (cd := cd_X2_costOf) rfl rfl ?_
  intro X hX
  have l2 : ∀ i, i ≤ 3 → X (35, [some (.inr (.inr (some 22))), some (.inl posts), some (.inl (sm 12 (fun i => bt posts i * h (24 + i) 4) + sm i (fun t => bt posts (12 + t) * h 37 t))), some (.inl (i : Int))], [], (bg_SH n, h), (0, 0)) := by
    refine lp_up 3 _ ?_ (fun i hi ih => ?_)
    · iterate 2 (refine hX _ ?_; conv => whnf)
      refine hX _ ?_; conv => whnf
      refine ⟨fun q => ?_, fun q => ?_⟩ <;> (try simp (disch := omega) only [bg_w_id, Int.toNat_natCast, rw_land, sh_land, not_true_eq_false] at q)
      · refine hX _ ?_; conv => whnf
        refine hX _ ?_; conv => whnf
        exact hR
      · omega
    · iterate 2 (refine hX _ ?_; conv => whnf)
      refine hX _ ?_; conv => whnf
      refine ⟨fun q => ?_, fun q => ?_⟩ <;> (try simp (disch := omega) only [bg_w_id, Int.toNat_natCast, rw_land, sh_land, not_true_eq_false] at q)
      · omega
      · iterate 11 (refine hX _ ?_; conv => whnf)
        refine hX _ ?_; conv => whnf
        try (simp (disch := omega) only [bg_w_id, Int.toNat_natCast, rw_land, sh_land, not_true_eq_false]; try conv => whnf)
        refine ⟨by first | omega | (simp (disch := omega) only [bg_w_id, Int.toNat_natCast, rw_land, sh_land, not_true_eq_false]; omega), ?_⟩
        iterate 5 (refine hX _ ?_; conv => whnf)
        rw [Int.add_assoc]
        exact ih
  have l1 : ∀ i, i ≤ 12 → X (4, [some (.inr (.inr (some 22))), some (.inl posts), some (.inl (sm i (fun i => bt posts i * h (24 + i) 4))), some (.inl (i : Int))], [], (bg_SH n, h), (0, 0)) := by
    refine lp_up 12 _ ?_ (fun i hi ih => ?_)
    · iterate 2 (refine hX _ ?_; conv => whnf)
      refine hX _ ?_; conv => whnf
      refine ⟨fun q => ?_, fun q => ?_⟩ <;> (try simp (disch := omega) only [bg_w_id, Int.toNat_natCast, rw_land, sh_land, not_true_eq_false] at q)
      · iterate 2 (refine hX _ ?_; conv => whnf)
        have := l2 0 (by omega)
        rw [show sm 0 (fun t => bt posts (12 + t) * h 37 t) = 0 from rfl, Int.add_zero] at this
        exact this
      · omega
    · iterate 2 (refine hX _ ?_; conv => whnf)
      refine hX _ ?_; conv => whnf
      refine ⟨fun q => ?_, fun q => ?_⟩ <;> (try simp (disch := omega) only [bg_w_id, Int.toNat_natCast, rw_land, sh_land, not_true_eq_false] at q)
      · omega
      · iterate 9 (refine hX _ ?_; conv => whnf)
        refine hX _ ?_; conv => whnf
        try (simp (disch := omega) only [bg_w_id, Int.toNat_natCast, rw_land, sh_land, not_true_eq_false]; try conv => whnf)
        refine ⟨by first | omega | (simp (disch := omega) only [bg_w_id, Int.toNat_natCast, rw_land, sh_land, not_true_eq_false]; omega), ?_⟩
        try (simp (disch := omega) only [bg_w_id, Int.toNat_natCast, rw_land, sh_land, not_true_eq_false])
        try conv => whnf
        refine hX _ ?_; conv => whnf
        refine hX _ ?_; conv => whnf
        try (simp (disch := omega) only [bg_w_id, Int.toNat_natCast, rw_land, sh_land, not_true_eq_false]; try conv => whnf)
        refine ⟨by first | omega | (simp (disch := omega) only [bg_w_id, Int.toNat_natCast, rw_land, sh_land, not_true_eq_false]; omega), ?_⟩
        iterate 5 (refine hX _ ?_; conv => whnf)
        exact ih
  iterate 4 (refine hX _ ?_; conv => whnf)
  exact l1 0 (by omega)
