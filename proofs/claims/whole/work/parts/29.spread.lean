def c8 (s : Int) : Int := sm 8 (fun i => bt s i)
set_option maxRecDepth 100000 in
theorem bt_or8 : ∀ s : Nat, s < 256 → ∀ b : Nat, b < 8 → (0 ≤ bg_or s (bg_shl 1 b) ∧ bg_or s (bg_shl 1 b) < 256) ∧ (bt s b = 0 → c8 (bg_or s (bg_shl 1 b)) = c8 s + 1) ∧ ∀ v : Nat, v < 8 → bt (bg_or s (bg_shl 1 b)) v = if v = b then 1 else bt s v := by decide +kernel
theorem c8_le (s : Int) : c8 s ≤ 8 := by
  have := sm_rg (n := 8) (f := fun i => bt s i) (B := 1) (fun i _ => by show 0 ≤ bt s i ∧ bt s i ≤ 1; rcases bt_01 s i with h | h <;> rw [h] <;> omega)
  unfold c8
  omega
/-- how the places of a set were come to -/
def treeM (N : Nat) (A B R G : Nat → Int) (cb : Int → Int) (S : Nat) : Prop := ∃ rk : Int → Nat, ∀ v : Int, 0 < v → v ≤ 7 → bt S v = 1 → ∃ p, p < N ∧ ((cb v = p ∧ B p = v ∧ bt S (A p) = 1 ∧ rk (A p) < rk v ∧ 0 < R p) ∨ (cb v = 12 + p ∧ A p = v ∧ bt S (B p) = 1 ∧ rk (B p) < rk v ∧ 0 < G p))
def closM (A B R G : Nat → Int) (S : Nat) (p : Nat) : Prop := ¬ (bt S (A p) = 1 ∧ bt S (B p) = 0 ∧ 0 < R p) ∧ ¬ (bt S (B p) = 1 ∧ bt S (A p) = 0 ∧ 0 < G p)
theorem treeM_add {N : Nat} {A B R G : Nat → Int} {cb : Int → Int} {S : Nat} (hS : S < 256) (hA : ∀ p, p < N → 0 ≤ A p ∧ A p ≤ 7) (hB : ∀ p, p < N → 0 ≤ B p ∧ B p ≤ 7) (ht : treeM N A B R G cb S) {u w x : Int} {p : Nat} (hp : p < N) (hu : 0 ≤ u ∧ u ≤ 7) (hw : 0 ≤ w ∧ w ≤ 7) (h0 : bt S 0 = 1) (hus : bt S u = 1) (hws : bt S w = 0) (hx : (x = p ∧ B p = w ∧ A p = u ∧ 0 < R p) ∨ (x = 12 + p ∧ A p = w ∧ B p = u ∧ 0 < G p)) : treeM N A B R G (fun j => if j = w then x else cb j) (bg_or S (bg_shl 1 w)).toNat := by
  have hwN : ((w.toNat : Nat) : Int) = w := by omega
  obtain ⟨k1, k2, k3⟩ := bt_or8 S hS w.toNat (by omega)
  rw [hwN] at k1 k2 k3
  have kk : ∀ v : Int, 0 ≤ v → v ≤ 7 → bt (bg_or S (bg_shl 1 w)) v = if v = w then 1 else bt S v := fun v v0 v7 => by
    have := k3 v.toNat (by omega)
    rw [show ((v.toNat : Nat) : Int) = v by omega] at this
    rw [this]
    by_cases e : v = w
    · rw [if_pos e, if_pos (by omega)]
    · rw [if_neg e, if_neg (by omega)]
  have eS : (((bg_or S (bg_shl 1 w)).toNat : Nat) : Int) = bg_or S (bg_shl 1 w) := by omega
  obtain ⟨rk, hrk⟩ := ht
  refine ⟨fun j => if j = w then rk u + 1 else rk j, fun v v0 v7 hv => ?_⟩
  rw [eS, kk v (by omega) v7] at hv
  have huw : u ≠ w := fun e => by rw [e, hws] at hus; omega
  by_cases e : v = w
  · subst e
    refine ⟨p, hp, ?_⟩
    rcases hx with ⟨x1, x2, x3, x4⟩ | ⟨x1, x2, x3, x4⟩
    · refine Or.inl ⟨by simp [x1], x2, ?_, ?_, x4⟩
      · rw [eS, x3, kk u hu.1 hu.2, if_neg huw]; exact hus
      · rw [x3]; simp [huw]
    · refine Or.inr ⟨by simp [x1], x2, ?_, ?_, x4⟩
      · rw [eS, x3, kk u hu.1 hu.2, if_neg huw]; exact hus
      · rw [x3]; simp [huw]
  · rw [if_neg e] at hv
    obtain ⟨p', hp', hq⟩ := hrk v v0 v7 hv
    refine ⟨p', hp', ?_⟩
    have a1 := hA p' hp'
    have b1 := hB p' hp'
    rcases hq with ⟨x1, x2, x3, x4, x5⟩ | ⟨x1, x2, x3, x4, x5⟩
    · have n1 : A p' ≠ w := fun e => by rw [e, hws] at x3; omega
      exact Or.inl ⟨by simp [e, x1], x2, by rw [eS, kk _ a1.1 a1.2, if_neg n1]; exact x3, by simp [n1, e, x4], x5⟩
    · have n1 : B p' ≠ w := fun e => by rw [e, hws] at x3; omega
      exact Or.inr ⟨by simp [e, x1], x2, by rw [eS, kk _ b1.1 b1.2, if_neg n1]; exact x3, by simp [n1, e, x4], x5⟩
theorem s_mspread (d n N : Nat) (h : bg_G) (ho : okM h) (hN : (N : Int) = h 117 0) (hr : ∀ p : Nat, p < N → (0 ≤ h 130 p ∧ h 130 p ≤ 1000) ∧ (0 ≤ h 131 p ∧ h 131 p ≤ 1000)) (Rt : bg_R) (hR : ∀ (h' : bg_G) (S : Nat), (∀ k, k ≠ 115 → k ≠ 132 → h' k = h k) → (∀ j, j ≠ 23 → h' 115 j = h 115 j) → S < 256 → bt S 0 = 1 → h' 115 23 = S → treeM N (fun p => h 118 (7 * p)) (fun p => h 118 (7 * p + 1)) (fun p => h 130 p) (fun p => h 131 p) (h' 132) S → (∀ p, p < N → closM (fun p => h 118 (7 * p)) (fun p => h 118 (7 * p + 1)) (fun p => h 130 p) (fun p => h 131 p) S p) → Rt (some (.inl (bt S 7))) (bg_SH n, h')) : bg_Ca bg_MS (d + 2) 137 [vR 115] (bg_SH n, h) Rt := by
  obtain ⟨⟨hn, -⟩, hrow, -⟩ := ho
  refine bg_ca (cd := cd_X9_spread) rfl rfl ?_
  intro X hX
  obtain ⟨A, hA⟩ : ∃ A : Nat → Int, A = fun p : Nat => h 118 (7 * p) := ⟨_, rfl⟩
  obtain ⟨B, hB⟩ : ∃ B : Nat → Int, B = fun p : Nat => h 118 (7 * p + 1) := ⟨_, rfl⟩
  obtain ⟨R, hRR⟩ : ∃ R : Nat → Int, R = fun p : Nat => h 130 p := ⟨_, rfl⟩
  obtain ⟨G, hG⟩ : ∃ G : Nat → Int, G = fun p : Nat => h 131 p := ⟨_, rfl⟩
  have eA : ∀ p : Nat, h 118 (7 * p) = A p := fun p => by rw [hA]
  have eB : ∀ p : Nat, h 118 (7 * p + 1) = B p := fun p => by rw [hB]
  have eR : ∀ p : Nat, h 130 p = R p := fun p => by rw [hRR]
  have eG : ∀ p : Nat, h 131 p = G p := fun p => by rw [hG]
  have rA : ∀ p, p < N → 0 ≤ A p ∧ A p ≤ 7 := fun p hp => by have := hrow p (by omega); rw [← eA]; omega
  have rB : ∀ p, p < N → 0 ≤ B p ∧ B p ≤ 7 := fun p hp => by have := hrow p (by omega); rw [← eB]; omega
  rw [← hA, ← hB, ← hRR, ← hG] at hR
  obtain ⟨inv, hinv⟩ : ∃ inv : bg_G → Nat → Prop, inv = fun (h' : bg_G) (S : Nat) => (∀ k, k ≠ 115 → k ≠ 132 → h' k = h k) ∧ (∀ j, j ≠ 23 → h' 115 j = h 115 j) ∧ S < 256 ∧ bt S 0 = 1 ∧ h' 115 23 = S ∧ treeM N A B R G (h' 132) S := ⟨_, rfl⟩
  -- one more place
  have grow : ∀ (h' : bg_G) (S p : Nat) (u w x : Int), inv h' S → p < N → 0 ≤ u ∧ u ≤ 7 → 0 ≤ w ∧ w ≤ 7 → bt S u = 1 → bt S w = 0 → ((x = p ∧ B p = w ∧ A p = u ∧ 0 < R p) ∨ (x = 12 + p ∧ A p = w ∧ B p = u ∧ 0 < G p)) → inv (bg_up (bg_up h' 115 23 (bg_or S (bg_shl 1 w))) 132 w x) (bg_or S (bg_shl 1 w)).toNat ∧ c8 ((bg_or S (bg_shl 1 w)).toNat : Nat) = c8 S + 1 := by
    intro h' S p u w x hi hp hu hw hus hws hx
    rw [hinv] at hi ⊢
    obtain ⟨i1, i2, i3, i4, i5, i6⟩ := hi
    obtain ⟨k1, k2, k3⟩ := bt_or8 S i3 w.toNat (by omega)
    rw [show ((w.toNat : Nat) : Int) = w by omega] at k1 k2 k3
    have eS : (((bg_or S (bg_shl 1 w)).toNat : Nat) : Int) = bg_or S (bg_shl 1 w) := by omega
    have hw0 : w ≠ 0 := fun e => by rw [e, i4] at hws; omega
    refine ⟨⟨fun k k1 k2 => ?_, fun j hj => ?_, by omega, ?_, ?_, ?_⟩, ?_⟩
    · rw [bg_up_ne k2, bg_up_ne k1]; exact i1 k k1 k2
    · rw [bg_up_ne (by omega), bg_up_nj hj]; exact i2 j hj
    · have := k3 0 (by omega)
      rw [eS, show ((0 : Nat) : Int) = 0 from rfl] at *
      rw [this, if_neg (by omega)]
      exact i4
    · rw [bg_up_ne (by omega), bg_up_self, eS]
    · have e1 : bg_up (bg_up h' 115 23 (bg_or S (bg_shl 1 w))) 132 w x 132 = fun j => if j = w then x else h' 132 j := by
        funext j
        rw [bg_up_at, bg_up_ne (by omega)]
      rw [e1]
      exact treeM_add i3 rA rB i6 hp hu hw i4 hus hws hx
    · rw [eS]
      exact k2 hws
  have fin : ∀ (S : Nat) (h' : bg_G) (j2 j3 j4 : Option bg_V), inv h' S → (∀ p, p < N → closM A B R G S p) → X (29, [oR 115, oI 0, j2, j3, j4], [], (bg_SH n, h'), (0, 0)) := by
    intro S h' j2 j3 j4 hi hc
    rw [hinv] at hi
    obtain ⟨i1, i2, i3, i4, i5, i6⟩ := hi
    refine hX _ ?_; conv => whnf
    refine hX _ ?_; conv => whnf
    refine ⟨fun q30 => ?_, fun q30 => ?_⟩
    · try simp (disch := omega) only [bg_w_id, Int.toNat_natCast, rw_land, sh_land, not_true_eq_false, i5, kc0, kc1, kc2, kc3, kc4, kc5, kc6, kc7, kc8, kc9, kc10, kc11, kc12, kc13, kc14, kc15, kc16, kc17, kc18, kc19, kc20, kc21, kc22, kc23, kc24, kc25, kc26, kc27, kc28, kc29, kc30, kc31, kc32, kc33] at q30
      iterate 3 (refine hX _ ?_; conv => whnf)
      try simp only [kc0, kc1, kc2, kc3, kc4, kc5, kc6, kc7, kc8, kc9, kc10, kc11, kc12, kc13, kc14, kc15, kc16, kc17, kc18, kc19, kc20, kc21, kc22, kc23, kc24, kc25, kc26, kc27, kc28, kc29, kc30, kc31, kc32, kc33]
      refine hX _ ?_; conv => whnf
      try simp (disch := omega) only [bg_w_id, Int.toNat_natCast, rw_land, sh_land, not_true_eq_false, i5]
      refine s_has d _ _ _ _ ?_
      conv => whnf
      refine hX _ ?_; conv => whnf
      exact ⟨bt_01 _ _, hR h' S i1 i2 i3 i4 i5 i6 hc⟩
    · exfalso
      (try simp (disch := omega) only [bg_w_id, Int.toNat_natCast, rw_land, sh_land, not_true_eq_false, i5, kc0, kc1, kc2, kc3, kc4, kc5, kc6, kc7, kc8, kc9, kc10, kc11, kc12, kc13, kc14, kc15, kc16, kc17, kc18, kc19, kc20, kc21, kc22, kc23, kc24, kc25, kc26, kc27, kc28, kc29, kc30, kc31, kc32, kc33] at q30) <;> (omega)
  have pass : ∀ (S : Nat) (h' : bg_G) (j2 j3 j4 : Option bg_V), inv h' S → (∀ (S' : Nat) (h'' : bg_G) (j2 j3 j4 : Option bg_V), inv h'' S' → c8 S + 1 ≤ c8 S' → X (29, [oR 115, oI 1, j2, j3, j4], [], (bg_SH n, h''), (0, 0))) → X (29, [oR 115, oI 1, j2, j3, j4], [], (bg_SH n, h'), (0, 0)) := by
    intro S h' j2 j3 j4 hi K
    have l1 : ∀ p, p ≤ N → ∀ (S' : Nat) (h'' : bg_G) (mo : Int) (j3 j4 : Option bg_V), inv h'' S' → (mo = 0 ∨ (mo = 1 ∧ c8 S + 1 ≤ c8 S')) → c8 S ≤ c8 S' → (mo = 0 → ∀ p', p' < p → closM A B R G S' p') → X (37, [oR 115, oI mo, oI (p : Int), j3, j4], [], (bg_SH n, h''), (0, 0)) := by
      refine lp_up N _ ?_ (fun p hp ih => ?_)
      · intro S' h'' mo j3 j4 hi' hmo hc hcl
        have hi2 := hi'
        rw [hinv] at hi2
        obtain ⟨i1, i2, i3, i4, i5, i6⟩ := hi2
        have e116 := i1 117 (by omega) (by omega)
        iterate 4 (refine hX _ ?_; conv => whnf)
        refine hX _ ?_; conv => whnf
        try (simp (disch := omega) only [bg_w_id, Int.toNat_natCast, rw_land, sh_land, not_true_eq_false, e116]; try conv => whnf)
        refine ⟨by first | omega | (simp (disch := omega) only [bg_w_id, Int.toNat_natCast, rw_land, sh_land, not_true_eq_false, e116]; omega), ?_⟩
        refine hX _ ?_; conv => whnf
        refine ⟨fun q44 => ?_, fun q44 => ?_⟩
        · try simp (disch := omega) only [bg_w_id, Int.toNat_natCast, rw_land, sh_land, not_true_eq_false, e116, kc0, kc1, kc2, kc3, kc4, kc5, kc6, kc7, kc8, kc9, kc10, kc11, kc12, kc13, kc14, kc15, kc16, kc17, kc18, kc19, kc20, kc21, kc22, kc23, kc24, kc25, kc26, kc27, kc28, kc29, kc30, kc31, kc32, kc33] at q44
          refine hX _ ?_; conv => whnf
          rcases hmo with e | ⟨e, e2⟩
          · rw [e]
            exact fin S' h'' _ _ _ hi' (hcl e)
          · rw [e]
            exact K S' h'' _ _ _ hi' e2
        · exfalso
          (try simp (disch := omega) only [bg_w_id, Int.toNat_natCast, rw_land, sh_land, not_true_eq_false, e116, kc0, kc1, kc2, kc3, kc4, kc5, kc6, kc7, kc8, kc9, kc10, kc11, kc12, kc13, kc14, kc15, kc16, kc17, kc18, kc19, kc20, kc21, kc22, kc23, kc24, kc25, kc26, kc27, kc28, kc29, kc30, kc31, kc32, kc33] at q44) <;> (omega)
      · intro S' h'' mo j3 j4 hi' hmo hc hcl
        have hi2 := hi'
        rw [hinv] at hi2
        obtain ⟨i1, i2, i3, i4, i5, i6⟩ := hi2
        have e116 := i1 117 (by omega) (by omega)
        have e117 := i1 118 (by omega) (by omega)
        have e129 := i1 130 (by omega) (by omega)
        have e130 := i1 131 (by omega) (by omega)
        have a1 := rA p hp
        have b1 := rB p hp
        have r1 := hr p hp
        rw [eR, eG] at r1
        iterate 4 (refine hX _ ?_; conv => whnf)
        refine hX _ ?_; conv => whnf
        try (simp (disch := omega) only [bg_w_id, Int.toNat_natCast, rw_land, sh_land, not_true_eq_false, e116, e117, e129, e130, eA, eB, eR, eG, i5]; try conv => whnf)
        refine ⟨by first | omega | (simp (disch := omega) only [bg_w_id, Int.toNat_natCast, rw_land, sh_land, not_true_eq_false, e116, e117, e129, e130, eA, eB, eR, eG, i5]; omega), ?_⟩
        refine hX _ ?_; conv => whnf
        refine ⟨fun q44 => ?_, fun q44 => ?_⟩
        · exfalso
          (try simp (disch := omega) only [bg_w_id, Int.toNat_natCast, rw_land, sh_land, not_true_eq_false, e116, e117, e129, e130, eA, eB, eR, eG, i5, kc0, kc1, kc2, kc3, kc4, kc5, kc6, kc7, kc8, kc9, kc10, kc11, kc12, kc13, kc14, kc15, kc16, kc17, kc18, kc19, kc20, kc21, kc22, kc23, kc24, kc25, kc26, kc27, kc28, kc29, kc30, kc31, kc32, kc33] at q44) <;> (omega)
        · try simp (disch := omega) only [bg_w_id, Int.toNat_natCast, rw_land, sh_land, not_true_eq_false, e116, e117, e129, e130, eA, eB, eR, eG, i5, kc0, kc1, kc2, kc3, kc4, kc5, kc6, kc7, kc8, kc9, kc10, kc11, kc12, kc13, kc14, kc15, kc16, kc17, kc18, kc19, kc20, kc21, kc22, kc23, kc24, kc25, kc26, kc27, kc28, kc29, kc30, kc31, kc32, kc33] at q44
          iterate 5 (refine hX _ ?_; conv => whnf)
          refine hX _ ?_; conv => whnf
          try (simp (disch := omega) only [bg_w_id, Int.toNat_natCast, rw_land, sh_land, not_true_eq_false, e116, e117, e129, e130, eA, eB, eR, eG, i5]; try conv => whnf)
          refine ⟨by first | omega | (simp (disch := omega) only [bg_w_id, Int.toNat_natCast, rw_land, sh_land, not_true_eq_false, e116, e117, e129, e130, eA, eB, eR, eG, i5]; omega), ?_⟩
          iterate 8 (refine hX _ ?_; conv => whnf)
          refine hX _ ?_; conv => whnf
          try (simp (disch := omega) only [bg_w_id, Int.toNat_natCast, rw_land, sh_land, not_true_eq_false, e116, e117, e129, e130, eA, eB, eR, eG, i5]; try conv => whnf)
          refine ⟨by first | omega | (simp (disch := omega) only [bg_w_id, Int.toNat_natCast, rw_land, sh_land, not_true_eq_false, e116, e117, e129, e130, eA, eB, eR, eG, i5]; omega), ?_⟩
          iterate 4 (refine hX _ ?_; conv => whnf)
          try simp only [kc0, kc1, kc2, kc3, kc4, kc5, kc6, kc7, kc8, kc9, kc10, kc11, kc12, kc13, kc14, kc15, kc16, kc17, kc18, kc19, kc20, kc21, kc22, kc23, kc24, kc25, kc26, kc27, kc28, kc29, kc30, kc31, kc32, kc33]
          refine hX _ ?_; conv => whnf
          try simp (disch := omega) only [bg_w_id, Int.toNat_natCast, rw_land, sh_land, not_true_eq_false, e116, e117, e129, e130, eA, eB, eR, eG, i5]
          refine s_has d _ _ _ _ ?_
          conv => whnf
          refine hX _ ?_; conv => whnf
          refine ⟨fun q78 => ?_, fun q78 => ?_⟩
          · try simp (disch := omega) only [bg_w_id, Int.toNat_natCast, rw_land, sh_land, not_true_eq_false, e116, e117, e129, e130, eA, eB, eR, eG, i5, kc0, kc1, kc2, kc3, kc4, kc5, kc6, kc7, kc8, kc9, kc10, kc11, kc12, kc13, kc14, kc15, kc16, kc17, kc18, kc19, kc20, kc21, kc22, kc23, kc24, kc25, kc26, kc27, kc28, kc29, kc30, kc31, kc32, kc33] at q78
            try rw [bt_w] at q78
            iterate 3 (refine hX _ ?_; conv => whnf)
            try simp only [kc0, kc1, kc2, kc3, kc4, kc5, kc6, kc7, kc8, kc9, kc10, kc11, kc12, kc13, kc14, kc15, kc16, kc17, kc18, kc19, kc20, kc21, kc22, kc23, kc24, kc25, kc26, kc27, kc28, kc29, kc30, kc31, kc32, kc33]
            refine hX _ ?_; conv => whnf
            try simp (disch := omega) only [bg_w_id, Int.toNat_natCast, rw_land, sh_land, not_true_eq_false, e116, e117, e129, e130, eA, eB, eR, eG, i5]
            refine s_has d _ _ _ _ ?_
            conv => whnf
            refine hX _ ?_; conv => whnf
            refine ⟨fun q137 => ?_, fun q137 => ?_⟩
            · try simp (disch := omega) only [bg_w_id, Int.toNat_natCast, rw_land, sh_land, not_true_eq_false, e116, e117, e129, e130, eA, eB, eR, eG, i5, kc0, kc1, kc2, kc3, kc4, kc5, kc6, kc7, kc8, kc9, kc10, kc11, kc12, kc13, kc14, kc15, kc16, kc17, kc18, kc19, kc20, kc21, kc22, kc23, kc24, kc25, kc26, kc27, kc28, kc29, kc30, kc31, kc32, kc33] at q137
              try rw [bt_w] at q137
              iterate 2 (refine hX _ ?_; conv => whnf)
              first
              | (exfalso; omega)
              | (obtain ⟨g1, g2⟩ := grow h'' S' p (A p) (B p) p hi' hp a1 b1 q78 q90 (Or.inl ⟨rfl, rfl, rfl, q99⟩)
                 exact ih _ _ 1 _ _ g1 (Or.inr ⟨rfl, by omega⟩) (by omega) (fun e => absurd e (by omega)))
              | (obtain ⟨g1, g2⟩ := grow h'' S' p (B p) (A p) (12 + p) hi' hp b1 a1 q137 q148 (Or.inr ⟨rfl, rfl, rfl, q157⟩)
                 exact ih _ _ 1 _ _ g1 (Or.inr ⟨rfl, by omega⟩) (by omega) (fun e => absurd e (by omega)))
              | (refine ih S' h'' mo _ _ hi' hmo hc (fun e p' hp' => ?_)
                 rcases Nat.lt_or_ge p' p with hlt | hge
                 · exact hcl e p' hlt
                 · have : p' = p := by omega
                   subst this
                   refine ⟨fun c => ?_, fun c => ?_⟩ <;> omega)
            · try simp (disch := omega) only [bg_w_id, Int.toNat_natCast, rw_land, sh_land, not_true_eq_false, e116, e117, e129, e130, eA, eB, eR, eG, i5, kc0, kc1, kc2, kc3, kc4, kc5, kc6, kc7, kc8, kc9, kc10, kc11, kc12, kc13, kc14, kc15, kc16, kc17, kc18, kc19, kc20, kc21, kc22, kc23, kc24, kc25, kc26, kc27, kc28, kc29, kc30, kc31, kc32, kc33] at q137
              try rw [bt_w] at q137; have q137 := (bt_01 S' (B p)).resolve_left q137
              iterate 3 (refine hX _ ?_; conv => whnf)
              try simp only [kc0, kc1, kc2, kc3, kc4, kc5, kc6, kc7, kc8, kc9, kc10, kc11, kc12, kc13, kc14, kc15, kc16, kc17, kc18, kc19, kc20, kc21, kc22, kc23, kc24, kc25, kc26, kc27, kc28, kc29, kc30, kc31, kc32, kc33]
              refine hX _ ?_; conv => whnf
              try simp (disch := omega) only [bg_w_id, Int.toNat_natCast, rw_land, sh_land, not_true_eq_false, e116, e117, e129, e130, eA, eB, eR, eG, i5]
              refine s_has d _ _ _ _ ?_
              conv => whnf
              refine hX _ ?_; conv => whnf
              refine ⟨fun q148 => ?_, fun q148 => ?_⟩
              · try simp (disch := omega) only [bg_w_id, Int.toNat_natCast, rw_land, sh_land, not_true_eq_false, e116, e117, e129, e130, eA, eB, eR, eG, i5, kc0, kc1, kc2, kc3, kc4, kc5, kc6, kc7, kc8, kc9, kc10, kc11, kc12, kc13, kc14, kc15, kc16, kc17, kc18, kc19, kc20, kc21, kc22, kc23, kc24, kc25, kc26, kc27, kc28, kc29, kc30, kc31, kc32, kc33] at q148
                try rw [bt_w] at q148; have q148 := (bt_01 S' (A p)).resolve_left q148
                iterate 2 (refine hX _ ?_; conv => whnf)
                first
                | (exfalso; omega)
                | (obtain ⟨g1, g2⟩ := grow h'' S' p (A p) (B p) p hi' hp a1 b1 q78 q90 (Or.inl ⟨rfl, rfl, rfl, q99⟩)
                   exact ih _ _ 1 _ _ g1 (Or.inr ⟨rfl, by omega⟩) (by omega) (fun e => absurd e (by omega)))
                | (obtain ⟨g1, g2⟩ := grow h'' S' p (B p) (A p) (12 + p) hi' hp b1 a1 q137 q148 (Or.inr ⟨rfl, rfl, rfl, q157⟩)
                   exact ih _ _ 1 _ _ g1 (Or.inr ⟨rfl, by omega⟩) (by omega) (fun e => absurd e (by omega)))
                | (refine ih S' h'' mo _ _ hi' hmo hc (fun e p' hp' => ?_)
                   rcases Nat.lt_or_ge p' p with hlt | hge
                   · exact hcl e p' hlt
                   · have : p' = p := by omega
                     subst this
                     refine ⟨fun c => ?_, fun c => ?_⟩ <;> omega)
              · try simp (disch := omega) only [bg_w_id, Int.toNat_natCast, rw_land, sh_land, not_true_eq_false, e116, e117, e129, e130, eA, eB, eR, eG, i5, kc0, kc1, kc2, kc3, kc4, kc5, kc6, kc7, kc8, kc9, kc10, kc11, kc12, kc13, kc14, kc15, kc16, kc17, kc18, kc19, kc20, kc21, kc22, kc23, kc24, kc25, kc26, kc27, kc28, kc29, kc30, kc31, kc32, kc33] at q148
                try rw [bt_w] at q148
                iterate 3 (refine hX _ ?_; conv => whnf)
                refine hX _ ?_; conv => whnf
                try (simp (disch := omega) only [bg_w_id, Int.toNat_natCast, rw_land, sh_land, not_true_eq_false, e116, e117, e129, e130, eA, eB, eR, eG, i5]; try conv => whnf)
                refine ⟨by first | omega | (simp (disch := omega) only [bg_w_id, Int.toNat_natCast, rw_land, sh_land, not_true_eq_false, e116, e117, e129, e130, eA, eB, eR, eG, i5]; omega), ?_⟩
                refine hX _ ?_; conv => whnf
                refine ⟨fun q157 => ?_, fun q157 => ?_⟩
                · try simp (disch := omega) only [bg_w_id, Int.toNat_natCast, rw_land, sh_land, not_true_eq_false, e116, e117, e129, e130, eA, eB, eR, eG, i5, kc0, kc1, kc2, kc3, kc4, kc5, kc6, kc7, kc8, kc9, kc10, kc11, kc12, kc13, kc14, kc15, kc16, kc17, kc18, kc19, kc20, kc21, kc22, kc23, kc24, kc25, kc26, kc27, kc28, kc29, kc30, kc31, kc32, kc33] at q157
                  iterate 2 (refine hX _ ?_; conv => whnf)
                  first
                  | (exfalso; omega)
                  | (obtain ⟨g1, g2⟩ := grow h'' S' p (A p) (B p) p hi' hp a1 b1 q78 q90 (Or.inl ⟨rfl, rfl, rfl, q99⟩)
                     exact ih _ _ 1 _ _ g1 (Or.inr ⟨rfl, by omega⟩) (by omega) (fun e => absurd e (by omega)))
                  | (obtain ⟨g1, g2⟩ := grow h'' S' p (B p) (A p) (12 + p) hi' hp b1 a1 q137 q148 (Or.inr ⟨rfl, rfl, rfl, q157⟩)
                     exact ih _ _ 1 _ _ g1 (Or.inr ⟨rfl, by omega⟩) (by omega) (fun e => absurd e (by omega)))
                  | (refine ih S' h'' mo _ _ hi' hmo hc (fun e p' hp' => ?_)
                     rcases Nat.lt_or_ge p' p with hlt | hge
                     · exact hcl e p' hlt
                     · have : p' = p := by omega
                       subst this
                       refine ⟨fun c => ?_, fun c => ?_⟩ <;> omega)
                · try simp (disch := omega) only [bg_w_id, Int.toNat_natCast, rw_land, sh_land, not_true_eq_false, e116, e117, e129, e130, eA, eB, eR, eG, i5, kc0, kc1, kc2, kc3, kc4, kc5, kc6, kc7, kc8, kc9, kc10, kc11, kc12, kc13, kc14, kc15, kc16, kc17, kc18, kc19, kc20, kc21, kc22, kc23, kc24, kc25, kc26, kc27, kc28, kc29, kc30, kc31, kc32, kc33] at q157
                  iterate 14 (refine hX _ ?_; conv => whnf)
                  refine hX _ ?_; conv => whnf
                  try (simp (disch := omega) only [bg_w_id, Int.toNat_natCast, rw_land, sh_land, not_true_eq_false, e116, e117, e129, e130, eA, eB, eR, eG, i5, kc0, kc1, kc2, kc3, kc4, kc5, kc6, kc7, kc8, kc9, kc10, kc11, kc12, kc13, kc14, kc15, kc16, kc17, kc18, kc19, kc20, kc21, kc22, kc23, kc24, kc25, kc26, kc27, kc28, kc29, kc30, kc31, kc32, kc33]; try conv => whnf)
                  refine ⟨by first | omega | (simp (disch := omega) only [bg_w_id, Int.toNat_natCast, rw_land, sh_land, not_true_eq_false, e116, e117, e129, e130, eA, eB, eR, eG, i5, kc0, kc1, kc2, kc3, kc4, kc5, kc6, kc7, kc8, kc9, kc10, kc11, kc12, kc13, kc14, kc15, kc16, kc17, kc18, kc19, kc20, kc21, kc22, kc23, kc24, kc25, kc26, kc27, kc28, kc29, kc30, kc31, kc32, kc33]; omega), ?_⟩
                  iterate 4 (refine hX _ ?_; conv => whnf)
                  try simp only [kc0, kc1, kc2, kc3, kc4, kc5, kc6, kc7, kc8, kc9, kc10, kc11, kc12, kc13, kc14, kc15, kc16, kc17, kc18, kc19, kc20, kc21, kc22, kc23, kc24, kc25, kc26, kc27, kc28, kc29, kc30, kc31, kc32, kc33]
                  first
                  | (exfalso; omega)
                  | (obtain ⟨g1, g2⟩ := grow h'' S' p (A p) (B p) p hi' hp a1 b1 q78 q90 (Or.inl ⟨rfl, rfl, rfl, q99⟩)
                     exact ih _ _ 1 _ _ g1 (Or.inr ⟨rfl, by omega⟩) (by omega) (fun e => absurd e (by omega)))
                  | (obtain ⟨g1, g2⟩ := grow h'' S' p (B p) (A p) (12 + p) hi' hp b1 a1 q137 q148 (Or.inr ⟨rfl, rfl, rfl, q157⟩)
                     exact ih _ _ 1 _ _ g1 (Or.inr ⟨rfl, by omega⟩) (by omega) (fun e => absurd e (by omega)))
                  | (refine ih S' h'' mo _ _ hi' hmo hc (fun e p' hp' => ?_)
                     rcases Nat.lt_or_ge p' p with hlt | hge
                     · exact hcl e p' hlt
                     · have : p' = p := by omega
                       subst this
                       refine ⟨fun c => ?_, fun c => ?_⟩ <;> omega)
          · try simp (disch := omega) only [bg_w_id, Int.toNat_natCast, rw_land, sh_land, not_true_eq_false, e116, e117, e129, e130, eA, eB, eR, eG, i5, kc0, kc1, kc2, kc3, kc4, kc5, kc6, kc7, kc8, kc9, kc10, kc11, kc12, kc13, kc14, kc15, kc16, kc17, kc18, kc19, kc20, kc21, kc22, kc23, kc24, kc25, kc26, kc27, kc28, kc29, kc30, kc31, kc32, kc33] at q78
            try rw [bt_w] at q78; have q78 := (bt_01 S' (A p)).resolve_left q78
            iterate 3 (refine hX _ ?_; conv => whnf)
            try simp only [kc0, kc1, kc2, kc3, kc4, kc5, kc6, kc7, kc8, kc9, kc10, kc11, kc12, kc13, kc14, kc15, kc16, kc17, kc18, kc19, kc20, kc21, kc22, kc23, kc24, kc25, kc26, kc27, kc28, kc29, kc30, kc31, kc32, kc33]
            refine hX _ ?_; conv => whnf
            try simp (disch := omega) only [bg_w_id, Int.toNat_natCast, rw_land, sh_land, not_true_eq_false, e116, e117, e129, e130, eA, eB, eR, eG, i5]
            refine s_has d _ _ _ _ ?_
            conv => whnf
            refine hX _ ?_; conv => whnf
            refine ⟨fun q90 => ?_, fun q90 => ?_⟩
            · try simp (disch := omega) only [bg_w_id, Int.toNat_natCast, rw_land, sh_land, not_true_eq_false, e116, e117, e129, e130, eA, eB, eR, eG, i5, kc0, kc1, kc2, kc3, kc4, kc5, kc6, kc7, kc8, kc9, kc10, kc11, kc12, kc13, kc14, kc15, kc16, kc17, kc18, kc19, kc20, kc21, kc22, kc23, kc24, kc25, kc26, kc27, kc28, kc29, kc30, kc31, kc32, kc33] at q90
              try rw [bt_w] at q90; have q90 := (bt_01 S' (B p)).resolve_left q90
              iterate 3 (refine hX _ ?_; conv => whnf)
              try simp only [kc0, kc1, kc2, kc3, kc4, kc5, kc6, kc7, kc8, kc9, kc10, kc11, kc12, kc13, kc14, kc15, kc16, kc17, kc18, kc19, kc20, kc21, kc22, kc23, kc24, kc25, kc26, kc27, kc28, kc29, kc30, kc31, kc32, kc33]
              refine hX _ ?_; conv => whnf
              try simp (disch := omega) only [bg_w_id, Int.toNat_natCast, rw_land, sh_land, not_true_eq_false, e116, e117, e129, e130, eA, eB, eR, eG, i5]
              refine s_has d _ _ _ _ ?_
              conv => whnf
              refine hX _ ?_; conv => whnf
              refine ⟨fun q137 => ?_, fun q137 => ?_⟩
              · try simp (disch := omega) only [bg_w_id, Int.toNat_natCast, rw_land, sh_land, not_true_eq_false, e116, e117, e129, e130, eA, eB, eR, eG, i5, kc0, kc1, kc2, kc3, kc4, kc5, kc6, kc7, kc8, kc9, kc10, kc11, kc12, kc13, kc14, kc15, kc16, kc17, kc18, kc19, kc20, kc21, kc22, kc23, kc24, kc25, kc26, kc27, kc28, kc29, kc30, kc31, kc32, kc33] at q137
                try rw [bt_w] at q137
                iterate 2 (refine hX _ ?_; conv => whnf)
                first
                | (exfalso; omega)
                | (obtain ⟨g1, g2⟩ := grow h'' S' p (A p) (B p) p hi' hp a1 b1 q78 q90 (Or.inl ⟨rfl, rfl, rfl, q99⟩)
                   exact ih _ _ 1 _ _ g1 (Or.inr ⟨rfl, by omega⟩) (by omega) (fun e => absurd e (by omega)))
                | (obtain ⟨g1, g2⟩ := grow h'' S' p (B p) (A p) (12 + p) hi' hp b1 a1 q137 q148 (Or.inr ⟨rfl, rfl, rfl, q157⟩)
                   exact ih _ _ 1 _ _ g1 (Or.inr ⟨rfl, by omega⟩) (by omega) (fun e => absurd e (by omega)))
                | (refine ih S' h'' mo _ _ hi' hmo hc (fun e p' hp' => ?_)
                   rcases Nat.lt_or_ge p' p with hlt | hge
                   · exact hcl e p' hlt
                   · have : p' = p := by omega
                     subst this
                     refine ⟨fun c => ?_, fun c => ?_⟩ <;> omega)
              · try simp (disch := omega) only [bg_w_id, Int.toNat_natCast, rw_land, sh_land, not_true_eq_false, e116, e117, e129, e130, eA, eB, eR, eG, i5, kc0, kc1, kc2, kc3, kc4, kc5, kc6, kc7, kc8, kc9, kc10, kc11, kc12, kc13, kc14, kc15, kc16, kc17, kc18, kc19, kc20, kc21, kc22, kc23, kc24, kc25, kc26, kc27, kc28, kc29, kc30, kc31, kc32, kc33] at q137
                try rw [bt_w] at q137; have q137 := (bt_01 S' (B p)).resolve_left q137
                iterate 3 (refine hX _ ?_; conv => whnf)
                try simp only [kc0, kc1, kc2, kc3, kc4, kc5, kc6, kc7, kc8, kc9, kc10, kc11, kc12, kc13, kc14, kc15, kc16, kc17, kc18, kc19, kc20, kc21, kc22, kc23, kc24, kc25, kc26, kc27, kc28, kc29, kc30, kc31, kc32, kc33]
                refine hX _ ?_; conv => whnf
                try simp (disch := omega) only [bg_w_id, Int.toNat_natCast, rw_land, sh_land, not_true_eq_false, e116, e117, e129, e130, eA, eB, eR, eG, i5]
                refine s_has d _ _ _ _ ?_
                conv => whnf
                refine hX _ ?_; conv => whnf
                refine ⟨fun q148 => ?_, fun q148 => ?_⟩
                · try simp (disch := omega) only [bg_w_id, Int.toNat_natCast, rw_land, sh_land, not_true_eq_false, e116, e117, e129, e130, eA, eB, eR, eG, i5, kc0, kc1, kc2, kc3, kc4, kc5, kc6, kc7, kc8, kc9, kc10, kc11, kc12, kc13, kc14, kc15, kc16, kc17, kc18, kc19, kc20, kc21, kc22, kc23, kc24, kc25, kc26, kc27, kc28, kc29, kc30, kc31, kc32, kc33] at q148
                  try rw [bt_w] at q148; have q148 := (bt_01 S' (A p)).resolve_left q148
                  iterate 2 (refine hX _ ?_; conv => whnf)
                  first
                  | (exfalso; omega)
                  | (obtain ⟨g1, g2⟩ := grow h'' S' p (A p) (B p) p hi' hp a1 b1 q78 q90 (Or.inl ⟨rfl, rfl, rfl, q99⟩)
                     exact ih _ _ 1 _ _ g1 (Or.inr ⟨rfl, by omega⟩) (by omega) (fun e => absurd e (by omega)))
                  | (obtain ⟨g1, g2⟩ := grow h'' S' p (B p) (A p) (12 + p) hi' hp b1 a1 q137 q148 (Or.inr ⟨rfl, rfl, rfl, q157⟩)
                     exact ih _ _ 1 _ _ g1 (Or.inr ⟨rfl, by omega⟩) (by omega) (fun e => absurd e (by omega)))
                  | (refine ih S' h'' mo _ _ hi' hmo hc (fun e p' hp' => ?_)
                     rcases Nat.lt_or_ge p' p with hlt | hge
                     · exact hcl e p' hlt
                     · have : p' = p := by omega
                       subst this
                       refine ⟨fun c => ?_, fun c => ?_⟩ <;> omega)
                · try simp (disch := omega) only [bg_w_id, Int.toNat_natCast, rw_land, sh_land, not_true_eq_false, e116, e117, e129, e130, eA, eB, eR, eG, i5, kc0, kc1, kc2, kc3, kc4, kc5, kc6, kc7, kc8, kc9, kc10, kc11, kc12, kc13, kc14, kc15, kc16, kc17, kc18, kc19, kc20, kc21, kc22, kc23, kc24, kc25, kc26, kc27, kc28, kc29, kc30, kc31, kc32, kc33] at q148
                  try rw [bt_w] at q148
                  iterate 3 (refine hX _ ?_; conv => whnf)
                  refine hX _ ?_; conv => whnf
                  try (simp (disch := omega) only [bg_w_id, Int.toNat_natCast, rw_land, sh_land, not_true_eq_false, e116, e117, e129, e130, eA, eB, eR, eG, i5]; try conv => whnf)
                  refine ⟨by first | omega | (simp (disch := omega) only [bg_w_id, Int.toNat_natCast, rw_land, sh_land, not_true_eq_false, e116, e117, e129, e130, eA, eB, eR, eG, i5]; omega), ?_⟩
                  refine hX _ ?_; conv => whnf
                  refine ⟨fun q157 => ?_, fun q157 => ?_⟩
                  · try simp (disch := omega) only [bg_w_id, Int.toNat_natCast, rw_land, sh_land, not_true_eq_false, e116, e117, e129, e130, eA, eB, eR, eG, i5, kc0, kc1, kc2, kc3, kc4, kc5, kc6, kc7, kc8, kc9, kc10, kc11, kc12, kc13, kc14, kc15, kc16, kc17, kc18, kc19, kc20, kc21, kc22, kc23, kc24, kc25, kc26, kc27, kc28, kc29, kc30, kc31, kc32, kc33] at q157
                    iterate 2 (refine hX _ ?_; conv => whnf)
                    first
                    | (exfalso; omega)
                    | (obtain ⟨g1, g2⟩ := grow h'' S' p (A p) (B p) p hi' hp a1 b1 q78 q90 (Or.inl ⟨rfl, rfl, rfl, q99⟩)
                       exact ih _ _ 1 _ _ g1 (Or.inr ⟨rfl, by omega⟩) (by omega) (fun e => absurd e (by omega)))
                    | (obtain ⟨g1, g2⟩ := grow h'' S' p (B p) (A p) (12 + p) hi' hp b1 a1 q137 q148 (Or.inr ⟨rfl, rfl, rfl, q157⟩)
                       exact ih _ _ 1 _ _ g1 (Or.inr ⟨rfl, by omega⟩) (by omega) (fun e => absurd e (by omega)))
                    | (refine ih S' h'' mo _ _ hi' hmo hc (fun e p' hp' => ?_)
                       rcases Nat.lt_or_ge p' p with hlt | hge
                       · exact hcl e p' hlt
                       · have : p' = p := by omega
                         subst this
                         refine ⟨fun c => ?_, fun c => ?_⟩ <;> omega)
                  · try simp (disch := omega) only [bg_w_id, Int.toNat_natCast, rw_land, sh_land, not_true_eq_false, e116, e117, e129, e130, eA, eB, eR, eG, i5, kc0, kc1, kc2, kc3, kc4, kc5, kc6, kc7, kc8, kc9, kc10, kc11, kc12, kc13, kc14, kc15, kc16, kc17, kc18, kc19, kc20, kc21, kc22, kc23, kc24, kc25, kc26, kc27, kc28, kc29, kc30, kc31, kc32, kc33] at q157
                    iterate 14 (refine hX _ ?_; conv => whnf)
                    refine hX _ ?_; conv => whnf
                    try (simp (disch := omega) only [bg_w_id, Int.toNat_natCast, rw_land, sh_land, not_true_eq_false, e116, e117, e129, e130, eA, eB, eR, eG, i5, kc0, kc1, kc2, kc3, kc4, kc5, kc6, kc7, kc8, kc9, kc10, kc11, kc12, kc13, kc14, kc15, kc16, kc17, kc18, kc19, kc20, kc21, kc22, kc23, kc24, kc25, kc26, kc27, kc28, kc29, kc30, kc31, kc32, kc33]; try conv => whnf)
                    refine ⟨by first | omega | (simp (disch := omega) only [bg_w_id, Int.toNat_natCast, rw_land, sh_land, not_true_eq_false, e116, e117, e129, e130, eA, eB, eR, eG, i5, kc0, kc1, kc2, kc3, kc4, kc5, kc6, kc7, kc8, kc9, kc10, kc11, kc12, kc13, kc14, kc15, kc16, kc17, kc18, kc19, kc20, kc21, kc22, kc23, kc24, kc25, kc26, kc27, kc28, kc29, kc30, kc31, kc32, kc33]; omega), ?_⟩
                    iterate 4 (refine hX _ ?_; conv => whnf)
                    try simp only [kc0, kc1, kc2, kc3, kc4, kc5, kc6, kc7, kc8, kc9, kc10, kc11, kc12, kc13, kc14, kc15, kc16, kc17, kc18, kc19, kc20, kc21, kc22, kc23, kc24, kc25, kc26, kc27, kc28, kc29, kc30, kc31, kc32, kc33]
                    first
                    | (exfalso; omega)
                    | (obtain ⟨g1, g2⟩ := grow h'' S' p (A p) (B p) p hi' hp a1 b1 q78 q90 (Or.inl ⟨rfl, rfl, rfl, q99⟩)
                       exact ih _ _ 1 _ _ g1 (Or.inr ⟨rfl, by omega⟩) (by omega) (fun e => absurd e (by omega)))
                    | (obtain ⟨g1, g2⟩ := grow h'' S' p (B p) (A p) (12 + p) hi' hp b1 a1 q137 q148 (Or.inr ⟨rfl, rfl, rfl, q157⟩)
                       exact ih _ _ 1 _ _ g1 (Or.inr ⟨rfl, by omega⟩) (by omega) (fun e => absurd e (by omega)))
                    | (refine ih S' h'' mo _ _ hi' hmo hc (fun e p' hp' => ?_)
                       rcases Nat.lt_or_ge p' p with hlt | hge
                       · exact hcl e p' hlt
                       · have : p' = p := by omega
                         subst this
                         refine ⟨fun c => ?_, fun c => ?_⟩ <;> omega)
            · try simp (disch := omega) only [bg_w_id, Int.toNat_natCast, rw_land, sh_land, not_true_eq_false, e116, e117, e129, e130, eA, eB, eR, eG, i5, kc0, kc1, kc2, kc3, kc4, kc5, kc6, kc7, kc8, kc9, kc10, kc11, kc12, kc13, kc14, kc15, kc16, kc17, kc18, kc19, kc20, kc21, kc22, kc23, kc24, kc25, kc26, kc27, kc28, kc29, kc30, kc31, kc32, kc33] at q90
              try rw [bt_w] at q90
              iterate 3 (refine hX _ ?_; conv => whnf)
              refine hX _ ?_; conv => whnf
              try (simp (disch := omega) only [bg_w_id, Int.toNat_natCast, rw_land, sh_land, not_true_eq_false, e116, e117, e129, e130, eA, eB, eR, eG, i5]; try conv => whnf)
              refine ⟨by first | omega | (simp (disch := omega) only [bg_w_id, Int.toNat_natCast, rw_land, sh_land, not_true_eq_false, e116, e117, e129, e130, eA, eB, eR, eG, i5]; omega), ?_⟩
              refine hX _ ?_; conv => whnf
              refine ⟨fun q99 => ?_, fun q99 => ?_⟩
              · try simp (disch := omega) only [bg_w_id, Int.toNat_natCast, rw_land, sh_land, not_true_eq_false, e116, e117, e129, e130, eA, eB, eR, eG, i5, kc0, kc1, kc2, kc3, kc4, kc5, kc6, kc7, kc8, kc9, kc10, kc11, kc12, kc13, kc14, kc15, kc16, kc17, kc18, kc19, kc20, kc21, kc22, kc23, kc24, kc25, kc26, kc27, kc28, kc29, kc30, kc31, kc32, kc33] at q99
                iterate 3 (refine hX _ ?_; conv => whnf)
                try simp only [kc0, kc1, kc2, kc3, kc4, kc5, kc6, kc7, kc8, kc9, kc10, kc11, kc12, kc13, kc14, kc15, kc16, kc17, kc18, kc19, kc20, kc21, kc22, kc23, kc24, kc25, kc26, kc27, kc28, kc29, kc30, kc31, kc32, kc33]
                refine hX _ ?_; conv => whnf
                try simp (disch := omega) only [bg_w_id, Int.toNat_natCast, rw_land, sh_land, not_true_eq_false, e116, e117, e129, e130, eA, eB, eR, eG, i5]
                refine s_has d _ _ _ _ ?_
                conv => whnf
                refine hX _ ?_; conv => whnf
                refine ⟨fun q137 => ?_, fun q137 => ?_⟩
                · try simp (disch := omega) only [bg_w_id, Int.toNat_natCast, rw_land, sh_land, not_true_eq_false, e116, e117, e129, e130, eA, eB, eR, eG, i5, kc0, kc1, kc2, kc3, kc4, kc5, kc6, kc7, kc8, kc9, kc10, kc11, kc12, kc13, kc14, kc15, kc16, kc17, kc18, kc19, kc20, kc21, kc22, kc23, kc24, kc25, kc26, kc27, kc28, kc29, kc30, kc31, kc32, kc33] at q137
                  try rw [bt_w] at q137
                  iterate 2 (refine hX _ ?_; conv => whnf)
                  first
                  | (exfalso; omega)
                  | (obtain ⟨g1, g2⟩ := grow h'' S' p (A p) (B p) p hi' hp a1 b1 q78 q90 (Or.inl ⟨rfl, rfl, rfl, q99⟩)
                     exact ih _ _ 1 _ _ g1 (Or.inr ⟨rfl, by omega⟩) (by omega) (fun e => absurd e (by omega)))
                  | (obtain ⟨g1, g2⟩ := grow h'' S' p (B p) (A p) (12 + p) hi' hp b1 a1 q137 q148 (Or.inr ⟨rfl, rfl, rfl, q157⟩)
                     exact ih _ _ 1 _ _ g1 (Or.inr ⟨rfl, by omega⟩) (by omega) (fun e => absurd e (by omega)))
                  | (refine ih S' h'' mo _ _ hi' hmo hc (fun e p' hp' => ?_)
                     rcases Nat.lt_or_ge p' p with hlt | hge
                     · exact hcl e p' hlt
                     · have : p' = p := by omega
                       subst this
                       refine ⟨fun c => ?_, fun c => ?_⟩ <;> omega)
                · try simp (disch := omega) only [bg_w_id, Int.toNat_natCast, rw_land, sh_land, not_true_eq_false, e116, e117, e129, e130, eA, eB, eR, eG, i5, kc0, kc1, kc2, kc3, kc4, kc5, kc6, kc7, kc8, kc9, kc10, kc11, kc12, kc13, kc14, kc15, kc16, kc17, kc18, kc19, kc20, kc21, kc22, kc23, kc24, kc25, kc26, kc27, kc28, kc29, kc30, kc31, kc32, kc33] at q137
                  try rw [bt_w] at q137; have q137 := (bt_01 S' (B p)).resolve_left q137
                  iterate 3 (refine hX _ ?_; conv => whnf)
                  try simp only [kc0, kc1, kc2, kc3, kc4, kc5, kc6, kc7, kc8, kc9, kc10, kc11, kc12, kc13, kc14, kc15, kc16, kc17, kc18, kc19, kc20, kc21, kc22, kc23, kc24, kc25, kc26, kc27, kc28, kc29, kc30, kc31, kc32, kc33]
                  refine hX _ ?_; conv => whnf
                  try simp (disch := omega) only [bg_w_id, Int.toNat_natCast, rw_land, sh_land, not_true_eq_false, e116, e117, e129, e130, eA, eB, eR, eG, i5]
                  refine s_has d _ _ _ _ ?_
                  conv => whnf
                  refine hX _ ?_; conv => whnf
                  refine ⟨fun q148 => ?_, fun q148 => ?_⟩
                  · try simp (disch := omega) only [bg_w_id, Int.toNat_natCast, rw_land, sh_land, not_true_eq_false, e116, e117, e129, e130, eA, eB, eR, eG, i5, kc0, kc1, kc2, kc3, kc4, kc5, kc6, kc7, kc8, kc9, kc10, kc11, kc12, kc13, kc14, kc15, kc16, kc17, kc18, kc19, kc20, kc21, kc22, kc23, kc24, kc25, kc26, kc27, kc28, kc29, kc30, kc31, kc32, kc33] at q148
                    try rw [bt_w] at q148; have q148 := (bt_01 S' (A p)).resolve_left q148
                    iterate 2 (refine hX _ ?_; conv => whnf)
                    first
                    | (exfalso; omega)
                    | (obtain ⟨g1, g2⟩ := grow h'' S' p (A p) (B p) p hi' hp a1 b1 q78 q90 (Or.inl ⟨rfl, rfl, rfl, q99⟩)
                       exact ih _ _ 1 _ _ g1 (Or.inr ⟨rfl, by omega⟩) (by omega) (fun e => absurd e (by omega)))
                    | (obtain ⟨g1, g2⟩ := grow h'' S' p (B p) (A p) (12 + p) hi' hp b1 a1 q137 q148 (Or.inr ⟨rfl, rfl, rfl, q157⟩)
                       exact ih _ _ 1 _ _ g1 (Or.inr ⟨rfl, by omega⟩) (by omega) (fun e => absurd e (by omega)))
                    | (refine ih S' h'' mo _ _ hi' hmo hc (fun e p' hp' => ?_)
                       rcases Nat.lt_or_ge p' p with hlt | hge
                       · exact hcl e p' hlt
                       · have : p' = p := by omega
                         subst this
                         refine ⟨fun c => ?_, fun c => ?_⟩ <;> omega)
                  · try simp (disch := omega) only [bg_w_id, Int.toNat_natCast, rw_land, sh_land, not_true_eq_false, e116, e117, e129, e130, eA, eB, eR, eG, i5, kc0, kc1, kc2, kc3, kc4, kc5, kc6, kc7, kc8, kc9, kc10, kc11, kc12, kc13, kc14, kc15, kc16, kc17, kc18, kc19, kc20, kc21, kc22, kc23, kc24, kc25, kc26, kc27, kc28, kc29, kc30, kc31, kc32, kc33] at q148
                    try rw [bt_w] at q148
                    iterate 3 (refine hX _ ?_; conv => whnf)
                    refine hX _ ?_; conv => whnf
                    try (simp (disch := omega) only [bg_w_id, Int.toNat_natCast, rw_land, sh_land, not_true_eq_false, e116, e117, e129, e130, eA, eB, eR, eG, i5]; try conv => whnf)
                    refine ⟨by first | omega | (simp (disch := omega) only [bg_w_id, Int.toNat_natCast, rw_land, sh_land, not_true_eq_false, e116, e117, e129, e130, eA, eB, eR, eG, i5]; omega), ?_⟩
                    refine hX _ ?_; conv => whnf
                    refine ⟨fun q157 => ?_, fun q157 => ?_⟩
                    · try simp (disch := omega) only [bg_w_id, Int.toNat_natCast, rw_land, sh_land, not_true_eq_false, e116, e117, e129, e130, eA, eB, eR, eG, i5, kc0, kc1, kc2, kc3, kc4, kc5, kc6, kc7, kc8, kc9, kc10, kc11, kc12, kc13, kc14, kc15, kc16, kc17, kc18, kc19, kc20, kc21, kc22, kc23, kc24, kc25, kc26, kc27, kc28, kc29, kc30, kc31, kc32, kc33] at q157
                      iterate 2 (refine hX _ ?_; conv => whnf)
                      first
                      | (exfalso; omega)
                      | (obtain ⟨g1, g2⟩ := grow h'' S' p (A p) (B p) p hi' hp a1 b1 q78 q90 (Or.inl ⟨rfl, rfl, rfl, q99⟩)
                         exact ih _ _ 1 _ _ g1 (Or.inr ⟨rfl, by omega⟩) (by omega) (fun e => absurd e (by omega)))
                      | (obtain ⟨g1, g2⟩ := grow h'' S' p (B p) (A p) (12 + p) hi' hp b1 a1 q137 q148 (Or.inr ⟨rfl, rfl, rfl, q157⟩)
                         exact ih _ _ 1 _ _ g1 (Or.inr ⟨rfl, by omega⟩) (by omega) (fun e => absurd e (by omega)))
                      | (refine ih S' h'' mo _ _ hi' hmo hc (fun e p' hp' => ?_)
                         rcases Nat.lt_or_ge p' p with hlt | hge
                         · exact hcl e p' hlt
                         · have : p' = p := by omega
                           subst this
                           refine ⟨fun c => ?_, fun c => ?_⟩ <;> omega)
                    · try simp (disch := omega) only [bg_w_id, Int.toNat_natCast, rw_land, sh_land, not_true_eq_false, e116, e117, e129, e130, eA, eB, eR, eG, i5, kc0, kc1, kc2, kc3, kc4, kc5, kc6, kc7, kc8, kc9, kc10, kc11, kc12, kc13, kc14, kc15, kc16, kc17, kc18, kc19, kc20, kc21, kc22, kc23, kc24, kc25, kc26, kc27, kc28, kc29, kc30, kc31, kc32, kc33] at q157
                      iterate 14 (refine hX _ ?_; conv => whnf)
                      refine hX _ ?_; conv => whnf
                      try (simp (disch := omega) only [bg_w_id, Int.toNat_natCast, rw_land, sh_land, not_true_eq_false, e116, e117, e129, e130, eA, eB, eR, eG, i5, kc0, kc1, kc2, kc3, kc4, kc5, kc6, kc7, kc8, kc9, kc10, kc11, kc12, kc13, kc14, kc15, kc16, kc17, kc18, kc19, kc20, kc21, kc22, kc23, kc24, kc25, kc26, kc27, kc28, kc29, kc30, kc31, kc32, kc33]; try conv => whnf)
                      refine ⟨by first | omega | (simp (disch := omega) only [bg_w_id, Int.toNat_natCast, rw_land, sh_land, not_true_eq_false, e116, e117, e129, e130, eA, eB, eR, eG, i5, kc0, kc1, kc2, kc3, kc4, kc5, kc6, kc7, kc8, kc9, kc10, kc11, kc12, kc13, kc14, kc15, kc16, kc17, kc18, kc19, kc20, kc21, kc22, kc23, kc24, kc25, kc26, kc27, kc28, kc29, kc30, kc31, kc32, kc33]; omega), ?_⟩
                      iterate 4 (refine hX _ ?_; conv => whnf)
                      try simp only [kc0, kc1, kc2, kc3, kc4, kc5, kc6, kc7, kc8, kc9, kc10, kc11, kc12, kc13, kc14, kc15, kc16, kc17, kc18, kc19, kc20, kc21, kc22, kc23, kc24, kc25, kc26, kc27, kc28, kc29, kc30, kc31, kc32, kc33]
                      first
                      | (exfalso; omega)
                      | (obtain ⟨g1, g2⟩ := grow h'' S' p (A p) (B p) p hi' hp a1 b1 q78 q90 (Or.inl ⟨rfl, rfl, rfl, q99⟩)
                         exact ih _ _ 1 _ _ g1 (Or.inr ⟨rfl, by omega⟩) (by omega) (fun e => absurd e (by omega)))
                      | (obtain ⟨g1, g2⟩ := grow h'' S' p (B p) (A p) (12 + p) hi' hp b1 a1 q137 q148 (Or.inr ⟨rfl, rfl, rfl, q157⟩)
                         exact ih _ _ 1 _ _ g1 (Or.inr ⟨rfl, by omega⟩) (by omega) (fun e => absurd e (by omega)))
                      | (refine ih S' h'' mo _ _ hi' hmo hc (fun e p' hp' => ?_)
                         rcases Nat.lt_or_ge p' p with hlt | hge
                         · exact hcl e p' hlt
                         · have : p' = p := by omega
                           subst this
                           refine ⟨fun c => ?_, fun c => ?_⟩ <;> omega)
              · try simp (disch := omega) only [bg_w_id, Int.toNat_natCast, rw_land, sh_land, not_true_eq_false, e116, e117, e129, e130, eA, eB, eR, eG, i5, kc0, kc1, kc2, kc3, kc4, kc5, kc6, kc7, kc8, kc9, kc10, kc11, kc12, kc13, kc14, kc15, kc16, kc17, kc18, kc19, kc20, kc21, kc22, kc23, kc24, kc25, kc26, kc27, kc28, kc29, kc30, kc31, kc32, kc33] at q99
                iterate 12 (refine hX _ ?_; conv => whnf)
                refine hX _ ?_; conv => whnf
                try (simp (disch := omega) only [bg_w_id, Int.toNat_natCast, rw_land, sh_land, not_true_eq_false, e116, e117, e129, e130, eA, eB, eR, eG, i5, kc0, kc1, kc2, kc3, kc4, kc5, kc6, kc7, kc8, kc9, kc10, kc11, kc12, kc13, kc14, kc15, kc16, kc17, kc18, kc19, kc20, kc21, kc22, kc23, kc24, kc25, kc26, kc27, kc28, kc29, kc30, kc31, kc32, kc33]; try conv => whnf)
                refine ⟨by first | omega | (simp (disch := omega) only [bg_w_id, Int.toNat_natCast, rw_land, sh_land, not_true_eq_false, e116, e117, e129, e130, eA, eB, eR, eG, i5, kc0, kc1, kc2, kc3, kc4, kc5, kc6, kc7, kc8, kc9, kc10, kc11, kc12, kc13, kc14, kc15, kc16, kc17, kc18, kc19, kc20, kc21, kc22, kc23, kc24, kc25, kc26, kc27, kc28, kc29, kc30, kc31, kc32, kc33]; omega), ?_⟩
                iterate 5 (refine hX _ ?_; conv => whnf)
                try simp only [kc0, kc1, kc2, kc3, kc4, kc5, kc6, kc7, kc8, kc9, kc10, kc11, kc12, kc13, kc14, kc15, kc16, kc17, kc18, kc19, kc20, kc21, kc22, kc23, kc24, kc25, kc26, kc27, kc28, kc29, kc30, kc31, kc32, kc33]
                first
                | (exfalso; omega)
                | (obtain ⟨g1, g2⟩ := grow h'' S' p (A p) (B p) p hi' hp a1 b1 q78 q90 (Or.inl ⟨rfl, rfl, rfl, q99⟩)
                   exact ih _ _ 1 _ _ g1 (Or.inr ⟨rfl, by omega⟩) (by omega) (fun e => absurd e (by omega)))
                | (obtain ⟨g1, g2⟩ := grow h'' S' p (B p) (A p) (12 + p) hi' hp b1 a1 q137 q148 (Or.inr ⟨rfl, rfl, rfl, q157⟩)
                   exact ih _ _ 1 _ _ g1 (Or.inr ⟨rfl, by omega⟩) (by omega) (fun e => absurd e (by omega)))
                | (refine ih S' h'' mo _ _ hi' hmo hc (fun e p' hp' => ?_)
                   rcases Nat.lt_or_ge p' p with hlt | hge
                   · exact hcl e p' hlt
                   · have : p' = p := by omega
                     subst this
                     refine ⟨fun c => ?_, fun c => ?_⟩ <;> omega)
    refine hX _ ?_; conv => whnf
    refine hX _ ?_; conv => whnf
    refine ⟨fun q30 => ?_, fun q30 => ?_⟩
    · exfalso
      (try simp (disch := omega) only [bg_w_id, Int.toNat_natCast, rw_land, sh_land, not_true_eq_false, kc0, kc1, kc2, kc3, kc4, kc5, kc6, kc7, kc8, kc9, kc10, kc11, kc12, kc13, kc14, kc15, kc16, kc17, kc18, kc19, kc20, kc21, kc22, kc23, kc24, kc25, kc26, kc27, kc28, kc29, kc30, kc31, kc32, kc33] at q30) <;> (omega)
    · try simp (disch := omega) only [bg_w_id, Int.toNat_natCast, rw_land, sh_land, not_true_eq_false, kc0, kc1, kc2, kc3, kc4, kc5, kc6, kc7, kc8, kc9, kc10, kc11, kc12, kc13, kc14, kc15, kc16, kc17, kc18, kc19, kc20, kc21, kc22, kc23, kc24, kc25, kc26, kc27, kc28, kc29, kc30, kc31, kc32, kc33] at q30
      iterate 4 (refine hX _ ?_; conv => whnf)
      exact l1 0 (by omega) S h' 0 _ _ hi (Or.inl rfl) (by omega) (fun _ p' hp' => absurd hp' (by omega))
  have out : ∀ (m S : Nat) (h' : bg_G) (j2 j3 j4 : Option bg_V), inv h' S → 8 ≤ c8 S + m → X (29, [oR 115, oI 1, j2, j3, j4], [], (bg_SH n, h'), (0, 0)) := by
    intro m
    induction m with
    | zero =>
      intro S h' j2 j3 j4 hi hc
      exact pass S h' j2 j3 j4 hi (fun S' h'' _ _ _ _ hc' => absurd (c8_le S') (by omega))
    | succ m ihm =>
      intro S h' j2 j3 j4 hi hc
      exact pass S h' j2 j3 j4 hi (fun S' h'' j2 j3 j4 hi' hc' => ihm S' h'' j2 j3 j4 hi' (by omega))
  have l0 : ∀ i : Nat, i ≤ 8 → ∀ h' : bg_G, (∀ k, k ≠ 132 → h' k = h k) → X (2, [oR 115, oI (i : Int), none, none, none], [], (bg_SH n, h'), (0, 0)) := by
    refine lp_up 8 _ ?_ (fun i hi ih => ?_)
    · intro h' f1
      iterate 2 (refine hX _ ?_; conv => whnf)
      refine hX _ ?_; conv => whnf
      refine ⟨fun q5 => ?_, fun q5 => ?_⟩
      · try simp (disch := omega) only [bg_w_id, Int.toNat_natCast, rw_land, sh_land, not_true_eq_false, kc0, kc1, kc2, kc3, kc4, kc5, kc6, kc7, kc8, kc9, kc10, kc11, kc12, kc13, kc14, kc15, kc16, kc17, kc18, kc19, kc20, kc21, kc22, kc23, kc24, kc25, kc26, kc27, kc28, kc29, kc30, kc31, kc32, kc33] at q5
        iterate 5 (refine hX _ ?_; conv => whnf)
        try simp only [kc0, kc1, kc2, kc3, kc4, kc5, kc6, kc7, kc8, kc9, kc10, kc11, kc12, kc13, kc14, kc15, kc16, kc17, kc18, kc19, kc20, kc21, kc22, kc23, kc24, kc25, kc26, kc27, kc28, kc29, kc30, kc31, kc32, kc33]
        refine out 8 1 _ _ _ _ ?_ (by have := sm_rg (n := 8) (f := fun i => bt (1 : Nat) i) (B := 1) (fun i _ => by show 0 ≤ bt (1 : Nat) i ∧ bt (1 : Nat) i ≤ 1; rcases bt_01 (1 : Nat) i with h | h <;> rw [h] <;> omega); unfold c8; omega)
        rw [hinv]
        refine ⟨fun k k1 k2 => ?_, fun j hj => ?_, by omega, by decide +kernel, ?_, ⟨fun _ => 0, fun v v0 v7 hv => ?_⟩⟩
        · rw [bg_up_ne k1]; exact f1 k k2
        · rw [bg_up_nj hj, f1 115 (by omega)]
        · rw [bg_up_self]; rfl
        · exfalso
          have : ∀ v : Nat, v < 8 → 0 < v → bt (1 : Nat) v = 0 := by decide +kernel
          have := this v.toNat (by omega) (by omega)
          rw [show ((v.toNat : Nat) : Int) = v by omega] at this
          omega
      · exfalso
        (try simp (disch := omega) only [bg_w_id, Int.toNat_natCast, rw_land, sh_land, not_true_eq_false, kc0, kc1, kc2, kc3, kc4, kc5, kc6, kc7, kc8, kc9, kc10, kc11, kc12, kc13, kc14, kc15, kc16, kc17, kc18, kc19, kc20, kc21, kc22, kc23, kc24, kc25, kc26, kc27, kc28, kc29, kc30, kc31, kc32, kc33] at q5) <;> (omega)
    · intro h' f1
      iterate 2 (refine hX _ ?_; conv => whnf)
      refine hX _ ?_; conv => whnf
      refine ⟨fun q5 => ?_, fun q5 => ?_⟩
      · exfalso
        (try simp (disch := omega) only [bg_w_id, Int.toNat_natCast, rw_land, sh_land, not_true_eq_false, kc0, kc1, kc2, kc3, kc4, kc5, kc6, kc7, kc8, kc9, kc10, kc11, kc12, kc13, kc14, kc15, kc16, kc17, kc18, kc19, kc20, kc21, kc22, kc23, kc24, kc25, kc26, kc27, kc28, kc29, kc30, kc31, kc32, kc33] at q5) <;> (omega)
      · try simp (disch := omega) only [bg_w_id, Int.toNat_natCast, rw_land, sh_land, not_true_eq_false, kc0, kc1, kc2, kc3, kc4, kc5, kc6, kc7, kc8, kc9, kc10, kc11, kc12, kc13, kc14, kc15, kc16, kc17, kc18, kc19, kc20, kc21, kc22, kc23, kc24, kc25, kc26, kc27, kc28, kc29, kc30, kc31, kc32, kc33] at q5
        iterate 4 (refine hX _ ?_; conv => whnf)
        refine hX _ ?_; conv => whnf
        try (simp (disch := omega) only [bg_w_id, Int.toNat_natCast, rw_land, sh_land, not_true_eq_false]; try conv => whnf)
        refine ⟨by first | omega | (simp (disch := omega) only [bg_w_id, Int.toNat_natCast, rw_land, sh_land, not_true_eq_false]; omega), ?_⟩
        iterate 2 (refine hX _ ?_; conv => whnf)
        exact ih _ (fun k hk => by rw [bg_up_ne hk]; exact f1 k hk)
  iterate 2 (refine hX _ ?_; conv => whnf)
  exact l0 0 (by omega) h (fun _ _ => rfl)
