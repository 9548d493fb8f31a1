def pls (B : Nat → Int) (tr : List Nat) : Int := match tr.getLast? with
  | some p => B p
  | none => 0
theorem pls_snoc (B : Nat → Int) (tr : List Nat) (p : Nat) : pls B (tr ++ [p]) = B p := by simp [pls]
def otr (N : Nat) (A B : Nat → Int) (k : Nat) (tr : List Nat) (q : Nat) : List (List Nat) := ((List.range' q (N - q)).flatMap (fun p => if A p = pls B tr ∧ bt (sv B tr 1) (B p) = 0 then (wf N A B k (B p) (bg_or (sv B tr 1) (bg_shl 1 (B p)))).map (p :: ·) else [])).map (tr ++ ·)
theorem otr_end (N : Nat) (A B : Nat → Int) (k : Nat) (tr : List Nat) : otr N A B k tr N = [] := by simp [otr]
theorem otr_step {N : Nat} {A B : Nat → Int} {k : Nat} {tr : List Nat} {q : Nat} (hq : q < N) : otr N A B k tr q = (if A q = pls B tr ∧ bt (sv B tr 1) (B q) = 0 then (wf N A B k (B q) (bg_or (sv B tr 1) (bg_shl 1 (B q)))).map ((tr ++ [q]) ++ ·) else []) ++ otr N A B k tr (q + 1) := by
  unfold otr
  rw [show N - q = (N - (q + 1)) + 1 by omega, List.range'_succ, List.flatMap_cons, List.map_append]
  congr 1
  split
  · rw [List.map_map]
    congr 1
    funext x
    simp
  · rfl
theorem otr_wf {N : Nat} {A B : Nat → Int} {k : Nat} {tr : List Nat} {q : Nat} (h7 : B q ≠ 7) : (wf N A B (k + 1) (B q) (bg_or (sv B tr 1) (bg_shl 1 (B q)))).map ((tr ++ [q]) ++ ·) = otr N A B k (tr ++ [q]) 0 := by
  unfold otr
  rw [pls_snoc, sv_snoc, Nat.sub_zero, ← List.range_eq_range']
  simp only [wf, if_neg h7]
theorem wf7 (N : Nat) (A B : Nat → Int) (k : Nat) (s : Int) : wf N A B k 7 s = [[]] := by cases k <;> simp [wf]
theorem s_mlayWays (d n N : Nat) (h : bg_G) (ho : okM h) (hN : (N : Int) = h 117 0) (h14 : h 115 14 = 0) (Rt : bg_R) (hR : ∀ h' : bg_G, (∀ k, k ≠ 115 → k ≠ 127 → k ≠ 128 → k ≠ 133 → h' k = h k) → (∀ j, j ≠ 14 → j ≠ 15 → h' 115 j = h 115 j) → h' 115 14 = 1 → tbM h' ((wf N (fun p => h 118 (7 * p)) (fun p => h 118 (7 * p + 1)) 7 0 1).take 400) → Rt none (bg_SH n, h')) : bg_Ca bg_MS (d + 2) 154 [vR 115] (bg_SH n, h) Rt := by
  obtain ⟨⟨hn, -⟩, hrow, -⟩ := ho
  refine bg_ca (cd := cd_X9_layWays) rfl rfl ?_
  intro X hX
  obtain ⟨A, hA⟩ : ∃ A : Nat → Int, A = fun p : Nat => h 118 (7 * p) := ⟨_, rfl⟩
  obtain ⟨B, hB⟩ : ∃ B : Nat → Int, B = fun p : Nat => h 118 (7 * p + 1) := ⟨_, rfl⟩
  have eA : ∀ p : Nat, h 118 (7 * p) = A p := fun p => by rw [hA]
  have eB : ∀ p : Nat, h 118 (7 * p + 1) = B p := fun p => by rw [hB]
  have rA : ∀ p, p < 12 → 0 ≤ A p ∧ A p ≤ 7 := fun p hp => by have := hrow p hp; rw [← eA]; omega
  have rB : ∀ p, p < 12 → 0 ≤ B p ∧ B p ≤ 7 := fun p hp => by have := hrow p hp; rw [← eB]; omega
  obtain ⟨fr, hfr⟩ : ∃ fr : bg_G → Prop, fr = fun h' => (∀ k, k ≠ 115 → k ≠ 127 → k ≠ 128 → k ≠ 133 → h' k = h k) ∧ (∀ j, j ≠ 14 → j ≠ 15 → h' 115 j = h 115 j) ∧ h' 115 14 = 1 := ⟨_, rfl⟩
  rw [← hA, ← hB] at hR
  have hR2 : ∀ h' : bg_G, fr h' → tbM h' ((wf N A B 7 0 1).take 400) → Rt none (bg_SH n, h') := fun h' f1 f2 => by rw [hfr] at f1; exact hR h' f1.1 f1.2.1 f1.2.2 f2
  have fr2 : ∀ (h' : bg_G) (j v : Int), fr h' → fr (bg_up h' 133 j v) := fun h' j v f1 => by
    rw [hfr] at f1 ⊢
    refine ⟨fun k k1 k2 k3 k4 => ?_, fun j hj hj2 => ?_, ?_⟩
    · rw [bg_up_ne k4]; exact f1.1 k k1 k2 k3 k4
    · rw [bg_up_ne (by omega)]; exact f1.2.1 j hj hj2
    · rw [bg_up_ne (by omega)]; exact f1.2.2
  have LW : ∀ (k : Nat) (tr : List Nat), tr.length + (k + 1) = 7 → pls B tr ≠ 7 → (∀ p ∈ tr, p < N) → (∃ s : Nat, s < 256 ∧ sv B tr 1 = s ∧ c7 s = tr.length + 1) → ∀ q, q ≤ N → ∀ (ws later : List (List Nat)) (h' : bg_G) (j2 j3 : Option bg_V), fr h' → tbM h' ws → (∀ (i p : Nat), tr[i]? = some p → h' 133 i = p) → h' 133 tr.length = (q : Int) - 1 →
      (∀ (h'' : bg_G) (j2 j3 : Option bg_V), fr h'' → tbM h'' ((ws ++ otr N A B k tr q).take 400) → (∀ (i p : Nat), tr[i]? = some p → h'' 133 i = p) → X (27, [oR 115, oI ((tr.length : Int) - 1), j2, j3], [], (bg_SH n, h''), (0, 0))) →
      (∀ h'' : bg_G, fr h'' → tbM h'' ((ws ++ otr N A B k tr q ++ later).take 400) → Rt none (bg_SH n, h'')) →
      X (27, [oR 115, oI (tr.length : Int), j2, j3], [], (bg_SH n, h'), (0, 0)) := by
    intro k
    induction k using Nat.strongRecOn with
    | _ k ihk =>
    intro tr hk h7 htN hs
    obtain ⟨s, hs1, hs2, hs3⟩ := hs
    have frx : ∀ h' : bg_G, fr h' → h' 117 = h 117 ∧ h' 118 = h 118 := fun h' f1 => by
      rw [hfr] at f1
      exact ⟨f1.1 117 (by omega) (by omega) (by omega) (by omega), f1.1 118 (by omega) (by omega) (by omega) (by omega)⟩
    -- one turn of the loop, up to the new place in the trail
    have turn : ∀ (q : Nat) (ws : List (List Nat)) (h' : bg_G) (j2 j3 : Option bg_V), q ≤ N → fr h' → tbM h' ws → (∀ (i p : Nat), tr[i]? = some p → h' 133 i = p) → h' 133 tr.length = (q : Int) - 1 → (ws.length = 400 → Rt none (bg_SH n, h')) → (ws.length < 400 → ∀ (h2 : bg_G), fr h2 → tbM h2 ws → (∀ (i p : Nat), tr[i]? = some p → h2 133 i = p) → h2 133 tr.length = (q : Int) → X (51, [oR 115, oI (tr.length : Int), j2, j3], [], (bg_SH n, h2), (0, 0))) → X (27, [oR 115, oI (tr.length : Int), j2, j3], [], (bg_SH n, h'), (0, 0)) := by
      intro q ws h' j2 j3 hq f1 f2 f3 f4 G1 G2
      have e15 := f2.1
      have e400 := f2.2.1
      by_cases hful : ws.length = 400
      · refine hX _ ?_; conv => whnf
        refine hX _ ?_; conv => whnf
        refine ⟨fun q28 => ?_, fun q28 => ?_⟩
        · exfalso
          (try simp (disch := omega) only [bg_w_id, Int.toNat_natCast, rw_land, sh_land, not_true_eq_false, kc0, kc1, kc2, kc3, kc4, kc5, kc6, kc7, kc8, kc9, kc10, kc11, kc12, kc13, kc14, kc15, kc16, kc17, kc18, kc19, kc20, kc21, kc22, kc23, kc24, kc25, kc26, kc27, kc28, kc29, kc30, kc31, kc32, kc33] at q28) <;> (omega)
        · try simp (disch := omega) only [bg_w_id, Int.toNat_natCast, rw_land, sh_land, not_true_eq_false, kc0, kc1, kc2, kc3, kc4, kc5, kc6, kc7, kc8, kc9, kc10, kc11, kc12, kc13, kc14, kc15, kc16, kc17, kc18, kc19, kc20, kc21, kc22, kc23, kc24, kc25, kc26, kc27, kc28, kc29, kc30, kc31, kc32, kc33] at q28
          iterate 3 (refine hX _ ?_; conv => whnf)
          try simp only [kc0, kc1, kc2, kc3, kc4, kc5, kc6, kc7, kc8, kc9, kc10, kc11, kc12, kc13, kc14, kc15, kc16, kc17, kc18, kc19, kc20, kc21, kc22, kc23, kc24, kc25, kc26, kc27, kc28, kc29, kc30, kc31, kc32, kc33]
          refine hX _ ?_; conv => whnf
          refine ⟨fun q38 => ?_, fun q38 => ?_⟩
          · try simp (disch := omega) only [bg_w_id, Int.toNat_natCast, rw_land, sh_land, not_true_eq_false, kc0, kc1, kc2, kc3, kc4, kc5, kc6, kc7, kc8, kc9, kc10, kc11, kc12, kc13, kc14, kc15, kc16, kc17, kc18, kc19, kc20, kc21, kc22, kc23, kc24, kc25, kc26, kc27, kc28, kc29, kc30, kc31, kc32, kc33] at q38
            refine hX _ ?_; conv => whnf
            exact G1 hful
          · exfalso
            (try simp (disch := omega) only [bg_w_id, Int.toNat_natCast, rw_land, sh_land, not_true_eq_false, kc0, kc1, kc2, kc3, kc4, kc5, kc6, kc7, kc8, kc9, kc10, kc11, kc12, kc13, kc14, kc15, kc16, kc17, kc18, kc19, kc20, kc21, kc22, kc23, kc24, kc25, kc26, kc27, kc28, kc29, kc30, kc31, kc32, kc33] at q38) <;> (omega)
      · refine hX _ ?_; conv => whnf
        refine hX _ ?_; conv => whnf
        refine ⟨fun q28 => ?_, fun q28 => ?_⟩
        · exfalso
          (try simp (disch := omega) only [bg_w_id, Int.toNat_natCast, rw_land, sh_land, not_true_eq_false, f4, kc0, kc1, kc2, kc3, kc4, kc5, kc6, kc7, kc8, kc9, kc10, kc11, kc12, kc13, kc14, kc15, kc16, kc17, kc18, kc19, kc20, kc21, kc22, kc23, kc24, kc25, kc26, kc27, kc28, kc29, kc30, kc31, kc32, kc33] at q28) <;> (omega)
        · try simp (disch := omega) only [bg_w_id, Int.toNat_natCast, rw_land, sh_land, not_true_eq_false, f4, kc0, kc1, kc2, kc3, kc4, kc5, kc6, kc7, kc8, kc9, kc10, kc11, kc12, kc13, kc14, kc15, kc16, kc17, kc18, kc19, kc20, kc21, kc22, kc23, kc24, kc25, kc26, kc27, kc28, kc29, kc30, kc31, kc32, kc33] at q28
          iterate 3 (refine hX _ ?_; conv => whnf)
          try simp only [kc0, kc1, kc2, kc3, kc4, kc5, kc6, kc7, kc8, kc9, kc10, kc11, kc12, kc13, kc14, kc15, kc16, kc17, kc18, kc19, kc20, kc21, kc22, kc23, kc24, kc25, kc26, kc27, kc28, kc29, kc30, kc31, kc32, kc33]
          refine hX _ ?_; conv => whnf
          refine ⟨fun q38 => ?_, fun q38 => ?_⟩
          · exfalso
            (try simp (disch := omega) only [bg_w_id, Int.toNat_natCast, rw_land, sh_land, not_true_eq_false, f4, kc0, kc1, kc2, kc3, kc4, kc5, kc6, kc7, kc8, kc9, kc10, kc11, kc12, kc13, kc14, kc15, kc16, kc17, kc18, kc19, kc20, kc21, kc22, kc23, kc24, kc25, kc26, kc27, kc28, kc29, kc30, kc31, kc32, kc33] at q38) <;> (omega)
          · try simp (disch := omega) only [bg_w_id, Int.toNat_natCast, rw_land, sh_land, not_true_eq_false, f4, kc0, kc1, kc2, kc3, kc4, kc5, kc6, kc7, kc8, kc9, kc10, kc11, kc12, kc13, kc14, kc15, kc16, kc17, kc18, kc19, kc20, kc21, kc22, kc23, kc24, kc25, kc26, kc27, kc28, kc29, kc30, kc31, kc32, kc33] at q38
            iterate 4 (refine hX _ ?_; conv => whnf)
            refine hX _ ?_; conv => whnf
            try (simp (disch := omega) only [bg_w_id, Int.toNat_natCast, rw_land, sh_land, not_true_eq_false, f4]; try conv => whnf)
            refine ⟨by first | omega | (simp (disch := omega) only [bg_w_id, Int.toNat_natCast, rw_land, sh_land, not_true_eq_false, f4]; omega), ?_⟩
            iterate 2 (refine hX _ ?_; conv => whnf)
            refine hX _ ?_; conv => whnf
            try (simp (disch := omega) only [bg_w_id, Int.toNat_natCast, rw_land, sh_land, not_true_eq_false, f4]; try conv => whnf)
            refine ⟨by first | omega | (simp (disch := omega) only [bg_w_id, Int.toNat_natCast, rw_land, sh_land, not_true_eq_false, f4]; omega), ?_⟩
            refine G2 (by omega) _ (fr2 _ _ _ f1) (tbM_fr (by rw [bg_up_ne (by omega)]) (bg_up_ne (by omega)) (bg_up_ne (by omega)) f2) ?_ ?_
            · intro i p hi
              have := (List.getElem?_eq_some_iff.mp hi).1
              rw [bg_up_nj (by omega)]
              exact f3 i p hi
            · rw [bg_up_self]
              omega
    -- the place where the trail stands
    have here : ∀ (h2 : bg_G) (j2 j3 : Option bg_V), fr h2 → (∀ (i p : Nat), tr[i]? = some p → h2 133 i = p) → X (77, [oR 115, oI (tr.length : Int), j2, j3], [vI (pls B tr)], (bg_SH n, h2), (0, 0)) → X (51, [oR 115, oI (tr.length : Int), j2, j3], [], (bg_SH n, h2), (0, 0)) := by
      intro h2 j2 j3 f1 f3 G
      obtain ⟨e116, e117⟩ := frx h2 f1
      rcases List.eq_nil_or_concat tr with e | ⟨tr', x, e⟩
      · have hl : tr.length = 0 := by rw [e]; rfl
        have hp : pls B tr = 0 := by rw [e]; rfl
        rw [hl, hp] at G
        rw [hl]
        refine hX _ ?_; conv => whnf
        refine hX _ ?_; conv => whnf
        refine ⟨fun q52 => ?_, fun q52 => ?_⟩
        · exfalso
          (try simp (disch := omega) only [bg_w_id, Int.toNat_natCast, rw_land, sh_land, not_true_eq_false, kc0, kc1, kc2, kc3, kc4, kc5, kc6, kc7, kc8, kc9, kc10, kc11, kc12, kc13, kc14, kc15, kc16, kc17, kc18, kc19, kc20, kc21, kc22, kc23, kc24, kc25, kc26, kc27, kc28, kc29, kc30, kc31, kc32, kc33] at q52) <;> (omega)
        · try simp (disch := omega) only [bg_w_id, Int.toNat_natCast, rw_land, sh_land, not_true_eq_false, kc0, kc1, kc2, kc3, kc4, kc5, kc6, kc7, kc8, kc9, kc10, kc11, kc12, kc13, kc14, kc15, kc16, kc17, kc18, kc19, kc20, kc21, kc22, kc23, kc24, kc25, kc26, kc27, kc28, kc29, kc30, kc31, kc32, kc33] at q52
          iterate 2 (refine hX _ ?_; conv => whnf)
          exact G
      · have hx : h2 133 ((tr.length : Int) - 1) = x := by
          have := f3 tr'.length x (by rw [e]; simp)
          rw [← this]
          congr 1
          rw [e]
          simp
        have hxN := htN x (by rw [e]; simp)
        have hl : 1 ≤ tr.length := by rw [e]; simp
        have hp : pls B tr = B x := by rw [e, List.concat_eq_append, pls_snoc]
        refine hX _ ?_; conv => whnf
        refine hX _ ?_; conv => whnf
        refine ⟨fun q52 => ?_, fun q52 => ?_⟩
        · try simp (disch := omega) only [bg_w_id, Int.toNat_natCast, rw_land, sh_land, not_true_eq_false, hx, e117, eB, kc0, kc1, kc2, kc3, kc4, kc5, kc6, kc7, kc8, kc9, kc10, kc11, kc12, kc13, kc14, kc15, kc16, kc17, kc18, kc19, kc20, kc21, kc22, kc23, kc24, kc25, kc26, kc27, kc28, kc29, kc30, kc31, kc32, kc33] at q52
          iterate 8 (refine hX _ ?_; conv => whnf)
          refine hX _ ?_; conv => whnf
          try (simp (disch := omega) only [bg_w_id, Int.toNat_natCast, rw_land, sh_land, not_true_eq_false, hx, e117, eB]; try conv => whnf)
          refine ⟨by first | omega | (simp (disch := omega) only [bg_w_id, Int.toNat_natCast, rw_land, sh_land, not_true_eq_false, hx, e117, eB]; omega), ?_⟩
          iterate 3 (refine hX _ ?_; conv => whnf)
          refine hX _ ?_; conv => whnf
          try (simp (disch := omega) only [bg_w_id, Int.toNat_natCast, rw_land, sh_land, not_true_eq_false, hx, e117, eB]; try conv => whnf)
          refine ⟨by first | omega | (simp (disch := omega) only [bg_w_id, Int.toNat_natCast, rw_land, sh_land, not_true_eq_false, hx, e117, eB]; omega), ?_⟩
          rw [hp] at G
          exact G
        · exfalso
          (try simp (disch := omega) only [bg_w_id, Int.toNat_natCast, rw_land, sh_land, not_true_eq_false, hx, e117, eB, kc0, kc1, kc2, kc3, kc4, kc5, kc6, kc7, kc8, kc9, kc10, kc11, kc12, kc13, kc14, kc15, kc16, kc17, kc18, kc19, kc20, kc21, kc22, kc23, kc24, kc25, kc26, kc27, kc28, kc29, kc30, kc31, kc32, kc33] at q52) <;> (omega)
    refine lp_up N _ ?_ (fun q hq ih => ?_)
    · intro ws later h' j2 j3 f1 f2 f3 f4 H1 H2
      rw [otr_end, List.append_nil] at H1 H2
      refine turn N ws h' j2 j3 (Nat.le_refl _) f1 f2 f3 f4 (fun hful => ?_) (fun hful h2 u1 u2 u3 u4 => here h2 j2 j3 u1 u3 ?_)
      · refine H2 h' f1 ?_
        rw [List.take_append_of_le_length (by omega), List.take_of_length_le (by omega)]
        exact f2
      · obtain ⟨e116, e117⟩ := frx h2 u1
        rw [List.take_of_length_le (by omega)] at H1
        iterate 4 (refine hX _ ?_; conv => whnf)
        refine hX _ ?_; conv => whnf
        try (simp (disch := omega) only [bg_w_id, Int.toNat_natCast, rw_land, sh_land, not_true_eq_false, e116, e117, u4]; try conv => whnf)
        refine ⟨by first | omega | (simp (disch := omega) only [bg_w_id, Int.toNat_natCast, rw_land, sh_land, not_true_eq_false, e116, e117, u4]; omega), ?_⟩
        iterate 5 (refine hX _ ?_; conv => whnf)
        refine hX _ ?_; conv => whnf
        try (simp (disch := omega) only [bg_w_id, Int.toNat_natCast, rw_land, sh_land, not_true_eq_false, e116, e117, u4]; try conv => whnf)
        refine ⟨by first | omega | (simp (disch := omega) only [bg_w_id, Int.toNat_natCast, rw_land, sh_land, not_true_eq_false, e116, e117, u4]; omega), ?_⟩
        refine hX _ ?_; conv => whnf
        refine ⟨fun q92 => ?_, fun q92 => ?_⟩
        · exfalso
          (try simp (disch := omega) only [bg_w_id, Int.toNat_natCast, rw_land, sh_land, not_true_eq_false, e116, e117, u4, kc0, kc1, kc2, kc3, kc4, kc5, kc6, kc7, kc8, kc9, kc10, kc11, kc12, kc13, kc14, kc15, kc16, kc17, kc18, kc19, kc20, kc21, kc22, kc23, kc24, kc25, kc26, kc27, kc28, kc29, kc30, kc31, kc32, kc33] at q92) <;> (omega)
        · try simp (disch := omega) only [bg_w_id, Int.toNat_natCast, rw_land, sh_land, not_true_eq_false, e116, e117, u4, kc0, kc1, kc2, kc3, kc4, kc5, kc6, kc7, kc8, kc9, kc10, kc11, kc12, kc13, kc14, kc15, kc16, kc17, kc18, kc19, kc20, kc21, kc22, kc23, kc24, kc25, kc26, kc27, kc28, kc29, kc30, kc31, kc32, kc33] at q92
          iterate 3 (refine hX _ ?_; conv => whnf)
          exact H1 h2 _ _ u1 u2 u3
    · intro ws later h' j2 j3 f1 f2 f3 f4 H1 H2
      refine turn q ws h' j2 j3 (by omega) f1 f2 f3 f4 (fun hful => ?_) (fun hful h2 u1 u2 u3 u4 => here h2 j2 j3 u1 u3 ?_)
      · refine H2 h' f1 ?_
        rw [List.append_assoc, List.take_append_of_le_length (by omega), List.take_of_length_le (by omega)]
        exact f2
      · obtain ⟨e116, e117⟩ := frx h2 u1
        have hq12 : q < 12 := by omega
        have ra := rA q hq12
        have rb := rB q hq12
        have rp : 0 ≤ pls B tr ∧ pls B tr ≤ 7 := by
          unfold pls
          split
          · rename_i p hp
            exact rB p (by have := htN p (List.mem_of_getLast? hp); omega)
          · omega
        have hu4 : h2 133 tr.length = ((q + 1 : Nat) : Int) - 1 := by omega
        have est := otr_step (A := A) (B := B) (k := k) (tr := tr) hq
        have tr12 : ∀ (i p : Nat), tr[i]? = some p → p < 12 ∧ h2 133 i = p := fun i p hi => ⟨by have := htN p (List.mem_of_getElem? hi); omega, u3 i p hi⟩
        have sve : sv (fun p => h2 118 (7 * p + 1)) tr 1 = s := by rw [e117, ← hs2, hB]
        iterate 4 (refine hX _ ?_; conv => whnf)
        refine hX _ ?_; conv => whnf
        try (simp (disch := omega) only [bg_w_id, Int.toNat_natCast, rw_land, sh_land, not_true_eq_false, e116, e117, u4, eA, eB]; try conv => whnf)
        refine ⟨by first | omega | (simp (disch := omega) only [bg_w_id, Int.toNat_natCast, rw_land, sh_land, not_true_eq_false, e116, e117, u4, eA, eB]; omega), ?_⟩
        iterate 5 (refine hX _ ?_; conv => whnf)
        refine hX _ ?_; conv => whnf
        try (simp (disch := omega) only [bg_w_id, Int.toNat_natCast, rw_land, sh_land, not_true_eq_false, e116, e117, u4, eA, eB]; try conv => whnf)
        refine ⟨by first | omega | (simp (disch := omega) only [bg_w_id, Int.toNat_natCast, rw_land, sh_land, not_true_eq_false, e116, e117, u4, eA, eB]; omega), ?_⟩
        refine hX _ ?_; conv => whnf
        refine ⟨fun q92 => ?_, fun q92 => ?_⟩
        · try simp (disch := omega) only [bg_w_id, Int.toNat_natCast, rw_land, sh_land, not_true_eq_false, e116, e117, u4, eA, eB, kc0, kc1, kc2, kc3, kc4, kc5, kc6, kc7, kc8, kc9, kc10, kc11, kc12, kc13, kc14, kc15, kc16, kc17, kc18, kc19, kc20, kc21, kc22, kc23, kc24, kc25, kc26, kc27, kc28, kc29, kc30, kc31, kc32, kc33] at q92
          iterate 5 (refine hX _ ?_; conv => whnf)
          refine hX _ ?_; conv => whnf
          try (simp (disch := omega) only [bg_w_id, Int.toNat_natCast, rw_land, sh_land, not_true_eq_false, e116, e117, u4, eA, eB]; try conv => whnf)
          refine ⟨by first | omega | (simp (disch := omega) only [bg_w_id, Int.toNat_natCast, rw_land, sh_land, not_true_eq_false, e116, e117, u4, eA, eB]; omega), ?_⟩
          refine hX _ ?_; conv => whnf
          refine hX _ ?_; conv => whnf
          refine ⟨fun q111 => ?_, fun q111 => ?_⟩
          · try simp (disch := omega) only [bg_w_id, Int.toNat_natCast, rw_land, sh_land, not_true_eq_false, e116, e117, u4, eA, eB, kc0, kc1, kc2, kc3, kc4, kc5, kc6, kc7, kc8, kc9, kc10, kc11, kc12, kc13, kc14, kc15, kc16, kc17, kc18, kc19, kc20, kc21, kc22, kc23, kc24, kc25, kc26, kc27, kc28, kc29, kc30, kc31, kc32, kc33] at q111
            refine hX _ ?_; conv => whnf
            first
            | (rw [est, if_neg (fun c => q111 c.1), List.nil_append] at H1 H2
               exact ih ws later h2 _ _ u1 u2 u3 hu4 H1 H2)
            | (rw [est, if_neg (fun c => q133 (by rw [← hs2]; exact c.2)), List.nil_append] at H1 H2
               exact ih ws later h2 _ _ u1 u2 u3 hu4 H1 H2)
            | (have e7 : (wf N A B k (B q) (bg_or (sv B tr 1) (bg_shl 1 (B q)))).map ((tr ++ [q]) ++ ·) = [tr ++ [q]] := by
                 rw [q149, wf7]
                 simp
               rw [est, if_pos ⟨q111, by rw [hs2]; exact q133⟩, e7, ← List.append_assoc] at H1 H2
               refine ih (ws ++ [tr ++ [q]]) later h3 _ _ ?_ v3 ?_ ?_ H1 H2
               · rw [hfr] at u1 ⊢
                 exact ⟨fun k k1 k2 k3 k4 => by rw [v1 k k1 k2 k3]; exact u1.1 k k1 k2 k3 k4, fun j j1 j2 => by rw [v2 j j2]; exact u1.2.1 j j1 j2, by rw [v2 14 (by omega)]; exact u1.2.2⟩
               · intro i p hi
                 rw [v1 133 (by omega) (by omega) (by omega)]
                 exact u3 i p hi
               · rw [v1 133 (by omega) (by omega) (by omega)]
                 exact hu4)
            | (have hb7 : (B q).toNat < 7 := by omega
               have hbB : (((B q).toNat : Nat) : Int) = B q := by omega
               have hbt : bt s ((B q).toNat : Nat) = 0 := by rw [hbB]; exact q133
               obtain ⟨k', hk'⟩ : ∃ k', k = k' + 1 := by
                 rcases Nat.eq_zero_or_pos k with e0 | e0
                 · exfalso
                   have := c7_all s hs1 (by rw [hs3]; omega) _ hb7
                   omega
                 · exact ⟨k - 1, by omega⟩
               obtain ⟨c1, c2, c3⟩ := c7_or s hs1 _ hb7 hbt
               rw [hbB] at c1 c2 c3
               rw [hk', otr_wf q149, if_pos ⟨q111, by rw [hs2]; exact q133⟩] at est
               rw [hk'] at H1 H2 ih
               rw [est, ← List.append_assoc] at H1 H2
               have hlen : (tr.length : Int) + 1 = ((tr ++ [q]).length : Nat) := by simp
               have hmem : ∀ p ∈ tr ++ [q], p < N := by
                 intro p hp
                 rw [List.mem_append, List.mem_singleton] at hp
                 rcases hp with hp | hp
                 · exact htN p hp
                 · omega
               rw [hlen]
               refine ihk k' (by omega) (tr ++ [q]) (by simp; omega) (by rw [pls_snoc]; exact q149) hmem ⟨(bg_or s (bg_shl 1 (B q))).toNat, by omega, by rw [sv_snoc, hs2]; omega, ?_⟩ 0 (by omega) ws (otr N A B (k' + 1) tr (q + 1) ++ later) _ _ _ (fr2 _ _ _ u1) (tbM_fr (by rw [bg_up_ne (by omega)]) (bg_up_ne (by omega)) (bg_up_ne (by omega)) u2) ?_ ?_ ?_ ?_
               · rw [show (((bg_or s (bg_shl 1 (B q))).toNat : Nat) : Int) = bg_or s (bg_shl 1 (B q)) by omega, c1, hs3]
                 simp
               · intro i p hi
                 have := (List.getElem?_eq_some_iff.mp hi).1
                 rw [bg_up_nj (by omega)]
                 rcases Nat.lt_or_ge i tr.length with hlt | hge
                 · rw [List.getElem?_append_left hlt] at hi
                   exact u3 i p hi
                 · rw [List.getElem?_append_right hge] at hi
                   have hw0 : i - tr.length < 1 := (List.getElem?_eq_some_iff.mp hi).1
                   rw [show i - tr.length = 0 by omega] at hi
                   cases hi
                   rw [show i = tr.length by omega]
                   exact u4
               · rw [bg_up_self]
                 rfl
               · intro h5 i2 i3 w1 w2 w3
                 have e1 : (((tr ++ [q]).length : Nat) : Int) - 1 = tr.length := by simp
                 rw [e1]
                 refine ih ((ws ++ otr N A B k' (tr ++ [q]) 0).take 400) later h5 i2 i3 w1 w2 (fun i p hi => w3 i p (by rw [List.getElem?_append_left (List.getElem?_eq_some_iff.mp hi).1]; exact hi)) ?_ ?_ ?_
                 · rw [w3 tr.length q (by simp)]
                   omega
                 · intro h6 i4 i5 y1 y2 y3
                   rw [take_app] at y2
                   exact H1 h6 i4 i5 y1 y2 y3
                 · intro h6 y1 y2
                   rw [List.append_assoc, take_app, ← List.append_assoc] at y2
                   exact H2 h6 y1 y2
               · intro h6 y1 y2
                 rw [← List.append_assoc] at y2
                 exact H2 h6 y1 y2)
          · try simp (disch := omega) only [bg_w_id, Int.toNat_natCast, rw_land, sh_land, not_true_eq_false, e116, e117, u4, eA, eB, kc0, kc1, kc2, kc3, kc4, kc5, kc6, kc7, kc8, kc9, kc10, kc11, kc12, kc13, kc14, kc15, kc16, kc17, kc18, kc19, kc20, kc21, kc22, kc23, kc24, kc25, kc26, kc27, kc28, kc29, kc30, kc31, kc32, kc33] at q111
            iterate 2 (refine hX _ ?_; conv => whnf)
            refine hX _ ?_; conv => whnf
            try simp (disch := omega) only [bg_w_id, Int.toNat_natCast, rw_land, sh_land, not_true_eq_false, e116, e117, u4, eA, eB]
            refine s_mseenBy d n tr h2 (by omega) tr12 _ ?_
            rw [sve]
            conv => whnf
            iterate 7 (refine hX _ ?_; conv => whnf)
            refine hX _ ?_; conv => whnf
            try (simp (disch := omega) only [bg_w_id, Int.toNat_natCast, rw_land, sh_land, not_true_eq_false, e116, e117, u4, eA, eB]; try conv => whnf)
            refine ⟨by first | omega | (simp (disch := omega) only [bg_w_id, Int.toNat_natCast, rw_land, sh_land, not_true_eq_false, e116, e117, u4, eA, eB]; omega), ?_⟩
            refine hX _ ?_; conv => whnf
            try simp (disch := omega) only [bg_w_id, Int.toNat_natCast, rw_land, sh_land, not_true_eq_false, e116, e117, u4, eA, eB]
            refine s_has d _ _ _ _ ?_
            conv => whnf
            refine hX _ ?_; conv => whnf
            refine ⟨fun q133 => ?_, fun q133 => ?_⟩
            · try simp (disch := omega) only [bg_w_id, Int.toNat_natCast, rw_land, sh_land, not_true_eq_false, e116, e117, u4, eA, eB, kc0, kc1, kc2, kc3, kc4, kc5, kc6, kc7, kc8, kc9, kc10, kc11, kc12, kc13, kc14, kc15, kc16, kc17, kc18, kc19, kc20, kc21, kc22, kc23, kc24, kc25, kc26, kc27, kc28, kc29, kc30, kc31, kc32, kc33] at q133
              rw [bt_w] at q133
              refine hX _ ?_; conv => whnf
              first
              | (rw [est, if_neg (fun c => q111 c.1), List.nil_append] at H1 H2
                 exact ih ws later h2 _ _ u1 u2 u3 hu4 H1 H2)
              | (rw [est, if_neg (fun c => q133 (by rw [← hs2]; exact c.2)), List.nil_append] at H1 H2
                 exact ih ws later h2 _ _ u1 u2 u3 hu4 H1 H2)
              | (have e7 : (wf N A B k (B q) (bg_or (sv B tr 1) (bg_shl 1 (B q)))).map ((tr ++ [q]) ++ ·) = [tr ++ [q]] := by
                   rw [q149, wf7]
                   simp
                 rw [est, if_pos ⟨q111, by rw [hs2]; exact q133⟩, e7, ← List.append_assoc] at H1 H2
                 refine ih (ws ++ [tr ++ [q]]) later h3 _ _ ?_ v3 ?_ ?_ H1 H2
                 · rw [hfr] at u1 ⊢
                   exact ⟨fun k k1 k2 k3 k4 => by rw [v1 k k1 k2 k3]; exact u1.1 k k1 k2 k3 k4, fun j j1 j2 => by rw [v2 j j2]; exact u1.2.1 j j1 j2, by rw [v2 14 (by omega)]; exact u1.2.2⟩
                 · intro i p hi
                   rw [v1 133 (by omega) (by omega) (by omega)]
                   exact u3 i p hi
                 · rw [v1 133 (by omega) (by omega) (by omega)]
                   exact hu4)
              | (have hb7 : (B q).toNat < 7 := by omega
                 have hbB : (((B q).toNat : Nat) : Int) = B q := by omega
                 have hbt : bt s ((B q).toNat : Nat) = 0 := by rw [hbB]; exact q133
                 obtain ⟨k', hk'⟩ : ∃ k', k = k' + 1 := by
                   rcases Nat.eq_zero_or_pos k with e0 | e0
                   · exfalso
                     have := c7_all s hs1 (by rw [hs3]; omega) _ hb7
                     omega
                   · exact ⟨k - 1, by omega⟩
                 obtain ⟨c1, c2, c3⟩ := c7_or s hs1 _ hb7 hbt
                 rw [hbB] at c1 c2 c3
                 rw [hk', otr_wf q149, if_pos ⟨q111, by rw [hs2]; exact q133⟩] at est
                 rw [hk'] at H1 H2 ih
                 rw [est, ← List.append_assoc] at H1 H2
                 have hlen : (tr.length : Int) + 1 = ((tr ++ [q]).length : Nat) := by simp
                 have hmem : ∀ p ∈ tr ++ [q], p < N := by
                   intro p hp
                   rw [List.mem_append, List.mem_singleton] at hp
                   rcases hp with hp | hp
                   · exact htN p hp
                   · omega
                 rw [hlen]
                 refine ihk k' (by omega) (tr ++ [q]) (by simp; omega) (by rw [pls_snoc]; exact q149) hmem ⟨(bg_or s (bg_shl 1 (B q))).toNat, by omega, by rw [sv_snoc, hs2]; omega, ?_⟩ 0 (by omega) ws (otr N A B (k' + 1) tr (q + 1) ++ later) _ _ _ (fr2 _ _ _ u1) (tbM_fr (by rw [bg_up_ne (by omega)]) (bg_up_ne (by omega)) (bg_up_ne (by omega)) u2) ?_ ?_ ?_ ?_
                 · rw [show (((bg_or s (bg_shl 1 (B q))).toNat : Nat) : Int) = bg_or s (bg_shl 1 (B q)) by omega, c1, hs3]
                   simp
                 · intro i p hi
                   have := (List.getElem?_eq_some_iff.mp hi).1
                   rw [bg_up_nj (by omega)]
                   rcases Nat.lt_or_ge i tr.length with hlt | hge
                   · rw [List.getElem?_append_left hlt] at hi
                     exact u3 i p hi
                   · rw [List.getElem?_append_right hge] at hi
                     have hw0 : i - tr.length < 1 := (List.getElem?_eq_some_iff.mp hi).1
                     rw [show i - tr.length = 0 by omega] at hi
                     cases hi
                     rw [show i = tr.length by omega]
                     exact u4
                 · rw [bg_up_self]
                   rfl
                 · intro h5 i2 i3 w1 w2 w3
                   have e1 : (((tr ++ [q]).length : Nat) : Int) - 1 = tr.length := by simp
                   rw [e1]
                   refine ih ((ws ++ otr N A B k' (tr ++ [q]) 0).take 400) later h5 i2 i3 w1 w2 (fun i p hi => w3 i p (by rw [List.getElem?_append_left (List.getElem?_eq_some_iff.mp hi).1]; exact hi)) ?_ ?_ ?_
                   · rw [w3 tr.length q (by simp)]
                     omega
                   · intro h6 i4 i5 y1 y2 y3
                     rw [take_app] at y2
                     exact H1 h6 i4 i5 y1 y2 y3
                   · intro h6 y1 y2
                     rw [List.append_assoc, take_app, ← List.append_assoc] at y2
                     exact H2 h6 y1 y2
                 · intro h6 y1 y2
                   rw [← List.append_assoc] at y2
                   exact H2 h6 y1 y2)
            · try simp (disch := omega) only [bg_w_id, Int.toNat_natCast, rw_land, sh_land, not_true_eq_false, e116, e117, u4, eA, eB, kc0, kc1, kc2, kc3, kc4, kc5, kc6, kc7, kc8, kc9, kc10, kc11, kc12, kc13, kc14, kc15, kc16, kc17, kc18, kc19, kc20, kc21, kc22, kc23, kc24, kc25, kc26, kc27, kc28, kc29, kc30, kc31, kc32, kc33] at q133
              rw [bt_w] at q133
              iterate 7 (refine hX _ ?_; conv => whnf)
              refine hX _ ?_; conv => whnf
              try (simp (disch := omega) only [bg_w_id, Int.toNat_natCast, rw_land, sh_land, not_true_eq_false, e116, e117, u4, eA, eB]; try conv => whnf)
              refine ⟨by first | omega | (simp (disch := omega) only [bg_w_id, Int.toNat_natCast, rw_land, sh_land, not_true_eq_false, e116, e117, u4, eA, eB]; omega), ?_⟩
              refine hX _ ?_; conv => whnf
              refine hX _ ?_; conv => whnf
              refine ⟨fun q149 => ?_, fun q149 => ?_⟩
              · try simp (disch := omega) only [bg_w_id, Int.toNat_natCast, rw_land, sh_land, not_true_eq_false, e116, e117, u4, eA, eB, kc0, kc1, kc2, kc3, kc4, kc5, kc6, kc7, kc8, kc9, kc10, kc11, kc12, kc13, kc14, kc15, kc16, kc17, kc18, kc19, kc20, kc21, kc22, kc23, kc24, kc25, kc26, kc27, kc28, kc29, kc30, kc31, kc32, kc33] at q149
                iterate 5 (refine hX _ ?_; conv => whnf)
                refine hX _ ?_; conv => whnf
                try (simp (disch := omega) only [bg_w_id, Int.toNat_natCast, rw_land, sh_land, not_true_eq_false, e116, e117, u4, eA, eB]; try conv => whnf)
                refine ⟨by first | omega | (simp (disch := omega) only [bg_w_id, Int.toNat_natCast, rw_land, sh_land, not_true_eq_false, e116, e117, u4, eA, eB]; omega), ?_⟩
                refine hX _ ?_; conv => whnf
                first
                | (rw [est, if_neg (fun c => q111 c.1), List.nil_append] at H1 H2
                   exact ih ws later h2 _ _ u1 u2 u3 hu4 H1 H2)
                | (rw [est, if_neg (fun c => q133 (by rw [← hs2]; exact c.2)), List.nil_append] at H1 H2
                   exact ih ws later h2 _ _ u1 u2 u3 hu4 H1 H2)
                | (have e7 : (wf N A B k (B q) (bg_or (sv B tr 1) (bg_shl 1 (B q)))).map ((tr ++ [q]) ++ ·) = [tr ++ [q]] := by
                     rw [q149, wf7]
                     simp
                   rw [est, if_pos ⟨q111, by rw [hs2]; exact q133⟩, e7, ← List.append_assoc] at H1 H2
                   refine ih (ws ++ [tr ++ [q]]) later h3 _ _ ?_ v3 ?_ ?_ H1 H2
                   · rw [hfr] at u1 ⊢
                     exact ⟨fun k k1 k2 k3 k4 => by rw [v1 k k1 k2 k3]; exact u1.1 k k1 k2 k3 k4, fun j j1 j2 => by rw [v2 j j2]; exact u1.2.1 j j1 j2, by rw [v2 14 (by omega)]; exact u1.2.2⟩
                   · intro i p hi
                     rw [v1 133 (by omega) (by omega) (by omega)]
                     exact u3 i p hi
                   · rw [v1 133 (by omega) (by omega) (by omega)]
                     exact hu4)
                | (have hb7 : (B q).toNat < 7 := by omega
                   have hbB : (((B q).toNat : Nat) : Int) = B q := by omega
                   have hbt : bt s ((B q).toNat : Nat) = 0 := by rw [hbB]; exact q133
                   obtain ⟨k', hk'⟩ : ∃ k', k = k' + 1 := by
                     rcases Nat.eq_zero_or_pos k with e0 | e0
                     · exfalso
                       have := c7_all s hs1 (by rw [hs3]; omega) _ hb7
                       omega
                     · exact ⟨k - 1, by omega⟩
                   obtain ⟨c1, c2, c3⟩ := c7_or s hs1 _ hb7 hbt
                   rw [hbB] at c1 c2 c3
                   rw [hk', otr_wf q149, if_pos ⟨q111, by rw [hs2]; exact q133⟩] at est
                   rw [hk'] at H1 H2 ih
                   rw [est, ← List.append_assoc] at H1 H2
                   have hlen : (tr.length : Int) + 1 = ((tr ++ [q]).length : Nat) := by simp
                   have hmem : ∀ p ∈ tr ++ [q], p < N := by
                     intro p hp
                     rw [List.mem_append, List.mem_singleton] at hp
                     rcases hp with hp | hp
                     · exact htN p hp
                     · omega
                   rw [hlen]
                   refine ihk k' (by omega) (tr ++ [q]) (by simp; omega) (by rw [pls_snoc]; exact q149) hmem ⟨(bg_or s (bg_shl 1 (B q))).toNat, by omega, by rw [sv_snoc, hs2]; omega, ?_⟩ 0 (by omega) ws (otr N A B (k' + 1) tr (q + 1) ++ later) _ _ _ (fr2 _ _ _ u1) (tbM_fr (by rw [bg_up_ne (by omega)]) (bg_up_ne (by omega)) (bg_up_ne (by omega)) u2) ?_ ?_ ?_ ?_
                   · rw [show (((bg_or s (bg_shl 1 (B q))).toNat : Nat) : Int) = bg_or s (bg_shl 1 (B q)) by omega, c1, hs3]
                     simp
                   · intro i p hi
                     have := (List.getElem?_eq_some_iff.mp hi).1
                     rw [bg_up_nj (by omega)]
                     rcases Nat.lt_or_ge i tr.length with hlt | hge
                     · rw [List.getElem?_append_left hlt] at hi
                       exact u3 i p hi
                     · rw [List.getElem?_append_right hge] at hi
                       have hw0 : i - tr.length < 1 := (List.getElem?_eq_some_iff.mp hi).1
                       rw [show i - tr.length = 0 by omega] at hi
                       cases hi
                       rw [show i = tr.length by omega]
                       exact u4
                   · rw [bg_up_self]
                     rfl
                   · intro h5 i2 i3 w1 w2 w3
                     have e1 : (((tr ++ [q]).length : Nat) : Int) - 1 = tr.length := by simp
                     rw [e1]
                     refine ih ((ws ++ otr N A B k' (tr ++ [q]) 0).take 400) later h5 i2 i3 w1 w2 (fun i p hi => w3 i p (by rw [List.getElem?_append_left (List.getElem?_eq_some_iff.mp hi).1]; exact hi)) ?_ ?_ ?_
                     · rw [w3 tr.length q (by simp)]
                       omega
                     · intro h6 i4 i5 y1 y2 y3
                       rw [take_app] at y2
                       exact H1 h6 i4 i5 y1 y2 y3
                     · intro h6 y1 y2
                       rw [List.append_assoc, take_app, ← List.append_assoc] at y2
                       exact H2 h6 y1 y2
                   · intro h6 y1 y2
                     rw [← List.append_assoc] at y2
                     exact H2 h6 y1 y2)
              · try simp (disch := omega) only [bg_w_id, Int.toNat_natCast, rw_land, sh_land, not_true_eq_false, e116, e117, u4, eA, eB, kc0, kc1, kc2, kc3, kc4, kc5, kc6, kc7, kc8, kc9, kc10, kc11, kc12, kc13, kc14, kc15, kc16, kc17, kc18, kc19, kc20, kc21, kc22, kc23, kc24, kc25, kc26, kc27, kc28, kc29, kc30, kc31, kc32, kc33] at q149
                iterate 4 (refine hX _ ?_; conv => whnf)
                refine hX _ ?_; conv => whnf
                try simp (disch := omega) only [bg_w_id, Int.toNat_natCast, rw_land, sh_land, not_true_eq_false, e116, e117, u4, eA, eB]
                have hlen : (tr.length : Int) + 1 = ((tr ++ [q]).length : Nat) := by simp
                rw [hlen]
                refine s_mnoteWay d n (tr ++ [q]) ws h2 u2 (by simp; omega) hful ?_ _ (fun h3 v1 v2 v3 => ?_)
                · intro i p hi
                  rcases Nat.lt_or_ge i tr.length with hlt | hge
                  · rw [List.getElem?_append_left hlt] at hi
                    exact u3 i p hi
                  · rw [List.getElem?_append_right hge] at hi
                    have hw0 : i - tr.length < 1 := (List.getElem?_eq_some_iff.mp hi).1
                    rw [show i - tr.length = 0 by omega] at hi
                    cases hi
                    rw [show i = tr.length by omega]
                    exact u4
                conv => whnf
                iterate 2 (refine hX _ ?_; conv => whnf)
                first
                | (rw [est, if_neg (fun c => q111 c.1), List.nil_append] at H1 H2
                   exact ih ws later h2 _ _ u1 u2 u3 hu4 H1 H2)
                | (rw [est, if_neg (fun c => q133 (by rw [← hs2]; exact c.2)), List.nil_append] at H1 H2
                   exact ih ws later h2 _ _ u1 u2 u3 hu4 H1 H2)
                | (have e7 : (wf N A B k (B q) (bg_or (sv B tr 1) (bg_shl 1 (B q)))).map ((tr ++ [q]) ++ ·) = [tr ++ [q]] := by
                     rw [q149, wf7]
                     simp
                   rw [est, if_pos ⟨q111, by rw [hs2]; exact q133⟩, e7, ← List.append_assoc] at H1 H2
                   refine ih (ws ++ [tr ++ [q]]) later h3 _ _ ?_ v3 ?_ ?_ H1 H2
                   · rw [hfr] at u1 ⊢
                     exact ⟨fun k k1 k2 k3 k4 => by rw [v1 k k1 k2 k3]; exact u1.1 k k1 k2 k3 k4, fun j j1 j2 => by rw [v2 j j2]; exact u1.2.1 j j1 j2, by rw [v2 14 (by omega)]; exact u1.2.2⟩
                   · intro i p hi
                     rw [v1 133 (by omega) (by omega) (by omega)]
                     exact u3 i p hi
                   · rw [v1 133 (by omega) (by omega) (by omega)]
                     exact hu4)
                | (have hb7 : (B q).toNat < 7 := by omega
                   have hbB : (((B q).toNat : Nat) : Int) = B q := by omega
                   have hbt : bt s ((B q).toNat : Nat) = 0 := by rw [hbB]; exact q133
                   obtain ⟨k', hk'⟩ : ∃ k', k = k' + 1 := by
                     rcases Nat.eq_zero_or_pos k with e0 | e0
                     · exfalso
                       have := c7_all s hs1 (by rw [hs3]; omega) _ hb7
                       omega
                     · exact ⟨k - 1, by omega⟩
                   obtain ⟨c1, c2, c3⟩ := c7_or s hs1 _ hb7 hbt
                   rw [hbB] at c1 c2 c3
                   rw [hk', otr_wf q149, if_pos ⟨q111, by rw [hs2]; exact q133⟩] at est
                   rw [hk'] at H1 H2 ih
                   rw [est, ← List.append_assoc] at H1 H2
                   have hlen : (tr.length : Int) + 1 = ((tr ++ [q]).length : Nat) := by simp
                   have hmem : ∀ p ∈ tr ++ [q], p < N := by
                     intro p hp
                     rw [List.mem_append, List.mem_singleton] at hp
                     rcases hp with hp | hp
                     · exact htN p hp
                     · omega
                   rw [hlen]
                   refine ihk k' (by omega) (tr ++ [q]) (by simp; omega) (by rw [pls_snoc]; exact q149) hmem ⟨(bg_or s (bg_shl 1 (B q))).toNat, by omega, by rw [sv_snoc, hs2]; omega, ?_⟩ 0 (by omega) ws (otr N A B (k' + 1) tr (q + 1) ++ later) _ _ _ (fr2 _ _ _ u1) (tbM_fr (by rw [bg_up_ne (by omega)]) (bg_up_ne (by omega)) (bg_up_ne (by omega)) u2) ?_ ?_ ?_ ?_
                   · rw [show (((bg_or s (bg_shl 1 (B q))).toNat : Nat) : Int) = bg_or s (bg_shl 1 (B q)) by omega, c1, hs3]
                     simp
                   · intro i p hi
                     have := (List.getElem?_eq_some_iff.mp hi).1
                     rw [bg_up_nj (by omega)]
                     rcases Nat.lt_or_ge i tr.length with hlt | hge
                     · rw [List.getElem?_append_left hlt] at hi
                       exact u3 i p hi
                     · rw [List.getElem?_append_right hge] at hi
                       have hw0 : i - tr.length < 1 := (List.getElem?_eq_some_iff.mp hi).1
                       rw [show i - tr.length = 0 by omega] at hi
                       cases hi
                       rw [show i = tr.length by omega]
                       exact u4
                   · rw [bg_up_self]
                     rfl
                   · intro h5 i2 i3 w1 w2 w3
                     have e1 : (((tr ++ [q]).length : Nat) : Int) - 1 = tr.length := by simp
                     rw [e1]
                     refine ih ((ws ++ otr N A B k' (tr ++ [q]) 0).take 400) later h5 i2 i3 w1 w2 (fun i p hi => w3 i p (by rw [List.getElem?_append_left (List.getElem?_eq_some_iff.mp hi).1]; exact hi)) ?_ ?_ ?_
                     · rw [w3 tr.length q (by simp)]
                       omega
                     · intro h6 i4 i5 y1 y2 y3
                       rw [take_app] at y2
                       exact H1 h6 i4 i5 y1 y2 y3
                     · intro h6 y1 y2
                       rw [List.append_assoc, take_app, ← List.append_assoc] at y2
                       exact H2 h6 y1 y2
                   · intro h6 y1 y2
                     rw [← List.append_assoc] at y2
                     exact H2 h6 y1 y2)
        · exfalso
          (try simp (disch := omega) only [bg_w_id, Int.toNat_natCast, rw_land, sh_land, not_true_eq_false, e116, e117, u4, eA, eB, kc0, kc1, kc2, kc3, kc4, kc5, kc6, kc7, kc8, kc9, kc10, kc11, kc12, kc13, kc14, kc15, kc16, kc17, kc18, kc19, kc20, kc21, kc22, kc23, kc24, kc25, kc26, kc27, kc28, kc29, kc30, kc31, kc32, kc33] at q92) <;> (omega)
  have hwf : otr N A B 6 [] 0 = wf N A B 7 0 1 := by
    rw [show wf N A B 7 0 1 = (if (0 : Int) = 7 then [[]] else (List.range N).flatMap (fun p => if A p = 0 ∧ bt 1 (B p) = 0 then (wf N A B 6 (B p) (bg_or 1 (bg_shl 1 (B p)))).map (p :: ·) else [])) from rfl, if_neg (by decide)]
    unfold otr
    rw [Nat.sub_zero, ← List.range_eq_range']
    simp only [List.nil_append, List.map_id']
    rfl
  have fin : ∀ (h'' : bg_G) (j2 j3 : Option bg_V), fr h'' → tbM h'' ((([] : List (List Nat)) ++ otr N A B 6 [] 0).take 400) → X (27, [oR 115, oI ((([] : List Nat).length : Int) - 1), j2, j3], [], (bg_SH n, h''), (0, 0)) := by
    intro h'' j2 j3 f1 f2
    rw [List.nil_append, hwf] at f2
    show X (27, [oR 115, oI (-1), j2, j3], [], (bg_SH n, h''), (0, 0))
    refine hX _ ?_; conv => whnf
    refine hX _ ?_; conv => whnf
    refine ⟨fun q28 => ?_, fun q28 => ?_⟩
    · try simp (disch := omega) only [bg_w_id, Int.toNat_natCast, rw_land, sh_land, not_true_eq_false, kc0, kc1, kc2, kc3, kc4, kc5, kc6, kc7, kc8, kc9, kc10, kc11, kc12, kc13, kc14, kc15, kc16, kc17, kc18, kc19, kc20, kc21, kc22, kc23, kc24, kc25, kc26, kc27, kc28, kc29, kc30, kc31, kc32, kc33] at q28
      refine hX _ ?_; conv => whnf
      exact hR2 h'' f1 f2
    · exfalso
      (try simp (disch := omega) only [bg_w_id, Int.toNat_natCast, rw_land, sh_land, not_true_eq_false, kc0, kc1, kc2, kc3, kc4, kc5, kc6, kc7, kc8, kc9, kc10, kc11, kc12, kc13, kc14, kc15, kc16, kc17, kc18, kc19, kc20, kc21, kc22, kc23, kc24, kc25, kc26, kc27, kc28, kc29, kc30, kc31, kc32, kc33] at q28) <;> (omega)
  iterate 2 (refine hX _ ?_; conv => whnf)
  try simp only [kc0, kc1, kc2, kc3, kc4, kc5, kc6, kc7, kc8, kc9, kc10, kc11, kc12, kc13, kc14, kc15, kc16, kc17, kc18, kc19, kc20, kc21, kc22, kc23, kc24, kc25, kc26, kc27, kc28, kc29, kc30, kc31, kc32, kc33]
  refine hX _ ?_; conv => whnf
  refine ⟨fun q4 => ?_, fun q4 => ?_⟩
  · try simp (disch := omega) only [bg_w_id, Int.toNat_natCast, rw_land, sh_land, not_true_eq_false, kc0, kc1, kc2, kc3, kc4, kc5, kc6, kc7, kc8, kc9, kc10, kc11, kc12, kc13, kc14, kc15, kc16, kc17, kc18, kc19, kc20, kc21, kc22, kc23, kc24, kc25, kc26, kc27, kc28, kc29, kc30, kc31, kc32, kc33] at q4
    iterate 2 (refine hX _ ?_; conv => whnf)
    refine hX _ ?_; conv => whnf
    refine ⟨by first | exact Or.inr rfl | exact Or.inl rfl | omega, ?_⟩
    iterate 9 (refine hX _ ?_; conv => whnf)
    refine hX _ ?_; conv => whnf
    try (simp (disch := omega) only [bg_w_id, Int.toNat_natCast, rw_land, sh_land, not_true_eq_false, kc0, kc1, kc2, kc3, kc4, kc5, kc6, kc7, kc8, kc9, kc10, kc11, kc12, kc13, kc14, kc15, kc16, kc17, kc18, kc19, kc20, kc21, kc22, kc23, kc24, kc25, kc26, kc27, kc28, kc29, kc30, kc31, kc32, kc33]; try conv => whnf)
    refine ⟨by first | omega | (simp (disch := omega) only [bg_w_id, Int.toNat_natCast, rw_land, sh_land, not_true_eq_false, kc0, kc1, kc2, kc3, kc4, kc5, kc6, kc7, kc8, kc9, kc10, kc11, kc12, kc13, kc14, kc15, kc16, kc17, kc18, kc19, kc20, kc21, kc22, kc23, kc24, kc25, kc26, kc27, kc28, kc29, kc30, kc31, kc32, kc33]; omega), ?_⟩
    try simp only [kc0, kc1, kc2, kc3, kc4, kc5, kc6, kc7, kc8, kc9, kc10, kc11, kc12, kc13, kc14, kc15, kc16, kc17, kc18, kc19, kc20, kc21, kc22, kc23, kc24, kc25, kc26, kc27, kc28, kc29, kc30, kc31, kc32, kc33]
    have := LW 6 [] rfl (show (0 : Int) ≠ 7 by decide) (by simp) ⟨1, by decide, rfl, by decide +kernel⟩ 0 (by omega) [] [] (bg_up (bg_up (bg_up h 115 14 1) 115 15 0) 133 0 (-1)) none none ?_ ?_ (by simp) ?_ (fun h'' j2 j3 f1 f2 _ => fin h'' j2 j3 f1 f2) (fun h'' f1 f2 => hR2 h'' f1 (by rw [List.append_nil, List.nil_append, hwf] at f2; exact f2))
    · exact this
    · rw [hfr]
      refine ⟨fun k k1 k2 k3 k4 => ?_, fun j j1 j2 => ?_, ?_⟩
      · rw [bg_up_ne k4, bg_up_ne k1, bg_up_ne k1]
      · rw [bg_up_ne (by omega), bg_up_nj j2, bg_up_nj j1]
      · rw [bg_up_ne (by omega), bg_up_nj (by omega), bg_up_self]
    · refine ⟨?_, by simp, fun w l hw => by simp at hw⟩
      rw [bg_up_ne (by omega), bg_up_self]
      rfl
    · show bg_up _ 133 0 (-1) 133 0 = _
      rw [bg_up_self]
      rfl
  · exfalso
    (try simp (disch := omega) only [bg_w_id, Int.toNat_natCast, rw_land, sh_land, not_true_eq_false, kc0, kc1, kc2, kc3, kc4, kc5, kc6, kc7, kc8, kc9, kc10, kc11, kc12, kc13, kc14, kc15, kc16, kc17, kc18, kc19, kc20, kc21, kc22, kc23, kc24, kc25, kc26, kc27, kc28, kc29, kc30, kc31, kc32, kc33] at q4) <;> (omega)
