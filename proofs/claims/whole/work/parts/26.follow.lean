/-- all ways from a place on, by paths in order; k: how many more steps there may be -/
def wf (np : Nat) (A B : Nat → Int) : Nat → Int → Int → List (List Nat)
  | 0, pl, _ => if pl = 7 then [[]] else []
  | k + 1, pl, seen => if pl = 7 then [[]] else (List.range np).flatMap (fun p => if A p = pl ∧ bt seen (B p) = 0 then (wf np A B k (B p) (bg_or seen (bg_shl 1 (B p)))).map (p :: ·) else [])
/-- the class's table holds these ways -/
def tbC (h : bg_G) (ws : List (List Nat)) : Prop := h 41 3 = ws.length ∧ ws.length ≤ 400 ∧ ∀ (w : Nat) (l : List Nat), ws[w]? = some l → l.length ≤ 7 ∧ h 43 w = l.length ∧ ∀ (i p : Nat), l[i]? = some p → h 42 (w * 7 + i) = p
theorem tbC_fr {h h' : bg_G} {ws : List (List Nat)} (h1 : h' 41 = h 41) (h2 : h' 42 = h 42) (h3 : h' 43 = h 43) (ht : tbC h ws) : tbC h' ws := by
  unfold tbC
  rw [h1, h2, h3]
  exact ht
theorem take_app {α : Type} (n : Nat) (A B : List α) : (A.take n ++ B).take n = (A ++ B).take n := by
  rw [List.take_append, List.take_append, List.take_take, Nat.min_self, List.length_take]
  congr 2
  omega
theorem s_wadd (d n : Nat) (tr : List Nat) (ws : List (List Nat)) (h : bg_G) (ht : tbC h ws) (hl : tr.length ≤ 7) (htr : ∀ (i p : Nat), tr[i]? = some p → h 44 i = p) (Rt : bg_R) (hR : ∀ h' : bg_G, (∀ k, k ≠ 41 → k ≠ 42 → k ≠ 43 → h' k = h k) → tbC h' ((ws ++ [tr]).take 400) → Rt none (bg_SH n, h')) : bg_Ca bg_MS (d + 1) 71 [vR 41, vI tr.length] (bg_SH n, h) Rt := by
  obtain ⟨t1, t2, t3⟩ := id ht
  refine bg_ca (cd := cd_X7_add) rfl rfl ?_
  intro X hX
  by_cases hf : ws.length < 400
  · have hT : (ws ++ [tr]).take 400 = ws ++ [tr] := List.take_of_length_le (by simp; omega)
    rw [hT] at hR
    have l1 : ∀ i, i ≤ tr.length → ∀ h' : bg_G, (∀ k, k ≠ 42 → h' k = h k) → (∀ j : Int, j < ws.length * 7 → h' 42 j = h 42 j) → (∀ (j p : Nat), j < i → tr[j]? = some p → h' 42 (ws.length * 7 + j) = p) → X (13, [oR 41, oI (tr.length : Int), oI (i : Int)], [], (bg_SH n, h'), (0, 0)) := by
      refine lp_up tr.length _ ?_ (fun i hi ih => ?_)
      · intro h' g1 g2 g3
        have e41 : h' 41 3 = ws.length := by rw [g1 41 (by omega)]; exact t1
        iterate 2 (refine hX _ ?_; conv => whnf)
        refine hX _ ?_; conv => whnf
        refine ⟨fun q15 => ?_, fun q15 => ?_⟩
        · try simp (disch := omega) only [bg_w_id, Int.toNat_natCast, rw_land, sh_land, not_true_eq_false, kc0, kc1, kc2, kc3, kc4, kc5, kc6, kc7, kc8, kc9, kc10, kc11, kc12, kc13, kc14, kc15, kc16, kc17, kc18, kc19, kc20, kc21, kc22, kc23, kc24, kc25, kc26, kc27, kc28, kc29, kc30, kc31, kc32, kc33] at q15
          iterate 5 (refine hX _ ?_; conv => whnf)
          refine hX _ ?_; conv => whnf
          try (simp (disch := omega) only [bg_w_id, Int.toNat_natCast, rw_land, sh_land, not_true_eq_false, kc0, kc1, kc2, kc3, kc4, kc5, kc6, kc7, kc8, kc9, kc10, kc11, kc12, kc13, kc14, kc15, kc16, kc17, kc18, kc19, kc20, kc21, kc22, kc23, kc24, kc25, kc26, kc27, kc28, kc29, kc30, kc31, kc32, kc33]; try conv => whnf)
          refine ⟨by first | omega | (simp (disch := omega) only [bg_w_id, Int.toNat_natCast, rw_land, sh_land, not_true_eq_false, kc0, kc1, kc2, kc3, kc4, kc5, kc6, kc7, kc8, kc9, kc10, kc11, kc12, kc13, kc14, kc15, kc16, kc17, kc18, kc19, kc20, kc21, kc22, kc23, kc24, kc25, kc26, kc27, kc28, kc29, kc30, kc31, kc32, kc33]; omega), ?_⟩
          iterate 6 (refine hX _ ?_; conv => whnf)
          try simp only [kc0, kc1, kc2, kc3, kc4, kc5, kc6, kc7, kc8, kc9, kc10, kc11, kc12, kc13, kc14, kc15, kc16, kc17, kc18, kc19, kc20, kc21, kc22, kc23, kc24, kc25, kc26, kc27, kc28, kc29, kc30, kc31, kc32, kc33]
          refine hX _ ?_; conv => whnf
          refine hR _ ?_ ?_
          · intro k k1 k2 k3
            rw [bg_up_ne k1, bg_up_ne k3]
            exact g1 k k2
          · refine ⟨?_, by simp; omega, fun w l hw => ?_⟩
            · rw [bg_up_self, bg_up_ne (by omega), e41]
              simp
            · rcases Nat.lt_or_ge w ws.length with hlt | hge
              · rw [List.getElem?_append_left hlt] at hw
                obtain ⟨r1, r2, r3⟩ := t3 w l hw
                refine ⟨r1, ?_, fun i p hi => ?_⟩
                · rw [bg_up_ne (by omega), bg_up_nj (by omega), g1 43 (by omega)]
                  exact r2
                · have : i < l.length := (List.getElem?_eq_some_iff.mp hi).1
                  rw [bg_up_ne (by omega), bg_up_ne (by omega), g2 _ (by omega)]
                  exact r3 i p hi
              · rw [List.getElem?_append_right hge] at hw
                have hw0 : w - ws.length < 1 := (List.getElem?_eq_some_iff.mp hw).1
                rw [show w - ws.length = 0 by omega] at hw
                cases hw
                have : w = ws.length := by omega
                subst this
                refine ⟨hl, ?_, fun i p hi => ?_⟩
                · rw [bg_up_ne (by omega), e41, bg_up_self]
                · have : i < tr.length := (List.getElem?_eq_some_iff.mp hi).1
                  rw [bg_up_ne (by omega), bg_up_ne (by omega)]
                  exact g3 i p this hi
        · exfalso
          (try simp (disch := omega) only [bg_w_id, Int.toNat_natCast, rw_land, sh_land, not_true_eq_false, kc0, kc1, kc2, kc3, kc4, kc5, kc6, kc7, kc8, kc9, kc10, kc11, kc12, kc13, kc14, kc15, kc16, kc17, kc18, kc19, kc20, kc21, kc22, kc23, kc24, kc25, kc26, kc27, kc28, kc29, kc30, kc31, kc32, kc33] at q15) <;> (omega)
      · intro h' g1 g2 g3
        have e41 : h' 41 3 = ws.length := by rw [g1 41 (by omega)]; exact t1
        have e44 := g1 44 (by omega)
        have ei : h 44 i = (tr[i] : Nat) := htr i _ (List.getElem?_eq_getElem hi)
        iterate 2 (refine hX _ ?_; conv => whnf)
        refine hX _ ?_; conv => whnf
        refine ⟨fun q15 => ?_, fun q15 => ?_⟩
        · exfalso
          (try simp (disch := omega) only [bg_w_id, Int.toNat_natCast, rw_land, sh_land, not_true_eq_false, e41, e44, ei, kc0, kc1, kc2, kc3, kc4, kc5, kc6, kc7, kc8, kc9, kc10, kc11, kc12, kc13, kc14, kc15, kc16, kc17, kc18, kc19, kc20, kc21, kc22, kc23, kc24, kc25, kc26, kc27, kc28, kc29, kc30, kc31, kc32, kc33] at q15) <;> (omega)
        · try simp (disch := omega) only [bg_w_id, Int.toNat_natCast, rw_land, sh_land, not_true_eq_false, e41, e44, ei, kc0, kc1, kc2, kc3, kc4, kc5, kc6, kc7, kc8, kc9, kc10, kc11, kc12, kc13, kc14, kc15, kc16, kc17, kc18, kc19, kc20, kc21, kc22, kc23, kc24, kc25, kc26, kc27, kc28, kc29, kc30, kc31, kc32, kc33] at q15
          iterate 2 (refine hX _ ?_; conv => whnf)
          refine hX _ ?_; conv => whnf
          refine ⟨fun q21 => ?_, fun q21 => ?_⟩
          · exfalso
            (try simp (disch := omega) only [bg_w_id, Int.toNat_natCast, rw_land, sh_land, not_true_eq_false, e41, e44, ei, kc0, kc1, kc2, kc3, kc4, kc5, kc6, kc7, kc8, kc9, kc10, kc11, kc12, kc13, kc14, kc15, kc16, kc17, kc18, kc19, kc20, kc21, kc22, kc23, kc24, kc25, kc26, kc27, kc28, kc29, kc30, kc31, kc32, kc33] at q21) <;> (omega)
          · try simp (disch := omega) only [bg_w_id, Int.toNat_natCast, rw_land, sh_land, not_true_eq_false, e41, e44, ei, kc0, kc1, kc2, kc3, kc4, kc5, kc6, kc7, kc8, kc9, kc10, kc11, kc12, kc13, kc14, kc15, kc16, kc17, kc18, kc19, kc20, kc21, kc22, kc23, kc24, kc25, kc26, kc27, kc28, kc29, kc30, kc31, kc32, kc33] at q21
            iterate 11 (refine hX _ ?_; conv => whnf)
            refine hX _ ?_; conv => whnf
            try (simp (disch := omega) only [bg_w_id, Int.toNat_natCast, rw_land, sh_land, not_true_eq_false, e41, e44, ei, kc0, kc1, kc2, kc3, kc4, kc5, kc6, kc7, kc8, kc9, kc10, kc11, kc12, kc13, kc14, kc15, kc16, kc17, kc18, kc19, kc20, kc21, kc22, kc23, kc24, kc25, kc26, kc27, kc28, kc29, kc30, kc31, kc32, kc33]; try conv => whnf)
            refine ⟨by first | omega | (simp (disch := omega) only [bg_w_id, Int.toNat_natCast, rw_land, sh_land, not_true_eq_false, e41, e44, ei, kc0, kc1, kc2, kc3, kc4, kc5, kc6, kc7, kc8, kc9, kc10, kc11, kc12, kc13, kc14, kc15, kc16, kc17, kc18, kc19, kc20, kc21, kc22, kc23, kc24, kc25, kc26, kc27, kc28, kc29, kc30, kc31, kc32, kc33]; omega), ?_⟩
            refine hX _ ?_; conv => whnf
            try (simp (disch := omega) only [bg_w_id, Int.toNat_natCast, rw_land, sh_land, not_true_eq_false, e41, e44, ei, kc0, kc1, kc2, kc3, kc4, kc5, kc6, kc7, kc8, kc9, kc10, kc11, kc12, kc13, kc14, kc15, kc16, kc17, kc18, kc19, kc20, kc21, kc22, kc23, kc24, kc25, kc26, kc27, kc28, kc29, kc30, kc31, kc32, kc33]; try conv => whnf)
            refine ⟨by first | omega | (simp (disch := omega) only [bg_w_id, Int.toNat_natCast, rw_land, sh_land, not_true_eq_false, e41, e44, ei, kc0, kc1, kc2, kc3, kc4, kc5, kc6, kc7, kc8, kc9, kc10, kc11, kc12, kc13, kc14, kc15, kc16, kc17, kc18, kc19, kc20, kc21, kc22, kc23, kc24, kc25, kc26, kc27, kc28, kc29, kc30, kc31, kc32, kc33]; omega), ?_⟩
            iterate 2 (refine hX _ ?_; conv => whnf)
            try simp only [kc0, kc1, kc2, kc3, kc4, kc5, kc6, kc7, kc8, kc9, kc10, kc11, kc12, kc13, kc14, kc15, kc16, kc17, kc18, kc19, kc20, kc21, kc22, kc23, kc24, kc25, kc26, kc27, kc28, kc29, kc30, kc31, kc32, kc33]
            refine ih _ ?_ ?_ ?_
            · intro k hk
              rw [bg_up_ne hk]
              exact g1 k hk
            · intro j hj
              rw [bg_up_nj (by omega)]
              exact g2 j hj
            · intro j p hj hp
              by_cases e : j = i
              · subst e
                rw [bg_up_self]
                rw [List.getElem?_eq_getElem hi] at hp
                cases hp
                rfl
              · rw [bg_up_nj (by omega)]
                exact g3 j p (by omega) hp
    iterate 3 (refine hX _ ?_; conv => whnf)
    try simp only [kc0, kc1, kc2, kc3, kc4, kc5, kc6, kc7, kc8, kc9, kc10, kc11, kc12, kc13, kc14, kc15, kc16, kc17, kc18, kc19, kc20, kc21, kc22, kc23, kc24, kc25, kc26, kc27, kc28, kc29, kc30, kc31, kc32, kc33]
    refine hX _ ?_; conv => whnf
    refine ⟨fun q7 => ?_, fun q7 => ?_⟩
    · try simp (disch := omega) only [bg_w_id, Int.toNat_natCast, rw_land, sh_land, not_true_eq_false, kc0, kc1, kc2, kc3, kc4, kc5, kc6, kc7, kc8, kc9, kc10, kc11, kc12, kc13, kc14, kc15, kc16, kc17, kc18, kc19, kc20, kc21, kc22, kc23, kc24, kc25, kc26, kc27, kc28, kc29, kc30, kc31, kc32, kc33] at q7
      iterate 2 (refine hX _ ?_; conv => whnf)
      exact l1 0 (by omega) h (fun _ _ => rfl) (fun _ _ => rfl) (fun j p hj => absurd hj (by omega))
    · exfalso
      (try simp (disch := omega) only [bg_w_id, Int.toNat_natCast, rw_land, sh_land, not_true_eq_false, kc0, kc1, kc2, kc3, kc4, kc5, kc6, kc7, kc8, kc9, kc10, kc11, kc12, kc13, kc14, kc15, kc16, kc17, kc18, kc19, kc20, kc21, kc22, kc23, kc24, kc25, kc26, kc27, kc28, kc29, kc30, kc31, kc32, kc33] at q7) <;> (omega)
  · have hT : (ws ++ [tr]).take 400 = ws := by
      rw [List.take_append_of_le_length (by omega)]
      exact List.take_of_length_le (by omega)
    rw [hT] at hR
    iterate 3 (refine hX _ ?_; conv => whnf)
    try simp only [kc0, kc1, kc2, kc3, kc4, kc5, kc6, kc7, kc8, kc9, kc10, kc11, kc12, kc13, kc14, kc15, kc16, kc17, kc18, kc19, kc20, kc21, kc22, kc23, kc24, kc25, kc26, kc27, kc28, kc29, kc30, kc31, kc32, kc33]
    refine hX _ ?_; conv => whnf
    refine ⟨fun q7 => ?_, fun q7 => ?_⟩
    · exfalso
      (try simp (disch := omega) only [bg_w_id, Int.toNat_natCast, rw_land, sh_land, not_true_eq_false, kc0, kc1, kc2, kc3, kc4, kc5, kc6, kc7, kc8, kc9, kc10, kc11, kc12, kc13, kc14, kc15, kc16, kc17, kc18, kc19, kc20, kc21, kc22, kc23, kc24, kc25, kc26, kc27, kc28, kc29, kc30, kc31, kc32, kc33] at q7) <;> (omega)
    · try simp (disch := omega) only [bg_w_id, Int.toNat_natCast, rw_land, sh_land, not_true_eq_false, kc0, kc1, kc2, kc3, kc4, kc5, kc6, kc7, kc8, kc9, kc10, kc11, kc12, kc13, kc14, kc15, kc16, kc17, kc18, kc19, kc20, kc21, kc22, kc23, kc24, kc25, kc26, kc27, kc28, kc29, kc30, kc31, kc32, kc33] at q7
      refine hX _ ?_; conv => whnf
      exact hR h (fun _ _ _ _ => rfl) ht
theorem s_follow (n : Nat) (h0 : bg_G) (ho : okC h0) : ∀ (k d : Nat) (tr : List Nat) (ws : List (List Nat)) (pl seen : Int) (h : bg_G), tr.length + k = 7 → 0 ≤ pl ∧ pl ≤ 7 → (∀ k, k ≠ 41 → k ≠ 42 → k ≠ 43 → k ≠ 44 → h k = h0 k) → tbC h ws → (∀ (i p : Nat), tr[i]? = some p → h 44 i = p) → ∀ Rt : bg_R, (∀ h' : bg_G, (∀ k, k ≠ 41 → k ≠ 42 → k ≠ 43 → k ≠ 44 → h' k = h0 k) → (∀ (i p : Nat), tr[i]? = some p → h' 44 i = p) → tbC h' ((ws ++ (wf (h0 22 3).toNat (fun p => h0 (24 + p) 0) (fun p => h0 (24 + p) 1) k pl seen).map (tr ++ ·)).take 400) → Rt none (bg_SH n, h')) → bg_Ca bg_MS (d + k + 2) 70 [vR 41, vR 22, vI pl, vI seen, vI tr.length] (bg_SH n, h) Rt := by
  obtain ⟨⟨hn, -⟩, hrow, -⟩ := ho
  obtain ⟨N, hN⟩ : ∃ N : Nat, (N : Int) = h0 22 3 := ⟨(h0 22 3).toNat, by omega⟩
  have hN2 : (h0 22 3).toNat = N := by omega
  rw [hN2]
  intro k
  induction k with
  | zero =>
    intro d tr ws pl seen h hk hpl hfr ht htr Rt hR
    by_cases h7 : pl = 7
    · subst h7
      refine bg_ca (cd := cd_X7_follow) rfl rfl ?_
      intro X hX
      iterate 2 (refine hX _ ?_; conv => whnf)
      refine hX _ ?_; conv => whnf
      refine ⟨fun q3 => ?_, fun q3 => ?_⟩
      · exfalso
        (try simp (disch := omega) only [bg_w_id, Int.toNat_natCast, rw_land, sh_land, not_true_eq_false, kc0, kc1, kc2, kc3, kc4, kc5, kc6, kc7, kc8, kc9, kc10, kc11, kc12, kc13, kc14, kc15, kc16, kc17, kc18, kc19, kc20, kc21, kc22, kc23, kc24, kc25, kc26, kc27, kc28, kc29, kc30, kc31, kc32, kc33] at q3) <;> (omega)
      · try simp (disch := omega) only [bg_w_id, Int.toNat_natCast, rw_land, sh_land, not_true_eq_false, kc0, kc1, kc2, kc3, kc4, kc5, kc6, kc7, kc8, kc9, kc10, kc11, kc12, kc13, kc14, kc15, kc16, kc17, kc18, kc19, kc20, kc21, kc22, kc23, kc24, kc25, kc26, kc27, kc28, kc29, kc30, kc31, kc32, kc33] at q3
        iterate 2 (refine hX _ ?_; conv => whnf)
        refine hX _ ?_; conv => whnf
        try simp (disch := omega) only [bg_w_id, Int.toNat_natCast, rw_land, sh_land, not_true_eq_false]
        refine s_wadd d n tr ws h ht (by omega) htr _ (fun h' f1 f2 => ?_)
        conv => whnf
        refine hX _ ?_; conv => whnf
        refine hR h' (fun k k1 k2 k3 k4 => by rw [f1 k k1 k2 k3]; exact hfr k k1 k2 k3 k4) (fun i p hi => by rw [f1 44 (by omega) (by omega) (by omega)]; exact htr i p hi) ?_
        have e : (wf N (fun p => h0 (24 + p) 0) (fun p => h0 (24 + p) 1) 0 7 seen).map (tr ++ ·) = [tr] := by simp [wf]
        rw [e]
        exact f2
    · refine bg_ca (cd := cd_X7_follow) rfl rfl ?_
      intro X hX
      have hT : ws.take 400 = ws := List.take_of_length_le ht.2.1
      have e : (wf N (fun p => h0 (24 + p) 0) (fun p => h0 (24 + p) 1) 0 pl seen).map (tr ++ ·) = [] := by simp [wf, h7]
      rw [e, List.append_nil, hT] at hR
      iterate 2 (refine hX _ ?_; conv => whnf)
      refine hX _ ?_; conv => whnf
      refine ⟨fun q3 => ?_, fun q3 => ?_⟩
      · try simp (disch := omega) only [bg_w_id, Int.toNat_natCast, rw_land, sh_land, not_true_eq_false, kc0, kc1, kc2, kc3, kc4, kc5, kc6, kc7, kc8, kc9, kc10, kc11, kc12, kc13, kc14, kc15, kc16, kc17, kc18, kc19, kc20, kc21, kc22, kc23, kc24, kc25, kc26, kc27, kc28, kc29, kc30, kc31, kc32, kc33] at q3
        iterate 2 (refine hX _ ?_; conv => whnf)
        refine hX _ ?_; conv => whnf
        refine ⟨fun q17 => ?_, fun q17 => ?_⟩
        · exfalso
          (try simp (disch := omega) only [bg_w_id, Int.toNat_natCast, rw_land, sh_land, not_true_eq_false, kc0, kc1, kc2, kc3, kc4, kc5, kc6, kc7, kc8, kc9, kc10, kc11, kc12, kc13, kc14, kc15, kc16, kc17, kc18, kc19, kc20, kc21, kc22, kc23, kc24, kc25, kc26, kc27, kc28, kc29, kc30, kc31, kc32, kc33] at q17) <;> (omega)
        · try simp (disch := omega) only [bg_w_id, Int.toNat_natCast, rw_land, sh_land, not_true_eq_false, kc0, kc1, kc2, kc3, kc4, kc5, kc6, kc7, kc8, kc9, kc10, kc11, kc12, kc13, kc14, kc15, kc16, kc17, kc18, kc19, kc20, kc21, kc22, kc23, kc24, kc25, kc26, kc27, kc28, kc29, kc30, kc31, kc32, kc33] at q17
          refine hX _ ?_; conv => whnf
          exact hR h hfr htr ht
      · exfalso
        (try simp (disch := omega) only [bg_w_id, Int.toNat_natCast, rw_land, sh_land, not_true_eq_false, kc0, kc1, kc2, kc3, kc4, kc5, kc6, kc7, kc8, kc9, kc10, kc11, kc12, kc13, kc14, kc15, kc16, kc17, kc18, kc19, kc20, kc21, kc22, kc23, kc24, kc25, kc26, kc27, kc28, kc29, kc30, kc31, kc32, kc33] at q3) <;> (omega)
  | succ k ihk =>
    intro d tr ws pl seen h hk hpl hfr ht htr Rt hR
    by_cases h7 : pl = 7
    · subst h7
      rw [show d + (k + 1) + 2 = (d + k + 1) + 2 by omega]
      refine bg_ca (cd := cd_X7_follow) rfl rfl ?_
      intro X hX
      iterate 2 (refine hX _ ?_; conv => whnf)
      refine hX _ ?_; conv => whnf
      refine ⟨fun q3 => ?_, fun q3 => ?_⟩
      · exfalso
        (try simp (disch := omega) only [bg_w_id, Int.toNat_natCast, rw_land, sh_land, not_true_eq_false, kc0, kc1, kc2, kc3, kc4, kc5, kc6, kc7, kc8, kc9, kc10, kc11, kc12, kc13, kc14, kc15, kc16, kc17, kc18, kc19, kc20, kc21, kc22, kc23, kc24, kc25, kc26, kc27, kc28, kc29, kc30, kc31, kc32, kc33] at q3) <;> (omega)
      · try simp (disch := omega) only [bg_w_id, Int.toNat_natCast, rw_land, sh_land, not_true_eq_false, kc0, kc1, kc2, kc3, kc4, kc5, kc6, kc7, kc8, kc9, kc10, kc11, kc12, kc13, kc14, kc15, kc16, kc17, kc18, kc19, kc20, kc21, kc22, kc23, kc24, kc25, kc26, kc27, kc28, kc29, kc30, kc31, kc32, kc33] at q3
        iterate 2 (refine hX _ ?_; conv => whnf)
        refine hX _ ?_; conv => whnf
        try simp (disch := omega) only [bg_w_id, Int.toNat_natCast, rw_land, sh_land, not_true_eq_false]
        refine s_wadd (d + k + 1) n tr ws h ht (by omega) htr _ (fun h' f1 f2 => ?_)
        conv => whnf
        refine hX _ ?_; conv => whnf
        refine hR h' (fun k k1 k2 k3 k4 => by rw [f1 k k1 k2 k3]; exact hfr k k1 k2 k3 k4) (fun i p hi => by rw [f1 44 (by omega) (by omega) (by omega)]; exact htr i p hi) ?_
        have e : (wf N (fun p => h0 (24 + p) 0) (fun p => h0 (24 + p) 1) (k + 1) 7 seen).map (tr ++ ·) = [tr] := by simp [wf]
        rw [e]
        exact f2
    · have ew : wf N (fun p => h0 (24 + p) 0) (fun p => h0 (24 + p) 1) (k + 1) pl seen = (List.range N).flatMap (fun p => if h0 (24 + p) 0 = pl ∧ bt seen (h0 (24 + p) 1) = 0 then (wf N (fun p => h0 (24 + p) 0) (fun p => h0 (24 + p) 1) k (h0 (24 + p) 1) (bg_or seen (bg_shl 1 (h0 (24 + p) 1)))).map (p :: ·) else []) := by simp [wf, h7]
      rw [ew] at hR
      rw [show d + (k + 1) + 2 = (d + k + 2) + 1 by omega]
      refine bg_ca (cd := cd_X7_follow) rfl rfl ?_
      intro X hX
      obtain ⟨g, hg⟩ : ∃ g : Nat → List (List Nat), g = fun p => (if h0 (24 + p) 0 = pl ∧ bt seen (h0 (24 + p) 1) = 0 then (wf N (fun p => h0 (24 + p) 0) (fun p => h0 (24 + p) 1) k (h0 (24 + p) 1) (bg_or seen (bg_shl 1 (h0 (24 + p) 1)))).map (p :: ·) else []) := ⟨_, rfl⟩
      rw [← hg] at hR
      have l1 : ∀ p, p ≤ N → ∀ (h' : bg_G) (j6 : Option bg_V), (∀ k, k ≠ 41 → k ≠ 42 → k ≠ 43 → k ≠ 44 → h' k = h0 k) → (∀ (i p : Nat), tr[i]? = some p → h' 44 i = p) → tbC h' ((ws ++ ((List.range p).flatMap g).map (tr ++ ·)).take 400) → X (24, [oR 41, oR 22, oI pl, oI seen, oI (tr.length : Int), oI (p : Int), j6], [], (bg_SH n, h'), (0, 0)) := by
        refine lp_up N _ ?_ (fun p hp ih => ?_)
        · intro h' j6 f1 f2 f3
          have e22 := f1 22 (by omega) (by omega) (by omega) (by omega)
          iterate 3 (refine hX _ ?_; conv => whnf)
          try simp only [kc0, kc1, kc2, kc3, kc4, kc5, kc6, kc7, kc8, kc9, kc10, kc11, kc12, kc13, kc14, kc15, kc16, kc17, kc18, kc19, kc20, kc21, kc22, kc23, kc24, kc25, kc26, kc27, kc28, kc29, kc30, kc31, kc32, kc33]
          refine hX _ ?_; conv => whnf
          refine ⟨fun q30 => ?_, fun q30 => ?_⟩
          · try simp (disch := omega) only [bg_w_id, Int.toNat_natCast, rw_land, sh_land, not_true_eq_false, e22, kc0, kc1, kc2, kc3, kc4, kc5, kc6, kc7, kc8, kc9, kc10, kc11, kc12, kc13, kc14, kc15, kc16, kc17, kc18, kc19, kc20, kc21, kc22, kc23, kc24, kc25, kc26, kc27, kc28, kc29, kc30, kc31, kc32, kc33] at q30
            refine hX _ ?_; conv => whnf
            exact hR h' f1 f2 f3
          · exfalso
            (try simp (disch := omega) only [bg_w_id, Int.toNat_natCast, rw_land, sh_land, not_true_eq_false, e22, kc0, kc1, kc2, kc3, kc4, kc5, kc6, kc7, kc8, kc9, kc10, kc11, kc12, kc13, kc14, kc15, kc16, kc17, kc18, kc19, kc20, kc21, kc22, kc23, kc24, kc25, kc26, kc27, kc28, kc29, kc30, kc31, kc32, kc33] at q30) <;> (omega)
        · intro h' j6 f1 f2 f3
          have e22 := f1 22 (by omega) (by omega) (by omega) (by omega)
          have er := f1 (24 + p) (by omega) (by omega) (by omega) (by omega)
          have hr := hrow p (by omega)
          have es : (List.range (p + 1)).flatMap g = (List.range p).flatMap g ++ g p := by rw [List.range_succ, List.flatMap_append]; simp
          have egp : g p = (if h0 (24 + p) 0 = pl ∧ bt seen (h0 (24 + p) 1) = 0 then (wf N (fun p => h0 (24 + p) 0) (fun p => h0 (24 + p) 1) k (h0 (24 + p) 1) (bg_or seen (bg_shl 1 (h0 (24 + p) 1)))).map (p :: ·) else []) := by rw [hg]
          iterate 3 (refine hX _ ?_; conv => whnf)
          try simp only [kc0, kc1, kc2, kc3, kc4, kc5, kc6, kc7, kc8, kc9, kc10, kc11, kc12, kc13, kc14, kc15, kc16, kc17, kc18, kc19, kc20, kc21, kc22, kc23, kc24, kc25, kc26, kc27, kc28, kc29, kc30, kc31, kc32, kc33]
          refine hX _ ?_; conv => whnf
          refine ⟨fun q30 => ?_, fun q30 => ?_⟩
          · exfalso
            (try simp (disch := omega) only [bg_w_id, Int.toNat_natCast, rw_land, sh_land, not_true_eq_false, e22, er, kc0, kc1, kc2, kc3, kc4, kc5, kc6, kc7, kc8, kc9, kc10, kc11, kc12, kc13, kc14, kc15, kc16, kc17, kc18, kc19, kc20, kc21, kc22, kc23, kc24, kc25, kc26, kc27, kc28, kc29, kc30, kc31, kc32, kc33] at q30) <;> (omega)
          · try simp (disch := omega) only [bg_w_id, Int.toNat_natCast, rw_land, sh_land, not_true_eq_false, e22, er, kc0, kc1, kc2, kc3, kc4, kc5, kc6, kc7, kc8, kc9, kc10, kc11, kc12, kc13, kc14, kc15, kc16, kc17, kc18, kc19, kc20, kc21, kc22, kc23, kc24, kc25, kc26, kc27, kc28, kc29, kc30, kc31, kc32, kc33] at q30
            iterate 2 (refine hX _ ?_; conv => whnf)
            refine hX _ ?_; conv => whnf
            refine ⟨fun q37 => ?_, fun q37 => ?_⟩
            · exfalso
              (try simp (disch := omega) only [bg_w_id, Int.toNat_natCast, rw_land, sh_land, not_true_eq_false, e22, er, kc0, kc1, kc2, kc3, kc4, kc5, kc6, kc7, kc8, kc9, kc10, kc11, kc12, kc13, kc14, kc15, kc16, kc17, kc18, kc19, kc20, kc21, kc22, kc23, kc24, kc25, kc26, kc27, kc28, kc29, kc30, kc31, kc32, kc33] at q37) <;> (omega)
            · try simp (disch := omega) only [bg_w_id, Int.toNat_natCast, rw_land, sh_land, not_true_eq_false, e22, er, kc0, kc1, kc2, kc3, kc4, kc5, kc6, kc7, kc8, kc9, kc10, kc11, kc12, kc13, kc14, kc15, kc16, kc17, kc18, kc19, kc20, kc21, kc22, kc23, kc24, kc25, kc26, kc27, kc28, kc29, kc30, kc31, kc32, kc33] at q37
              iterate 3 (refine hX _ ?_; conv => whnf)
              refine hX _ ?_; conv => whnf
              try (simp (disch := omega) only [bg_w_id, Int.toNat_natCast, rw_land, sh_land, not_true_eq_false, e22, er]; try conv => whnf)
              refine ⟨by first | omega | (simp (disch := omega) only [bg_w_id, Int.toNat_natCast, rw_land, sh_land, not_true_eq_false, e22, er]; omega), ?_⟩
              try (simp (disch := omega) only [bg_w_id, Int.toNat_natCast, rw_land, sh_land, not_true_eq_false, e22, er])
              try conv => whnf
              refine hX _ ?_; conv => whnf
              refine hX _ ?_; conv => whnf
              try (simp (disch := omega) only [bg_w_id, Int.toNat_natCast, rw_land, sh_land, not_true_eq_false, e22, er]; try conv => whnf)
              refine ⟨by first | omega | (simp (disch := omega) only [bg_w_id, Int.toNat_natCast, rw_land, sh_land, not_true_eq_false, e22, er]; omega), ?_⟩
              iterate 4 (refine hX _ ?_; conv => whnf)
              refine hX _ ?_; conv => whnf
              try (simp (disch := omega) only [bg_w_id, Int.toNat_natCast, rw_land, sh_land, not_true_eq_false, e22, er]; try conv => whnf)
              refine ⟨by first | omega | (simp (disch := omega) only [bg_w_id, Int.toNat_natCast, rw_land, sh_land, not_true_eq_false, e22, er]; omega), ?_⟩
              try (simp (disch := omega) only [bg_w_id, Int.toNat_natCast, rw_land, sh_land, not_true_eq_false, e22, er])
              try conv => whnf
              refine hX _ ?_; conv => whnf
              refine hX _ ?_; conv => whnf
              try (simp (disch := omega) only [bg_w_id, Int.toNat_natCast, rw_land, sh_land, not_true_eq_false, e22, er]; try conv => whnf)
              refine ⟨by first | omega | (simp (disch := omega) only [bg_w_id, Int.toNat_natCast, rw_land, sh_land, not_true_eq_false, e22, er]; omega), ?_⟩
              refine hX _ ?_; conv => whnf
              refine hX _ ?_; conv => whnf
              refine ⟨fun q61 => ?_, fun q61 => ?_⟩
              · try simp (disch := omega) only [bg_w_id, Int.toNat_natCast, rw_land, sh_land, not_true_eq_false, e22, er, kc0, kc1, kc2, kc3, kc4, kc5, kc6, kc7, kc8, kc9, kc10, kc11, kc12, kc13, kc14, kc15, kc16, kc17, kc18, kc19, kc20, kc21, kc22, kc23, kc24, kc25, kc26, kc27, kc28, kc29, kc30, kc31, kc32, kc33] at q61
                iterate 2 (refine hX _ ?_; conv => whnf)
                first
                | (refine ih h2 _ u1 (fun i q hq => u2 i q (by rw [List.getElem?_append_left (List.getElem?_eq_some_iff.mp hq).1]; exact hq)) ?_
                   rw [es, egp, if_pos ⟨q61, q70⟩]
                   rw [List.map_append, ← List.append_assoc]
                   rw [List.map_map]
                   have e3 : ((fun x => tr ++ x) ∘ fun x => p :: x) = fun x => (tr ++ [p]) ++ x := by funext x; simp
                   rw [e3]
                   rw [← take_app]
                   exact u3)
                | (refine ih h' _ f1 f2 ?_
                   rw [es, egp, if_neg (fun c => by first | exact q61 c.1 | exact q70 c.2), List.append_nil]
                   exact f3)
              · try simp (disch := omega) only [bg_w_id, Int.toNat_natCast, rw_land, sh_land, not_true_eq_false, e22, er, kc0, kc1, kc2, kc3, kc4, kc5, kc6, kc7, kc8, kc9, kc10, kc11, kc12, kc13, kc14, kc15, kc16, kc17, kc18, kc19, kc20, kc21, kc22, kc23, kc24, kc25, kc26, kc27, kc28, kc29, kc30, kc31, kc32, kc33] at q61
                iterate 5 (refine hX _ ?_; conv => whnf)
                refine hX _ ?_; conv => whnf
                refine ⟨fun q70 => ?_, fun q70 => ?_⟩
                · try simp (disch := omega) only [bg_w_id, Int.toNat_natCast, rw_land, sh_land, not_true_eq_false, e22, er, kc0, kc1, kc2, kc3, kc4, kc5, kc6, kc7, kc8, kc9, kc10, kc11, kc12, kc13, kc14, kc15, kc16, kc17, kc18, kc19, kc20, kc21, kc22, kc23, kc24, kc25, kc26, kc27, kc28, kc29, kc30, kc31, kc32, kc33] at q70
                  have q70 : ¬ bg_w (bt seen (h0 (24 + p) 1)) = 0 := q70
                  rw [bt_w] at q70
                  iterate 2 (refine hX _ ?_; conv => whnf)
                  first
                  | (refine ih h2 _ u1 (fun i q hq => u2 i q (by rw [List.getElem?_append_left (List.getElem?_eq_some_iff.mp hq).1]; exact hq)) ?_
                     rw [es, egp, if_pos ⟨q61, q70⟩]
                     rw [List.map_append, ← List.append_assoc]
                     rw [List.map_map]
                     have e3 : ((fun x => tr ++ x) ∘ fun x => p :: x) = fun x => (tr ++ [p]) ++ x := by funext x; simp
                     rw [e3]
                     rw [← take_app]
                     exact u3)
                  | (refine ih h' _ f1 f2 ?_
                     rw [es, egp, if_neg (fun c => by first | exact q61 c.1 | exact q70 c.2), List.append_nil]
                     exact f3)
                · try simp (disch := omega) only [bg_w_id, Int.toNat_natCast, rw_land, sh_land, not_true_eq_false, e22, er, kc0, kc1, kc2, kc3, kc4, kc5, kc6, kc7, kc8, kc9, kc10, kc11, kc12, kc13, kc14, kc15, kc16, kc17, kc18, kc19, kc20, kc21, kc22, kc23, kc24, kc25, kc26, kc27, kc28, kc29, kc30, kc31, kc32, kc33] at q70
                  have q70 : bg_w (bt seen (h0 (24 + p) 1)) = 0 := q70
                  rw [bt_w] at q70
                  iterate 4 (refine hX _ ?_; conv => whnf)
                  refine hX _ ?_; conv => whnf
                  try (simp (disch := omega) only [bg_w_id, Int.toNat_natCast, rw_land, sh_land, not_true_eq_false, e22, er]; try conv => whnf)
                  refine ⟨by first | omega | (simp (disch := omega) only [bg_w_id, Int.toNat_natCast, rw_land, sh_land, not_true_eq_false, e22, er]; omega), ?_⟩
                  iterate 11 (refine hX _ ?_; conv => whnf)
                  refine hX _ ?_; conv => whnf
                  try simp (disch := omega) only [bg_w_id, Int.toNat_natCast, rw_land, sh_land, not_true_eq_false, e22, er]
                  have hlen : (tr.length : Int) + 1 = ((tr ++ [p]).length : Nat) := by simp
                  rw [hlen]
                  refine ihk d (tr ++ [p]) ((ws ++ ((List.range p).flatMap g).map (tr ++ ·)).take 400) _ _ _ (by simp; omega) (by omega) ?_ ?_ ?_ _ (fun h2 u1 u2 u3 => ?_)
                  · intro k' k1 k2 k3 k4
                    rw [bg_up_ne k4]
                    exact f1 k' k1 k2 k3 k4
                  · exact tbC_fr (bg_up_ne (by omega)) (bg_up_ne (by omega)) (bg_up_ne (by omega)) f3
                  · intro i q hq
                    rcases Nat.lt_or_ge i tr.length with hlt | hge
                    · rw [List.getElem?_append_left hlt] at hq
                      rw [bg_up_nj (by omega)]
                      exact f2 i q hq
                    · rw [List.getElem?_append_right hge] at hq
                      have hw0 : i - tr.length < 1 := (List.getElem?_eq_some_iff.mp hq).1
                      rw [show i - tr.length = 0 by omega] at hq
                      cases hq
                      rw [show i = tr.length by omega, bg_up_self]
                  conv => whnf
                  iterate 2 (refine hX _ ?_; conv => whnf)
                  first
                  | (refine ih h2 _ u1 (fun i q hq => u2 i q (by rw [List.getElem?_append_left (List.getElem?_eq_some_iff.mp hq).1]; exact hq)) ?_
                     rw [es, egp, if_pos ⟨q61, q70⟩]
                     rw [List.map_append, ← List.append_assoc]
                     rw [List.map_map]
                     have e3 : ((fun x => tr ++ x) ∘ fun x => p :: x) = fun x => (tr ++ [p]) ++ x := by funext x; simp
                     rw [e3]
                     rw [← take_app]
                     exact u3)
                  | (refine ih h' _ f1 f2 ?_
                     rw [es, egp, if_neg (fun c => by first | exact q61 c.1 | exact q70 c.2), List.append_nil]
                     exact f3)
      iterate 2 (refine hX _ ?_; conv => whnf)
      refine hX _ ?_; conv => whnf
      refine ⟨fun q3 => ?_, fun q3 => ?_⟩
      · try simp (disch := omega) only [bg_w_id, Int.toNat_natCast, rw_land, sh_land, not_true_eq_false, kc0, kc1, kc2, kc3, kc4, kc5, kc6, kc7, kc8, kc9, kc10, kc11, kc12, kc13, kc14, kc15, kc16, kc17, kc18, kc19, kc20, kc21, kc22, kc23, kc24, kc25, kc26, kc27, kc28, kc29, kc30, kc31, kc32, kc33] at q3
        iterate 2 (refine hX _ ?_; conv => whnf)
        refine hX _ ?_; conv => whnf
        refine ⟨fun q17 => ?_, fun q17 => ?_⟩
        · try simp (disch := omega) only [bg_w_id, Int.toNat_natCast, rw_land, sh_land, not_true_eq_false, kc0, kc1, kc2, kc3, kc4, kc5, kc6, kc7, kc8, kc9, kc10, kc11, kc12, kc13, kc14, kc15, kc16, kc17, kc18, kc19, kc20, kc21, kc22, kc23, kc24, kc25, kc26, kc27, kc28, kc29, kc30, kc31, kc32, kc33] at q17
          iterate 2 (refine hX _ ?_; conv => whnf)
          have hT : (ws ++ ((List.range 0).flatMap g).map (tr ++ ·)).take 400 = ws := by simpa using List.take_of_length_le ht.2.1
          exact l1 0 (by omega) h _ hfr htr (by rw [hT]; exact ht)
        · exfalso
          (try simp (disch := omega) only [bg_w_id, Int.toNat_natCast, rw_land, sh_land, not_true_eq_false, kc0, kc1, kc2, kc3, kc4, kc5, kc6, kc7, kc8, kc9, kc10, kc11, kc12, kc13, kc14, kc15, kc16, kc17, kc18, kc19, kc20, kc21, kc22, kc23, kc24, kc25, kc26, kc27, kc28, kc29, kc30, kc31, kc32, kc33] at q17) <;> (omega)
      · exfalso
        (try simp (disch := omega) only [bg_w_id, Int.toNat_natCast, rw_land, sh_land, not_true_eq_false, kc0, kc1, kc2, kc3, kc4, kc5, kc6, kc7, kc8, kc9, kc10, kc11, kc12, kc13, kc14, kc15, kc16, kc17, kc18, kc19, kc20, kc21, kc22, kc23, kc24, kc25, kc26, kc27, kc28, kc29, kc30, kc31, kc32, kc33] at q3) <;> (omega)
