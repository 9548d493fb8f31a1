/-- all ways from a place on, by paths in order; k: how many more steps there may be -/
def wf (np : Nat) (A B : Nat → Int) : Nat → Int → Int → List (List Nat)
  | 0, pl, _ => if pl = 7 then [[]] else []
  | k + 1, pl, seen => if pl = 7 then [[]] else (List.range np).flatMap (fun p => if A p = pl ∧ bt seen (B p) = 0 then (wf np A B k (B p) (bg_or seen (bg_shl 1 (B p)))).map (p :: ·) else [])
/-- the class's table holds these ways -/
def tb0 (h : bg_G) (ws : List (List Nat)) : Prop := h 41 5 = ws.length ∧ ws.length ≤ 400 ∧ ∀ (w : Nat) (l : List Nat), ws[w]? = some l → l.length ≤ 7 ∧ h 43 w = l.length ∧ ∀ (i p : Nat), l[i]? = some p → h 42 (w * 7 + i) = p
/-- what is carried over a way -/
def kS (h : bg_G) (l : List Nat) : Int := sm l.length (fun i => h (24 + l[i]?.getD 0) 3)
theorem kS_fr {h h' : bg_G} {l : List Nat} (hl : ∀ (i p : Nat), l[i]? = some p → p < 12) (e : ∀ k, 24 ≤ k → k ≤ 35 → h' k = h k) : kS h' l = kS h l := sm_congr (fun i hi => by
  have := hl i l[i] (List.getElem?_eq_getElem hi)
  rw [List.getElem?_eq_getElem hi]
  show h' (24 + l[i]) 3 = h (24 + l[i]) 3
  rw [e (24 + l[i]) (by omega) (by omega)])
/-- what is carried over each of them, and the way that was hardest to hold down -/
def crC (h : bg_G) (ws : List (List Nat)) : Prop := (0 ≤ h 41 4 ∧ (h 41 4 = 0 ∨ h 41 4 < ws.length)) ∧ ∀ (w : Nat) (l : List Nat), ws[w]? = some l → (∀ (i p : Nat), l[i]? = some p → p < 12) ∧ h 44 w = kS h l
def tbC (h : bg_G) (ws : List (List Nat)) : Prop := tb0 h ws ∧ crC h ws
theorem tbC_fr {h h' : bg_G} {ws : List (List Nat)} (h1 : h' 41 = h 41) (h2 : h' 42 = h 42) (h3 : h' 43 = h 43) (h4 : h' 44 = h 44) (h5 : ∀ k, 24 ≤ k → k ≤ 35 → h' k = h k) (ht : tbC h ws) : tbC h' ws := by
  obtain ⟨a, b, c⟩ := ht
  refine ⟨?_, ?_, fun w l hl => ?_⟩
  · unfold tb0
    rw [h1, h2, h3]
    exact a
  · rw [h1]
    exact b
  · obtain ⟨c1, c2⟩ := c w l hl
    exact ⟨c1, by rw [h4, c2, kS_fr c1 h5]⟩
theorem take_app {α : Type} (n : Nat) (A B : List α) : (A.take n ++ B).take n = (A ++ B).take n := by
  rw [List.take_append, List.take_append, List.take_take, Nat.min_self, List.length_take]
  congr 2
  omega
theorem s_wadd (d n : Nat) (tr : List Nat) (ws : List (List Nat)) (h : bg_G) (ht : tbC h ws) (hl : tr.length ≤ 7) (htr : ∀ (i p : Nat), tr[i]? = some p → p < 12 ∧ h 45 i = p) (Rt : bg_R) (hR : ∀ h' : bg_G, (∀ k, k ≠ 41 → k ≠ 42 → k ≠ 43 → k ≠ 44 → h' k = h k) → tbC h' ((ws ++ [tr]).take 400) → Rt none (bg_SH n, h')) : bg_Ca bg_MS (d + 2) 71 [vR 41, vR 22, vI tr.length] (bg_SH n, h) Rt := by
  obtain ⟨⟨t1, t2, t3⟩, t4, t5⟩ := id ht
  refine bg_ca (cd := cd_X7_add) rfl rfl ?_
  intro X hX
  by_cases hf : ws.length < 400
  · have hT : (ws ++ [tr]).take 400 = ws ++ [tr] := List.take_of_length_le (by simp; omega)
    rw [hT] at hR
    have l1 : ∀ i, i ≤ tr.length → ∀ (h' : bg_G) (j5 : Option bg_V), (∀ k, k ≠ 42 → h' k = h k) → (∀ j : Int, j < ws.length * 7 → h' 42 j = h 42 j) → (∀ (j p : Nat), j < i → tr[j]? = some p → h' 42 (ws.length * 7 + j) = p) → X (23, [oR 41, oR 22, oI (tr.length : Int), oI (sm i (fun j => h (24 + tr[j]?.getD 0) 3)), oI (i : Int), j5], [], (bg_SH n, h'), (0, 0)) := by
      refine lp_up tr.length _ ?_ (fun i hi ih => ?_)
      · intro h' j5 g1 g2 g3
        have e41 : h' 41 5 = ws.length := by rw [g1 41 (by omega)]; exact t1
        have e414 : h' 41 4 = h 41 4 := by rw [g1 41 (by omega)]
        have fin : ∀ h2 : bg_G, h2 = bg_up (bg_up (bg_up h' 43 ws.length tr.length) 44 ws.length (sm tr.length (fun j => h (24 + tr[j]?.getD 0) 3))) 41 5 (ws.length + 1) → Rt none (bg_SH n, h2) := by
          intro h2 e2
          have fr : ∀ k, k ≠ 41 → k ≠ 42 → k ≠ 43 → k ≠ 44 → h2 k = h k := fun k k1 k2 k3 k4 => by
            rw [e2, bg_up_ne k1, bg_up_ne k4, bg_up_ne k3]
            exact g1 k k2
          have x41 : h2 41 5 = ws.length + 1 := by rw [e2, bg_up_self]
          have x414 : h2 41 4 = h 41 4 := by rw [e2, bg_up_nj (by omega), bg_up_ne (by omega), bg_up_ne (by omega), e414]
          have x42 : h2 42 = h' 42 := by rw [e2, bg_up_ne (by omega), bg_up_ne (by omega), bg_up_ne (by omega)]
          have x43 : ∀ w : Nat, w ≠ ws.length → h2 43 w = h 43 w := fun w hw => by rw [e2, bg_up_ne (by omega), bg_up_ne (by omega), bg_up_nj (by omega), g1 43 (by omega)]
          have y43 : h2 43 ws.length = tr.length := by rw [e2, bg_up_ne (by omega), bg_up_ne (by omega), bg_up_self]
          have x44 : ∀ w : Nat, w ≠ ws.length → h2 44 w = h 44 w := fun w hw => by rw [e2, bg_up_ne (by omega), bg_up_nj (by omega), bg_up_ne (by omega), g1 44 (by omega)]
          have y44 : h2 44 ws.length = kS h tr := by rw [e2, bg_up_ne (by omega), bg_up_self]; rfl
          have rw5 : ∀ k, 24 ≤ k → k ≤ 35 → h2 k = h k := fun k a b => fr k (by omega) (by omega) (by omega) (by omega)
          have p12 : ∀ (i p : Nat), tr[i]? = some p → p < 12 := fun i p hi => (htr i p hi).1
          have spl : ∀ (w : Nat) (l : List Nat), (ws ++ [tr])[w]? = some l → (w < ws.length ∧ ws[w]? = some l) ∨ (w = ws.length ∧ l = tr) := fun w l hw => by
            rcases Nat.lt_or_ge w ws.length with hlt | hge
            · rw [List.getElem?_append_left hlt] at hw
              exact Or.inl ⟨hlt, hw⟩
            · rw [List.getElem?_append_right hge] at hw
              have hw0 : w - ws.length < 1 := (List.getElem?_eq_some_iff.mp hw).1
              rw [show w - ws.length = 0 by omega] at hw
              cases hw
              exact Or.inr ⟨by omega, rfl⟩
          refine hR h2 fr ⟨⟨by rw [x41]; simp, by simp; omega, fun w l hw => ?_⟩, ?_, fun w l hw => ?_⟩
          · rcases spl w l hw with ⟨c1, c2⟩ | ⟨rfl, rfl⟩
            · obtain ⟨r1, r2, r3⟩ := t3 w l c2
              refine ⟨r1, by rw [x43 w (by omega)]; exact r2, fun i p hi => ?_⟩
              have : i < l.length := (List.getElem?_eq_some_iff.mp hi).1
              rw [x42, g2 _ (by omega)]
              exact r3 i p hi
            · refine ⟨hl, y43, fun i p hi => ?_⟩
              have : i < l.length := (List.getElem?_eq_some_iff.mp hi).1
              rw [x42]
              exact g3 i p this hi
          · rw [x414]
            refine ⟨t4.1, ?_⟩
            have := t4.2
            simp only [List.length_append, List.length_cons, List.length_nil]
            omega
          · rcases spl w l hw with ⟨c1, c2⟩ | ⟨rfl, rfl⟩
            · obtain ⟨r1, r2⟩ := t5 w l c2
              exact ⟨r1, by rw [x44 w (by omega), r2, kS_fr r1 rw5]⟩
            · exact ⟨p12, by rw [y44, kS_fr p12 rw5]⟩
        iterate 2 (refine hX _ ?_; conv => whnf)
        refine hX _ ?_; conv => whnf
        refine ⟨fun q26 => ?_, fun q26 => ?_⟩
        · try simp (disch := omega) only [bg_w_id, Int.toNat_natCast, rw_land, sh_land, not_true_eq_false, e41, bg_up_ne, kc0, kc1, kc2, kc3, kc4, kc5, kc6, kc7, kc8, kc9, kc10, kc11, kc12, kc13, kc14, kc15, kc16, kc17, kc18, kc19, kc20, kc21, kc22, kc23, kc24, kc25, kc26, kc27, kc28, kc29, kc30, kc31, kc32, kc33] at q26
          iterate 5 (refine hX _ ?_; conv => whnf)
          refine hX _ ?_; conv => whnf
          try (simp (disch := omega) only [bg_w_id, Int.toNat_natCast, rw_land, sh_land, not_true_eq_false, e41, bg_up_ne, kc0, kc1, kc2, kc3, kc4, kc5, kc6, kc7, kc8, kc9, kc10, kc11, kc12, kc13, kc14, kc15, kc16, kc17, kc18, kc19, kc20, kc21, kc22, kc23, kc24, kc25, kc26, kc27, kc28, kc29, kc30, kc31, kc32, kc33]; try conv => whnf)
          refine ⟨by first | omega | (simp (disch := omega) only [bg_w_id, Int.toNat_natCast, rw_land, sh_land, not_true_eq_false, e41, bg_up_ne, kc0, kc1, kc2, kc3, kc4, kc5, kc6, kc7, kc8, kc9, kc10, kc11, kc12, kc13, kc14, kc15, kc16, kc17, kc18, kc19, kc20, kc21, kc22, kc23, kc24, kc25, kc26, kc27, kc28, kc29, kc30, kc31, kc32, kc33]; omega), ?_⟩
          iterate 5 (refine hX _ ?_; conv => whnf)
          refine hX _ ?_; conv => whnf
          try (simp (disch := omega) only [bg_w_id, Int.toNat_natCast, rw_land, sh_land, not_true_eq_false, e41, bg_up_ne, kc0, kc1, kc2, kc3, kc4, kc5, kc6, kc7, kc8, kc9, kc10, kc11, kc12, kc13, kc14, kc15, kc16, kc17, kc18, kc19, kc20, kc21, kc22, kc23, kc24, kc25, kc26, kc27, kc28, kc29, kc30, kc31, kc32, kc33]; try conv => whnf)
          refine ⟨by first | omega | (simp (disch := omega) only [bg_w_id, Int.toNat_natCast, rw_land, sh_land, not_true_eq_false, e41, bg_up_ne, kc0, kc1, kc2, kc3, kc4, kc5, kc6, kc7, kc8, kc9, kc10, kc11, kc12, kc13, kc14, kc15, kc16, kc17, kc18, kc19, kc20, kc21, kc22, kc23, kc24, kc25, kc26, kc27, kc28, kc29, kc30, kc31, kc32, kc33]; omega), ?_⟩
          iterate 6 (refine hX _ ?_; conv => whnf)
          try simp only [kc0, kc1, kc2, kc3, kc4, kc5, kc6, kc7, kc8, kc9, kc10, kc11, kc12, kc13, kc14, kc15, kc16, kc17, kc18, kc19, kc20, kc21, kc22, kc23, kc24, kc25, kc26, kc27, kc28, kc29, kc30, kc31, kc32, kc33]
          refine hX _ ?_; conv => whnf
          refine fin _ ?_
          simp (disch := omega) only [bg_up_ne, e41]
        · exfalso
          (try simp (disch := omega) only [bg_w_id, Int.toNat_natCast, rw_land, sh_land, not_true_eq_false, e41, bg_up_ne, kc0, kc1, kc2, kc3, kc4, kc5, kc6, kc7, kc8, kc9, kc10, kc11, kc12, kc13, kc14, kc15, kc16, kc17, kc18, kc19, kc20, kc21, kc22, kc23, kc24, kc25, kc26, kc27, kc28, kc29, kc30, kc31, kc32, kc33] at q26) <;> (omega)
      · intro h' j5 g1 g2 g3
        have e41 : h' 41 5 = ws.length := by rw [g1 41 (by omega)]; exact t1
        have e45 := g1 45 (by omega)
        obtain ⟨hp12, ei⟩ := htr i _ (List.getElem?_eq_getElem hi)
        have es : sm (i + 1) (fun j => h (24 + tr[j]?.getD 0) 3) = sm i (fun j => h (24 + tr[j]?.getD 0) 3) + h' (24 + tr[i]) 3 := by
          show _ + h (24 + tr[i]?.getD 0) 3 = _
          rw [List.getElem?_eq_getElem hi, g1 (24 + tr[i]) (by omega)]
          rfl
        rw [es] at ih
        iterate 2 (refine hX _ ?_; conv => whnf)
        refine hX _ ?_; conv => whnf
        refine ⟨fun q26 => ?_, fun q26 => ?_⟩
        · exfalso
          (try simp (disch := omega) only [bg_w_id, Int.toNat_natCast, rw_land, sh_land, not_true_eq_false, e41, e45, ei, kc0, kc1, kc2, kc3, kc4, kc5, kc6, kc7, kc8, kc9, kc10, kc11, kc12, kc13, kc14, kc15, kc16, kc17, kc18, kc19, kc20, kc21, kc22, kc23, kc24, kc25, kc26, kc27, kc28, kc29, kc30, kc31, kc32, kc33] at q26) <;> (omega)
        · try simp (disch := omega) only [bg_w_id, Int.toNat_natCast, rw_land, sh_land, not_true_eq_false, e41, e45, ei, kc0, kc1, kc2, kc3, kc4, kc5, kc6, kc7, kc8, kc9, kc10, kc11, kc12, kc13, kc14, kc15, kc16, kc17, kc18, kc19, kc20, kc21, kc22, kc23, kc24, kc25, kc26, kc27, kc28, kc29, kc30, kc31, kc32, kc33] at q26
          iterate 2 (refine hX _ ?_; conv => whnf)
          refine hX _ ?_; conv => whnf
          refine ⟨fun q33 => ?_, fun q33 => ?_⟩
          · exfalso
            (try simp (disch := omega) only [bg_w_id, Int.toNat_natCast, rw_land, sh_land, not_true_eq_false, e41, e45, ei, kc0, kc1, kc2, kc3, kc4, kc5, kc6, kc7, kc8, kc9, kc10, kc11, kc12, kc13, kc14, kc15, kc16, kc17, kc18, kc19, kc20, kc21, kc22, kc23, kc24, kc25, kc26, kc27, kc28, kc29, kc30, kc31, kc32, kc33] at q33) <;> (omega)
          · try simp (disch := omega) only [bg_w_id, Int.toNat_natCast, rw_land, sh_land, not_true_eq_false, e41, e45, ei, kc0, kc1, kc2, kc3, kc4, kc5, kc6, kc7, kc8, kc9, kc10, kc11, kc12, kc13, kc14, kc15, kc16, kc17, kc18, kc19, kc20, kc21, kc22, kc23, kc24, kc25, kc26, kc27, kc28, kc29, kc30, kc31, kc32, kc33] at q33
            iterate 3 (refine hX _ ?_; conv => whnf)
            refine hX _ ?_; conv => whnf
            try (simp (disch := omega) only [bg_w_id, Int.toNat_natCast, rw_land, sh_land, not_true_eq_false, e41, e45, ei]; try conv => whnf)
            refine ⟨by first | omega | (simp (disch := omega) only [bg_w_id, Int.toNat_natCast, rw_land, sh_land, not_true_eq_false, e41, e45, ei]; omega), ?_⟩
            iterate 4 (refine hX _ ?_; conv => whnf)
            refine hX _ ?_; conv => whnf
            try simp (disch := omega) only [bg_w_id, Int.toNat_natCast, rw_land, sh_land, not_true_eq_false, e41, e45, ei]
            refine s_carryingOn d n tr[i] hp12 _ _ ?_
            conv => whnf
            iterate 11 (refine hX _ ?_; conv => whnf)
            refine hX _ ?_; conv => whnf
            try (simp (disch := omega) only [bg_w_id, Int.toNat_natCast, rw_land, sh_land, not_true_eq_false, e41, e45, ei, kc0, kc1, kc2, kc3, kc4, kc5, kc6, kc7, kc8, kc9, kc10, kc11, kc12, kc13, kc14, kc15, kc16, kc17, kc18, kc19, kc20, kc21, kc22, kc23, kc24, kc25, kc26, kc27, kc28, kc29, kc30, kc31, kc32, kc33]; try conv => whnf)
            refine ⟨by first | omega | (simp (disch := omega) only [bg_w_id, Int.toNat_natCast, rw_land, sh_land, not_true_eq_false, e41, e45, ei, kc0, kc1, kc2, kc3, kc4, kc5, kc6, kc7, kc8, kc9, kc10, kc11, kc12, kc13, kc14, kc15, kc16, kc17, kc18, kc19, kc20, kc21, kc22, kc23, kc24, kc25, kc26, kc27, kc28, kc29, kc30, kc31, kc32, kc33]; omega), ?_⟩
            iterate 2 (refine hX _ ?_; conv => whnf)
            try simp only [kc0, kc1, kc2, kc3, kc4, kc5, kc6, kc7, kc8, kc9, kc10, kc11, kc12, kc13, kc14, kc15, kc16, kc17, kc18, kc19, kc20, kc21, kc22, kc23, kc24, kc25, kc26, kc27, kc28, kc29, kc30, kc31, kc32, kc33]
            refine ih _ _ ?_ ?_ ?_
            · intro k hk
              rw [bg_up_ne hk]
              exact g1 k hk
            · intro j hj
              rw [bg_up_nj (by omega)]
              exact g2 j hj
            · intro j p hj hp
              by_cases e : j = i
              · subst e
                rw [bg_up_self]
                rw [List.getElem?_eq_getElem hi] at hp
                cases hp
                rfl
              · rw [bg_up_nj (by omega)]
                exact g3 j p (by omega) hp
    iterate 2 (refine hX _ ?_; conv => whnf)
    try simp only [kc0, kc1, kc2, kc3, kc4, kc5, kc6, kc7, kc8, kc9, kc10, kc11, kc12, kc13, kc14, kc15, kc16, kc17, kc18, kc19, kc20, kc21, kc22, kc23, kc24, kc25, kc26, kc27, kc28, kc29, kc30, kc31, kc32, kc33]
    refine hX _ ?_; conv => whnf
    refine ⟨fun q4 => ?_, fun q4 => ?_⟩
    · exfalso
      (try simp (disch := omega) only [bg_w_id, Int.toNat_natCast, rw_land, sh_land, not_true_eq_false, t1, kc0, kc1, kc2, kc3, kc4, kc5, kc6, kc7, kc8, kc9, kc10, kc11, kc12, kc13, kc14, kc15, kc16, kc17, kc18, kc19, kc20, kc21, kc22, kc23, kc24, kc25, kc26, kc27, kc28, kc29, kc30, kc31, kc32, kc33] at q4) <;> (omega)
    · try simp (disch := omega) only [bg_w_id, Int.toNat_natCast, rw_land, sh_land, not_true_eq_false, t1, kc0, kc1, kc2, kc3, kc4, kc5, kc6, kc7, kc8, kc9, kc10, kc11, kc12, kc13, kc14, kc15, kc16, kc17, kc18, kc19, kc20, kc21, kc22, kc23, kc24, kc25, kc26, kc27, kc28, kc29, kc30, kc31, kc32, kc33] at q4
      iterate 3 (refine hX _ ?_; conv => whnf)
      try simp only [kc0, kc1, kc2, kc3, kc4, kc5, kc6, kc7, kc8, kc9, kc10, kc11, kc12, kc13, kc14, kc15, kc16, kc17, kc18, kc19, kc20, kc21, kc22, kc23, kc24, kc25, kc26, kc27, kc28, kc29, kc30, kc31, kc32, kc33]
      refine hX _ ?_; conv => whnf
      refine ⟨fun q14 => ?_, fun q14 => ?_⟩
      · try simp (disch := omega) only [bg_w_id, Int.toNat_natCast, rw_land, sh_land, not_true_eq_false, t1, kc0, kc1, kc2, kc3, kc4, kc5, kc6, kc7, kc8, kc9, kc10, kc11, kc12, kc13, kc14, kc15, kc16, kc17, kc18, kc19, kc20, kc21, kc22, kc23, kc24, kc25, kc26, kc27, kc28, kc29, kc30, kc31, kc32, kc33] at q14
        iterate 4 (refine hX _ ?_; conv => whnf)
        exact l1 0 (by omega) h _ (fun _ _ => rfl) (fun _ _ => rfl) (fun j p hj => absurd hj (by omega))
      · exfalso
        (try simp (disch := omega) only [bg_w_id, Int.toNat_natCast, rw_land, sh_land, not_true_eq_false, t1, kc0, kc1, kc2, kc3, kc4, kc5, kc6, kc7, kc8, kc9, kc10, kc11, kc12, kc13, kc14, kc15, kc16, kc17, kc18, kc19, kc20, kc21, kc22, kc23, kc24, kc25, kc26, kc27, kc28, kc29, kc30, kc31, kc32, kc33] at q14) <;> (omega)
  · have hT : (ws ++ [tr]).take 400 = ws := by
      rw [List.take_append_of_le_length (by omega)]
      exact List.take_of_length_le (by omega)
    rw [hT] at hR
    iterate 2 (refine hX _ ?_; conv => whnf)
    try simp only [kc0, kc1, kc2, kc3, kc4, kc5, kc6, kc7, kc8, kc9, kc10, kc11, kc12, kc13, kc14, kc15, kc16, kc17, kc18, kc19, kc20, kc21, kc22, kc23, kc24, kc25, kc26, kc27, kc28, kc29, kc30, kc31, kc32, kc33]
    refine hX _ ?_; conv => whnf
    refine ⟨fun q4 => ?_, fun q4 => ?_⟩
    · exfalso
      (try simp (disch := omega) only [bg_w_id, Int.toNat_natCast, rw_land, sh_land, not_true_eq_false, t1, kc0, kc1, kc2, kc3, kc4, kc5, kc6, kc7, kc8, kc9, kc10, kc11, kc12, kc13, kc14, kc15, kc16, kc17, kc18, kc19, kc20, kc21, kc22, kc23, kc24, kc25, kc26, kc27, kc28, kc29, kc30, kc31, kc32, kc33] at q4) <;> (omega)
    · try simp (disch := omega) only [bg_w_id, Int.toNat_natCast, rw_land, sh_land, not_true_eq_false, t1, kc0, kc1, kc2, kc3, kc4, kc5, kc6, kc7, kc8, kc9, kc10, kc11, kc12, kc13, kc14, kc15, kc16, kc17, kc18, kc19, kc20, kc21, kc22, kc23, kc24, kc25, kc26, kc27, kc28, kc29, kc30, kc31, kc32, kc33] at q4
      iterate 3 (refine hX _ ?_; conv => whnf)
      try simp only [kc0, kc1, kc2, kc3, kc4, kc5, kc6, kc7, kc8, kc9, kc10, kc11, kc12, kc13, kc14, kc15, kc16, kc17, kc18, kc19, kc20, kc21, kc22, kc23, kc24, kc25, kc26, kc27, kc28, kc29, kc30, kc31, kc32, kc33]
      refine hX _ ?_; conv => whnf
      refine ⟨fun q14 => ?_, fun q14 => ?_⟩
      · exfalso
        (try simp (disch := omega) only [bg_w_id, Int.toNat_natCast, rw_land, sh_land, not_true_eq_false, t1, kc0, kc1, kc2, kc3, kc4, kc5, kc6, kc7, kc8, kc9, kc10, kc11, kc12, kc13, kc14, kc15, kc16, kc17, kc18, kc19, kc20, kc21, kc22, kc23, kc24, kc25, kc26, kc27, kc28, kc29, kc30, kc31, kc32, kc33] at q14) <;> (omega)
      · try simp (disch := omega) only [bg_w_id, Int.toNat_natCast, rw_land, sh_land, not_true_eq_false, t1, kc0, kc1, kc2, kc3, kc4, kc5, kc6, kc7, kc8, kc9, kc10, kc11, kc12, kc13, kc14, kc15, kc16, kc17, kc18, kc19, kc20, kc21, kc22, kc23, kc24, kc25, kc26, kc27, kc28, kc29, kc30, kc31, kc32, kc33] at q14
        refine hX _ ?_; conv => whnf
        exact hR h (fun _ _ _ _ _ => rfl) ht
theorem s_follow (n : Nat) (h0 : bg_G) (ho : okC h0) : ∀ (k d : Nat) (tr : List Nat) (ws : List (List Nat)) (pl seen : Int) (h : bg_G), tr.length + k = 7 → 0 ≤ pl ∧ pl ≤ 7 → (∀ k, k ≠ 41 → k ≠ 42 → k ≠ 43 → ¬ (44 ≤ k ∧ k ≤ 45) → h k = h0 k) → tbC h ws → (∀ (i p : Nat), tr[i]? = some p → p < 12 ∧ h 45 i = p) → ∀ Rt : bg_R, (∀ h' : bg_G, (∀ k, k ≠ 41 → k ≠ 42 → k ≠ 43 → ¬ (44 ≤ k ∧ k ≤ 45) → h' k = h0 k) → (∀ (i p : Nat), tr[i]? = some p → p < 12 ∧ h' 45 i = p) → tbC h' ((ws ++ (wf (h0 22 3).toNat (fun p => h0 (24 + p) 0) (fun p => h0 (24 + p) 1) k pl seen).map (tr ++ ·)).take 400) → Rt none (bg_SH n, h')) → bg_Ca bg_MS (d + k + 3) 70 [vR 41, vR 22, vI pl, vI seen, vI tr.length] (bg_SH n, h) Rt := by
  obtain ⟨⟨hn, -⟩, hrow, -⟩ := ho
  obtain ⟨N, hN⟩ : ∃ N : Nat, (N : Int) = h0 22 3 := ⟨(h0 22 3).toNat, by omega⟩
  have hN2 : (h0 22 3).toNat = N := by omega
  rw [hN2]
  intro k
  induction k with
  | zero =>
    intro d tr ws pl seen h hk hpl hfr ht htr Rt hR
    by_cases h7 : pl = 7
    · subst h7
      refine bg_ca (cd := cd_X7_follow) rfl rfl ?_
      intro X hX
      iterate 2 (refine hX _ ?_; conv => whnf)
      refine hX _ ?_; conv => whnf
      refine ⟨fun q3 => ?_, fun q3 => ?_⟩
      · exfalso
        (try simp (disch := omega) only [bg_w_id, Int.toNat_natCast, rw_land, sh_land, not_true_eq_false, kc0, kc1, kc2, kc3, kc4, kc5, kc6, kc7, kc8, kc9, kc10, kc11, kc12, kc13, kc14, kc15, kc16, kc17, kc18, kc19, kc20, kc21, kc22, kc23, kc24, kc25, kc26, kc27, kc28, kc29, kc30, kc31, kc32, kc33] at q3) <;> (omega)
      · try simp (disch := omega) only [bg_w_id, Int.toNat_natCast, rw_land, sh_land, not_true_eq_false, kc0, kc1, kc2, kc3, kc4, kc5, kc6, kc7, kc8, kc9, kc10, kc11, kc12, kc13, kc14, kc15, kc16, kc17, kc18, kc19, kc20, kc21, kc22, kc23, kc24, kc25, kc26, kc27, kc28, kc29, kc30, kc31, kc32, kc33] at q3
        iterate 3 (refine hX _ ?_; conv => whnf)
        refine hX _ ?_; conv => whnf
        try simp (disch := omega) only [bg_w_id, Int.toNat_natCast, rw_land, sh_land, not_true_eq_false]
        refine s_wadd d n tr ws h ht (by omega) htr _ (fun h' f1 f2 => ?_)
        conv => whnf
        refine hX _ ?_; conv => whnf
        refine hR h' (fun k k1 k2 k3 k4 => by rw [f1 k k1 k2 k3 (by omega)]; exact hfr k k1 k2 k3 k4) (fun i p hi => by rw [f1 45 (by omega) (by omega) (by omega) (by omega)]; exact htr i p hi) ?_
        have e : (wf N (fun p => h0 (24 + p) 0) (fun p => h0 (24 + p) 1) 0 7 seen).map (tr ++ ·) = [tr] := by simp [wf]
        rw [e]
        exact f2
    · refine bg_ca (cd := cd_X7_follow) rfl rfl ?_
      intro X hX
      have hT : ws.take 400 = ws := List.take_of_length_le ht.1.2.1
      have e : (wf N (fun p => h0 (24 + p) 0) (fun p => h0 (24 + p) 1) 0 pl seen).map (tr ++ ·) = [] := by simp [wf, h7]
      rw [e, List.append_nil, hT] at hR
      iterate 2 (refine hX _ ?_; conv => whnf)
      refine hX _ ?_; conv => whnf
      refine ⟨fun q3 => ?_, fun q3 => ?_⟩
      · try simp (disch := omega) only [bg_w_id, Int.toNat_natCast, rw_land, sh_land, not_true_eq_false, kc0, kc1, kc2, kc3, kc4, kc5, kc6, kc7, kc8, kc9, kc10, kc11, kc12, kc13, kc14, kc15, kc16, kc17, kc18, kc19, kc20, kc21, kc22, kc23, kc24, kc25, kc26, kc27, kc28, kc29, kc30, kc31, kc32, kc33] at q3
        iterate 2 (refine hX _ ?_; conv => whnf)
        refine hX _ ?_; conv => whnf
        refine ⟨fun q18 => ?_, fun q18 => ?_⟩
        · exfalso
          (try simp (disch := omega) only [bg_w_id, Int.toNat_natCast, rw_land, sh_land, not_true_eq_false, kc0, kc1, kc2, kc3, kc4, kc5, kc6, kc7, kc8, kc9, kc10, kc11, kc12, kc13, kc14, kc15, kc16, kc17, kc18, kc19, kc20, kc21, kc22, kc23, kc24, kc25, kc26, kc27, kc28, kc29, kc30, kc31, kc32, kc33] at q18) <;> (omega)
        · try simp (disch := omega) only [bg_w_id, Int.toNat_natCast, rw_land, sh_land, not_true_eq_false, kc0, kc1, kc2, kc3, kc4, kc5, kc6, kc7, kc8, kc9, kc10, kc11, kc12, kc13, kc14, kc15, kc16, kc17, kc18, kc19, kc20, kc21, kc22, kc23, kc24, kc25, kc26, kc27, kc28, kc29, kc30, kc31, kc32, kc33] at q18
          refine hX _ ?_; conv => whnf
          exact hR h hfr htr ht
      · exfalso
        (try simp (disch := omega) only [bg_w_id, Int.toNat_natCast, rw_land, sh_land, not_true_eq_false, kc0, kc1, kc2, kc3, kc4, kc5, kc6, kc7, kc8, kc9, kc10, kc11, kc12, kc13, kc14, kc15, kc16, kc17, kc18, kc19, kc20, kc21, kc22, kc23, kc24, kc25, kc26, kc27, kc28, kc29, kc30, kc31, kc32, kc33] at q3) <;> (omega)
  | succ k ihk =>
    intro d tr ws pl seen h hk hpl hfr ht htr Rt hR
    by_cases h7 : pl = 7
    · subst h7
      rw [show d + (k + 1) + 3 = (d + k + 1) + 3 by omega]
      refine bg_ca (cd := cd_X7_follow) rfl rfl ?_
      intro X hX
      iterate 2 (refine hX _ ?_; conv => whnf)
      refine hX _ ?_; conv => whnf
      refine ⟨fun q3 => ?_, fun q3 => ?_⟩
      · exfalso
        (try simp (disch := omega) only [bg_w_id, Int.toNat_natCast, rw_land, sh_land, not_true_eq_false, kc0, kc1, kc2, kc3, kc4, kc5, kc6, kc7, kc8, kc9, kc10, kc11, kc12, kc13, kc14, kc15, kc16, kc17, kc18, kc19, kc20, kc21, kc22, kc23, kc24, kc25, kc26, kc27, kc28, kc29, kc30, kc31, kc32, kc33] at q3) <;> (omega)
      · try simp (disch := omega) only [bg_w_id, Int.toNat_natCast, rw_land, sh_land, not_true_eq_false, kc0, kc1, kc2, kc3, kc4, kc5, kc6, kc7, kc8, kc9, kc10, kc11, kc12, kc13, kc14, kc15, kc16, kc17, kc18, kc19, kc20, kc21, kc22, kc23, kc24, kc25, kc26, kc27, kc28, kc29, kc30, kc31, kc32, kc33] at q3
        iterate 3 (refine hX _ ?_; conv => whnf)
        refine hX _ ?_; conv => whnf
        try simp (disch := omega) only [bg_w_id, Int.toNat_natCast, rw_land, sh_land, not_true_eq_false]
        refine s_wadd (d + k + 1) n tr ws h ht (by omega) htr _ (fun h' f1 f2 => ?_)
        conv => whnf
        refine hX _ ?_; conv => whnf
        refine hR h' (fun k k1 k2 k3 k4 => by rw [f1 k k1 k2 k3 (by omega)]; exact hfr k k1 k2 k3 k4) (fun i p hi => by rw [f1 45 (by omega) (by omega) (by omega) (by omega)]; exact htr i p hi) ?_
        have e : (wf N (fun p => h0 (24 + p) 0) (fun p => h0 (24 + p) 1) (k + 1) 7 seen).map (tr ++ ·) = [tr] := by simp [wf]
        rw [e]
        exact f2
    · have ew : wf N (fun p => h0 (24 + p) 0) (fun p => h0 (24 + p) 1) (k + 1) pl seen = (List.range N).flatMap (fun p => if h0 (24 + p) 0 = pl ∧ bt seen (h0 (24 + p) 1) = 0 then (wf N (fun p => h0 (24 + p) 0) (fun p => h0 (24 + p) 1) k (h0 (24 + p) 1) (bg_or seen (bg_shl 1 (h0 (24 + p) 1)))).map (p :: ·) else []) := by simp [wf, h7]
      rw [ew] at hR
      rw [show d + (k + 1) + 3 = (d + k + 3) + 1 by omega]
      refine bg_ca (cd := cd_X7_follow) rfl rfl ?_
      intro X hX
      obtain ⟨g, hg⟩ : ∃ g : Nat → List (List Nat), g = fun p => (if h0 (24 + p) 0 = pl ∧ bt seen (h0 (24 + p) 1) = 0 then (wf N (fun p => h0 (24 + p) 0) (fun p => h0 (24 + p) 1) k (h0 (24 + p) 1) (bg_or seen (bg_shl 1 (h0 (24 + p) 1)))).map (p :: ·) else []) := ⟨_, rfl⟩
      rw [← hg] at hR
      have l1 : ∀ p, p ≤ N → ∀ (h' : bg_G) (j6 : Option bg_V), (∀ k, k ≠ 41 → k ≠ 42 → k ≠ 43 → ¬ (44 ≤ k ∧ k ≤ 45) → h' k = h0 k) → (∀ (i p : Nat), tr[i]? = some p → p < 12 ∧ h' 45 i = p) → tbC h' ((ws ++ ((List.range p).flatMap g).map (tr ++ ·)).take 400) → X (25, [oR 41, oR 22, oI pl, oI seen, oI (tr.length : Int), oI (p : Int), j6], [], (bg_SH n, h'), (0, 0)) := by
        refine lp_up N _ ?_ (fun p hp ih => ?_)
        · intro h' j6 f1 f2 f3
          have e22 := f1 22 (by omega) (by omega) (by omega) (by omega)
          iterate 3 (refine hX _ ?_; conv => whnf)
          try simp only [kc0, kc1, kc2, kc3, kc4, kc5, kc6, kc7, kc8, kc9, kc10, kc11, kc12, kc13, kc14, kc15, kc16, kc17, kc18, kc19, kc20, kc21, kc22, kc23, kc24, kc25, kc26, kc27, kc28, kc29, kc30, kc31, kc32, kc33]
          refine hX _ ?_; conv => whnf
          refine ⟨fun q31 => ?_, fun q31 => ?_⟩
          · try simp (disch := omega) only [bg_w_id, Int.toNat_natCast, rw_land, sh_land, not_true_eq_false, e22, kc0, kc1, kc2, kc3, kc4, kc5, kc6, kc7, kc8, kc9, kc10, kc11, kc12, kc13, kc14, kc15, kc16, kc17, kc18, kc19, kc20, kc21, kc22, kc23, kc24, kc25, kc26, kc27, kc28, kc29, kc30, kc31, kc32, kc33] at q31
            refine hX _ ?_; conv => whnf
            exact hR h' f1 f2 f3
          · exfalso
            (try simp (disch := omega) only [bg_w_id, Int.toNat_natCast, rw_land, sh_land, not_true_eq_false, e22, kc0, kc1, kc2, kc3, kc4, kc5, kc6, kc7, kc8, kc9, kc10, kc11, kc12, kc13, kc14, kc15, kc16, kc17, kc18, kc19, kc20, kc21, kc22, kc23, kc24, kc25, kc26, kc27, kc28, kc29, kc30, kc31, kc32, kc33] at q31) <;> (omega)
        · intro h' j6 f1 f2 f3
          have e22 := f1 22 (by omega) (by omega) (by omega) (by omega)
          have er := f1 (24 + p) (by omega) (by omega) (by omega) (by omega)
          have hr := hrow p (by omega)
          have es : (List.range (p + 1)).flatMap g = (List.range p).flatMap g ++ g p := by rw [List.range_succ, List.flatMap_append]; simp
          have egp : g p = (if h0 (24 + p) 0 = pl ∧ bt seen (h0 (24 + p) 1) = 0 then (wf N (fun p => h0 (24 + p) 0) (fun p => h0 (24 + p) 1) k (h0 (24 + p) 1) (bg_or seen (bg_shl 1 (h0 (24 + p) 1)))).map (p :: ·) else []) := by rw [hg]
          iterate 3 (refine hX _ ?_; conv => whnf)
          try simp only [kc0, kc1, kc2, kc3, kc4, kc5, kc6, kc7, kc8, kc9, kc10, kc11, kc12, kc13, kc14, kc15, kc16, kc17, kc18, kc19, kc20, kc21, kc22, kc23, kc24, kc25, kc26, kc27, kc28, kc29, kc30, kc31, kc32, kc33]
          refine hX _ ?_; conv => whnf
          refine ⟨fun q31 => ?_, fun q31 => ?_⟩
          · exfalso
            (try simp (disch := omega) only [bg_w_id, Int.toNat_natCast, rw_land, sh_land, not_true_eq_false, e22, er, kc0, kc1, kc2, kc3, kc4, kc5, kc6, kc7, kc8, kc9, kc10, kc11, kc12, kc13, kc14, kc15, kc16, kc17, kc18, kc19, kc20, kc21, kc22, kc23, kc24, kc25, kc26, kc27, kc28, kc29, kc30, kc31, kc32, kc33] at q31) <;> (omega)
          · try simp (disch := omega) only [bg_w_id, Int.toNat_natCast, rw_land, sh_land, not_true_eq_false, e22, er, kc0, kc1, kc2, kc3, kc4, kc5, kc6, kc7, kc8, kc9, kc10, kc11, kc12, kc13, kc14, kc15, kc16, kc17, kc18, kc19, kc20, kc21, kc22, kc23, kc24, kc25, kc26, kc27, kc28, kc29, kc30, kc31, kc32, kc33] at q31
            iterate 2 (refine hX _ ?_; conv => whnf)
            refine hX _ ?_; conv => whnf
            refine ⟨fun q38 => ?_, fun q38 => ?_⟩
            · exfalso
              (try simp (disch := omega) only [bg_w_id, Int.toNat_natCast, rw_land, sh_land, not_true_eq_false, e22, er, kc0, kc1, kc2, kc3, kc4, kc5, kc6, kc7, kc8, kc9, kc10, kc11, kc12, kc13, kc14, kc15, kc16, kc17, kc18, kc19, kc20, kc21, kc22, kc23, kc24, kc25, kc26, kc27, kc28, kc29, kc30, kc31, kc32, kc33] at q38) <;> (omega)
            · try simp (disch := omega) only [bg_w_id, Int.toNat_natCast, rw_land, sh_land, not_true_eq_false, e22, er, kc0, kc1, kc2, kc3, kc4, kc5, kc6, kc7, kc8, kc9, kc10, kc11, kc12, kc13, kc14, kc15, kc16, kc17, kc18, kc19, kc20, kc21, kc22, kc23, kc24, kc25, kc26, kc27, kc28, kc29, kc30, kc31, kc32, kc33] at q38
              iterate 3 (refine hX _ ?_; conv => whnf)
              refine hX _ ?_; conv => whnf
              try (simp (disch := omega) only [bg_w_id, Int.toNat_natCast, rw_land, sh_land, not_true_eq_false, e22, er]; try conv => whnf)
              refine ⟨by first | omega | (simp (disch := omega) only [bg_w_id, Int.toNat_natCast, rw_land, sh_land, not_true_eq_false, e22, er]; omega), ?_⟩
              try (simp (disch := omega) only [bg_w_id, Int.toNat_natCast, rw_land, sh_land, not_true_eq_false, e22, er])
              try conv => whnf
              refine hX _ ?_; conv => whnf
              refine hX _ ?_; conv => whnf
              try (simp (disch := omega) only [bg_w_id, Int.toNat_natCast, rw_land, sh_land, not_true_eq_false, e22, er]; try conv => whnf)
              refine ⟨by first | omega | (simp (disch := omega) only [bg_w_id, Int.toNat_natCast, rw_land, sh_land, not_true_eq_false, e22, er]; omega), ?_⟩
              iterate 4 (refine hX _ ?_; conv => whnf)
              refine hX _ ?_; conv => whnf
              try (simp (disch := omega) only [bg_w_id, Int.toNat_natCast, rw_land, sh_land, not_true_eq_false, e22, er]; try conv => whnf)
              refine ⟨by first | omega | (simp (disch := omega) only [bg_w_id, Int.toNat_natCast, rw_land, sh_land, not_true_eq_false, e22, er]; omega), ?_⟩
              try (simp (disch := omega) only [bg_w_id, Int.toNat_natCast, rw_land, sh_land, not_true_eq_false, e22, er])
              try conv => whnf
              refine hX _ ?_; conv => whnf
              refine hX _ ?_; conv => whnf
              try (simp (disch := omega) only [bg_w_id, Int.toNat_natCast, rw_land, sh_land, not_true_eq_false, e22, er]; try conv => whnf)
              refine ⟨by first | omega | (simp (disch := omega) only [bg_w_id, Int.toNat_natCast, rw_land, sh_land, not_true_eq_false, e22, er]; omega), ?_⟩
              refine hX _ ?_; conv => whnf
              refine hX _ ?_; conv => whnf
              refine ⟨fun q62 => ?_, fun q62 => ?_⟩
              · try simp (disch := omega) only [bg_w_id, Int.toNat_natCast, rw_land, sh_land, not_true_eq_false, e22, er, kc0, kc1, kc2, kc3, kc4, kc5, kc6, kc7, kc8, kc9, kc10, kc11, kc12, kc13, kc14, kc15, kc16, kc17, kc18, kc19, kc20, kc21, kc22, kc23, kc24, kc25, kc26, kc27, kc28, kc29, kc30, kc31, kc32, kc33] at q62
                iterate 2 (refine hX _ ?_; conv => whnf)
                first
                | (refine ih h2 _ u1 (fun i q hq => u2 i q (by rw [List.getElem?_append_left (List.getElem?_eq_some_iff.mp hq).1]; exact hq)) ?_
                   rw [es, egp, if_pos ⟨q62, q71⟩]
                   rw [List.map_append, ← List.append_assoc]
                   rw [List.map_map]
                   have e3 : ((fun x => tr ++ x) ∘ fun x => p :: x) = fun x => (tr ++ [p]) ++ x := by funext x; simp
                   rw [e3]
                   rw [← take_app]
                   exact u3)
                | (refine ih h' _ f1 f2 ?_
                   rw [es, egp, if_neg (fun c => by first | exact q62 c.1 | exact q71 c.2), List.append_nil]
                   exact f3)
              · try simp (disch := omega) only [bg_w_id, Int.toNat_natCast, rw_land, sh_land, not_true_eq_false, e22, er, kc0, kc1, kc2, kc3, kc4, kc5, kc6, kc7, kc8, kc9, kc10, kc11, kc12, kc13, kc14, kc15, kc16, kc17, kc18, kc19, kc20, kc21, kc22, kc23, kc24, kc25, kc26, kc27, kc28, kc29, kc30, kc31, kc32, kc33] at q62
                iterate 5 (refine hX _ ?_; conv => whnf)
                refine hX _ ?_; conv => whnf
                refine ⟨fun q71 => ?_, fun q71 => ?_⟩
                · try simp (disch := omega) only [bg_w_id, Int.toNat_natCast, rw_land, sh_land, not_true_eq_false, e22, er, kc0, kc1, kc2, kc3, kc4, kc5, kc6, kc7, kc8, kc9, kc10, kc11, kc12, kc13, kc14, kc15, kc16, kc17, kc18, kc19, kc20, kc21, kc22, kc23, kc24, kc25, kc26, kc27, kc28, kc29, kc30, kc31, kc32, kc33] at q71
                  have q71 : ¬ bg_w (bt seen (h0 (24 + p) 1)) = 0 := q71
                  rw [bt_w] at q71
                  iterate 2 (refine hX _ ?_; conv => whnf)
                  first
                  | (refine ih h2 _ u1 (fun i q hq => u2 i q (by rw [List.getElem?_append_left (List.getElem?_eq_some_iff.mp hq).1]; exact hq)) ?_
                     rw [es, egp, if_pos ⟨q62, q71⟩]
                     rw [List.map_append, ← List.append_assoc]
                     rw [List.map_map]
                     have e3 : ((fun x => tr ++ x) ∘ fun x => p :: x) = fun x => (tr ++ [p]) ++ x := by funext x; simp
                     rw [e3]
                     rw [← take_app]
                     exact u3)
                  | (refine ih h' _ f1 f2 ?_
                     rw [es, egp, if_neg (fun c => by first | exact q62 c.1 | exact q71 c.2), List.append_nil]
                     exact f3)
                · try simp (disch := omega) only [bg_w_id, Int.toNat_natCast, rw_land, sh_land, not_true_eq_false, e22, er, kc0, kc1, kc2, kc3, kc4, kc5, kc6, kc7, kc8, kc9, kc10, kc11, kc12, kc13, kc14, kc15, kc16, kc17, kc18, kc19, kc20, kc21, kc22, kc23, kc24, kc25, kc26, kc27, kc28, kc29, kc30, kc31, kc32, kc33] at q71
                  have q71 : bg_w (bt seen (h0 (24 + p) 1)) = 0 := q71
                  rw [bt_w] at q71
                  iterate 4 (refine hX _ ?_; conv => whnf)
                  refine hX _ ?_; conv => whnf
                  try (simp (disch := omega) only [bg_w_id, Int.toNat_natCast, rw_land, sh_land, not_true_eq_false, e22, er]; try conv => whnf)
                  refine ⟨by first | omega | (simp (disch := omega) only [bg_w_id, Int.toNat_natCast, rw_land, sh_land, not_true_eq_false, e22, er]; omega), ?_⟩
                  iterate 11 (refine hX _ ?_; conv => whnf)
                  refine hX _ ?_; conv => whnf
                  try simp (disch := omega) only [bg_w_id, Int.toNat_natCast, rw_land, sh_land, not_true_eq_false, e22, er]
                  have hlen : (tr.length : Int) + 1 = ((tr ++ [p]).length : Nat) := by simp
                  rw [hlen]
                  refine ihk d (tr ++ [p]) ((ws ++ ((List.range p).flatMap g).map (tr ++ ·)).take 400) _ _ _ (by simp; omega) (by omega) ?_ ?_ ?_ _ (fun h2 u1 u2 u3 => ?_)
                  · intro k' k1 k2 k3 k4
                    rw [bg_up_ne (by omega)]
                    exact f1 k' k1 k2 k3 k4
                  · exact tbC_fr (bg_up_ne (by omega)) (bg_up_ne (by omega)) (bg_up_ne (by omega)) (bg_up_ne (by omega)) (fun k a b => bg_up_ne (by omega)) f3
                  · intro i q hq
                    rcases Nat.lt_or_ge i tr.length with hlt | hge
                    · rw [List.getElem?_append_left hlt] at hq
                      rw [bg_up_nj (by omega)]
                      exact f2 i q hq
                    · rw [List.getElem?_append_right hge] at hq
                      have hw0 : i - tr.length < 1 := (List.getElem?_eq_some_iff.mp hq).1
                      rw [show i - tr.length = 0 by omega] at hq
                      cases hq
                      exact ⟨by omega, by rw [show i = tr.length by omega, bg_up_self]⟩
                  conv => whnf
                  iterate 2 (refine hX _ ?_; conv => whnf)
                  first
                  | (refine ih h2 _ u1 (fun i q hq => u2 i q (by rw [List.getElem?_append_left (List.getElem?_eq_some_iff.mp hq).1]; exact hq)) ?_
                     rw [es, egp, if_pos ⟨q62, q71⟩]
                     rw [List.map_append, ← List.append_assoc]
                     rw [List.map_map]
                     have e3 : ((fun x => tr ++ x) ∘ fun x => p :: x) = fun x => (tr ++ [p]) ++ x := by funext x; simp
                     rw [e3]
                     rw [← take_app]
                     exact u3)
                  | (refine ih h' _ f1 f2 ?_
                     rw [es, egp, if_neg (fun c => by first | exact q62 c.1 | exact q71 c.2), List.append_nil]
                     exact f3)
      iterate 2 (refine hX _ ?_; conv => whnf)
      refine hX _ ?_; conv => whnf
      refine ⟨fun q3 => ?_, fun q3 => ?_⟩
      · try simp (disch := omega) only [bg_w_id, Int.toNat_natCast, rw_land, sh_land, not_true_eq_false, kc0, kc1, kc2, kc3, kc4, kc5, kc6, kc7, kc8, kc9, kc10, kc11, kc12, kc13, kc14, kc15, kc16, kc17, kc18, kc19, kc20, kc21, kc22, kc23, kc24, kc25, kc26, kc27, kc28, kc29, kc30, kc31, kc32, kc33] at q3
        iterate 2 (refine hX _ ?_; conv => whnf)
        refine hX _ ?_; conv => whnf
        refine ⟨fun q18 => ?_, fun q18 => ?_⟩
        · try simp (disch := omega) only [bg_w_id, Int.toNat_natCast, rw_land, sh_land, not_true_eq_false, kc0, kc1, kc2, kc3, kc4, kc5, kc6, kc7, kc8, kc9, kc10, kc11, kc12, kc13, kc14, kc15, kc16, kc17, kc18, kc19, kc20, kc21, kc22, kc23, kc24, kc25, kc26, kc27, kc28, kc29, kc30, kc31, kc32, kc33] at q18
          iterate 2 (refine hX _ ?_; conv => whnf)
          have hT : (ws ++ ((List.range 0).flatMap g).map (tr ++ ·)).take 400 = ws := by simpa using List.take_of_length_le ht.1.2.1
          exact l1 0 (by omega) h _ hfr htr (by rw [hT]; exact ht)
        · exfalso
          (try simp (disch := omega) only [bg_w_id, Int.toNat_natCast, rw_land, sh_land, not_true_eq_false, kc0, kc1, kc2, kc3, kc4, kc5, kc6, kc7, kc8, kc9, kc10, kc11, kc12, kc13, kc14, kc15, kc16, kc17, kc18, kc19, kc20, kc21, kc22, kc23, kc24, kc25, kc26, kc27, kc28, kc29, kc30, kc31, kc32, kc33] at q18) <;> (omega)
      · exfalso
        (try simp (disch := omega) only [bg_w_id, Int.toNat_natCast, rw_land, sh_land, not_true_eq_false, kc0, kc1, kc2, kc3, kc4, kc5, kc6, kc7, kc8, kc9, kc10, kc11, kc12, kc13, kc14, kc15, kc16, kc17, kc18, kc19, kc20, kc21, kc22, kc23, kc24, kc25, kc26, kc27, kc28, kc29, kc30, kc31, kc32, kc33] at q3) <;> (omega)
