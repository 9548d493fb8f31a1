/-! the walk of the law -/
theorem sw_all {v : Int} {d : Nat} {K : Nat → Prop} (hd : K d) : ∀ (l : List (Int × Nat)), (∀ q, q ∈ l → K q.2) → bg_sw v d K l
  | [], _ => hd
  | (_, _) :: l, h => ⟨fun _ => h _ List.mem_cons_self, fun _ => sw_all hd l (fun q hq => h q (List.mem_cons_of_mem _ hq))⟩
theorem cmp_self (x : Int) : bg_w (bg_Cmp x x) = 0 := by
  unfold bg_Cmp
  rw [if_neg (by omega), if_pos rfl]
  exact bg_w_id (by omega) (by omega)
theorem J_SH (n : Nat) (h : bg_G) : bg_J n (h 0) (bg_SH n, h) := ⟨⟨[], rfl⟩, rfl⟩
theorem opi_s {n dC iC : Nat} {aC : List bg_V} {dM iM : Nat} {aM : List bg_V} {h : bg_G} (o : OPI n dC iC aC dM iM aM h) (f : Int → Int) (hf : h 0 = f) (D : Nat) (hC : dC ≤ D) (hM : dM ≤ D) (Rt : bg_R) (k : ∀ (x : Int) (h1 : bg_G), h1 0 = f → (∀ R2 : bg_R, (∀ h2 : bg_G, INV h2 → h2 0 = f → R2 (some (.inl x)) (bg_SH n, h2)) → bg_Ca bg_MS D iM aM (bg_SH n, h1) R2) → Rt (some (.inl x)) (bg_SH n, h1)) : bg_Ca bg_MS D iC aC (bg_SH n, h) Rt := by
  subst hf
  have a := o (D - dC) (fun r H => ∃ (x : Int) (h1 : bg_G), r = some (.inl x) ∧ H = (bg_SH n, h1) ∧ (∀ (d2 : Nat) (R2 : bg_R), (∀ h2 : bg_G, INV h2 → R2 (some (.inl x)) (bg_SH n, h2)) → bg_Ca bg_MS (d2 + dM) iM aM (bg_SH n, h1) R2)) (fun x h1 kk => ⟨x, h1, rfl, rfl, kk⟩)
  rw [Nat.sub_add_cancel hC] at a
  refine bg_CaJ D iC aC _ _ Rt a (J_SH n h) ?_
  rintro r H' ⟨x, h1, rfl, rfl, kk⟩ hj
  refine k x h1 hj.2 (fun R2 hR2 => ?_)
  have b := kk (D - dM) (fun r H => ∃ h2 : bg_G, r = some (.inl x) ∧ H = (bg_SH n, h2) ∧ INV h2) (fun h2 hI => ⟨h2, rfl, rfl, hI⟩)
  rw [Nat.sub_add_cancel hM] at b
  refine bg_CaJ D iM aM _ _ R2 b hj ?_
  rintro r H' ⟨h2, rfl, rfl, hI⟩ hj2
  exact hR2 h2 hI hj2.2
theorem opl_s {n dC iC : Nat} {aC : List bg_V} {dM iM : Nat} {aM : List bg_V} {h : bg_G} (o : OPL n dC iC aC dM iM aM h) (f : Int → Int) (hf : h 0 = f) (D : Nat) (hC : dC ≤ D) (hM : dM ≤ D) (Rt : bg_R) (k : ∀ (x : Int) (h1 : bg_G), h1 0 = f → (∀ R2 : bg_R, (∀ h2 : bg_G, INV h2 → h2 0 = f → R2 (some (.inr (.inl x))) (bg_SH n, h2)) → bg_Ca bg_MS D iM aM (bg_SH n, h1) R2) → Rt (some (.inr (.inl x))) (bg_SH n, h1)) : bg_Ca bg_MS D iC aC (bg_SH n, h) Rt := by
  subst hf
  have a := o (D - dC) (fun r H => ∃ (x : Int) (h1 : bg_G), r = some (.inr (.inl x)) ∧ H = (bg_SH n, h1) ∧ (∀ (d2 : Nat) (R2 : bg_R), (∀ h2 : bg_G, INV h2 → R2 (some (.inr (.inl x))) (bg_SH n, h2)) → bg_Ca bg_MS (d2 + dM) iM aM (bg_SH n, h1) R2)) (fun x h1 kk => ⟨x, h1, rfl, rfl, kk⟩)
  rw [Nat.sub_add_cancel hC] at a
  refine bg_CaJ D iC aC _ _ Rt a (J_SH n h) ?_
  rintro r H' ⟨x, h1, rfl, rfl, kk⟩ hj
  refine k x h1 hj.2 (fun R2 hR2 => ?_)
  have b := kk (D - dM) (fun r H => ∃ h2 : bg_G, r = some (.inr (.inl x)) ∧ H = (bg_SH n, h2) ∧ INV h2) (fun h2 hI => ⟨h2, rfl, rfl, hI⟩)
  rw [Nat.sub_add_cancel hM] at b
  refine bg_CaJ D iM aM _ _ R2 b hj ?_
  rintro r H' ⟨h2, rfl, rfl, hI⟩ hj2
  exact hR2 h2 hI hj2.2
theorem br_write {X : bg_F → Prop} (n D : Nat) (hD : 13 ≤ D) (hX : ∀ g, bg_st (bg_Ca bg_MS D) cd_L_law (600000, 7302250) g X (fun r _ => r = some (.inl 1)) → X g) (hn : n ≤ 2147483647) (f : Int → Int) (hf : ∀ j, i32 (f j)) (i : Nat) (hi : i + 4 ≤ n) (h : bg_G) (hI : INV h) (e0 : h 0 = f) (nx : ∀ h2 : bg_G, INV h2 → h2 0 = f → X (1011, [oR 0, oR 2, oR 115, oI (i : Int)], [], (bg_SH n, h2), (138, 29941))) : X (168, [oR 0, oR 2, oR 115, oI (i : Int)], [], (bg_SH n, h), (138, 29941)) := by
  iterate 5 (refine hX _ ?_; conv => whnf)
  refine hX _ ?_; conv => whnf
  try (simp (disch := omega) only [bg_w_id, Int.toNat_natCast, rw_land, sh_land, not_true_eq_false, e0]; try conv => whnf)
  refine ⟨by first | omega | (simp (disch := omega) only [bg_w_id, Int.toNat_natCast, rw_land, sh_land, not_true_eq_false, e0]; omega), ?_⟩
  iterate 4 (refine hX _ ?_; conv => whnf)
  refine hX _ ?_; conv => whnf
  try (simp (disch := omega) only [bg_w_id, Int.toNat_natCast, rw_land, sh_land, not_true_eq_false, e0]; try conv => whnf)
  refine ⟨by first | omega | (simp (disch := omega) only [bg_w_id, Int.toNat_natCast, rw_land, sh_land, not_true_eq_false, e0]; omega), ?_⟩
  iterate 7 (refine hX _ ?_; conv => whnf)
  refine hX _ ?_; conv => whnf
  try (simp (disch := omega) only [bg_w_id, Int.toNat_natCast, rw_land, sh_land, not_true_eq_false, e0]; try conv => whnf)
  refine ⟨by first | omega | (simp (disch := omega) only [bg_w_id, Int.toNat_natCast, rw_land, sh_land, not_true_eq_false, e0]; omega), ?_⟩
  iterate 4 (refine hX _ ?_; conv => whnf)
  try simp (disch := omega) only [bg_w_id, Int.toNat_natCast, rw_land, sh_land, not_true_eq_false, e0]
  refine hX _ ?_; conv => whnf
  refine opi_s (op_write n h hI _ _ (hf _)) f e0 D (by omega) (by omega) _ (fun x h1 e1 kk => ?_)
  conv => whnf
  iterate 5 (refine hX _ ?_; conv => whnf)
  refine hX _ ?_; conv => whnf
  try (simp (disch := omega) only [bg_w_id, Int.toNat_natCast, rw_land, sh_land, not_true_eq_false, e1]; try conv => whnf)
  refine ⟨by first | omega | (simp (disch := omega) only [bg_w_id, Int.toNat_natCast, rw_land, sh_land, not_true_eq_false, e1]; omega), ?_⟩
  iterate 4 (refine hX _ ?_; conv => whnf)
  refine hX _ ?_; conv => whnf
  try (simp (disch := omega) only [bg_w_id, Int.toNat_natCast, rw_land, sh_land, not_true_eq_false, e1]; try conv => whnf)
  refine ⟨by first | omega | (simp (disch := omega) only [bg_w_id, Int.toNat_natCast, rw_land, sh_land, not_true_eq_false, e1]; omega), ?_⟩
  iterate 7 (refine hX _ ?_; conv => whnf)
  refine hX _ ?_; conv => whnf
  try (simp (disch := omega) only [bg_w_id, Int.toNat_natCast, rw_land, sh_land, not_true_eq_false, e1]; try conv => whnf)
  refine ⟨by first | omega | (simp (disch := omega) only [bg_w_id, Int.toNat_natCast, rw_land, sh_land, not_true_eq_false, e1]; omega), ?_⟩
  iterate 4 (refine hX _ ?_; conv => whnf)
  try simp (disch := omega) only [bg_w_id, Int.toNat_natCast, rw_land, sh_land, not_true_eq_false, e1]
  refine hX _ ?_; conv => whnf
  refine kk _ (fun h2 hI2 e2 => ?_)
  conv => whnf
  refine hX _ ?_; conv => whnf
  refine ⟨fun _ => ?_, fun q => absurd rfl q⟩
  exact nx h2 hI2 e2
theorem br_wipe {X : bg_F → Prop} (n D : Nat) (hD : 13 ≤ D) (hX : ∀ g, bg_st (bg_Ca bg_MS D) cd_L_law (600000, 7302250) g X (fun r _ => r = some (.inl 1)) → X g) (hn : n ≤ 2147483647) (f : Int → Int) (hf : ∀ j, i32 (f j)) (i : Nat) (hi : i + 4 ≤ n) (h : bg_G) (hI : INV h) (e0 : h 0 = f) (nx : ∀ h2 : bg_G, INV h2 → h2 0 = f → X (1011, [oR 0, oR 2, oR 115, oI (i : Int)], [], (bg_SH n, h2), (138, 29941))) : X (231, [oR 0, oR 2, oR 115, oI (i : Int)], [], (bg_SH n, h), (138, 29941)) := by
  refine hX _ ?_; conv => whnf
  refine hX _ ?_; conv => whnf
  refine opi_s (op_wipe n h hI  ) f e0 D (by omega) (by omega) _ (fun x h1 e1 kk => ?_)
  conv => whnf
  refine hX _ ?_; conv => whnf
  refine hX _ ?_; conv => whnf
  refine kk _ (fun h2 hI2 e2 => ?_)
  conv => whnf
  refine hX _ ?_; conv => whnf
  refine ⟨fun _ => ?_, fun q => absurd rfl q⟩
  exact nx h2 hI2 e2
theorem br_fault {X : bg_F → Prop} (n D : Nat) (hD : 13 ≤ D) (hX : ∀ g, bg_st (bg_Ca bg_MS D) cd_L_law (600000, 7302250) g X (fun r _ => r = some (.inl 1)) → X g) (hn : n ≤ 2147483647) (f : Int → Int) (hf : ∀ j, i32 (f j)) (i : Nat) (hi : i + 4 ≤ n) (h : bg_G) (hI : INV h) (e0 : h 0 = f) (nx : ∀ h2 : bg_G, INV h2 → h2 0 = f → X (1011, [oR 0, oR 2, oR 115, oI (i : Int)], [], (bg_SH n, h2), (138, 29941))) : X (244, [oR 0, oR 2, oR 115, oI (i : Int)], [], (bg_SH n, h), (138, 29941)) := by
  refine hX _ ?_; conv => whnf
  refine hX _ ?_; conv => whnf
  refine opi_s (op_fault n h hI  ) f e0 D (by omega) (by omega) _ (fun x h1 e1 kk => ?_)
  conv => whnf
  refine hX _ ?_; conv => whnf
  refine hX _ ?_; conv => whnf
  refine kk _ (fun h2 hI2 e2 => ?_)
  conv => whnf
  refine hX _ ?_; conv => whnf
  refine ⟨fun _ => ?_, fun q => absurd rfl q⟩
  exact nx h2 hI2 e2
theorem br_lay {X : bg_F → Prop} (n D : Nat) (hD : 13 ≤ D) (hX : ∀ g, bg_st (bg_Ca bg_MS D) cd_L_law (600000, 7302250) g X (fun r _ => r = some (.inl 1)) → X g) (hn : n ≤ 2147483647) (f : Int → Int) (hf : ∀ j, i32 (f j)) (i : Nat) (hi : i + 4 ≤ n) (h : bg_G) (hI : INV h) (e0 : h 0 = f) (nx : ∀ h2 : bg_G, INV h2 → h2 0 = f → X (1011, [oR 0, oR 2, oR 115, oI (i : Int)], [], (bg_SH n, h2), (138, 29941))) : X (257, [oR 0, oR 2, oR 115, oI (i : Int)], [], (bg_SH n, h), (138, 29941)) := by
  refine hX _ ?_; conv => whnf
  refine hX _ ?_; conv => whnf
  refine opi_s (op_lay n h hI  ) f e0 D (by omega) (by omega) _ (fun x h1 e1 kk => ?_)
  conv => whnf
  refine hX _ ?_; conv => whnf
  refine hX _ ?_; conv => whnf
  refine kk _ (fun h2 hI2 e2 => ?_)
  conv => whnf
  refine hX _ ?_; conv => whnf
  refine ⟨fun _ => ?_, fun q => absurd rfl q⟩
  exact nx h2 hI2 e2
theorem br_path {X : bg_F → Prop} (n D : Nat) (hD : 13 ≤ D) (hX : ∀ g, bg_st (bg_Ca bg_MS D) cd_L_law (600000, 7302250) g X (fun r _ => r = some (.inl 1)) → X g) (hn : n ≤ 2147483647) (f : Int → Int) (hf : ∀ j, i32 (f j)) (i : Nat) (hi : i + 4 ≤ n) (h : bg_G) (hI : INV h) (e0 : h 0 = f) (nx : ∀ h2 : bg_G, INV h2 → h2 0 = f → X (1011, [oR 0, oR 2, oR 115, oI (i : Int)], [], (bg_SH n, h2), (138, 29941))) : X (270, [oR 0, oR 2, oR 115, oI (i : Int)], [], (bg_SH n, h), (138, 29941)) := by
  iterate 5 (refine hX _ ?_; conv => whnf)
  refine hX _ ?_; conv => whnf
  try (simp (disch := omega) only [bg_w_id, Int.toNat_natCast, rw_land, sh_land, not_true_eq_false, e0]; try conv => whnf)
  refine ⟨by first | omega | (simp (disch := omega) only [bg_w_id, Int.toNat_natCast, rw_land, sh_land, not_true_eq_false, e0]; omega), ?_⟩
  iterate 4 (refine hX _ ?_; conv => whnf)
  refine hX _ ?_; conv => whnf
  try (simp (disch := omega) only [bg_w_id, Int.toNat_natCast, rw_land, sh_land, not_true_eq_false, e0]; try conv => whnf)
  refine ⟨by first | omega | (simp (disch := omega) only [bg_w_id, Int.toNat_natCast, rw_land, sh_land, not_true_eq_false, e0]; omega), ?_⟩
  refine hX _ ?_; conv => whnf
  refine opi_s (op_path n h hI _ _ (hf _) (hf _)) f e0 D (by omega) (by omega) _ (fun x h1 e1 kk => ?_)
  conv => whnf
  iterate 5 (refine hX _ ?_; conv => whnf)
  refine hX _ ?_; conv => whnf
  try (simp (disch := omega) only [bg_w_id, Int.toNat_natCast, rw_land, sh_land, not_true_eq_false, e1]; try conv => whnf)
  refine ⟨by first | omega | (simp (disch := omega) only [bg_w_id, Int.toNat_natCast, rw_land, sh_land, not_true_eq_false, e1]; omega), ?_⟩
  iterate 4 (refine hX _ ?_; conv => whnf)
  refine hX _ ?_; conv => whnf
  try (simp (disch := omega) only [bg_w_id, Int.toNat_natCast, rw_land, sh_land, not_true_eq_false, e1]; try conv => whnf)
  refine ⟨by first | omega | (simp (disch := omega) only [bg_w_id, Int.toNat_natCast, rw_land, sh_land, not_true_eq_false, e1]; omega), ?_⟩
  refine hX _ ?_; conv => whnf
  refine kk _ (fun h2 hI2 e2 => ?_)
  conv => whnf
  refine hX _ ?_; conv => whnf
  refine ⟨fun _ => ?_, fun q => absurd rfl q⟩
  exact nx h2 hI2 e2
theorem br_posts {X : bg_F → Prop} (n D : Nat) (hD : 13 ≤ D) (hX : ∀ g, bg_st (bg_Ca bg_MS D) cd_L_law (600000, 7302250) g X (fun r _ => r = some (.inl 1)) → X g) (hn : n ≤ 2147483647) (f : Int → Int) (hf : ∀ j, i32 (f j)) (i : Nat) (hi : i + 4 ≤ n) (h : bg_G) (hI : INV h) (e0 : h 0 = f) (nx : ∀ h2 : bg_G, INV h2 → h2 0 = f → X (1011, [oR 0, oR 2, oR 115, oI (i : Int)], [], (bg_SH n, h2), (138, 29941))) : X (303, [oR 0, oR 2, oR 115, oI (i : Int)], [], (bg_SH n, h), (138, 29941)) := by
  iterate 5 (refine hX _ ?_; conv => whnf)
  refine hX _ ?_; conv => whnf
  try (simp (disch := omega) only [bg_w_id, Int.toNat_natCast, rw_land, sh_land, not_true_eq_false, e0]; try conv => whnf)
  refine ⟨by first | omega | (simp (disch := omega) only [bg_w_id, Int.toNat_natCast, rw_land, sh_land, not_true_eq_false, e0]; omega), ?_⟩
  iterate 4 (refine hX _ ?_; conv => whnf)
  refine hX _ ?_; conv => whnf
  try (simp (disch := omega) only [bg_w_id, Int.toNat_natCast, rw_land, sh_land, not_true_eq_false, e0]; try conv => whnf)
  refine ⟨by first | omega | (simp (disch := omega) only [bg_w_id, Int.toNat_natCast, rw_land, sh_land, not_true_eq_false, e0]; omega), ?_⟩
  refine hX _ ?_; conv => whnf
  refine opi_s (op_posts n h hI _ _ (hf _) (hf _)) f e0 D (by omega) (by omega) _ (fun x h1 e1 kk => ?_)
  conv => whnf
  iterate 5 (refine hX _ ?_; conv => whnf)
  refine hX _ ?_; conv => whnf
  try (simp (disch := omega) only [bg_w_id, Int.toNat_natCast, rw_land, sh_land, not_true_eq_false, e1]; try conv => whnf)
  refine ⟨by first | omega | (simp (disch := omega) only [bg_w_id, Int.toNat_natCast, rw_land, sh_land, not_true_eq_false, e1]; omega), ?_⟩
  iterate 4 (refine hX _ ?_; conv => whnf)
  refine hX _ ?_; conv => whnf
  try (simp (disch := omega) only [bg_w_id, Int.toNat_natCast, rw_land, sh_land, not_true_eq_false, e1]; try conv => whnf)
  refine ⟨by first | omega | (simp (disch := omega) only [bg_w_id, Int.toNat_natCast, rw_land, sh_land, not_true_eq_false, e1]; omega), ?_⟩
  refine hX _ ?_; conv => whnf
  refine kk _ (fun h2 hI2 e2 => ?_)
  conv => whnf
  refine hX _ ?_; conv => whnf
  refine ⟨fun _ => ?_, fun q => absurd rfl q⟩
  exact nx h2 hI2 e2
theorem br_bears {X : bg_F → Prop} (n D : Nat) (hD : 13 ≤ D) (hX : ∀ g, bg_st (bg_Ca bg_MS D) cd_L_law (600000, 7302250) g X (fun r _ => r = some (.inl 1)) → X g) (hn : n ≤ 2147483647) (f : Int → Int) (hf : ∀ j, i32 (f j)) (i : Nat) (hi : i + 4 ≤ n) (h : bg_G) (hI : INV h) (e0 : h 0 = f) (nx : ∀ h2 : bg_G, INV h2 → h2 0 = f → X (1011, [oR 0, oR 2, oR 115, oI (i : Int)], [], (bg_SH n, h2), (138, 29941))) : X (336, [oR 0, oR 2, oR 115, oI (i : Int)], [], (bg_SH n, h), (138, 29941)) := by
  iterate 5 (refine hX _ ?_; conv => whnf)
  refine hX _ ?_; conv => whnf
  try (simp (disch := omega) only [bg_w_id, Int.toNat_natCast, rw_land, sh_land, not_true_eq_false, e0]; try conv => whnf)
  refine ⟨by first | omega | (simp (disch := omega) only [bg_w_id, Int.toNat_natCast, rw_land, sh_land, not_true_eq_false, e0]; omega), ?_⟩
  iterate 4 (refine hX _ ?_; conv => whnf)
  refine hX _ ?_; conv => whnf
  try (simp (disch := omega) only [bg_w_id, Int.toNat_natCast, rw_land, sh_land, not_true_eq_false, e0]; try conv => whnf)
  refine ⟨by first | omega | (simp (disch := omega) only [bg_w_id, Int.toNat_natCast, rw_land, sh_land, not_true_eq_false, e0]; omega), ?_⟩
  refine hX _ ?_; conv => whnf
  refine opi_s (op_bears n h hI _ _ (hf _) (hf _)) f e0 D (by omega) (by omega) _ (fun x h1 e1 kk => ?_)
  conv => whnf
  iterate 5 (refine hX _ ?_; conv => whnf)
  refine hX _ ?_; conv => whnf
  try (simp (disch := omega) only [bg_w_id, Int.toNat_natCast, rw_land, sh_land, not_true_eq_false, e1]; try conv => whnf)
  refine ⟨by first | omega | (simp (disch := omega) only [bg_w_id, Int.toNat_natCast, rw_land, sh_land, not_true_eq_false, e1]; omega), ?_⟩
  iterate 4 (refine hX _ ?_; conv => whnf)
  refine hX _ ?_; conv => whnf
  try (simp (disch := omega) only [bg_w_id, Int.toNat_natCast, rw_land, sh_land, not_true_eq_false, e1]; try conv => whnf)
  refine ⟨by first | omega | (simp (disch := omega) only [bg_w_id, Int.toNat_natCast, rw_land, sh_land, not_true_eq_false, e1]; omega), ?_⟩
  refine hX _ ?_; conv => whnf
  refine kk _ (fun h2 hI2 e2 => ?_)
  conv => whnf
  refine hX _ ?_; conv => whnf
  refine ⟨fun _ => ?_, fun q => absurd rfl q⟩
  exact nx h2 hI2 e2
theorem br_most {X : bg_F → Prop} (n D : Nat) (hD : 13 ≤ D) (hX : ∀ g, bg_st (bg_Ca bg_MS D) cd_L_law (600000, 7302250) g X (fun r _ => r = some (.inl 1)) → X g) (hn : n ≤ 2147483647) (f : Int → Int) (hf : ∀ j, i32 (f j)) (i : Nat) (hi : i + 4 ≤ n) (h : bg_G) (hI : INV h) (e0 : h 0 = f) (nx : ∀ h2 : bg_G, INV h2 → h2 0 = f → X (1011, [oR 0, oR 2, oR 115, oI (i : Int)], [], (bg_SH n, h2), (138, 29941))) : X (369, [oR 0, oR 2, oR 115, oI (i : Int)], [], (bg_SH n, h), (138, 29941)) := by
  iterate 5 (refine hX _ ?_; conv => whnf)
  refine hX _ ?_; conv => whnf
  try (simp (disch := omega) only [bg_w_id, Int.toNat_natCast, rw_land, sh_land, not_true_eq_false, e0]; try conv => whnf)
  refine ⟨by first | omega | (simp (disch := omega) only [bg_w_id, Int.toNat_natCast, rw_land, sh_land, not_true_eq_false, e0]; omega), ?_⟩
  iterate 4 (refine hX _ ?_; conv => whnf)
  refine hX _ ?_; conv => whnf
  try (simp (disch := omega) only [bg_w_id, Int.toNat_natCast, rw_land, sh_land, not_true_eq_false, e0]; try conv => whnf)
  refine ⟨by first | omega | (simp (disch := omega) only [bg_w_id, Int.toNat_natCast, rw_land, sh_land, not_true_eq_false, e0]; omega), ?_⟩
  refine hX _ ?_; conv => whnf
  refine opi_s (op_most n h hI _ _ (hf _) (hf _)) f e0 D (by omega) (by omega) _ (fun x h1 e1 kk => ?_)
  conv => whnf
  iterate 5 (refine hX _ ?_; conv => whnf)
  refine hX _ ?_; conv => whnf
  try (simp (disch := omega) only [bg_w_id, Int.toNat_natCast, rw_land, sh_land, not_true_eq_false, e1]; try conv => whnf)
  refine ⟨by first | omega | (simp (disch := omega) only [bg_w_id, Int.toNat_natCast, rw_land, sh_land, not_true_eq_false, e1]; omega), ?_⟩
  iterate 4 (refine hX _ ?_; conv => whnf)
  refine hX _ ?_; conv => whnf
  try (simp (disch := omega) only [bg_w_id, Int.toNat_natCast, rw_land, sh_land, not_true_eq_false, e1]; try conv => whnf)
  refine ⟨by first | omega | (simp (disch := omega) only [bg_w_id, Int.toNat_natCast, rw_land, sh_land, not_true_eq_false, e1]; omega), ?_⟩
  refine hX _ ?_; conv => whnf
  refine kk _ (fun h2 hI2 e2 => ?_)
  conv => whnf
  refine hX _ ?_; conv => whnf
  refine ⟨fun _ => ?_, fun q => absurd rfl q⟩
  exact nx h2 hI2 e2
theorem br_row {X : bg_F → Prop} (n D : Nat) (hD : 13 ≤ D) (hX : ∀ g, bg_st (bg_Ca bg_MS D) cd_L_law (600000, 7302250) g X (fun r _ => r = some (.inl 1)) → X g) (hn : n ≤ 2147483647) (f : Int → Int) (hf : ∀ j, i32 (f j)) (i : Nat) (hi : i + 4 ≤ n) (h : bg_G) (hI : INV h) (e0 : h 0 = f) (nx : ∀ h2 : bg_G, INV h2 → h2 0 = f → X (1011, [oR 0, oR 2, oR 115, oI (i : Int)], [], (bg_SH n, h2), (138, 29941))) : X (402, [oR 0, oR 2, oR 115, oI (i : Int)], [], (bg_SH n, h), (138, 29941)) := by
  iterate 5 (refine hX _ ?_; conv => whnf)
  refine hX _ ?_; conv => whnf
  try (simp (disch := omega) only [bg_w_id, Int.toNat_natCast, rw_land, sh_land, not_true_eq_false, e0]; try conv => whnf)
  refine ⟨by first | omega | (simp (disch := omega) only [bg_w_id, Int.toNat_natCast, rw_land, sh_land, not_true_eq_false, e0]; omega), ?_⟩
  iterate 4 (refine hX _ ?_; conv => whnf)
  refine hX _ ?_; conv => whnf
  try (simp (disch := omega) only [bg_w_id, Int.toNat_natCast, rw_land, sh_land, not_true_eq_false, e0]; try conv => whnf)
  refine ⟨by first | omega | (simp (disch := omega) only [bg_w_id, Int.toNat_natCast, rw_land, sh_land, not_true_eq_false, e0]; omega), ?_⟩
  refine hX _ ?_; conv => whnf
  refine opi_s (op_row n h hI _ _ (hf _) (hf _)) f e0 D (by omega) (by omega) _ (fun x h1 e1 kk => ?_)
  conv => whnf
  iterate 5 (refine hX _ ?_; conv => whnf)
  refine hX _ ?_; conv => whnf
  try (simp (disch := omega) only [bg_w_id, Int.toNat_natCast, rw_land, sh_land, not_true_eq_false, e1]; try conv => whnf)
  refine ⟨by first | omega | (simp (disch := omega) only [bg_w_id, Int.toNat_natCast, rw_land, sh_land, not_true_eq_false, e1]; omega), ?_⟩
  iterate 4 (refine hX _ ?_; conv => whnf)
  refine hX _ ?_; conv => whnf
  try (simp (disch := omega) only [bg_w_id, Int.toNat_natCast, rw_land, sh_land, not_true_eq_false, e1]; try conv => whnf)
  refine ⟨by first | omega | (simp (disch := omega) only [bg_w_id, Int.toNat_natCast, rw_land, sh_land, not_true_eq_false, e1]; omega), ?_⟩
  refine hX _ ?_; conv => whnf
  refine kk _ (fun h2 hI2 e2 => ?_)
  conv => whnf
  refine hX _ ?_; conv => whnf
  refine ⟨fun _ => ?_, fun q => absurd rfl q⟩
  exact nx h2 hI2 e2
theorem br_judge {X : bg_F → Prop} (n D : Nat) (hD : 13 ≤ D) (hX : ∀ g, bg_st (bg_Ca bg_MS D) cd_L_law (600000, 7302250) g X (fun r _ => r = some (.inl 1)) → X g) (hn : n ≤ 2147483647) (f : Int → Int) (hf : ∀ j, i32 (f j)) (i : Nat) (hi : i + 4 ≤ n) (h : bg_G) (hI : INV h) (e0 : h 0 = f) (nx : ∀ h2 : bg_G, INV h2 → h2 0 = f → X (1011, [oR 0, oR 2, oR 115, oI (i : Int)], [], (bg_SH n, h2), (138, 29941))) : X (435, [oR 0, oR 2, oR 115, oI (i : Int)], [], (bg_SH n, h), (138, 29941)) := by
  iterate 5 (refine hX _ ?_; conv => whnf)
  refine hX _ ?_; conv => whnf
  try (simp (disch := omega) only [bg_w_id, Int.toNat_natCast, rw_land, sh_land, not_true_eq_false, e0]; try conv => whnf)
  refine ⟨by first | omega | (simp (disch := omega) only [bg_w_id, Int.toNat_natCast, rw_land, sh_land, not_true_eq_false, e0]; omega), ?_⟩
  refine hX _ ?_; conv => whnf
  refine opi_s (op_judge n h hI _ (hf _)) f e0 D (by omega) (by omega) _ (fun x h1 e1 kk => ?_)
  conv => whnf
  iterate 5 (refine hX _ ?_; conv => whnf)
  refine hX _ ?_; conv => whnf
  try (simp (disch := omega) only [bg_w_id, Int.toNat_natCast, rw_land, sh_land, not_true_eq_false, e1]; try conv => whnf)
  refine ⟨by first | omega | (simp (disch := omega) only [bg_w_id, Int.toNat_natCast, rw_land, sh_land, not_true_eq_false, e1]; omega), ?_⟩
  refine hX _ ?_; conv => whnf
  refine kk _ (fun h2 hI2 e2 => ?_)
  conv => whnf
  refine hX _ ?_; conv => whnf
  refine ⟨fun _ => ?_, fun q => absurd rfl q⟩
  exact nx h2 hI2 e2
theorem br_best {X : bg_F → Prop} (n D : Nat) (hD : 13 ≤ D) (hX : ∀ g, bg_st (bg_Ca bg_MS D) cd_L_law (600000, 7302250) g X (fun r _ => r = some (.inl 1)) → X g) (hn : n ≤ 2147483647) (f : Int → Int) (hf : ∀ j, i32 (f j)) (i : Nat) (hi : i + 4 ≤ n) (h : bg_G) (hI : INV h) (e0 : h 0 = f) (nx : ∀ h2 : bg_G, INV h2 → h2 0 = f → X (1011, [oR 0, oR 2, oR 115, oI (i : Int)], [], (bg_SH n, h2), (138, 29941))) : X (458, [oR 0, oR 2, oR 115, oI (i : Int)], [], (bg_SH n, h), (138, 29941)) := by
  iterate 5 (refine hX _ ?_; conv => whnf)
  refine hX _ ?_; conv => whnf
  try (simp (disch := omega) only [bg_w_id, Int.toNat_natCast, rw_land, sh_land, not_true_eq_false, e0]; try conv => whnf)
  refine ⟨by first | omega | (simp (disch := omega) only [bg_w_id, Int.toNat_natCast, rw_land, sh_land, not_true_eq_false, e0]; omega), ?_⟩
  iterate 4 (refine hX _ ?_; conv => whnf)
  refine hX _ ?_; conv => whnf
  try (simp (disch := omega) only [bg_w_id, Int.toNat_natCast, rw_land, sh_land, not_true_eq_false, e0]; try conv => whnf)
  refine ⟨by first | omega | (simp (disch := omega) only [bg_w_id, Int.toNat_natCast, rw_land, sh_land, not_true_eq_false, e0]; omega), ?_⟩
  refine hX _ ?_; conv => whnf
  refine opi_s (op_best n h hI _ _ (hf _) (hf _)) f e0 D (by omega) (by omega) _ (fun x h1 e1 kk => ?_)
  conv => whnf
  iterate 5 (refine hX _ ?_; conv => whnf)
  refine hX _ ?_; conv => whnf
  try (simp (disch := omega) only [bg_w_id, Int.toNat_natCast, rw_land, sh_land, not_true_eq_false, e1]; try conv => whnf)
  refine ⟨by first | omega | (simp (disch := omega) only [bg_w_id, Int.toNat_natCast, rw_land, sh_land, not_true_eq_false, e1]; omega), ?_⟩
  iterate 4 (refine hX _ ?_; conv => whnf)
  refine hX _ ?_; conv => whnf
  try (simp (disch := omega) only [bg_w_id, Int.toNat_natCast, rw_land, sh_land, not_true_eq_false, e1]; try conv => whnf)
  refine ⟨by first | omega | (simp (disch := omega) only [bg_w_id, Int.toNat_natCast, rw_land, sh_land, not_true_eq_false, e1]; omega), ?_⟩
  refine hX _ ?_; conv => whnf
  refine kk _ (fun h2 hI2 e2 => ?_)
  conv => whnf
  refine hX _ ?_; conv => whnf
  refine ⟨fun _ => ?_, fun q => absurd rfl q⟩
  exact nx h2 hI2 e2
theorem br_fewest {X : bg_F → Prop} (n D : Nat) (hD : 13 ≤ D) (hX : ∀ g, bg_st (bg_Ca bg_MS D) cd_L_law (600000, 7302250) g X (fun r _ => r = some (.inl 1)) → X g) (hn : n ≤ 2147483647) (f : Int → Int) (hf : ∀ j, i32 (f j)) (i : Nat) (hi : i + 4 ≤ n) (h : bg_G) (hI : INV h) (e0 : h 0 = f) (nx : ∀ h2 : bg_G, INV h2 → h2 0 = f → X (1011, [oR 0, oR 2, oR 115, oI (i : Int)], [], (bg_SH n, h2), (138, 29941))) : X (491, [oR 0, oR 2, oR 115, oI (i : Int)], [], (bg_SH n, h), (138, 29941)) := by
  iterate 5 (refine hX _ ?_; conv => whnf)
  refine hX _ ?_; conv => whnf
  try (simp (disch := omega) only [bg_w_id, Int.toNat_natCast, rw_land, sh_land, not_true_eq_false, e0]; try conv => whnf)
  refine ⟨by first | omega | (simp (disch := omega) only [bg_w_id, Int.toNat_natCast, rw_land, sh_land, not_true_eq_false, e0]; omega), ?_⟩
  refine hX _ ?_; conv => whnf
  refine opi_s (op_fewest n h hI _ (hf _)) f e0 D (by omega) (by omega) _ (fun x h1 e1 kk => ?_)
  conv => whnf
  iterate 5 (refine hX _ ?_; conv => whnf)
  refine hX _ ?_; conv => whnf
  try (simp (disch := omega) only [bg_w_id, Int.toNat_natCast, rw_land, sh_land, not_true_eq_false, e1]; try conv => whnf)
  refine ⟨by first | omega | (simp (disch := omega) only [bg_w_id, Int.toNat_natCast, rw_land, sh_land, not_true_eq_false, e1]; omega), ?_⟩
  refine hX _ ?_; conv => whnf
  refine kk _ (fun h2 hI2 e2 => ?_)
  conv => whnf
  refine hX _ ?_; conv => whnf
  refine ⟨fun _ => ?_, fun q => absurd rfl q⟩
  exact nx h2 hI2 e2
theorem br_more {X : bg_F → Prop} (n D : Nat) (hD : 13 ≤ D) (hX : ∀ g, bg_st (bg_Ca bg_MS D) cd_L_law (600000, 7302250) g X (fun r _ => r = some (.inl 1)) → X g) (hn : n ≤ 2147483647) (f : Int → Int) (hf : ∀ j, i32 (f j)) (i : Nat) (hi : i + 4 ≤ n) (h : bg_G) (hI : INV h) (e0 : h 0 = f) (nx : ∀ h2 : bg_G, INV h2 → h2 0 = f → X (1011, [oR 0, oR 2, oR 115, oI (i : Int)], [], (bg_SH n, h2), (138, 29941))) : X (514, [oR 0, oR 2, oR 115, oI (i : Int)], [], (bg_SH n, h), (138, 29941)) := by
  refine hX _ ?_; conv => whnf
  refine hX _ ?_; conv => whnf
  refine opi_s (op_more n h hI  ) f e0 D (by omega) (by omega) _ (fun x h1 e1 kk => ?_)
  conv => whnf
  refine hX _ ?_; conv => whnf
  refine hX _ ?_; conv => whnf
  refine kk _ (fun h2 hI2 e2 => ?_)
  conv => whnf
  refine hX _ ?_; conv => whnf
  refine ⟨fun _ => ?_, fun q => absurd rfl q⟩
  exact nx h2 hI2 e2
theorem br_oneMore {X : bg_F → Prop} (n D : Nat) (hD : 13 ≤ D) (hX : ∀ g, bg_st (bg_Ca bg_MS D) cd_L_law (600000, 7302250) g X (fun r _ => r = some (.inl 1)) → X g) (hn : n ≤ 2147483647) (f : Int → Int) (hf : ∀ j, i32 (f j)) (i : Nat) (hi : i + 4 ≤ n) (h : bg_G) (hI : INV h) (e0 : h 0 = f) (nx : ∀ h2 : bg_G, INV h2 → h2 0 = f → X (1011, [oR 0, oR 2, oR 115, oI (i : Int)], [], (bg_SH n, h2), (138, 29941))) : X (527, [oR 0, oR 2, oR 115, oI (i : Int)], [], (bg_SH n, h), (138, 29941)) := by
  iterate 5 (refine hX _ ?_; conv => whnf)
  refine hX _ ?_; conv => whnf
  try (simp (disch := omega) only [bg_w_id, Int.toNat_natCast, rw_land, sh_land, not_true_eq_false, e0]; try conv => whnf)
  refine ⟨by first | omega | (simp (disch := omega) only [bg_w_id, Int.toNat_natCast, rw_land, sh_land, not_true_eq_false, e0]; omega), ?_⟩
  iterate 4 (refine hX _ ?_; conv => whnf)
  refine hX _ ?_; conv => whnf
  try (simp (disch := omega) only [bg_w_id, Int.toNat_natCast, rw_land, sh_land, not_true_eq_false, e0]; try conv => whnf)
  refine ⟨by first | omega | (simp (disch := omega) only [bg_w_id, Int.toNat_natCast, rw_land, sh_land, not_true_eq_false, e0]; omega), ?_⟩
  refine hX _ ?_; conv => whnf
  refine opi_s (op_oneMore n h hI _ _ (hf _) (hf _)) f e0 D (by omega) (by omega) _ (fun x h1 e1 kk => ?_)
  conv => whnf
  iterate 5 (refine hX _ ?_; conv => whnf)
  refine hX _ ?_; conv => whnf
  try (simp (disch := omega) only [bg_w_id, Int.toNat_natCast, rw_land, sh_land, not_true_eq_false, e1]; try conv => whnf)
  refine ⟨by first | omega | (simp (disch := omega) only [bg_w_id, Int.toNat_natCast, rw_land, sh_land, not_true_eq_false, e1]; omega), ?_⟩
  iterate 4 (refine hX _ ?_; conv => whnf)
  refine hX _ ?_; conv => whnf
  try (simp (disch := omega) only [bg_w_id, Int.toNat_natCast, rw_land, sh_land, not_true_eq_false, e1]; try conv => whnf)
  refine ⟨by first | omega | (simp (disch := omega) only [bg_w_id, Int.toNat_natCast, rw_land, sh_land, not_true_eq_false, e1]; omega), ?_⟩
  refine hX _ ?_; conv => whnf
  refine kk _ (fun h2 hI2 e2 => ?_)
  conv => whnf
  refine hX _ ?_; conv => whnf
  refine ⟨fun _ => ?_, fun q => absurd rfl q⟩
  exact nx h2 hI2 e2
theorem br_weighed {X : bg_F → Prop} (n D : Nat) (hD : 13 ≤ D) (hX : ∀ g, bg_st (bg_Ca bg_MS D) cd_L_law (600000, 7302250) g X (fun r _ => r = some (.inl 1)) → X g) (hn : n ≤ 2147483647) (f : Int → Int) (hf : ∀ j, i32 (f j)) (i : Nat) (hi : i + 4 ≤ n) (h : bg_G) (hI : INV h) (e0 : h 0 = f) (nx : ∀ h2 : bg_G, INV h2 → h2 0 = f → X (1011, [oR 0, oR 2, oR 115, oI (i : Int)], [], (bg_SH n, h2), (138, 29941))) : X (560, [oR 0, oR 2, oR 115, oI (i : Int)], [], (bg_SH n, h), (138, 29941)) := by
  iterate 5 (refine hX _ ?_; conv => whnf)
  refine hX _ ?_; conv => whnf
  try (simp (disch := omega) only [bg_w_id, Int.toNat_natCast, rw_land, sh_land, not_true_eq_false, e0]; try conv => whnf)
  refine ⟨by first | omega | (simp (disch := omega) only [bg_w_id, Int.toNat_natCast, rw_land, sh_land, not_true_eq_false, e0]; omega), ?_⟩
  iterate 4 (refine hX _ ?_; conv => whnf)
  refine hX _ ?_; conv => whnf
  try (simp (disch := omega) only [bg_w_id, Int.toNat_natCast, rw_land, sh_land, not_true_eq_false, e0]; try conv => whnf)
  refine ⟨by first | omega | (simp (disch := omega) only [bg_w_id, Int.toNat_natCast, rw_land, sh_land, not_true_eq_false, e0]; omega), ?_⟩
  iterate 4 (refine hX _ ?_; conv => whnf)
  refine hX _ ?_; conv => whnf
  try (simp (disch := omega) only [bg_w_id, Int.toNat_natCast, rw_land, sh_land, not_true_eq_false, e0]; try conv => whnf)
  refine ⟨by first | omega | (simp (disch := omega) only [bg_w_id, Int.toNat_natCast, rw_land, sh_land, not_true_eq_false, e0]; omega), ?_⟩
  refine hX _ ?_; conv => whnf
  refine opi_s (op_weighed n h hI _ _ _ (hf _) (hf _) (hf _)) f e0 D (by omega) (by omega) _ (fun x h1 e1 kk => ?_)
  conv => whnf
  iterate 5 (refine hX _ ?_; conv => whnf)
  refine hX _ ?_; conv => whnf
  try (simp (disch := omega) only [bg_w_id, Int.toNat_natCast, rw_land, sh_land, not_true_eq_false, e1]; try conv => whnf)
  refine ⟨by first | omega | (simp (disch := omega) only [bg_w_id, Int.toNat_natCast, rw_land, sh_land, not_true_eq_false, e1]; omega), ?_⟩
  iterate 4 (refine hX _ ?_; conv => whnf)
  refine hX _ ?_; conv => whnf
  try (simp (disch := omega) only [bg_w_id, Int.toNat_natCast, rw_land, sh_land, not_true_eq_false, e1]; try conv => whnf)
  refine ⟨by first | omega | (simp (disch := omega) only [bg_w_id, Int.toNat_natCast, rw_land, sh_land, not_true_eq_false, e1]; omega), ?_⟩
  iterate 4 (refine hX _ ?_; conv => whnf)
  refine hX _ ?_; conv => whnf
  try (simp (disch := omega) only [bg_w_id, Int.toNat_natCast, rw_land, sh_land, not_true_eq_false, e1]; try conv => whnf)
  refine ⟨by first | omega | (simp (disch := omega) only [bg_w_id, Int.toNat_natCast, rw_land, sh_land, not_true_eq_false, e1]; omega), ?_⟩
  refine hX _ ?_; conv => whnf
  refine kk _ (fun h2 hI2 e2 => ?_)
  conv => whnf
  refine hX _ ?_; conv => whnf
  refine ⟨fun _ => ?_, fun q => absurd rfl q⟩
  exact nx h2 hI2 e2
theorem br_way {X : bg_F → Prop} (n D : Nat) (hD : 13 ≤ D) (hX : ∀ g, bg_st (bg_Ca bg_MS D) cd_L_law (600000, 7302250) g X (fun r _ => r = some (.inl 1)) → X g) (hn : n ≤ 2147483647) (f : Int → Int) (hf : ∀ j, i32 (f j)) (i : Nat) (hi : i + 4 ≤ n) (h : bg_G) (hI : INV h) (e0 : h 0 = f) (nx : ∀ h2 : bg_G, INV h2 → h2 0 = f → X (1011, [oR 0, oR 2, oR 115, oI (i : Int)], [], (bg_SH n, h2), (138, 29941))) : X (603, [oR 0, oR 2, oR 115, oI (i : Int)], [], (bg_SH n, h), (138, 29941)) := by
  iterate 5 (refine hX _ ?_; conv => whnf)
  refine hX _ ?_; conv => whnf
  try (simp (disch := omega) only [bg_w_id, Int.toNat_natCast, rw_land, sh_land, not_true_eq_false, e0]; try conv => whnf)
  refine ⟨by first | omega | (simp (disch := omega) only [bg_w_id, Int.toNat_natCast, rw_land, sh_land, not_true_eq_false, e0]; omega), ?_⟩
  iterate 4 (refine hX _ ?_; conv => whnf)
  refine hX _ ?_; conv => whnf
  try (simp (disch := omega) only [bg_w_id, Int.toNat_natCast, rw_land, sh_land, not_true_eq_false, e0]; try conv => whnf)
  refine ⟨by first | omega | (simp (disch := omega) only [bg_w_id, Int.toNat_natCast, rw_land, sh_land, not_true_eq_false, e0]; omega), ?_⟩
  refine hX _ ?_; conv => whnf
  refine opi_s (op_way n h hI _ _ (hf _) (hf _)) f e0 D (by omega) (by omega) _ (fun x h1 e1 kk => ?_)
  conv => whnf
  iterate 5 (refine hX _ ?_; conv => whnf)
  refine hX _ ?_; conv => whnf
  try (simp (disch := omega) only [bg_w_id, Int.toNat_natCast, rw_land, sh_land, not_true_eq_false, e1]; try conv => whnf)
  refine ⟨by first | omega | (simp (disch := omega) only [bg_w_id, Int.toNat_natCast, rw_land, sh_land, not_true_eq_false, e1]; omega), ?_⟩
  iterate 4 (refine hX _ ?_; conv => whnf)
  refine hX _ ?_; conv => whnf
  try (simp (disch := omega) only [bg_w_id, Int.toNat_natCast, rw_land, sh_land, not_true_eq_false, e1]; try conv => whnf)
  refine ⟨by first | omega | (simp (disch := omega) only [bg_w_id, Int.toNat_natCast, rw_land, sh_land, not_true_eq_false, e1]; omega), ?_⟩
  refine hX _ ?_; conv => whnf
  refine kk _ (fun h2 hI2 e2 => ?_)
  conv => whnf
  refine hX _ ?_; conv => whnf
  refine ⟨fun _ => ?_, fun q => absurd rfl q⟩
  exact nx h2 hI2 e2
theorem br_through {X : bg_F → Prop} (n D : Nat) (hD : 13 ≤ D) (hX : ∀ g, bg_st (bg_Ca bg_MS D) cd_L_law (600000, 7302250) g X (fun r _ => r = some (.inl 1)) → X g) (hn : n ≤ 2147483647) (f : Int → Int) (hf : ∀ j, i32 (f j)) (i : Nat) (hi : i + 4 ≤ n) (h : bg_G) (hI : INV h) (e0 : h 0 = f) (nx : ∀ h2 : bg_G, INV h2 → h2 0 = f → X (1011, [oR 0, oR 2, oR 115, oI (i : Int)], [], (bg_SH n, h2), (138, 29941))) : X (636, [oR 0, oR 2, oR 115, oI (i : Int)], [], (bg_SH n, h), (138, 29941)) := by
  iterate 5 (refine hX _ ?_; conv => whnf)
  refine hX _ ?_; conv => whnf
  try (simp (disch := omega) only [bg_w_id, Int.toNat_natCast, rw_land, sh_land, not_true_eq_false, e0]; try conv => whnf)
  refine ⟨by first | omega | (simp (disch := omega) only [bg_w_id, Int.toNat_natCast, rw_land, sh_land, not_true_eq_false, e0]; omega), ?_⟩
  iterate 4 (refine hX _ ?_; conv => whnf)
  refine hX _ ?_; conv => whnf
  try (simp (disch := omega) only [bg_w_id, Int.toNat_natCast, rw_land, sh_land, not_true_eq_false, e0]; try conv => whnf)
  refine ⟨by first | omega | (simp (disch := omega) only [bg_w_id, Int.toNat_natCast, rw_land, sh_land, not_true_eq_false, e0]; omega), ?_⟩
  refine hX _ ?_; conv => whnf
  refine opi_s (op_through n h hI _ _ (hf _) (hf _)) f e0 D (by omega) (by omega) _ (fun x h1 e1 kk => ?_)
  conv => whnf
  iterate 5 (refine hX _ ?_; conv => whnf)
  refine hX _ ?_; conv => whnf
  try (simp (disch := omega) only [bg_w_id, Int.toNat_natCast, rw_land, sh_land, not_true_eq_false, e1]; try conv => whnf)
  refine ⟨by first | omega | (simp (disch := omega) only [bg_w_id, Int.toNat_natCast, rw_land, sh_land, not_true_eq_false, e1]; omega), ?_⟩
  iterate 4 (refine hX _ ?_; conv => whnf)
  refine hX _ ?_; conv => whnf
  try (simp (disch := omega) only [bg_w_id, Int.toNat_natCast, rw_land, sh_land, not_true_eq_false, e1]; try conv => whnf)
  refine ⟨by first | omega | (simp (disch := omega) only [bg_w_id, Int.toNat_natCast, rw_land, sh_land, not_true_eq_false, e1]; omega), ?_⟩
  refine hX _ ?_; conv => whnf
  refine kk _ (fun h2 hI2 e2 => ?_)
  conv => whnf
  refine hX _ ?_; conv => whnf
  refine ⟨fun _ => ?_, fun q => absurd rfl q⟩
  exact nx h2 hI2 e2
theorem br_gain {X : bg_F → Prop} (n D : Nat) (hD : 13 ≤ D) (hX : ∀ g, bg_st (bg_Ca bg_MS D) cd_L_law (600000, 7302250) g X (fun r _ => r = some (.inl 1)) → X g) (hn : n ≤ 2147483647) (f : Int → Int) (hf : ∀ j, i32 (f j)) (i : Nat) (hi : i + 4 ≤ n) (h : bg_G) (hI : INV h) (e0 : h 0 = f) (nx : ∀ h2 : bg_G, INV h2 → h2 0 = f → X (1011, [oR 0, oR 2, oR 115, oI (i : Int)], [], (bg_SH n, h2), (138, 29941))) : X (669, [oR 0, oR 2, oR 115, oI (i : Int)], [], (bg_SH n, h), (138, 29941)) := by
  iterate 5 (refine hX _ ?_; conv => whnf)
  refine hX _ ?_; conv => whnf
  try (simp (disch := omega) only [bg_w_id, Int.toNat_natCast, rw_land, sh_land, not_true_eq_false, e0]; try conv => whnf)
  refine ⟨by first | omega | (simp (disch := omega) only [bg_w_id, Int.toNat_natCast, rw_land, sh_land, not_true_eq_false, e0]; omega), ?_⟩
  iterate 4 (refine hX _ ?_; conv => whnf)
  refine hX _ ?_; conv => whnf
  try (simp (disch := omega) only [bg_w_id, Int.toNat_natCast, rw_land, sh_land, not_true_eq_false, e0]; try conv => whnf)
  refine ⟨by first | omega | (simp (disch := omega) only [bg_w_id, Int.toNat_natCast, rw_land, sh_land, not_true_eq_false, e0]; omega), ?_⟩
  refine hX _ ?_; conv => whnf
  refine opl_s (op_gain n h hI _ _ (hf _) (hf _)) f e0 D (by omega) (by omega) _ (fun x h1 e1 kk => ?_)
  conv => whnf
  iterate 5 (refine hX _ ?_; conv => whnf)
  refine hX _ ?_; conv => whnf
  try (simp (disch := omega) only [bg_w_id, Int.toNat_natCast, rw_land, sh_land, not_true_eq_false, e1]; try conv => whnf)
  refine ⟨by first | omega | (simp (disch := omega) only [bg_w_id, Int.toNat_natCast, rw_land, sh_land, not_true_eq_false, e1]; omega), ?_⟩
  iterate 4 (refine hX _ ?_; conv => whnf)
  refine hX _ ?_; conv => whnf
  try (simp (disch := omega) only [bg_w_id, Int.toNat_natCast, rw_land, sh_land, not_true_eq_false, e1]; try conv => whnf)
  refine ⟨by first | omega | (simp (disch := omega) only [bg_w_id, Int.toNat_natCast, rw_land, sh_land, not_true_eq_false, e1]; omega), ?_⟩
  refine hX _ ?_; conv => whnf
  refine kk _ (fun h2 hI2 e2 => ?_)
  conv => whnf
  refine hX _ ?_; conv => whnf
  refine hX _ ?_; conv => whnf
  refine ⟨fun _ => ?_, fun q => absurd (cmp_self x) q⟩
  exact nx h2 hI2 e2
theorem br_bestWay {X : bg_F → Prop} (n D : Nat) (hD : 13 ≤ D) (hX : ∀ g, bg_st (bg_Ca bg_MS D) cd_L_law (600000, 7302250) g X (fun r _ => r = some (.inl 1)) → X g) (hn : n ≤ 2147483647) (f : Int → Int) (hf : ∀ j, i32 (f j)) (i : Nat) (hi : i + 4 ≤ n) (h : bg_G) (hI : INV h) (e0 : h 0 = f) (nx : ∀ h2 : bg_G, INV h2 → h2 0 = f → X (1011, [oR 0, oR 2, oR 115, oI (i : Int)], [], (bg_SH n, h2), (138, 29941))) : X (703, [oR 0, oR 2, oR 115, oI (i : Int)], [], (bg_SH n, h), (138, 29941)) := by
  iterate 5 (refine hX _ ?_; conv => whnf)
  refine hX _ ?_; conv => whnf
  try (simp (disch := omega) only [bg_w_id, Int.toNat_natCast, rw_land, sh_land, not_true_eq_false, e0]; try conv => whnf)
  refine ⟨by first | omega | (simp (disch := omega) only [bg_w_id, Int.toNat_natCast, rw_land, sh_land, not_true_eq_false, e0]; omega), ?_⟩
  iterate 4 (refine hX _ ?_; conv => whnf)
  refine hX _ ?_; conv => whnf
  try (simp (disch := omega) only [bg_w_id, Int.toNat_natCast, rw_land, sh_land, not_true_eq_false, e0]; try conv => whnf)
  refine ⟨by first | omega | (simp (disch := omega) only [bg_w_id, Int.toNat_natCast, rw_land, sh_land, not_true_eq_false, e0]; omega), ?_⟩
  refine hX _ ?_; conv => whnf
  refine opi_s (op_bestWay n h hI _ _ (hf _) (hf _)) f e0 D (by omega) (by omega) _ (fun x h1 e1 kk => ?_)
  conv => whnf
  iterate 5 (refine hX _ ?_; conv => whnf)
  refine hX _ ?_; conv => whnf
  try (simp (disch := omega) only [bg_w_id, Int.toNat_natCast, rw_land, sh_land, not_true_eq_false, e1]; try conv => whnf)
  refine ⟨by first | omega | (simp (disch := omega) only [bg_w_id, Int.toNat_natCast, rw_land, sh_land, not_true_eq_false, e1]; omega), ?_⟩
  iterate 4 (refine hX _ ?_; conv => whnf)
  refine hX _ ?_; conv => whnf
  try (simp (disch := omega) only [bg_w_id, Int.toNat_natCast, rw_land, sh_land, not_true_eq_false, e1]; try conv => whnf)
  refine ⟨by first | omega | (simp (disch := omega) only [bg_w_id, Int.toNat_natCast, rw_land, sh_land, not_true_eq_false, e1]; omega), ?_⟩
  refine hX _ ?_; conv => whnf
  refine kk _ (fun h2 hI2 e2 => ?_)
  conv => whnf
  refine hX _ ?_; conv => whnf
  refine ⟨fun _ => ?_, fun q => absurd rfl q⟩
  exact nx h2 hI2 e2
theorem br_leastPay {X : bg_F → Prop} (n D : Nat) (hD : 13 ≤ D) (hX : ∀ g, bg_st (bg_Ca bg_MS D) cd_L_law (600000, 7302250) g X (fun r _ => r = some (.inl 1)) → X g) (hn : n ≤ 2147483647) (f : Int → Int) (hf : ∀ j, i32 (f j)) (i : Nat) (hi : i + 4 ≤ n) (h : bg_G) (hI : INV h) (e0 : h 0 = f) (nx : ∀ h2 : bg_G, INV h2 → h2 0 = f → X (1011, [oR 0, oR 2, oR 115, oI (i : Int)], [], (bg_SH n, h2), (138, 29941))) : X (736, [oR 0, oR 2, oR 115, oI (i : Int)], [], (bg_SH n, h), (138, 29941)) := by
  refine hX _ ?_; conv => whnf
  refine hX _ ?_; conv => whnf
  refine opi_s (op_leastPay n h hI  ) f e0 D (by omega) (by omega) _ (fun x h1 e1 kk => ?_)
  conv => whnf
  refine hX _ ?_; conv => whnf
  refine hX _ ?_; conv => whnf
  refine kk _ (fun h2 hI2 e2 => ?_)
  conv => whnf
  refine hX _ ?_; conv => whnf
  refine ⟨fun _ => ?_, fun q => absurd rfl q⟩
  exact nx h2 hI2 e2
theorem br_guard {X : bg_F → Prop} (n D : Nat) (hD : 13 ≤ D) (hX : ∀ g, bg_st (bg_Ca bg_MS D) cd_L_law (600000, 7302250) g X (fun r _ => r = some (.inl 1)) → X g) (hn : n ≤ 2147483647) (f : Int → Int) (hf : ∀ j, i32 (f j)) (i : Nat) (hi : i + 4 ≤ n) (h : bg_G) (hI : INV h) (e0 : h 0 = f) (nx : ∀ h2 : bg_G, INV h2 → h2 0 = f → X (1011, [oR 0, oR 2, oR 115, oI (i : Int)], [], (bg_SH n, h2), (138, 29941))) : X (749, [oR 0, oR 2, oR 115, oI (i : Int)], [], (bg_SH n, h), (138, 29941)) := by
  iterate 5 (refine hX _ ?_; conv => whnf)
  refine hX _ ?_; conv => whnf
  try (simp (disch := omega) only [bg_w_id, Int.toNat_natCast, rw_land, sh_land, not_true_eq_false, e0]; try conv => whnf)
  refine ⟨by first | omega | (simp (disch := omega) only [bg_w_id, Int.toNat_natCast, rw_land, sh_land, not_true_eq_false, e0]; omega), ?_⟩
  iterate 4 (refine hX _ ?_; conv => whnf)
  refine hX _ ?_; conv => whnf
  try (simp (disch := omega) only [bg_w_id, Int.toNat_natCast, rw_land, sh_land, not_true_eq_false, e0]; try conv => whnf)
  refine ⟨by first | omega | (simp (disch := omega) only [bg_w_id, Int.toNat_natCast, rw_land, sh_land, not_true_eq_false, e0]; omega), ?_⟩
  refine hX _ ?_; conv => whnf
  refine opi_s (op_guard n h hI _ _ (hf _) (hf _)) f e0 D (by omega) (by omega) _ (fun x h1 e1 kk => ?_)
  conv => whnf
  iterate 5 (refine hX _ ?_; conv => whnf)
  refine hX _ ?_; conv => whnf
  try (simp (disch := omega) only [bg_w_id, Int.toNat_natCast, rw_land, sh_land, not_true_eq_false, e1]; try conv => whnf)
  refine ⟨by first | omega | (simp (disch := omega) only [bg_w_id, Int.toNat_natCast, rw_land, sh_land, not_true_eq_false, e1]; omega), ?_⟩
  iterate 4 (refine hX _ ?_; conv => whnf)
  refine hX _ ?_; conv => whnf
  try (simp (disch := omega) only [bg_w_id, Int.toNat_natCast, rw_land, sh_land, not_true_eq_false, e1]; try conv => whnf)
  refine ⟨by first | omega | (simp (disch := omega) only [bg_w_id, Int.toNat_natCast, rw_land, sh_land, not_true_eq_false, e1]; omega), ?_⟩
  refine hX _ ?_; conv => whnf
  refine kk _ (fun h2 hI2 e2 => ?_)
  conv => whnf
  refine hX _ ?_; conv => whnf
  refine ⟨fun _ => ?_, fun q => absurd rfl q⟩
  exact nx h2 hI2 e2
theorem br_carrier {X : bg_F → Prop} (n D : Nat) (hD : 13 ≤ D) (hX : ∀ g, bg_st (bg_Ca bg_MS D) cd_L_law (600000, 7302250) g X (fun r _ => r = some (.inl 1)) → X g) (hn : n ≤ 2147483647) (f : Int → Int) (hf : ∀ j, i32 (f j)) (i : Nat) (hi : i + 4 ≤ n) (h : bg_G) (hI : INV h) (e0 : h 0 = f) (nx : ∀ h2 : bg_G, INV h2 → h2 0 = f → X (1011, [oR 0, oR 2, oR 115, oI (i : Int)], [], (bg_SH n, h2), (138, 29941))) : X (782, [oR 0, oR 2, oR 115, oI (i : Int)], [], (bg_SH n, h), (138, 29941)) := by
  iterate 5 (refine hX _ ?_; conv => whnf)
  refine hX _ ?_; conv => whnf
  try (simp (disch := omega) only [bg_w_id, Int.toNat_natCast, rw_land, sh_land, not_true_eq_false, e0]; try conv => whnf)
  refine ⟨by first | omega | (simp (disch := omega) only [bg_w_id, Int.toNat_natCast, rw_land, sh_land, not_true_eq_false, e0]; omega), ?_⟩
  iterate 4 (refine hX _ ?_; conv => whnf)
  refine hX _ ?_; conv => whnf
  try (simp (disch := omega) only [bg_w_id, Int.toNat_natCast, rw_land, sh_land, not_true_eq_false, e0]; try conv => whnf)
  refine ⟨by first | omega | (simp (disch := omega) only [bg_w_id, Int.toNat_natCast, rw_land, sh_land, not_true_eq_false, e0]; omega), ?_⟩
  refine hX _ ?_; conv => whnf
  refine opi_s (op_carrier n h hI _ _ (hf _) (hf _)) f e0 D (by omega) (by omega) _ (fun x h1 e1 kk => ?_)
  conv => whnf
  iterate 5 (refine hX _ ?_; conv => whnf)
  refine hX _ ?_; conv => whnf
  try (simp (disch := omega) only [bg_w_id, Int.toNat_natCast, rw_land, sh_land, not_true_eq_false, e1]; try conv => whnf)
  refine ⟨by first | omega | (simp (disch := omega) only [bg_w_id, Int.toNat_natCast, rw_land, sh_land, not_true_eq_false, e1]; omega), ?_⟩
  iterate 4 (refine hX _ ?_; conv => whnf)
  refine hX _ ?_; conv => whnf
  try (simp (disch := omega) only [bg_w_id, Int.toNat_natCast, rw_land, sh_land, not_true_eq_false, e1]; try conv => whnf)
  refine ⟨by first | omega | (simp (disch := omega) only [bg_w_id, Int.toNat_natCast, rw_land, sh_land, not_true_eq_false, e1]; omega), ?_⟩
  refine hX _ ?_; conv => whnf
  refine kk _ (fun h2 hI2 e2 => ?_)
  conv => whnf
  refine hX _ ?_; conv => whnf
  refine ⟨fun _ => ?_, fun q => absurd rfl q⟩
  exact nx h2 hI2 e2
theorem br_value {X : bg_F → Prop} (n D : Nat) (hD : 13 ≤ D) (hX : ∀ g, bg_st (bg_Ca bg_MS D) cd_L_law (600000, 7302250) g X (fun r _ => r = some (.inl 1)) → X g) (hn : n ≤ 2147483647) (f : Int → Int) (hf : ∀ j, i32 (f j)) (i : Nat) (hi : i + 4 ≤ n) (h : bg_G) (hI : INV h) (e0 : h 0 = f) (nx : ∀ h2 : bg_G, INV h2 → h2 0 = f → X (1011, [oR 0, oR 2, oR 115, oI (i : Int)], [], (bg_SH n, h2), (138, 29941))) : X (815, [oR 0, oR 2, oR 115, oI (i : Int)], [], (bg_SH n, h), (138, 29941)) := by
  iterate 5 (refine hX _ ?_; conv => whnf)
  refine hX _ ?_; conv => whnf
  try (simp (disch := omega) only [bg_w_id, Int.toNat_natCast, rw_land, sh_land, not_true_eq_false, e0]; try conv => whnf)
  refine ⟨by first | omega | (simp (disch := omega) only [bg_w_id, Int.toNat_natCast, rw_land, sh_land, not_true_eq_false, e0]; omega), ?_⟩
  refine hX _ ?_; conv => whnf
  refine opl_s (op_value n h hI _ (hf _)) f e0 D (by omega) (by omega) _ (fun x h1 e1 kk => ?_)
  conv => whnf
  iterate 5 (refine hX _ ?_; conv => whnf)
  refine hX _ ?_; conv => whnf
  try (simp (disch := omega) only [bg_w_id, Int.toNat_natCast, rw_land, sh_land, not_true_eq_false, e1]; try conv => whnf)
  refine ⟨by first | omega | (simp (disch := omega) only [bg_w_id, Int.toNat_natCast, rw_land, sh_land, not_true_eq_false, e1]; omega), ?_⟩
  refine hX _ ?_; conv => whnf
  refine kk _ (fun h2 hI2 e2 => ?_)
  conv => whnf
  refine hX _ ?_; conv => whnf
  refine hX _ ?_; conv => whnf
  refine ⟨fun _ => ?_, fun q => absurd (cmp_self x) q⟩
  exact nx h2 hI2 e2
theorem br_chance {X : bg_F → Prop} (n D : Nat) (hD : 13 ≤ D) (hX : ∀ g, bg_st (bg_Ca bg_MS D) cd_L_law (600000, 7302250) g X (fun r _ => r = some (.inl 1)) → X g) (hn : n ≤ 2147483647) (f : Int → Int) (hf : ∀ j, i32 (f j)) (i : Nat) (hi : i + 4 ≤ n) (h : bg_G) (hI : INV h) (e0 : h 0 = f) (nx : ∀ h2 : bg_G, INV h2 → h2 0 = f → X (1011, [oR 0, oR 2, oR 115, oI (i : Int)], [], (bg_SH n, h2), (138, 29941))) : X (839, [oR 0, oR 2, oR 115, oI (i : Int)], [], (bg_SH n, h), (138, 29941)) := by
  iterate 5 (refine hX _ ?_; conv => whnf)
  refine hX _ ?_; conv => whnf
  try (simp (disch := omega) only [bg_w_id, Int.toNat_natCast, rw_land, sh_land, not_true_eq_false, e0]; try conv => whnf)
  refine ⟨by first | omega | (simp (disch := omega) only [bg_w_id, Int.toNat_natCast, rw_land, sh_land, not_true_eq_false, e0]; omega), ?_⟩
  iterate 4 (refine hX _ ?_; conv => whnf)
  refine hX _ ?_; conv => whnf
  try (simp (disch := omega) only [bg_w_id, Int.toNat_natCast, rw_land, sh_land, not_true_eq_false, e0]; try conv => whnf)
  refine ⟨by first | omega | (simp (disch := omega) only [bg_w_id, Int.toNat_natCast, rw_land, sh_land, not_true_eq_false, e0]; omega), ?_⟩
  iterate 4 (refine hX _ ?_; conv => whnf)
  refine hX _ ?_; conv => whnf
  try (simp (disch := omega) only [bg_w_id, Int.toNat_natCast, rw_land, sh_land, not_true_eq_false, e0]; try conv => whnf)
  refine ⟨by first | omega | (simp (disch := omega) only [bg_w_id, Int.toNat_natCast, rw_land, sh_land, not_true_eq_false, e0]; omega), ?_⟩
  refine hX _ ?_; conv => whnf
  refine opl_s (op_chance n h hI _ _ _ (hf _) (hf _) (hf _)) f e0 D (by omega) (by omega) _ (fun x h1 e1 kk => ?_)
  conv => whnf
  iterate 5 (refine hX _ ?_; conv => whnf)
  refine hX _ ?_; conv => whnf
  try (simp (disch := omega) only [bg_w_id, Int.toNat_natCast, rw_land, sh_land, not_true_eq_false, e1]; try conv => whnf)
  refine ⟨by first | omega | (simp (disch := omega) only [bg_w_id, Int.toNat_natCast, rw_land, sh_land, not_true_eq_false, e1]; omega), ?_⟩
  iterate 4 (refine hX _ ?_; conv => whnf)
  refine hX _ ?_; conv => whnf
  try (simp (disch := omega) only [bg_w_id, Int.toNat_natCast, rw_land, sh_land, not_true_eq_false, e1]; try conv => whnf)
  refine ⟨by first | omega | (simp (disch := omega) only [bg_w_id, Int.toNat_natCast, rw_land, sh_land, not_true_eq_false, e1]; omega), ?_⟩
  iterate 4 (refine hX _ ?_; conv => whnf)
  refine hX _ ?_; conv => whnf
  try (simp (disch := omega) only [bg_w_id, Int.toNat_natCast, rw_land, sh_land, not_true_eq_false, e1]; try conv => whnf)
  refine ⟨by first | omega | (simp (disch := omega) only [bg_w_id, Int.toNat_natCast, rw_land, sh_land, not_true_eq_false, e1]; omega), ?_⟩
  refine hX _ ?_; conv => whnf
  refine kk _ (fun h2 hI2 e2 => ?_)
  conv => whnf
  refine hX _ ?_; conv => whnf
  refine hX _ ?_; conv => whnf
  refine ⟨fun _ => ?_, fun q => absurd (cmp_self x) q⟩
  exact nx h2 hI2 e2
theorem br_tenths {X : bg_F → Prop} (n D : Nat) (hD : 13 ≤ D) (hX : ∀ g, bg_st (bg_Ca bg_MS D) cd_L_law (600000, 7302250) g X (fun r _ => r = some (.inl 1)) → X g) (hn : n ≤ 2147483647) (f : Int → Int) (hf : ∀ j, i32 (f j)) (i : Nat) (hi : i + 4 ≤ n) (h : bg_G) (hI : INV h) (e0 : h 0 = f) (nx : ∀ h2 : bg_G, INV h2 → h2 0 = f → X (1011, [oR 0, oR 2, oR 115, oI (i : Int)], [], (bg_SH n, h2), (138, 29941))) : X (883, [oR 0, oR 2, oR 115, oI (i : Int)], [], (bg_SH n, h), (138, 29941)) := by
  iterate 5 (refine hX _ ?_; conv => whnf)
  refine hX _ ?_; conv => whnf
  try (simp (disch := omega) only [bg_w_id, Int.toNat_natCast, rw_land, sh_land, not_true_eq_false, e0]; try conv => whnf)
  refine ⟨by first | omega | (simp (disch := omega) only [bg_w_id, Int.toNat_natCast, rw_land, sh_land, not_true_eq_false, e0]; omega), ?_⟩
  iterate 4 (refine hX _ ?_; conv => whnf)
  refine hX _ ?_; conv => whnf
  try (simp (disch := omega) only [bg_w_id, Int.toNat_natCast, rw_land, sh_land, not_true_eq_false, e0]; try conv => whnf)
  refine ⟨by first | omega | (simp (disch := omega) only [bg_w_id, Int.toNat_natCast, rw_land, sh_land, not_true_eq_false, e0]; omega), ?_⟩
  refine hX _ ?_; conv => whnf
  refine opi_s (op_tenths n h hI _ _ (hf _) (hf _)) f e0 D (by omega) (by omega) _ (fun x h1 e1 kk => ?_)
  conv => whnf
  iterate 5 (refine hX _ ?_; conv => whnf)
  refine hX _ ?_; conv => whnf
  try (simp (disch := omega) only [bg_w_id, Int.toNat_natCast, rw_land, sh_land, not_true_eq_false, e1]; try conv => whnf)
  refine ⟨by first | omega | (simp (disch := omega) only [bg_w_id, Int.toNat_natCast, rw_land, sh_land, not_true_eq_false, e1]; omega), ?_⟩
  iterate 4 (refine hX _ ?_; conv => whnf)
  refine hX _ ?_; conv => whnf
  try (simp (disch := omega) only [bg_w_id, Int.toNat_natCast, rw_land, sh_land, not_true_eq_false, e1]; try conv => whnf)
  refine ⟨by first | omega | (simp (disch := omega) only [bg_w_id, Int.toNat_natCast, rw_land, sh_land, not_true_eq_false, e1]; omega), ?_⟩
  refine hX _ ?_; conv => whnf
  refine kk _ (fun h2 hI2 e2 => ?_)
  conv => whnf
  refine hX _ ?_; conv => whnf
  refine ⟨fun _ => ?_, fun q => absurd rfl q⟩
  exact nx h2 hI2 e2
theorem br_told {X : bg_F → Prop} (n D : Nat) (hD : 13 ≤ D) (hX : ∀ g, bg_st (bg_Ca bg_MS D) cd_L_law (600000, 7302250) g X (fun r _ => r = some (.inl 1)) → X g) (hn : n ≤ 2147483647) (f : Int → Int) (hf : ∀ j, i32 (f j)) (i : Nat) (hi : i + 4 ≤ n) (h : bg_G) (hI : INV h) (e0 : h 0 = f) (nx : ∀ h2 : bg_G, INV h2 → h2 0 = f → X (1011, [oR 0, oR 2, oR 115, oI (i : Int)], [], (bg_SH n, h2), (138, 29941))) : X (916, [oR 0, oR 2, oR 115, oI (i : Int)], [], (bg_SH n, h), (138, 29941)) := by
  refine hX _ ?_; conv => whnf
  refine hX _ ?_; conv => whnf
  refine opi_s (op_told n h hI  ) f e0 D (by omega) (by omega) _ (fun x h1 e1 kk => ?_)
  conv => whnf
  refine hX _ ?_; conv => whnf
  refine hX _ ?_; conv => whnf
  refine kk _ (fun h2 hI2 e2 => ?_)
  conv => whnf
  refine hX _ ?_; conv => whnf
  refine ⟨fun _ => ?_, fun q => absurd rfl q⟩
  exact nx h2 hI2 e2
theorem br_nights {X : bg_F → Prop} (n D : Nat) (hD : 13 ≤ D) (hX : ∀ g, bg_st (bg_Ca bg_MS D) cd_L_law (600000, 7302250) g X (fun r _ => r = some (.inl 1)) → X g) (hn : n ≤ 2147483647) (f : Int → Int) (hf : ∀ j, i32 (f j)) (i : Nat) (hi : i + 4 ≤ n) (h : bg_G) (hI : INV h) (e0 : h 0 = f) (nx : ∀ h2 : bg_G, INV h2 → h2 0 = f → X (1011, [oR 0, oR 2, oR 115, oI (i : Int)], [], (bg_SH n, h2), (138, 29941))) : X (929, [oR 0, oR 2, oR 115, oI (i : Int)], [], (bg_SH n, h), (138, 29941)) := by
  iterate 5 (refine hX _ ?_; conv => whnf)
  refine hX _ ?_; conv => whnf
  try (simp (disch := omega) only [bg_w_id, Int.toNat_natCast, rw_land, sh_land, not_true_eq_false, e0]; try conv => whnf)
  refine ⟨by first | omega | (simp (disch := omega) only [bg_w_id, Int.toNat_natCast, rw_land, sh_land, not_true_eq_false, e0]; omega), ?_⟩
  iterate 4 (refine hX _ ?_; conv => whnf)
  refine hX _ ?_; conv => whnf
  try (simp (disch := omega) only [bg_w_id, Int.toNat_natCast, rw_land, sh_land, not_true_eq_false, e0]; try conv => whnf)
  refine ⟨by first | omega | (simp (disch := omega) only [bg_w_id, Int.toNat_natCast, rw_land, sh_land, not_true_eq_false, e0]; omega), ?_⟩
  refine hX _ ?_; conv => whnf
  refine opi_s (op_nights n h hI _ _ (hf _) (hf _)) f e0 D (by omega) (by omega) _ (fun x h1 e1 kk => ?_)
  conv => whnf
  iterate 5 (refine hX _ ?_; conv => whnf)
  refine hX _ ?_; conv => whnf
  try (simp (disch := omega) only [bg_w_id, Int.toNat_natCast, rw_land, sh_land, not_true_eq_false, e1]; try conv => whnf)
  refine ⟨by first | omega | (simp (disch := omega) only [bg_w_id, Int.toNat_natCast, rw_land, sh_land, not_true_eq_false, e1]; omega), ?_⟩
  iterate 4 (refine hX _ ?_; conv => whnf)
  refine hX _ ?_; conv => whnf
  try (simp (disch := omega) only [bg_w_id, Int.toNat_natCast, rw_land, sh_land, not_true_eq_false, e1]; try conv => whnf)
  refine ⟨by first | omega | (simp (disch := omega) only [bg_w_id, Int.toNat_natCast, rw_land, sh_land, not_true_eq_false, e1]; omega), ?_⟩
  refine hX _ ?_; conv => whnf
  refine kk _ (fun h2 hI2 e2 => ?_)
  conv => whnf
  refine hX _ ?_; conv => whnf
  refine ⟨fun _ => ?_, fun q => absurd rfl q⟩
  exact nx h2 hI2 e2
theorem br_keep {X : bg_F → Prop} (n D : Nat) (hD : 13 ≤ D) (hX : ∀ g, bg_st (bg_Ca bg_MS D) cd_L_law (600000, 7302250) g X (fun r _ => r = some (.inl 1)) → X g) (hn : n ≤ 2147483647) (f : Int → Int) (hf : ∀ j, i32 (f j)) (i : Nat) (hi : i + 4 ≤ n) (h : bg_G) (hI : INV h) (e0 : h 0 = f) (nx : ∀ h2 : bg_G, INV h2 → h2 0 = f → X (1011, [oR 0, oR 2, oR 115, oI (i : Int)], [], (bg_SH n, h2), (138, 29941))) : X (962, [oR 0, oR 2, oR 115, oI (i : Int)], [], (bg_SH n, h), (138, 29941)) := by
  refine hX _ ?_; conv => whnf
  refine hX _ ?_; conv => whnf
  refine opi_s (op_keep n h hI  ) f e0 D (by omega) (by omega) _ (fun x h1 e1 kk => ?_)
  conv => whnf
  refine hX _ ?_; conv => whnf
  refine hX _ ?_; conv => whnf
  refine kk _ (fun h2 hI2 e2 => ?_)
  conv => whnf
  refine hX _ ?_; conv => whnf
  refine ⟨fun _ => ?_, fun q => absurd rfl q⟩
  exact nx h2 hI2 e2
theorem br_back {X : bg_F → Prop} (n D : Nat) (hD : 13 ≤ D) (hX : ∀ g, bg_st (bg_Ca bg_MS D) cd_L_law (600000, 7302250) g X (fun r _ => r = some (.inl 1)) → X g) (hn : n ≤ 2147483647) (f : Int → Int) (hf : ∀ j, i32 (f j)) (i : Nat) (hi : i + 4 ≤ n) (h : bg_G) (hI : INV h) (e0 : h 0 = f) (nx : ∀ h2 : bg_G, INV h2 → h2 0 = f → X (1011, [oR 0, oR 2, oR 115, oI (i : Int)], [], (bg_SH n, h2), (138, 29941))) : X (975, [oR 0, oR 2, oR 115, oI (i : Int)], [], (bg_SH n, h), (138, 29941)) := by
  refine hX _ ?_; conv => whnf
  refine hX _ ?_; conv => whnf
  refine opi_s (op_back n h hI  ) f e0 D (by omega) (by omega) _ (fun x h1 e1 kk => ?_)
  conv => whnf
  refine hX _ ?_; conv => whnf
  refine hX _ ?_; conv => whnf
  refine kk _ (fun h2 hI2 e2 => ?_)
  conv => whnf
  refine hX _ ?_; conv => whnf
  refine ⟨fun _ => ?_, fun q => absurd rfl q⟩
  exact nx h2 hI2 e2
theorem br_count {X : bg_F → Prop} (n D : Nat) (hD : 13 ≤ D) (hX : ∀ g, bg_st (bg_Ca bg_MS D) cd_L_law (600000, 7302250) g X (fun r _ => r = some (.inl 1)) → X g) (hn : n ≤ 2147483647) (f : Int → Int) (hf : ∀ j, i32 (f j)) (i : Nat) (hi : i + 4 ≤ n) (h : bg_G) (hI : INV h) (e0 : h 0 = f) (nx : ∀ h2 : bg_G, INV h2 → h2 0 = f → X (1011, [oR 0, oR 2, oR 115, oI (i : Int)], [], (bg_SH n, h2), (138, 29941))) : X (988, [oR 0, oR 2, oR 115, oI (i : Int)], [], (bg_SH n, h), (138, 29941)) := by
  iterate 5 (refine hX _ ?_; conv => whnf)
  refine hX _ ?_; conv => whnf
  try (simp (disch := omega) only [bg_w_id, Int.toNat_natCast, rw_land, sh_land, not_true_eq_false, e0]; try conv => whnf)
  refine ⟨by first | omega | (simp (disch := omega) only [bg_w_id, Int.toNat_natCast, rw_land, sh_land, not_true_eq_false, e0]; omega), ?_⟩
  refine hX _ ?_; conv => whnf
  refine opi_s (op_count n h hI _ (hf _)) f e0 D (by omega) (by omega) _ (fun x h1 e1 kk => ?_)
  conv => whnf
  iterate 5 (refine hX _ ?_; conv => whnf)
  refine hX _ ?_; conv => whnf
  try (simp (disch := omega) only [bg_w_id, Int.toNat_natCast, rw_land, sh_land, not_true_eq_false, e1]; try conv => whnf)
  refine ⟨by first | omega | (simp (disch := omega) only [bg_w_id, Int.toNat_natCast, rw_land, sh_land, not_true_eq_false, e1]; omega), ?_⟩
  refine hX _ ?_; conv => whnf
  refine kk _ (fun h2 hI2 e2 => ?_)
  conv => whnf
  refine hX _ ?_; conv => whnf
  refine ⟨fun _ => ?_, fun q => absurd rfl q⟩
  exact nx h2 hI2 e2
theorem law_at {X : bg_F → Prop} (n D : Nat) (hD : 13 ≤ D) (hX : ∀ g, bg_st (bg_Ca bg_MS D) cd_L_law (600000, 7302250) g X (fun r _ => r = some (.inl 1)) → X g) (hn : n ≤ 2147483647) (f : Int → Int) (hf : ∀ j, i32 (f j)) : ∀ (m i : Nat), n ≤ i + m → i ≤ n → ∀ h : bg_G, INV h → h 0 = f → X (18, [oR 0, oR 2, oR 115, oI (i : Int)], [], (bg_SH n, h), (138, 29941)) := by
  intro m
  induction m with
  | zero =>
    intro i h1 h2 h hI e0
    iterate 5 (refine hX _ ?_; conv => whnf)
    refine hX _ ?_; conv => whnf
    refine ⟨fun _ => ?_, fun q => ?_⟩
    · refine hX _ ?_; conv => whnf
      refine hX _ ?_; conv => whnf
      exact ⟨Or.inr rfl, rfl⟩
    · exfalso
      simp (disch := omega) only [bg_w_id] at q
      omega
  | succ m ih =>
    intro i h1 h2 h hI e0
    iterate 5 (refine hX _ ?_; conv => whnf)
    refine hX _ ?_; conv => whnf
    refine ⟨fun _ => ?_, fun q => ?_⟩
    · refine hX _ ?_; conv => whnf
      refine hX _ ?_; conv => whnf
      exact ⟨Or.inr rfl, rfl⟩
    · simp (disch := omega) only [bg_w_id] at q
      have hi : i + 4 ≤ n := by omega
      have nx : ∀ h2 : bg_G, INV h2 → h2 0 = f → X (1011, [oR 0, oR 2, oR 115, oI (i : Int)], [], (bg_SH n, h2), (138, 29941)) := fun h2 hI2 e2 => by
        iterate 2 (refine hX _ ?_; conv => whnf)
        exact ih (i + 4) (by omega) (by omega) h2 hI2 e2
      iterate 2 (refine hX _ ?_; conv => whnf)
      refine hX _ ?_; conv => whnf
      try (simp (disch := omega) only [bg_w_id, Int.toNat_natCast, rw_land, sh_land, not_true_eq_false, e0]; try conv => whnf)
      refine ⟨by first | omega | (simp (disch := omega) only [bg_w_id, Int.toNat_natCast, rw_land, sh_land, not_true_eq_false, e0]; omega), ?_⟩
      iterate 2 (refine hX _ ?_; conv => whnf)
      refine hX _ ?_; conv => whnf
      refine sw_all (K := fun t => X (t, [oR 0, oR 2, oR 115, oI (i : Int)], [], (bg_SH n, h), (138, 29941))) (nx h hI e0) [(0, 168), (1, 231), (2, 244), (3, 257), (4, 270), (5, 303), (6, 336), (7, 369), (8, 402), (9, 435), (10, 458), (11, 491), (12, 514), (13, 527), (14, 560), (15, 603), (16, 636), (17, 669), (18, 703), (19, 736), (20, 749), (21, 782), (22, 815), (23, 839), (24, 883), (25, 916), (26, 929), (27, 962), (28, 975), (29, 988)] ?_
      intro q hq
      simp only [List.mem_cons, List.not_mem_nil, or_false] at hq
      rcases hq with rfl | rfl | rfl | rfl | rfl | rfl | rfl | rfl | rfl | rfl | rfl | rfl | rfl | rfl | rfl | rfl | rfl | rfl | rfl | rfl | rfl | rfl | rfl | rfl | rfl | rfl | rfl | rfl | rfl | rfl
      · exact br_write n D hD hX hn f hf i hi h hI e0 nx
      · exact br_wipe n D hD hX hn f hf i hi h hI e0 nx
      · exact br_fault n D hD hX hn f hf i hi h hI e0 nx
      · exact br_lay n D hD hX hn f hf i hi h hI e0 nx
      · exact br_path n D hD hX hn f hf i hi h hI e0 nx
      · exact br_posts n D hD hX hn f hf i hi h hI e0 nx
      · exact br_bears n D hD hX hn f hf i hi h hI e0 nx
      · exact br_most n D hD hX hn f hf i hi h hI e0 nx
      · exact br_row n D hD hX hn f hf i hi h hI e0 nx
      · exact br_judge n D hD hX hn f hf i hi h hI e0 nx
      · exact br_best n D hD hX hn f hf i hi h hI e0 nx
      · exact br_fewest n D hD hX hn f hf i hi h hI e0 nx
      · exact br_more n D hD hX hn f hf i hi h hI e0 nx
      · exact br_oneMore n D hD hX hn f hf i hi h hI e0 nx
      · exact br_weighed n D hD hX hn f hf i hi h hI e0 nx
      · exact br_way n D hD hX hn f hf i hi h hI e0 nx
      · exact br_through n D hD hX hn f hf i hi h hI e0 nx
      · exact br_gain n D hD hX hn f hf i hi h hI e0 nx
      · exact br_bestWay n D hD hX hn f hf i hi h hI e0 nx
      · exact br_leastPay n D hD hX hn f hf i hi h hI e0 nx
      · exact br_guard n D hD hX hn f hf i hi h hI e0 nx
      · exact br_carrier n D hD hX hn f hf i hi h hI e0 nx
      · exact br_value n D hD hX hn f hf i hi h hI e0 nx
      · exact br_chance n D hD hX hn f hf i hi h hI e0 nx
      · exact br_tenths n D hD hX hn f hf i hi h hI e0 nx
      · exact br_told n D hD hX hn f hf i hi h hI e0 nx
      · exact br_nights n D hD hX hn f hf i hi h hI e0 nx
      · exact br_keep n D hD hX hn f hf i hi h hI e0 nx
      · exact br_back n D hD hX hn f hf i hi h hI e0 nx
      · exact br_count n D hD hX hn f hf i hi h hI e0 nx
set_option maxRecDepth 100000 in
theorem law_run {X : bg_F → Prop} (n D : Nat) (hD : 13 ≤ D) (hX : ∀ g, bg_st (bg_Ca bg_MS D) cd_L_law (600000, 7302250) g X (fun r _ => r = some (.inl 1)) → X g) (hn : n ≤ 2147483647) (h : bg_G) (hf : ∀ j, i32 (h 0 j)) (hl : limC h) : X (0, [oR 0, none, none, none], [], ([(16, n, []), (16, 7, [])], h), (0, 0)) := by
  obtain ⟨d, hd⟩ : ∃ d, D = d + 12 := ⟨D - 12, by omega⟩
  have y8 : ∀ Rt : bg_R, (∀ h' : bg_G, h' 0 = bg_zero h 2 1 0 → h' 1 = bg_zero h 2 1 1 → h' 2 13 = 0 → h' 3 3 = 0 → holdC h' 22 D0 → (∀ k : Nat, k < 4 → h' 54 k = -1 ∧ h' 55 k = -1) → (∀ j, h' 73 j = 0 ∧ h' 74 j = 0) → (∀ c : Nat, c < 64 → h' 39 c = 0) → h' 41 5 = 0 → h' 41 4 = 0 → h' 46 7 = 0 → h' 46 9 = 0 → Rt none (S4 n, h')) → bg_Ca bg_MS D 8 [vR 2] ([(16, n, []), (16, 7, [])] ++ [(8, 14, List.replicate 14 none)], bg_zero h 2 1) Rt := fun Rt hR => by
    rw [hd]
    exact x8_init (d + 8) n (bg_zero h 2 1) Rt hR
  have y9 : ∀ (h1 : bg_G) (Rt : bg_R), (∀ h' : bg_G, (∀ k, k ≤ 115 → h' k = bg_zero h1 115 1 k) → (∀ k, 116 ≤ k → k < 140 → k ≠ 121 → k ≠ 122 → k ≠ 123 → ∀ j, h' k j = 0) → (h' 121 0 = 0 ∧ h' 121 1 = 100 ∧ h' 121 2 = 0) → (∀ k : Nat, k < 4 → h' 122 k = -1 ∧ h' 123 k = -1) → Rt none (bg_SH n, h')) → bg_Ca bg_MS D 9 [vR 115] (S4 n ++ [(9, 33, List.replicate 33 none)], bg_zero h1 115 1) Rt := fun h1 Rt hR => by
    rw [hd]
    exact x9_walk (d + 10) n (bg_zero h1 115 1) Rt hR
  clear hd
  iterate 2 (refine hX _ ?_; conv => whnf)
  refine hX _ ?_; conv => whnf
  refine y8 _ (fun h1 a0 a1 a2 a3 a4 a5 a6 a7 a8 a8' a9 a10 => ?_)
  conv => whnf
  iterate 3 (refine hX _ ?_; conv => whnf)
  refine hX _ ?_; conv => whnf
  refine y9 h1 _ (fun h2 b1 b2 b3 b4 => ?_)
  conv => whnf
  iterate 3 (refine hX _ ?_; conv => whnf)
  have g : ∀ k, k < 115 → h2 k = h1 k := fun k hk => by rw [b1 k (by omega)]; funext j; exact zr_ne hk
  have z0 : h2 0 = h 0 := by rw [g 0 (by omega), a0]; funext j; exact zr_ne (by omega)
  have z1 : h2 1 = h 1 := by rw [g 1 (by omega), a1]; funext j; exact zr_ne (by omega)
  refine law_at n D hD hX hn (h 0) hf n 0 (by omega) (by omega) h2 (inv_new (fun i hi => by rw [z1]; exact hl i hi) (by rw [g 2 (by omega)]; exact a2) (by rw [g 3 (by omega)]; exact a3) (holdC_fr a4 (fun k k1 k2 => g k (by omega))) (fun k hk => by rw [g 54 (by omega), g 55 (by omega)]; exact a5 k hk) (fun j => by rw [g 73 (by omega), g 74 (by omega)]; exact a6 j) (fun c hc => by rw [g 39 (by omega)]; exact a7 c hc) (by rw [g 41 (by omega)]; exact a8) (by rw [g 41 (by omega)]; exact a8') (by rw [g 46 (by omega)]; exact a9) (by rw [g 46 (by omega)]; exact a10) (fun j => by rw [b1 115 (by omega)]; exact zr_in (by omega) (by omega)) b2 b3 b4) z0
