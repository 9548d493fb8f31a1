/-! the constructors of the class -/
/-- the shapes while they are made: the first m, with x's references so far -/
def SHm (n m : Nat) (rs a b : List (Option Nat)) : List bg_C := ((((bg_SH n).take m).set 2 (8, 14, rs)).set 74 (12, 2, a)).set 75 (13, 2, b)
theorem zr_ne {h : bg_G} {a m k : Nat} {j : Int} (hk : k < a) : bg_zero h a m k j = h k j := by
  unfold bg_zero
  rw [if_neg (by omega)]
theorem zr_in {h : bg_G} {a m k : Nat} {j : Int} (h1 : a ≤ k) (h2 : k < a + m) : bg_zero h a m k j = 0 := by
  unfold bg_zero
  rw [if_pos ⟨h1, h2⟩]
theorem c_3 (d n : Nat) (h : bg_G) (Rt : bg_R) (hR : ∀ h' : bg_G, (∀ k, k ≤ 3 → h' k = h k) → Rt none (SHm n 6 [none, none, none, none, none, none, none, none, none, none, none, none, none, none] [none, none] [none, none], h')) : bg_Ca bg_MS (d + 1) 6 [vR 3] (SHm n 3 [none, none, none, none, none, none, none, none, none, none, none, none, none, none] [none, none] [none, none] ++ [(6, 4, List.replicate 4 none)], h) Rt := by
  refine bg_ca (cd := cd_X6_init) rfl rfl ?_
  intro X hX
  iterate 4 (refine hX _ ?_; conv => whnf)
  refine hX _ ?_; conv => whnf
  refine ⟨by first | rfl | decide, ?_⟩
  iterate 3 (refine hX _ ?_; conv => whnf)
  refine hX _ ?_; conv => whnf
  refine ⟨by first | rfl | decide, ?_⟩
  refine hX _ ?_; conv => whnf
  refine hX _ ?_; conv => whnf
  refine hR (bg_zero (bg_zero h 4 1) 5 1) (fun k hk => ?_)
  funext j
  simp (disch := omega) only [zr_ne]
theorem l_6 (n : Nat) : lndS (SHm n 22 [some 3, none, none, none, none, none, none, none, none, none, none, none, none, none] [none, none] [none, none]) 6 := by
  refine ⟨rfl, rfl, fun p hp => ?_, rfl, rfl⟩
  match p, hp with
  | 0, _ => rfl
  | 1, _ => rfl
  | 2, _ => rfl
  | 3, _ => rfl
  | 4, _ => rfl
  | 5, _ => rfl
  | 6, _ => rfl
  | 7, _ => rfl
  | 8, _ => rfl
  | 9, _ => rfl
  | 10, _ => rfl
  | 11, _ => rfl
  | p + 12, h => exact absurd h (by omega)
theorem c_6 (d n : Nat) (h : bg_G) (Rt : bg_R) (hR : ∀ h' : bg_G, (∀ k, k < 6 → h' k = h k) → holdC h' 6 D0 → Rt none (SHm n 22 [some 3, none, none, none, none, none, none, none, none, none, none, none, none, none] [none, none] [none, none], h')) : bg_Ca bg_MS (d + 3) 2 [vR 6] (SHm n 6 [some 3, none, none, none, none, none, none, none, none, none, none, none, none, none] [none, none] [none, none] ++ [(2, 8, List.replicate 8 none)], h) Rt := by
  refine bg_ca (cd := cd_X2_init) rfl rfl ?_
  intro X hX
  iterate 5 (refine hX _ ?_; conv => whnf)
  refine hX _ ?_; conv => whnf
  refine ⟨⟨by first | rfl | decide, by first | rfl | decide⟩, ?_⟩
  iterate 3 (refine hX _ ?_; conv => whnf)
  refine hX _ ?_; conv => whnf
  refine ⟨by first | rfl | decide, ?_⟩
  iterate 3 (refine hX _ ?_; conv => whnf)
  refine hX _ ?_; conv => whnf
  refine ⟨by first | rfl | decide, ?_⟩
  iterate 2 (refine hX _ ?_; conv => whnf)
  refine hX _ ?_; conv => whnf
  refine s_clear d 6 (SHm n 22 [some 3, none, none, none, none, none, none, none, none, none, none, none, none, none] [none, none] [none, none]) (l_6 n) (bg_zero (bg_zero (bg_zero h 7 13) 20 1) 21 1) _ (fun h1 f1 f2 => ?_)
  conv => whnf
  refine hX _ ?_; conv => whnf
  refine hR h1 (fun k hk => ?_) f2
  rw [f1 k (Or.inl hk)]
  funext j
  simp (disch := omega) only [zr_ne]
theorem l_22 (n : Nat) : lndS (SHm n 38 [some 3, some 6, none, none, none, none, none, none, none, none, none, none, none, none] [none, none] [none, none]) 22 := by
  refine ⟨rfl, rfl, fun p hp => ?_, rfl, rfl⟩
  match p, hp with
  | 0, _ => rfl
  | 1, _ => rfl
  | 2, _ => rfl
  | 3, _ => rfl
  | 4, _ => rfl
  | 5, _ => rfl
  | 6, _ => rfl
  | 7, _ => rfl
  | 8, _ => rfl
  | 9, _ => rfl
  | 10, _ => rfl
  | 11, _ => rfl
  | p + 12, h => exact absurd h (by omega)
theorem c_22 (d n : Nat) (h : bg_G) (Rt : bg_R) (hR : ∀ h' : bg_G, (∀ k, k < 22 → h' k = h k) → holdC h' 22 D0 → Rt none (SHm n 38 [some 3, some 6, none, none, none, none, none, none, none, none, none, none, none, none] [none, none] [none, none], h')) : bg_Ca bg_MS (d + 3) 2 [vR 22] (SHm n 22 [some 3, some 6, none, none, none, none, none, none, none, none, none, none, none, none] [none, none] [none, none] ++ [(2, 8, List.replicate 8 none)], h) Rt := by
  refine bg_ca (cd := cd_X2_init) rfl rfl ?_
  intro X hX
  iterate 5 (refine hX _ ?_; conv => whnf)
  refine hX _ ?_; conv => whnf
  refine ⟨⟨by first | rfl | decide, by first | rfl | decide⟩, ?_⟩
  iterate 3 (refine hX _ ?_; conv => whnf)
  refine hX _ ?_; conv => whnf
  refine ⟨by first | rfl | decide, ?_⟩
  iterate 3 (refine hX _ ?_; conv => whnf)
  refine hX _ ?_; conv => whnf
  refine ⟨by first | rfl | decide, ?_⟩
  iterate 2 (refine hX _ ?_; conv => whnf)
  refine hX _ ?_; conv => whnf
  refine s_clear d 22 (SHm n 38 [some 3, some 6, none, none, none, none, none, none, none, none, none, none, none, none] [none, none] [none, none]) (l_22 n) (bg_zero (bg_zero (bg_zero h 23 13) 36 1) 37 1) _ (fun h1 f1 f2 => ?_)
  conv => whnf
  refine hX _ ?_; conv => whnf
  refine hR h1 (fun k hk => ?_) f2
  rw [f1 k (Or.inl hk)]
  funext j
  simp (disch := omega) only [zr_ne]
theorem c_38 (d n : Nat) (h : bg_G) (Rt : bg_R) (hR : ∀ h' : bg_G, (∀ k, k ≤ 38 → h' k = h k) → Rt none (SHm n 41 [some 3, some 6, some 22, none, none, none, none, none, none, none, none, none, none, none] [none, none] [none, none], h')) : bg_Ca bg_MS (d + 1) 0 [vR 38] (SHm n 38 [some 3, some 6, some 22, none, none, none, none, none, none, none, none, none, none, none] [none, none] [none, none] ++ [(0, 4, List.replicate 4 none)], h) Rt := by
  refine bg_ca (cd := cd_X0_init) rfl rfl ?_
  intro X hX
  iterate 4 (refine hX _ ?_; conv => whnf)
  refine hX _ ?_; conv => whnf
  refine ⟨by first | rfl | decide, ?_⟩
  iterate 3 (refine hX _ ?_; conv => whnf)
  refine hX _ ?_; conv => whnf
  refine ⟨by first | rfl | decide, ?_⟩
  refine hX _ ?_; conv => whnf
  refine hX _ ?_; conv => whnf
  refine hR (bg_zero (bg_zero h 39 1) 40 1) (fun k hk => ?_)
  funext j
  simp (disch := omega) only [zr_ne]
theorem c_41 (d n : Nat) (h : bg_G) (Rt : bg_R) (hR : ∀ h' : bg_G, (∀ k, k ≤ 41 → h' k = h k) → Rt none (SHm n 45 [some 3, some 6, some 22, some 38, none, none, none, none, none, none, none, none, none, none] [none, none] [none, none], h')) : bg_Ca bg_MS (d + 1) 7 [vR 41] (SHm n 41 [some 3, some 6, some 22, some 38, none, none, none, none, none, none, none, none, none, none] [none, none] [none, none] ++ [(7, 4, List.replicate 4 none)], h) Rt := by
  refine bg_ca (cd := cd_X7_init) rfl rfl ?_
  intro X hX
  iterate 4 (refine hX _ ?_; conv => whnf)
  refine hX _ ?_; conv => whnf
  refine ⟨by first | rfl | decide, ?_⟩
  iterate 3 (refine hX _ ?_; conv => whnf)
  refine hX _ ?_; conv => whnf
  refine ⟨by first | rfl | decide, ?_⟩
  iterate 3 (refine hX _ ?_; conv => whnf)
  refine hX _ ?_; conv => whnf
  refine ⟨by first | rfl | decide, ?_⟩
  refine hX _ ?_; conv => whnf
  refine hX _ ?_; conv => whnf
  refine hR (bg_zero (bg_zero (bg_zero h 42 1) 43 1) 44 1) (fun k hk => ?_)
  funext j
  simp (disch := omega) only [zr_ne]
set_option maxRecDepth 100000 in
theorem c_45 (d n : Nat) (h : bg_G) (Rt : bg_R) (hR : ∀ h' : bg_G, (∀ k, k ≤ 45 → h' k = h k) → Rt none (SHm n 52 [some 3, some 6, some 22, some 38, some 41, none, none, none, none, none, none, none, none, none] [none, none] [none, none], h')) : bg_Ca bg_MS (d + 1) 4 [vR 45] (SHm n 45 [some 3, some 6, some 22, some 38, some 41, none, none, none, none, none, none, none, none, none] [none, none] [none, none] ++ [(4, 12, List.replicate 12 none)], h) Rt := by
  refine bg_ca (cd := cd_X4_init) rfl rfl ?_
  intro X hX
  iterate 4 (refine hX _ ?_; conv => whnf)
  refine hX _ ?_; conv => whnf
  refine ⟨by first | rfl | decide, ?_⟩
  refine hX _ ?_; conv => whnf
  change X (13, [oR 45], [], (SHm n 45 [some 3, some 6, some 22, some 38, some 41, none, none, none, none, none, none, none, none, none] [none, none] [none, none] ++ [(4, 12, [some 46, none, none, none, none, none, none, none, none, none, none, none]), (10, 4096, [])], (bg_zero h 46 1)), (1, 4096))
  iterate 2 (refine hX _ ?_; conv => whnf)
  refine hX _ ?_; conv => whnf
  refine ⟨by first | rfl | decide, ?_⟩
  refine hX _ ?_; conv => whnf
  change X (22, [oR 45], [], (SHm n 45 [some 3, some 6, some 22, some 38, some 41, none, none, none, none, none, none, none, none, none] [none, none] [none, none] ++ [(4, 12, [some 46, some 47, none, none, none, none, none, none, none, none, none, none]), (10, 4096, []), (10, 4096, [])], (bg_zero (bg_zero h 46 1) 47 1)), (2, 8192))
  iterate 2 (refine hX _ ?_; conv => whnf)
  refine hX _ ?_; conv => whnf
  refine ⟨by first | rfl | decide, ?_⟩
  refine hX _ ?_; conv => whnf
  change X (31, [oR 45], [], (SHm n 45 [some 3, some 6, some 22, some 38, some 41, none, none, none, none, none, none, none, none, none] [none, none] [none, none] ++ [(4, 12, [some 46, some 47, some 48, none, none, none, none, none, none, none, none, none]), (10, 4096, []), (10, 4096, []), (10, 4096, [])], (bg_zero (bg_zero (bg_zero h 46 1) 47 1) 48 1)), (3, 12288))
  iterate 2 (refine hX _ ?_; conv => whnf)
  refine hX _ ?_; conv => whnf
  refine ⟨by first | rfl | decide, ?_⟩
  refine hX _ ?_; conv => whnf
  change X (39, [oR 45], [], (SHm n 45 [some 3, some 6, some 22, some 38, some 41, none, none, none, none, none, none, none, none, none] [none, none] [none, none] ++ [(4, 12, [some 46, some 47, some 48, some 49, none, none, none, none, none, none, none, none]), (10, 4096, []), (10, 4096, []), (10, 4096, []), (10, 12, [])], (bg_zero (bg_zero (bg_zero (bg_zero h 46 1) 47 1) 48 1) 49 1)), (4, 12300))
  iterate 2 (refine hX _ ?_; conv => whnf)
  refine hX _ ?_; conv => whnf
  refine ⟨by first | rfl | decide, ?_⟩
  refine hX _ ?_; conv => whnf
  change X (48, [oR 45], [], (SHm n 45 [some 3, some 6, some 22, some 38, some 41, none, none, none, none, none, none, none, none, none] [none, none] [none, none] ++ [(4, 12, [some 46, some 47, some 48, some 49, some 50, none, none, none, none, none, none, none]), (10, 4096, []), (10, 4096, []), (10, 4096, []), (10, 12, []), (10, 301, [])], (bg_zero (bg_zero (bg_zero (bg_zero (bg_zero h 46 1) 47 1) 48 1) 49 1) 50 1)), (5, 12601))
  iterate 2 (refine hX _ ?_; conv => whnf)
  refine hX _ ?_; conv => whnf
  refine ⟨by first | rfl | decide, ?_⟩
  refine hX _ ?_; conv => whnf
  change X (57, [oR 45], [], (SHm n 45 [some 3, some 6, some 22, some 38, some 41, none, none, none, none, none, none, none, none, none] [none, none] [none, none] ++ [(4, 12, [some 46, some 47, some 48, some 49, some 50, some 51, none, none, none, none, none, none]), (10, 4096, []), (10, 4096, []), (10, 4096, []), (10, 12, []), (10, 301, []), (10, 301, [])], (bg_zero (bg_zero (bg_zero (bg_zero (bg_zero (bg_zero h 46 1) 47 1) 48 1) 49 1) 50 1) 51 1)), (6, 12902))
  refine hX _ ?_; conv => whnf
  refine hR (bg_zero (bg_zero (bg_zero (bg_zero (bg_zero (bg_zero h 46 1) 47 1) 48 1) 49 1) 50 1) 51 1) (fun k hk => ?_)
  funext j
  simp (disch := omega) only [zr_ne]
set_option maxRecDepth 100000 in
theorem c_52 (d n : Nat) (h : bg_G) (Rt : bg_R) (hR : ∀ h' : bg_G, (∀ k, k ≤ 52 → h' k = h k) → (∀ k : Nat, k < 4 → h' 53 k = -1 ∧ h' 54 k = -1) → Rt none (SHm n 55 [some 3, some 6, some 22, some 38, some 41, some 45, none, none, none, none, none, none, none, none] [none, none] [none, none], h')) : bg_Ca bg_MS (d + 3) 3 [vR 52] (SHm n 52 [some 3, some 6, some 22, some 38, some 41, some 45, none, none, none, none, none, none, none, none] [none, none] [none, none] ++ [(3, 2, List.replicate 2 none)], h) Rt := by
  refine bg_ca (cd := cd_X3_init) rfl rfl ?_
  intro X hX
  iterate 4 (refine hX _ ?_; conv => whnf)
  refine hX _ ?_; conv => whnf
  refine ⟨by first | rfl | decide, ?_⟩
  iterate 3 (refine hX _ ?_; conv => whnf)
  refine hX _ ?_; conv => whnf
  refine ⟨by first | rfl | decide, ?_⟩
  iterate 2 (refine hX _ ?_; conv => whnf)
  refine hX _ ?_; conv => whnf
  refine s_tclear d 52 (SHm n 55 [some 3, some 6, some 22, some 38, some 41, some 45, none, none, none, none, none, none, none, none] [none, none] [none, none]) ⟨rfl, rfl, rfl⟩ (bg_zero (bg_zero h 53 1) 54 1) _ (fun h1 f1 f2 => ?_)
  conv => whnf
  refine hX _ ?_; conv => whnf
  refine hR h1 (fun k hk => ?_) f2
  rw [f1 k (by omega) (by omega)]
  funext j
  simp (disch := omega) only [zr_ne]
theorem c_55 (d n : Nat) (h : bg_G) (Rt : bg_R) (hR : ∀ h' : bg_G, (∀ k, k ≤ 55 → h' k = h k) → Rt none (SHm n 67 [some 3, some 6, some 22, some 38, some 41, some 45, some 52, none, none, none, none, none, none, none] [none, none] [none, none], h')) : bg_Ca bg_MS (d + 1) 1 [vR 55] (SHm n 55 [some 3, some 6, some 22, some 38, some 41, some 45, some 52, none, none, none, none, none, none, none] [none, none] [none, none] ++ [(1, 6, List.replicate 6 none)], h) Rt := by
  refine bg_ca (cd := cd_X1_init) rfl rfl ?_
  intro X hX
  iterate 5 (refine hX _ ?_; conv => whnf)
  refine hX _ ?_; conv => whnf
  refine ⟨⟨by first | rfl | decide, by first | rfl | decide⟩, ?_⟩
  iterate 3 (refine hX _ ?_; conv => whnf)
  refine hX _ ?_; conv => whnf
  refine ⟨by first | rfl | decide, ?_⟩
  iterate 3 (refine hX _ ?_; conv => whnf)
  refine hX _ ?_; conv => whnf
  refine ⟨by first | rfl | decide, ?_⟩
  iterate 4 (refine hX _ ?_; conv => whnf)
  refine hX _ ?_; conv => whnf
  refine ⟨⟨by first | rfl | decide, by first | rfl | decide⟩, ?_⟩
  refine hX _ ?_; conv => whnf
  refine hX _ ?_; conv => whnf
  refine hR (bg_zero (bg_zero (bg_zero (bg_zero h 56 5) 61 1) 62 1) 63 4) (fun k hk => ?_)
  funext j
  simp (disch := omega) only [zr_ne]
theorem c_67 (d n : Nat) (h : bg_G) (Rt : bg_R) (hR : ∀ h' : bg_G, (∀ k, k ≤ 67 → h' k = h k) → Rt none (SHm n 72 [some 3, some 6, some 22, some 38, some 41, some 45, some 52, some 55, none, none, none, none, none, none] [none, none] [none, none], h')) : bg_Ca bg_MS (d + 1) 5 [vR 67] (SHm n 67 [some 3, some 6, some 22, some 38, some 41, some 45, some 52, some 55, none, none, none, none, none, none] [none, none] [none, none] ++ [(5, 4, List.replicate 4 none)], h) Rt := by
  refine bg_ca (cd := cd_X5_init) rfl rfl ?_
  intro X hX
  iterate 4 (refine hX _ ?_; conv => whnf)
  refine hX _ ?_; conv => whnf
  refine ⟨by first | rfl | decide, ?_⟩
  iterate 3 (refine hX _ ?_; conv => whnf)
  refine hX _ ?_; conv => whnf
  refine ⟨by first | rfl | decide, ?_⟩
  iterate 3 (refine hX _ ?_; conv => whnf)
  refine hX _ ?_; conv => whnf
  refine ⟨by first | rfl | decide, ?_⟩
  iterate 3 (refine hX _ ?_; conv => whnf)
  refine hX _ ?_; conv => whnf
  refine ⟨by first | rfl | decide, ?_⟩
  refine hX _ ?_; conv => whnf
  refine hX _ ?_; conv => whnf
  refine hR (bg_zero (bg_zero (bg_zero (bg_zero h 68 1) 69 1) 70 1) 71 1) (fun k hk => ?_)
  funext j
  simp (disch := omega) only [zr_ne]
theorem l_76 (n : Nat) : lndS (SHm n 92 [some 3, some 6, some 22, some 38, some 41, some 45, some 52, some 55, some 67, some 72, some 73, some 74, some 75, none] [none, none] [none, none]) 76 := by
  refine ⟨rfl, rfl, fun p hp => ?_, rfl, rfl⟩
  match p, hp with
  | 0, _ => rfl
  | 1, _ => rfl
  | 2, _ => rfl
  | 3, _ => rfl
  | 4, _ => rfl
  | 5, _ => rfl
  | 6, _ => rfl
  | 7, _ => rfl
  | 8, _ => rfl
  | 9, _ => rfl
  | 10, _ => rfl
  | 11, _ => rfl
  | p + 12, h => exact absurd h (by omega)
theorem c_76 (d n : Nat) (h : bg_G) (Rt : bg_R) (hR : ∀ h' : bg_G, (∀ k, k < 76 → h' k = h k) → holdC h' 76 D0 → Rt none (SHm n 92 [some 3, some 6, some 22, some 38, some 41, some 45, some 52, some 55, some 67, some 72, some 73, some 74, some 75, none] [none, none] [none, none], h')) : bg_Ca bg_MS (d + 3) 2 [vR 76] (SHm n 76 [some 3, some 6, some 22, some 38, some 41, some 45, some 52, some 55, some 67, some 72, some 73, some 74, some 75, none] [none, none] [none, none] ++ [(2, 8, List.replicate 8 none)], h) Rt := by
  refine bg_ca (cd := cd_X2_init) rfl rfl ?_
  intro X hX
  iterate 5 (refine hX _ ?_; conv => whnf)
  refine hX _ ?_; conv => whnf
  refine ⟨⟨by first | rfl | decide, by first | rfl | decide⟩, ?_⟩
  iterate 3 (refine hX _ ?_; conv => whnf)
  refine hX _ ?_; conv => whnf
  refine ⟨by first | rfl | decide, ?_⟩
  iterate 3 (refine hX _ ?_; conv => whnf)
  refine hX _ ?_; conv => whnf
  refine ⟨by first | rfl | decide, ?_⟩
  iterate 2 (refine hX _ ?_; conv => whnf)
  refine hX _ ?_; conv => whnf
  refine s_clear d 76 (SHm n 92 [some 3, some 6, some 22, some 38, some 41, some 45, some 52, some 55, some 67, some 72, some 73, some 74, some 75, none] [none, none] [none, none]) (l_76 n) (bg_zero (bg_zero (bg_zero h 77 13) 90 1) 91 1) _ (fun h1 f1 f2 => ?_)
  conv => whnf
  refine hX _ ?_; conv => whnf
  refine hR h1 (fun k hk => ?_) f2
  rw [f1 k (Or.inl hk)]
  funext j
  simp (disch := omega) only [zr_ne]
set_option maxRecDepth 100000 in
theorem c_92 (d n : Nat) (h : bg_G) (Rt : bg_R) (hR : ∀ h' : bg_G, (∀ k, k ≤ 92 → h' k = h k) → (∀ k : Nat, k < 4 → h' 93 k = -1 ∧ h' 94 k = -1) → Rt none (SHm n 95 [some 3, some 6, some 22, some 38, some 41, some 45, some 52, some 55, some 67, some 72, some 73, some 74, some 75, none] [some 76, none] [none, none], h')) : bg_Ca bg_MS (d + 3) 3 [vR 92] (SHm n 92 [some 3, some 6, some 22, some 38, some 41, some 45, some 52, some 55, some 67, some 72, some 73, some 74, some 75, none] [some 76, none] [none, none] ++ [(3, 2, List.replicate 2 none)], h) Rt := by
  refine bg_ca (cd := cd_X3_init) rfl rfl ?_
  intro X hX
  iterate 4 (refine hX _ ?_; conv => whnf)
  refine hX _ ?_; conv => whnf
  refine ⟨by first | rfl | decide, ?_⟩
  iterate 3 (refine hX _ ?_; conv => whnf)
  refine hX _ ?_; conv => whnf
  refine ⟨by first | rfl | decide, ?_⟩
  iterate 2 (refine hX _ ?_; conv => whnf)
  refine hX _ ?_; conv => whnf
  refine s_tclear d 92 (SHm n 95 [some 3, some 6, some 22, some 38, some 41, some 45, some 52, some 55, some 67, some 72, some 73, some 74, some 75, none] [some 76, none] [none, none]) ⟨rfl, rfl, rfl⟩ (bg_zero (bg_zero h 93 1) 94 1) _ (fun h1 f1 f2 => ?_)
  conv => whnf
  refine hX _ ?_; conv => whnf
  refine hR h1 (fun k hk => ?_) f2
  rw [f1 k (by omega) (by omega)]
  funext j
  simp (disch := omega) only [zr_ne]
theorem l_95 (n : Nat) : lndS (SHm n 111 [some 3, some 6, some 22, some 38, some 41, some 45, some 52, some 55, some 67, some 72, some 73, some 74, some 75, none] [some 76, none] [some 92, none]) 95 := by
  refine ⟨rfl, rfl, fun p hp => ?_, rfl, rfl⟩
  match p, hp with
  | 0, _ => rfl
  | 1, _ => rfl
  | 2, _ => rfl
  | 3, _ => rfl
  | 4, _ => rfl
  | 5, _ => rfl
  | 6, _ => rfl
  | 7, _ => rfl
  | 8, _ => rfl
  | 9, _ => rfl
  | 10, _ => rfl
  | 11, _ => rfl
  | p + 12, h => exact absurd h (by omega)
theorem c_95 (d n : Nat) (h : bg_G) (Rt : bg_R) (hR : ∀ h' : bg_G, (∀ k, k < 95 → h' k = h k) → holdC h' 95 D0 → Rt none (SHm n 111 [some 3, some 6, some 22, some 38, some 41, some 45, some 52, some 55, some 67, some 72, some 73, some 74, some 75, none] [some 76, none] [some 92, none], h')) : bg_Ca bg_MS (d + 3) 2 [vR 95] (SHm n 95 [some 3, some 6, some 22, some 38, some 41, some 45, some 52, some 55, some 67, some 72, some 73, some 74, some 75, none] [some 76, none] [some 92, none] ++ [(2, 8, List.replicate 8 none)], h) Rt := by
  refine bg_ca (cd := cd_X2_init) rfl rfl ?_
  intro X hX
  iterate 5 (refine hX _ ?_; conv => whnf)
  refine hX _ ?_; conv => whnf
  refine ⟨⟨by first | rfl | decide, by first | rfl | decide⟩, ?_⟩
  iterate 3 (refine hX _ ?_; conv => whnf)
  refine hX _ ?_; conv => whnf
  refine ⟨by first | rfl | decide, ?_⟩
  iterate 3 (refine hX _ ?_; conv => whnf)
  refine hX _ ?_; conv => whnf
  refine ⟨by first | rfl | decide, ?_⟩
  iterate 2 (refine hX _ ?_; conv => whnf)
  refine hX _ ?_; conv => whnf
  refine s_clear d 95 (SHm n 111 [some 3, some 6, some 22, some 38, some 41, some 45, some 52, some 55, some 67, some 72, some 73, some 74, some 75, none] [some 76, none] [some 92, none]) (l_95 n) (bg_zero (bg_zero (bg_zero h 96 13) 109 1) 110 1) _ (fun h1 f1 f2 => ?_)
  conv => whnf
  refine hX _ ?_; conv => whnf
  refine hR h1 (fun k hk => ?_) f2
  rw [f1 k (Or.inl hk)]
  funext j
  simp (disch := omega) only [zr_ne]
set_option maxRecDepth 100000 in
theorem c_111 (d n : Nat) (h : bg_G) (Rt : bg_R) (hR : ∀ h' : bg_G, (∀ k, k ≤ 111 → h' k = h k) → (∀ k : Nat, k < 4 → h' 112 k = -1 ∧ h' 113 k = -1) → Rt none (SHm n 114 [some 3, some 6, some 22, some 38, some 41, some 45, some 52, some 55, some 67, some 72, some 73, some 74, some 75, none] [some 76, some 95] [some 92, none], h')) : bg_Ca bg_MS (d + 3) 3 [vR 111] (SHm n 111 [some 3, some 6, some 22, some 38, some 41, some 45, some 52, some 55, some 67, some 72, some 73, some 74, some 75, none] [some 76, some 95] [some 92, none] ++ [(3, 2, List.replicate 2 none)], h) Rt := by
  refine bg_ca (cd := cd_X3_init) rfl rfl ?_
  intro X hX
  iterate 4 (refine hX _ ?_; conv => whnf)
  refine hX _ ?_; conv => whnf
  refine ⟨by first | rfl | decide, ?_⟩
  iterate 3 (refine hX _ ?_; conv => whnf)
  refine hX _ ?_; conv => whnf
  refine ⟨by first | rfl | decide, ?_⟩
  iterate 2 (refine hX _ ?_; conv => whnf)
  refine hX _ ?_; conv => whnf
  refine s_tclear d 111 (SHm n 114 [some 3, some 6, some 22, some 38, some 41, some 45, some 52, some 55, some 67, some 72, some 73, some 74, some 75, none] [some 76, some 95] [some 92, none]) ⟨rfl, rfl, rfl⟩ (bg_zero (bg_zero h 112 1) 113 1) _ (fun h1 f1 f2 => ?_)
  conv => whnf
  refine hX _ ?_; conv => whnf
  refine hR h1 (fun k hk => ?_) f2
  rw [f1 k (by omega) (by omega)]
  funext j
  simp (disch := omega) only [zr_ne]
