/-! the script is never written -/
def bg_J (n : Nat) (f : Int → Int) (H : bg_H) : Prop := (∃ rs, bg_nth H.1 0 = some (16, n, rs)) ∧ H.2 0 = f
def bg_pf (q : bg_I) : Bool := match q with
  | (.putfield _, _, (a, _)) => Nat.ble a 9
  | _ => true
def bg_pc (cd : bg_K) : Bool := cd.all (fun ch => ch.2.all (fun r => bg_pf r.2))
theorem bg_pc_all : bg_MS.all (fun M => bg_pc M.2.2.2.2.1) = true := by decide +kernel
theorem bg_look_pf : ∀ (cd : bg_K), bg_pc cd = true → ∀ (pc : Nat) (q : bg_I), bg_look cd pc = some q → bg_pf q = true
  | [], _, pc, q, h => by simp [bg_look] at h
  | (n, l) :: cd, hok, pc, q, h => by
    unfold bg_pc at hok
    rw [List.all_cons, Bool.and_eq_true] at hok
    unfold bg_look at h
    split at h
    · exact List.all_eq_true.mp hok.1 _ (bg_in_mem l pc q h)
    · exact bg_look_pf cd hok.2 pc q h
theorem J_app {n : Nat} {f : Int → Int} {H : bg_H} (hJ : bg_J n f H) (l : List bg_C) (m : Nat) : bg_J n f (H.1 ++ l, bg_zero H.2 H.1.length m) := by
  obtain ⟨⟨rs, h1⟩, h2⟩ := hJ
  rw [bg_nth_eq] at h1
  have hl : 0 < H.1.length := by
    rcases Nat.eq_zero_or_pos H.1.length with c | c
    · rw [List.length_eq_zero_iff.mp c] at h1
      simp at h1
    · exact c
  refine ⟨⟨rs, ?_⟩, ?_⟩
  · rw [bg_nth_eq]
    show (H.1 ++ l)[0]? = _
    rw [List.getElem?_append_left hl]
    exact h1
  · show bg_zero H.2 H.1.length m 0 = f
    rw [← h2]
    funext j
    unfold bg_zero
    rw [if_neg (by omega)]
theorem J_k {n : Nat} {f : Int → Int} {H : bg_H} (hJ : bg_J n f H) {k : Nat} {c0 : bg_C} (hk : bg_nth H.1 k = some c0) (hc : c0.1 ≠ 16) : k ≠ 0 := by
  intro c
  subst c
  obtain ⟨⟨rs, h1⟩, h2⟩ := hJ
  rw [h1] at hk
  cases hk
  exact hc rfl
theorem J_set {n : Nat} {f : Int → Int} {H : bg_H} (hJ : bg_J n f H) {k : Nat} (hk : k ≠ 0) (x : bg_C) : bg_J n f (H.1.set k x, H.2) := by
  obtain ⟨⟨rs, h1⟩, h2⟩ := hJ
  refine ⟨⟨rs, ?_⟩, h2⟩
  rw [bg_nth_eq] at h1 ⊢
  show (H.1.set k x)[0]? = _
  rw [List.getElem?_set_ne hk]
  exact h1
theorem J_up {n : Nat} {f : Int → Int} {H : bg_H} (hJ : bg_J n f H) {k : Nat} (hk : k ≠ 0) (b x : Int) : bg_J n f (H.1, bg_up H.2 k b x) := by
  refine ⟨hJ.1, ?_⟩
  rw [← hJ.2]
  exact bg_up_ne (Ne.symm hk)
theorem J_cpy {n : Nat} {f : Int → Int} {H : bg_H} (hJ : bg_J n f H) {k : Nat} (hk : k ≠ 0) (ks : Nat) (sp dp m : Int) : bg_J n f (H.1, bg_cpy H.2 ks k sp dp m) := by
  refine ⟨hJ.1, ?_⟩
  rw [← hJ.2]
  funext j
  show (if 0 = k then _ else _) = _
  rw [if_neg (Ne.symm hk)]
theorem ldi_m {ls : bg_L} {i : Nat} {F G : Int → Prop} (h : bg_ldi ls i F) (g : ∀ x, F x → G x) : bg_ldi ls i G := by
  revert h
  unfold bg_ldi
  split
  · exact g _
  · exact id
theorem ldl_m {ls : bg_L} {i : Nat} {F G : Int → Prop} (h : bg_ldl ls i F) (g : ∀ x, F x → G x) : bg_ldl ls i G := by
  revert h
  unfold bg_ldl
  split
  · exact g _
  · exact id
theorem lda_m {ls : bg_L} {i : Nat} {F G : Option Nat → Prop} (h : bg_lda ls i F) (g : ∀ x, F x → G x) : bg_lda ls i G := by
  revert h
  unfold bg_lda
  split
  · exact g _
  · exact id
theorem p1_m {st : List bg_V} {F G : Int → List bg_V → Prop} (h : bg_p1 st F) (g : ∀ x r, F x r → G x r) : bg_p1 st G := by
  revert h
  unfold bg_p1
  split
  · exact g _ _
  · exact id
theorem q1_m {st : List bg_V} {F G : Int → List bg_V → Prop} (h : bg_q1 st F) (g : ∀ x r, F x r → G x r) : bg_q1 st G := by
  revert h
  unfold bg_q1
  split
  · exact g _ _
  · exact id
theorem r1_m {st : List bg_V} {F G : Nat → List bg_V → Prop} (h : bg_r1 st F) (g : ∀ x r, F x r → G x r) : bg_r1 st G := by
  revert h
  unfold bg_r1
  split
  · exact g _ _
  · exact id
theorem p2_m {st : List bg_V} {F G : Int → Int → List bg_V → Prop} (h : bg_p2 st F) (g : ∀ x y r, F x y r → G x y r) : bg_p2 st G := by
  revert h
  unfold bg_p2
  split
  · exact g _ _ _
  · exact id
theorem q2_m {st : List bg_V} {F G : Int → Int → List bg_V → Prop} (h : bg_q2 st F) (g : ∀ x y r, F x y r → G x y r) : bg_q2 st G := by
  revert h
  unfold bg_q2
  split
  · exact g _ _ _
  · exact id
theorem pq_m {st : List bg_V} {F G : Int → Int → List bg_V → Prop} (h : bg_pq st F) (g : ∀ x y r, F x y r → G x y r) : bg_pq st G := by
  revert h
  unfold bg_pq
  split
  · exact g _ _ _
  · exact id
theorem pr_m {st : List bg_V} {F G : Int → Nat → List bg_V → Prop} (h : bg_pr st F) (g : ∀ x y r, F x y r → G x y r) : bg_pr st G := by
  revert h
  unfold bg_pr
  split
  · exact g _ _ _
  · exact id
theorem at_m {H : bg_H} {k : Nat} {F G : Nat → Nat → List (Option Nat) → Prop} (h : bg_at H k F) (g : ∀ c n rs, bg_nth H.1 k = some (c, n, rs) → F c n rs → G c n rs) : bg_at H k G := by
  revert h
  unfold bg_at
  split
  · rename_i c n rs hc
    exact g _ _ _ hc
  · exact id
theorem if_m {b : Bool} {F G : Prop} (h : bg_if b F) (g : b = true → F → G) : bg_if b G := by
  cases b with
  | true => exact g rfl h
  | false => exact h
theorem sw_m {v : Int} {d : Nat} {K K' : Nat → Prop} (g : ∀ t, K t → K' t) : ∀ {l : List (Int × Nat)}, bg_sw v d K l → bg_sw v d K' l
  | [], h => g _ h
  | (_, _) :: _, h => ⟨fun c => g _ (h.1 c), fun c => sw_m g (h.2 c)⟩
theorem call_m {C : Nat → List bg_V → bg_H → bg_R → Prop} {mx : Nat × Nat} {n : Nat} {f : Int → Int} {K K' : bg_F → Prop} (hK : ∀ g : bg_F, K g → bg_J n f g.2.2.2.1 → K' g) (hC : ∀ k as H R R', C k as H R → bg_J n f H → (∀ r H', R r H' → bg_J n f H' → R' r H') → C k as H R') {k : Nat} {as : List bg_V} {nx : Nat} {ls : bg_L} {rest : List bg_V} {H : bg_H} {cn : Nat × Nat} (hJ : bg_J n f H) (h : bg_call C mx k as nx ls rest H cn K) : bg_call C mx k as nx ls rest H cn K' :=
  if_m h (fun _ h => hC _ _ _ _ _ h hJ (fun _ _ hr hj => hK _ hr hj))
set_option maxHeartbeats 4000000 in
theorem bg_wpJ {C : Nat → List bg_V → bg_H → bg_R → Prop} {mx : Nat × Nat} {n : Nat} {f : Int → Int} {K K' : bg_F → Prop} {Rt Rt' : bg_R} (hK : ∀ g : bg_F, K g → bg_J n f g.2.2.2.1 → K' g) (hR : ∀ r H, Rt r H → bg_J n f H → Rt' r H) (hC : ∀ k as H R R', C k as H R → bg_J n f H → (∀ r H', R r H' → bg_J n f H' → R' r H') → C k as H R') {q : bg_I} (hq : bg_pf q = true) {ls : bg_L} {st : List bg_V} {H : bg_H} {cn : Nat × Nat} (hJ : bg_J n f H) (hw : bg_wp C mx q ls st H cn K Rt) : bg_wp C mx q ls st H cn K' Rt' := by
  obtain ⟨ins, nx, a, b, t, dd, ps⟩ := q
  cases ins with
  | iconst _ => exact hK _ hw hJ
  | bipush _ => exact hK _ hw hJ
  | sipush _ => exact hK _ hw hJ
  | lconst _ => exact hK _ hw hJ
  | ldc _ => exact hK _ hw hJ
  | ldc_w _ => exact hK _ hw hJ
  | ldc2_w _ => exact hK _ hw hJ
  | goto _ => exact hK _ hw hJ
  | getstatic _ => exact hK _ hw hJ
  | iload _ => exact ldi_m hw (fun _ h => hK _ h hJ)
  | iload_n _ => exact ldi_m hw (fun _ h => hK _ h hJ)
  | iinc _ _ => exact ldi_m hw (fun _ h => hK _ h hJ)
  | lload _ => exact ldl_m hw (fun _ h => hK _ h hJ)
  | lload_n _ => exact ldl_m hw (fun _ h => hK _ h hJ)
  | aload _ => exact lda_m hw (fun _ h => hK _ h hJ)
  | aload_n _ => exact lda_m hw (fun _ h => hK _ h hJ)
  | istore _ => exact p1_m hw (fun _ _ h => hK _ h hJ)
  | istore_n _ => exact p1_m hw (fun _ _ h => hK _ h hJ)
  | ineg => exact p1_m hw (fun _ _ h => hK _ h hJ)
  | i2l => exact p1_m hw (fun _ _ h => hK _ h hJ)
  | lstore _ => exact q1_m hw (fun _ _ h => hK _ h hJ)
  | lstore_n _ => exact q1_m hw (fun _ _ h => hK _ h hJ)
  | lneg => exact q1_m hw (fun _ _ h => hK _ h hJ)
  | l2i => exact q1_m hw (fun _ _ h => hK _ h hJ)
  | astore_n _ => exact r1_m hw (fun _ _ h => hK _ h hJ)
  | iadd => exact p2_m hw (fun _ _ _ h => hK _ h hJ)
  | isub => exact p2_m hw (fun _ _ _ h => hK _ h hJ)
  | imul => exact p2_m hw (fun _ _ _ h => hK _ h hJ)
  | iand => exact p2_m hw (fun _ _ _ h => hK _ h hJ)
  | ior => exact p2_m hw (fun _ _ _ h => hK _ h hJ)
  | ixor => exact p2_m hw (fun _ _ _ h => hK _ h hJ)
  | ishl => exact p2_m hw (fun _ _ _ h => hK _ h hJ)
  | ishr => exact p2_m hw (fun _ _ _ h => hK _ h hJ)
  | iushr => exact p2_m hw (fun _ _ _ h => hK _ h hJ)
  | idiv => exact p2_m hw (fun _ _ _ h => ⟨h.1, hK _ h.2 hJ⟩)
  | irem => exact p2_m hw (fun _ _ _ h => ⟨h.1, hK _ h.2 hJ⟩)
  | ladd => exact q2_m hw (fun _ _ _ h => hK _ h hJ)
  | lsub => exact q2_m hw (fun _ _ _ h => hK _ h hJ)
  | lmul => exact q2_m hw (fun _ _ _ h => hK _ h hJ)
  | land => exact q2_m hw (fun _ _ _ h => hK _ h hJ)
  | lor => exact q2_m hw (fun _ _ _ h => hK _ h hJ)
  | lcmp => exact q2_m hw (fun _ _ _ h => hK _ h hJ)
  | ldiv => exact q2_m hw (fun _ _ _ h => ⟨h.1, hK _ h.2 hJ⟩)
  | lrem => exact q2_m hw (fun _ _ _ h => ⟨h.1, hK _ h.2 hJ⟩)
  | lshl => exact pq_m hw (fun _ _ _ h => hK _ h hJ)
  | lshr => exact pq_m hw (fun _ _ _ h => hK _ h hJ)
  | lushr => exact pq_m hw (fun _ _ _ h => hK _ h hJ)
  | dup =>
    revert hw
    simp only [bg_wp]
    split
    · exact fun h => hK _ h hJ
    · exact fun h => hK _ h hJ
    · exact id
  | dup2 =>
    revert hw
    simp only [bg_wp]
    split
    · exact fun h => hK _ h hJ
    · exact fun h => hK _ h hJ
    · exact id
  | ifCond c _ => cases c <;> exact p1_m hw (fun _ _ h => ⟨fun c => hK _ (h.1 c) hJ, fun c => hK _ (h.2 c) hJ⟩)
  | if_icmp c _ => cases c <;> exact p2_m hw (fun _ _ _ h => ⟨fun c => hK _ (h.1 c) hJ, fun c => hK _ (h.2 c) hJ⟩)
  | tableswitch _ _ _ _ => exact p1_m hw (fun _ _ h => sw_m (fun _ h => hK _ h hJ) h)
  | lookupswitch _ _ => exact p1_m hw (fun _ _ h => sw_m (fun _ h => hK _ h hJ) h)
  | getfield _ => exact r1_m hw (fun k r h => at_m h (fun c0 n0 rs _ h => if_m h (fun _ h => by
      revert h
      split
      · exact fun h => hK _ h hJ
      · exact fun h => hK _ h hJ
      · split
        · exact fun h => hK _ h hJ
        · exact id)))
  | putfield _ =>
    have ha : a ≤ 9 := Nat.le_of_ble_eq_true hq
    revert hw
    simp only [bg_wp]
    split
    · exact fun h => at_m h (fun c0 n0 rs hk h => if_m h (fun hb h => by
        have hk0 := J_k hJ hk (by have := Nat.eq_of_beq_eq_true hb; show c0 ≠ 16; omega)
        revert h
        split
        · exact fun h => hK _ h (J_up hJ hk0 _ _)
        · exact fun h => ⟨h.1, hK _ h.2 (J_up hJ hk0 _ _)⟩
        · exact id))
    · exact fun h => at_m h (fun c0 n0 rs hk h => if_m h (fun hb h => by
        rw [Bool.and_eq_true] at hb
        have hk0 := J_k hJ hk (by have := Nat.eq_of_beq_eq_true hb.1; show c0 ≠ 16; omega)
        exact hK _ h (J_up hJ hk0 _ _)))
    · exact fun h => at_m h (fun c0 n0 rs hk h => if_m h (fun hb h => by
        rw [Bool.and_eq_true, Bool.and_eq_true] at hb
        have hk0 := J_k hJ hk (by have := Nat.eq_of_beq_eq_true hb.1.1; show c0 ≠ 16; omega)
        exact hK _ h (J_set hJ hk0 _)))
    · exact id
  | arraylength => exact r1_m hw (fun k r h => at_m h (fun c0 n0 rs _ h => if_m h (fun _ h => hK _ h hJ)))
  | iaload => exact pr_m hw (fun i k r h => at_m h (fun c0 n0 rs _ h => if_m h (fun _ h => ⟨h.1, hK _ h.2 hJ⟩)))
  | laload => exact pr_m hw (fun i k r h => at_m h (fun c0 n0 rs _ h => if_m h (fun _ h => ⟨h.1, hK _ h.2 hJ⟩)))
  | aaload => exact pr_m hw (fun i k r h => at_m h (fun c0 n0 rs _ h => if_m h (fun _ h => ⟨h.1, by
      have h := h.2
      revert h
      split
      · exact fun h => hK _ h hJ
      · exact id⟩)))
  | iastore =>
    revert hw
    simp only [bg_wp]
    split
    · exact fun h => at_m h (fun c0 n0 rs hk h => if_m h (fun hb h => ⟨h.1, hK _ h.2 (J_up hJ (J_k hJ hk (by have := Nat.eq_of_beq_eq_true hb; show c0 ≠ 16; omega)) _ _)⟩))
    · exact id
  | lastore =>
    revert hw
    simp only [bg_wp]
    split
    · exact fun h => at_m h (fun c0 n0 rs hk h => if_m h (fun hb h => ⟨h.1, hK _ h.2 (J_up hJ (J_k hJ hk (by have := Nat.eq_of_beq_eq_true hb; show c0 ≠ 16; omega)) _ _)⟩))
    · exact id
  | aastore =>
    revert hw
    simp only [bg_wp]
    split
    · exact fun h => at_m h (fun c0 n0 rs hk h => at_m h (fun c1 n1 rs1 _ h => if_m h (fun hb h => by
        rw [Bool.or_eq_true, Bool.and_eq_true, Bool.and_eq_true] at hb
        have hc : c0 ≠ 16 := by
          rcases hb with hb | hb
          · have := Nat.eq_of_beq_eq_true hb.1; omega
          · have := Nat.eq_of_beq_eq_true hb.1; omega
        exact ⟨h.1, hK _ h.2 (J_set hJ (J_k hJ hk hc) _)⟩)))
    · exact id
  | new _ => exact if_m hw (fun _ h => hK _ h (J_app hJ _ _))
  | newarray _ => exact p1_m hw (fun _ _ h => if_m h (fun _ h => ⟨h.1, hK _ h.2 (J_app hJ _ _)⟩))
  | anewarray _ => exact p1_m hw (fun _ _ h => if_m h (fun _ h => ⟨h.1, hK _ h.2 (J_app hJ _ _)⟩))
  | multianewarray _ _ => exact p2_m hw (fun _ _ _ h => if_m h (fun _ h => ⟨h.1, hK _ h.2 (J_app hJ _ _)⟩))
  | invokevirtual _ =>
    revert hw
    simp only [bg_wp]
    split
    · exact fun h => at_m h (fun c0 n0 rs _ h => if_m h (fun _ h => call_m hK hC hJ h))
    · exact id
  | invokestatic _ =>
    revert hw
    simp only [bg_wp]
    split
    · split
      · exact fun h => at_m h (fun c0 n0 rs _ h => at_m h (fun c1 n1 rs1 hk h => if_m h (fun hb h => by
          rw [Bool.and_eq_true, Bool.and_eq_true] at hb
          exact ⟨h.1, hK _ h.2 (J_cpy hJ (J_k hJ hk (by have := Nat.eq_of_beq_eq_true hb.1.2; show c1 ≠ 16; omega)) _ _ _ _)⟩)))
      · exact id
    · exact fun h => p2_m h (fun _ _ _ h => if_m h (fun _ h => hK _ h hJ))
    · exact fun h => p2_m h (fun _ _ _ h => if_m h (fun _ h => hK _ h hJ))
    · exact fun h => q2_m h (fun _ _ _ h => if_m h (fun _ h => hK _ h hJ))
    · split
      · exact fun h => call_m hK hC hJ h
      · exact id
  | invokespecial _ =>
    revert hw
    simp only [bg_wp]
    split
    · exact fun h => r1_m h (fun _ _ h => if_m h (fun _ h => hK _ h hJ))
    · split
      · exact fun h => call_m hK hC hJ h
      · exact id
  | ireturn =>
    revert hw
    simp only [bg_wp]
    split
    · exact fun h => if_m h (fun _ h => by
        revert h
        split
        · exact fun h => hR _ _ h hJ
        · exact fun h => ⟨h.1, hR _ _ h.2 hJ⟩)
    · exact id
  | lreturn =>
    revert hw
    simp only [bg_wp]
    split
    · exact fun h => if_m h (fun _ h => hR _ _ h hJ)
    · exact id
  | return_ =>
    revert hw
    simp only [bg_wp]
    split
    · exact fun h => if_m h (fun _ h => hR _ _ h hJ)
    · exact id
  | _ => exact hw.elim
theorem bg_CaJ {n : Nat} {f : Int → Int} : ∀ (d k : Nat) (as : List bg_V) (H : bg_H) (R R' : bg_R), bg_Ca bg_MS d k as H R → bg_J n f H → (∀ r H', R r H' → bg_J n f H' → R' r H') → bg_Ca bg_MS d k as H R'
  | 0, _, _, _, _, _, h, _, _ => h
  | d + 1, k, as, H, R, R', h, hJ, hR => by
    revert h
    unfold bg_Ca
    split
    · rename_i y bytes ml ret cd mx i hM
      refine fun h => if_m h (fun _ h => ?_)
      intro X hX
      have hcd : bg_pc cd = true := by
        rw [bg_nth_eq] at hM
        exact List.all_eq_true.mp bg_pc_all _ (List.mem_of_getElem? hM)
      refine h (fun g => bg_J n f g.2.2.2.1 → X g) ?_ hJ
      rintro ⟨pc, ls, st, H1, cn⟩ hg hj
      refine hX _ ?_
      revert hg
      unfold bg_st
      show (match bg_look cd pc with | some q => _ | none => False) → (match bg_look cd pc with | some q => _ | none => False)
      split
      · rename_i q hq
        exact fun hg => bg_wpJ (fun g hg hj => hg hj) hR (fun k as H R R' h hJ hR => bg_CaJ d k as H R R' h hJ hR) (bg_look_pf cd hcd pc q hq) hj hg
      · exact id
    · exact id
