section BgE
variable {p : Program} {l : Launch} {e : Env} {R : Room} {s : State} {m : MethodId} {args : Array Value} {below : List Frame} {meth : Method} {c : Code} {Q : State → Prop} {D : va_G} {cy : Nat → ClassId} {A : Nat → Prop} {M : bg_M} {E0 : (Nat → Nat) × bg_H}
variable {pc nx : Nat} {L : bg_L} {st r : List bg_V} {Hh : bg_H} {cn : Nat × Nat}
theorem bg_fl_of {own : String} {i a b : Nat} {d : Int} (h : bg_fl own i a b d = true) : ∃ (C : String) (T : u_T) (N : Nat), bg_nth bg_cls a = some (C, T, N) ∧ b < N ∧ Cond.fieldLink own i C (T b).2.1 (T b).2.2.1 ∈ bg_tbl := by
  unfold bg_fl at h
  split at h
  · rename_i C T N hc
    rw [Bool.and_eq_true] at h
    exact ⟨C, T, N, hc, Nat.le_of_ble_eq_true h.1, bg_wd_in h.2⟩
  · cases h
theorem bg_if_of {b : Bool} {f : Prop} (h : bg_if b f) : b = true ∧ f := by
  cases b with
  | true => exact ⟨rfl, h⟩
  | false => exact h.elim
theorem bg_at_of {H : bg_H} {k : Nat} {f : Nat → Nat → List (Option Nat) → Prop} (h : bg_at H k f) : ∃ c0 : bg_C, bg_nth H.1 k = some c0 ∧ f c0.1 c0.2.1 c0.2.2 := by
  unfold bg_at at h
  split at h
  · rename_i c n rs hc
    exact ⟨(c, n, rs), hc, h⟩
  · exact h.elim
theorem bg_cls_w : ∀ (a : Nat) (C : String) (T : u_T) (N : Nat), bg_nth bg_cls a = some (C, T, N) → Cond.instantiable C N ∈ bg_tbl ∧ Cond.initialized C ∈ bg_tbl ∧ N < 100
  | 0, _, _, _, h => by cases h; decide +kernel
  | 1, _, _, _, h => by cases h; decide +kernel
  | 2, _, _, _, h => by cases h; decide +kernel
  | 3, _, _, _, h => by cases h; decide +kernel
  | 4, _, _, _, h => by cases h; decide +kernel
  | 5, _, _, _, h => by cases h; decide +kernel
  | 6, _, _, _, h => by cases h; decide +kernel
  | 7, _, _, _, h => by cases h; decide +kernel
  | 8, _, _, _, h => by cases h; decide +kernel
  | 9, _, _, _, h => by cases h; decide +kernel
  | n + 10, _, _, _, h => by simp [bg_nth] at h
set_option maxHeartbeats 4000000 in
theorem bg_step (hC : bg_Cx p s m args meth c D cy A M) {d : Nat} (hM : bg_Met l d) (hRf : d + 1 ≤ R.frames) (hRl : 200 * (d + 1) ≤ R.locals) {mx : Nat × Nat} (hRc : mx.1 ≤ R.cells) (hRs : mx.2 ≤ R.slots) {Rt : bg_R}
    (hI : ∀ (pc : Nat) (L : bg_L) (x : Int) (Hh : bg_H) (cn : Nat × Nat), decode M.2.1 pc = .ok (.ireturn, 1) → (M.2.2.2.1 = some .int ∨ (M.2.2.2.1 = some .boolean ∧ (x = 0 ∨ x = 1))) → cn.1 ≤ mx.1 → cn.2 ≤ mx.2 → Rt (some (.inl x)) Hh → bg_Sim p l e R s m args below meth c Q D cy A E0 M.2.2.1 (pc, L, [.inl x], Hh, cn))
    (hJ : ∀ (pc : Nat) (L : bg_L) (x : Int) (Hh : bg_H) (cn : Nat × Nat), decode M.2.1 pc = .ok (.lreturn, 1) → M.2.2.2.1 = some .long → cn.1 ≤ mx.1 → cn.2 ≤ mx.2 → Rt (some (.inr (.inl x))) Hh → bg_Sim p l e R s m args below meth c Q D cy A E0 M.2.2.1 (pc, L, [.inr (.inl x)], Hh, cn))
    (hV : ∀ (pc : Nat) (L : bg_L) (Hh : bg_H) (cn : Nat × Nat), decode M.2.1 pc = .ok (.return_, 1) → M.2.2.2.1 = none → cn.1 ≤ mx.1 → cn.2 ≤ mx.2 → Rt none Hh → bg_Sim p l e R s m args below meth c Q D cy A E0 M.2.2.1 (pc, L, [], Hh, cn))
    {q : bg_I} (hok : bg_ok1 M pc q = true) (hkq : bg_kq q = true) (hw : bg_wp (bg_Ca bg_MS d) mx q L st Hh cn (bg_Sim p l e R s m args below meth c Q D cy A E0 M.2.2.1) Rt) : bg_Sim p l e R s m args below meth c Q D cy A E0 M.2.2.1 (pc, L, st, Hh, cn) := by
  obtain ⟨ins, nx, a, b, t, dd, ps⟩ := q
  cases ins with
  | iconst n =>
    simp only [bg_ok1, Bool.and_eq_true, decide_eq_true_eq] at hok
    obtain ⟨⟨hd, rfl⟩, rfl⟩ := hok
    exact sm_iconst hC hd hw
  | bipush n =>
    simp only [bg_ok1, Bool.and_eq_true, decide_eq_true_eq] at hok
    obtain ⟨⟨hd, rfl⟩, rfl, h1, h2⟩ := hok
    exact sm_bipush hC hd ⟨h1, h2⟩ hw
  | sipush n =>
    simp only [bg_ok1, Bool.and_eq_true, decide_eq_true_eq] at hok
    obtain ⟨⟨hd, rfl⟩, rfl, h1, h2⟩ := hok
    exact sm_sipush hC hd ⟨h1, h2⟩ hw
  | lconst n =>
    simp only [bg_ok1, Bool.and_eq_true, decide_eq_true_eq] at hok
    obtain ⟨⟨hd, rfl⟩, h1⟩ := hok
    exact sm_lconst hC hd h1 hw
  | ldc i =>
    simp only [bg_ok1, Bool.and_eq_true, decide_eq_true_eq] at hok
    obtain ⟨⟨hd, rfl⟩, h1⟩ := hok
    exact sm_ldc hC hd (bg_wd_in h1) hw
  | ldc_w i =>
    simp only [bg_ok1, Bool.and_eq_true, decide_eq_true_eq] at hok
    obtain ⟨⟨hd, rfl⟩, h1⟩ := hok
    exact sm_ldc_w hC hd (bg_wd_in h1) hw
  | ldc2_w i =>
    simp only [bg_ok1, Bool.and_eq_true, decide_eq_true_eq] at hok
    obtain ⟨⟨hd, rfl⟩, h1⟩ := hok
    exact sm_ldc2 hC hd (bg_wd_in h1) hw
  | iload i =>
    simp only [bg_ok1, Bool.and_eq_true, decide_eq_true_eq] at hok
    obtain ⟨⟨hd, rfl⟩, rfl⟩ := hok
    simp only [bg_wp, bg_ldi] at hw
    split at hw
    · rename_i x hx
      exact sm_iload hC hd hx hw
    · exact hw.elim
  | iload_n i =>
    simp only [bg_ok1, Bool.and_eq_true, decide_eq_true_eq] at hok
    obtain ⟨⟨hd, rfl⟩, h1⟩ := hok
    simp only [bg_wp, bg_ldi] at hw
    split at hw
    · rename_i x hx
      exact sm_iload_n hC hd h1 hx hw
    · exact hw.elim
  | lload i =>
    simp only [bg_ok1, Bool.and_eq_true, decide_eq_true_eq] at hok
    obtain ⟨⟨hd, rfl⟩, rfl⟩ := hok
    simp only [bg_wp, bg_ldl] at hw
    split at hw
    · rename_i x hx
      exact sm_lload hC hd hx hw
    · exact hw.elim
  | lload_n i =>
    simp only [bg_ok1, Bool.and_eq_true, decide_eq_true_eq] at hok
    obtain ⟨⟨hd, rfl⟩, h1⟩ := hok
    simp only [bg_wp, bg_ldl] at hw
    split at hw
    · rename_i x hx
      exact sm_lload_n hC hd h1 hx hw
    · exact hw.elim
  | aload i =>
    simp only [bg_ok1, Bool.and_eq_true, decide_eq_true_eq] at hok
    obtain ⟨⟨hd, rfl⟩, rfl⟩ := hok
    simp only [bg_wp, bg_lda] at hw
    split at hw
    · rename_i x hx
      exact sm_aload hC hd hx hw
    · exact hw.elim
  | aload_n i =>
    simp only [bg_ok1, Bool.and_eq_true, decide_eq_true_eq] at hok
    obtain ⟨⟨hd, rfl⟩, h1⟩ := hok
    simp only [bg_wp, bg_lda] at hw
    split at hw
    · rename_i x hx
      exact sm_aload_n hC hd h1 hx hw
    · exact hw.elim
  | istore i =>
    simp only [bg_ok1, Bool.and_eq_true, decide_eq_true_eq] at hok
    obtain ⟨⟨hd, rfl⟩, rfl, h1⟩ := hok
    simp only [bg_wp, bg_p1] at hw
    split at hw
    · exact sm_istore hC hd h1 hw
    · exact hw.elim
  | istore_n i =>
    simp only [bg_ok1, Bool.and_eq_true, decide_eq_true_eq] at hok
    obtain ⟨⟨hd, rfl⟩, h1, h2⟩ := hok
    simp only [bg_wp, bg_p1] at hw
    split at hw
    · exact sm_istore_n hC hd h1 h2 hw
    · exact hw.elim
  | lstore i =>
    simp only [bg_ok1, Bool.and_eq_true, decide_eq_true_eq] at hok
    obtain ⟨⟨hd, rfl⟩, rfl, h1⟩ := hok
    simp only [bg_wp, bg_q1] at hw
    split at hw
    · exact sm_lstore hC hd h1 hw
    · exact hw.elim
  | lstore_n i =>
    simp only [bg_ok1, Bool.and_eq_true, decide_eq_true_eq] at hok
    obtain ⟨⟨hd, rfl⟩, h1, h2⟩ := hok
    simp only [bg_wp, bg_q1] at hw
    split at hw
    · exact sm_lstore_n hC hd h1 h2 hw
    · exact hw.elim
  | astore_n i =>
    simp only [bg_ok1, Bool.and_eq_true, decide_eq_true_eq] at hok
    obtain ⟨⟨hd, rfl⟩, h1, h2⟩ := hok
    simp only [bg_wp, bg_r1] at hw
    split at hw
    · exact sm_astore_n hC hd h1 h2 hw
    · exact hw.elim
  | iinc i n =>
    simp only [bg_ok1, Bool.and_eq_true, decide_eq_true_eq] at hok
    obtain ⟨⟨hd, rfl⟩, rfl, rfl, h1⟩ := hok
    simp only [bg_wp, bg_ldi] at hw
    split at hw
    · rename_i x hx
      exact sm_iinc hC hd h1 hx hw
    · exact hw.elim
  | iadd =>
    simp only [bg_ok1, Bool.and_eq_true, decide_eq_true_eq] at hok
    obtain ⟨⟨hd, rfl⟩, -⟩ := hok
    simp only [bg_wp, bg_p2] at hw
    split at hw
    · exact sm_iadd hC hd hw
    · exact hw.elim
  | isub =>
    simp only [bg_ok1, Bool.and_eq_true, decide_eq_true_eq] at hok
    obtain ⟨⟨hd, rfl⟩, -⟩ := hok
    simp only [bg_wp, bg_p2] at hw
    split at hw
    · exact sm_isub hC hd hw
    · exact hw.elim
  | imul =>
    simp only [bg_ok1, Bool.and_eq_true, decide_eq_true_eq] at hok
    obtain ⟨⟨hd, rfl⟩, -⟩ := hok
    simp only [bg_wp, bg_p2] at hw
    split at hw
    · exact sm_imul hC hd hw
    · exact hw.elim
  | iand =>
    simp only [bg_ok1, Bool.and_eq_true, decide_eq_true_eq] at hok
    obtain ⟨⟨hd, rfl⟩, -⟩ := hok
    simp only [bg_wp, bg_p2] at hw
    split at hw
    · exact sm_iand hC hd hw
    · exact hw.elim
  | ior =>
    simp only [bg_ok1, Bool.and_eq_true, decide_eq_true_eq] at hok
    obtain ⟨⟨hd, rfl⟩, -⟩ := hok
    simp only [bg_wp, bg_p2] at hw
    split at hw
    · exact sm_ior hC hd hw
    · exact hw.elim
  | ixor =>
    simp only [bg_ok1, Bool.and_eq_true, decide_eq_true_eq] at hok
    obtain ⟨⟨hd, rfl⟩, -⟩ := hok
    simp only [bg_wp, bg_p2] at hw
    split at hw
    · exact sm_ixor hC hd hw
    · exact hw.elim
  | ishl =>
    simp only [bg_ok1, Bool.and_eq_true, decide_eq_true_eq] at hok
    obtain ⟨⟨hd, rfl⟩, -⟩ := hok
    simp only [bg_wp, bg_p2] at hw
    split at hw
    · exact sm_ishl hC hd hw
    · exact hw.elim
  | ishr =>
    simp only [bg_ok1, Bool.and_eq_true, decide_eq_true_eq] at hok
    obtain ⟨⟨hd, rfl⟩, -⟩ := hok
    simp only [bg_wp, bg_p2] at hw
    split at hw
    · exact sm_ishr hC hd hw
    · exact hw.elim
  | iushr =>
    simp only [bg_ok1, Bool.and_eq_true, decide_eq_true_eq] at hok
    obtain ⟨⟨hd, rfl⟩, -⟩ := hok
    simp only [bg_wp, bg_p2] at hw
    split at hw
    · exact sm_iushr hC hd hw
    · exact hw.elim
  | idiv =>
    simp only [bg_ok1, Bool.and_eq_true, decide_eq_true_eq] at hok
    obtain ⟨⟨hd, rfl⟩, -⟩ := hok
    simp only [bg_wp, bg_p2] at hw
    split at hw
    · exact sm_idiv hC hd hw.1 hw.2
    · exact hw.elim
  | irem =>
    simp only [bg_ok1, Bool.and_eq_true, decide_eq_true_eq] at hok
    obtain ⟨⟨hd, rfl⟩, -⟩ := hok
    simp only [bg_wp, bg_p2] at hw
    split at hw
    · exact sm_irem hC hd hw.1 hw.2
    · exact hw.elim
  | ineg =>
    simp only [bg_ok1, Bool.and_eq_true, decide_eq_true_eq] at hok
    obtain ⟨⟨hd, rfl⟩, -⟩ := hok
    simp only [bg_wp, bg_p1] at hw
    split at hw
    · exact sm_ineg hC hd hw
    · exact hw.elim
  | ladd =>
    simp only [bg_ok1, Bool.and_eq_true, decide_eq_true_eq] at hok
    obtain ⟨⟨hd, rfl⟩, -⟩ := hok
    simp only [bg_wp, bg_q2] at hw
    split at hw
    · exact sm_ladd hC hd hw
    · exact hw.elim
  | lsub =>
    simp only [bg_ok1, Bool.and_eq_true, decide_eq_true_eq] at hok
    obtain ⟨⟨hd, rfl⟩, -⟩ := hok
    simp only [bg_wp, bg_q2] at hw
    split at hw
    · exact sm_lsub hC hd hw
    · exact hw.elim
  | lmul =>
    simp only [bg_ok1, Bool.and_eq_true, decide_eq_true_eq] at hok
    obtain ⟨⟨hd, rfl⟩, -⟩ := hok
    simp only [bg_wp, bg_q2] at hw
    split at hw
    · exact sm_lmul hC hd hw
    · exact hw.elim
  | land =>
    simp only [bg_ok1, Bool.and_eq_true, decide_eq_true_eq] at hok
    obtain ⟨⟨hd, rfl⟩, -⟩ := hok
    simp only [bg_wp, bg_q2] at hw
    split at hw
    · exact sm_land hC hd hw
    · exact hw.elim
  | lor =>
    simp only [bg_ok1, Bool.and_eq_true, decide_eq_true_eq] at hok
    obtain ⟨⟨hd, rfl⟩, -⟩ := hok
    simp only [bg_wp, bg_q2] at hw
    split at hw
    · exact sm_lor hC hd hw
    · exact hw.elim
  | lcmp =>
    simp only [bg_ok1, Bool.and_eq_true, decide_eq_true_eq] at hok
    obtain ⟨⟨hd, rfl⟩, -⟩ := hok
    simp only [bg_wp, bg_q2] at hw
    split at hw
    · exact sm_lcmp hC hd hw
    · exact hw.elim
  | ldiv =>
    simp only [bg_ok1, Bool.and_eq_true, decide_eq_true_eq] at hok
    obtain ⟨⟨hd, rfl⟩, -⟩ := hok
    simp only [bg_wp, bg_q2] at hw
    split at hw
    · exact sm_ldiv hC hd hw.1 hw.2
    · exact hw.elim
  | lrem =>
    simp only [bg_ok1, Bool.and_eq_true, decide_eq_true_eq] at hok
    obtain ⟨⟨hd, rfl⟩, -⟩ := hok
    simp only [bg_wp, bg_q2] at hw
    split at hw
    · exact sm_lrem hC hd hw.1 hw.2
    · exact hw.elim
  | lneg =>
    simp only [bg_ok1, Bool.and_eq_true, decide_eq_true_eq] at hok
    obtain ⟨⟨hd, rfl⟩, -⟩ := hok
    simp only [bg_wp, bg_q1] at hw
    split at hw
    · exact sm_lneg hC hd hw
    · exact hw.elim
  | lshl =>
    simp only [bg_ok1, Bool.and_eq_true, decide_eq_true_eq] at hok
    obtain ⟨⟨hd, rfl⟩, -⟩ := hok
    simp only [bg_wp, bg_pq] at hw
    split at hw
    · exact sm_lshl hC hd hw
    · exact hw.elim
  | lshr =>
    simp only [bg_ok1, Bool.and_eq_true, decide_eq_true_eq] at hok
    obtain ⟨⟨hd, rfl⟩, -⟩ := hok
    simp only [bg_wp, bg_pq] at hw
    split at hw
    · exact sm_lshr hC hd hw
    · exact hw.elim
  | lushr =>
    simp only [bg_ok1, Bool.and_eq_true, decide_eq_true_eq] at hok
    obtain ⟨⟨hd, rfl⟩, -⟩ := hok
    simp only [bg_wp, bg_pq] at hw
    split at hw
    · exact sm_lushr hC hd hw
    · exact hw.elim
  | i2l =>
    simp only [bg_ok1, Bool.and_eq_true, decide_eq_true_eq] at hok
    obtain ⟨⟨hd, rfl⟩, -⟩ := hok
    simp only [bg_wp, bg_p1] at hw
    split at hw
    · exact sm_i2l hC hd hw
    · exact hw.elim
  | l2i =>
    simp only [bg_ok1, Bool.and_eq_true, decide_eq_true_eq] at hok
    obtain ⟨⟨hd, rfl⟩, -⟩ := hok
    simp only [bg_wp, bg_q1] at hw
    split at hw
    · exact sm_l2i hC hd hw
    · exact hw.elim
  | dup =>
    simp only [bg_ok1, Bool.and_eq_true, decide_eq_true_eq] at hok
    obtain ⟨⟨hd, rfl⟩, -⟩ := hok
    simp only [bg_wp] at hw
    split at hw
    · exact sm_dup_i hC hd hw
    · exact sm_dup_r hC hd hw
    · exact hw.elim
  | dup2 =>
    simp only [bg_ok1, Bool.and_eq_true, decide_eq_true_eq] at hok
    obtain ⟨⟨hd, rfl⟩, -⟩ := hok
    simp only [bg_wp] at hw
    split at hw
    · exact sm_dup2_ir hC hd hw
    · exact sm_dup2_l hC hd hw
    · exact hw.elim
  | goto off =>
    simp only [bg_ok1, Bool.and_eq_true, decide_eq_true_eq] at hok
    obtain ⟨⟨hd, rfl⟩, h1⟩ := hok
    exact sm_goto hC hd h1 hw
  | ifCond cd off =>
    simp only [bg_ok1, Bool.and_eq_true, decide_eq_true_eq] at hok
    obtain ⟨⟨hd, rfl⟩, h1⟩ := hok
    cases cd with
    | eq =>
      simp only [bg_wp, bg_p1] at hw
      split at hw
      · exact sm_if_eq hC hd h1 hw.1 hw.2
      · exact hw.elim
    | ne =>
      simp only [bg_wp, bg_p1] at hw
      split at hw
      · exact sm_if_ne hC hd h1 hw.1 hw.2
      · exact hw.elim
    | lt =>
      simp only [bg_wp, bg_p1] at hw
      split at hw
      · exact sm_if_lt hC hd h1 hw.1 hw.2
      · exact hw.elim
    | ge =>
      simp only [bg_wp, bg_p1] at hw
      split at hw
      · exact sm_if_ge hC hd h1 hw.1 hw.2
      · exact hw.elim
    | gt =>
      simp only [bg_wp, bg_p1] at hw
      split at hw
      · exact sm_if_gt hC hd h1 hw.1 hw.2
      · exact hw.elim
    | le =>
      simp only [bg_wp, bg_p1] at hw
      split at hw
      · exact sm_if_le hC hd h1 hw.1 hw.2
      · exact hw.elim
  | if_icmp cd off =>
    simp only [bg_ok1, Bool.and_eq_true, decide_eq_true_eq] at hok
    obtain ⟨⟨hd, rfl⟩, h1⟩ := hok
    cases cd with
    | eq =>
      simp only [bg_wp, bg_p2] at hw
      split at hw
      · exact sm_icmp_eq hC hd h1 hw.1 hw.2
      · exact hw.elim
    | ne =>
      simp only [bg_wp, bg_p2] at hw
      split at hw
      · exact sm_icmp_ne hC hd h1 hw.1 hw.2
      · exact hw.elim
    | lt =>
      simp only [bg_wp, bg_p2] at hw
      split at hw
      · exact sm_icmp_lt hC hd h1 hw.1 hw.2
      · exact hw.elim
    | ge =>
      simp only [bg_wp, bg_p2] at hw
      split at hw
      · exact sm_icmp_ge hC hd h1 hw.1 hw.2
      · exact hw.elim
    | gt =>
      simp only [bg_wp, bg_p2] at hw
      split at hw
      · exact sm_icmp_gt hC hd h1 hw.1 hw.2
      · exact hw.elim
    | le =>
      simp only [bg_wp, bg_p2] at hw
      split at hw
      · exact sm_icmp_le hC hd h1 hw.1 hw.2
      · exact hw.elim
  | tableswitch df lo hi offs =>
    simp only [bg_ok1, Bool.and_eq_true, decide_eq_true_eq, List.all_eq_true] at hok
    obtain ⟨⟨⟨hd, h1⟩, h2⟩, h3⟩ := hok
    simp only [bg_wp, bg_p1] at hw
    split at hw
    · exact sm_table hC hd h1 h2 h3 hw
    · exact hw.elim
  | lookupswitch df prs =>
    simp only [bg_ok1, Bool.and_eq_true, decide_eq_true_eq] at hok
    obtain ⟨⟨⟨⟨hd, h1⟩, h2⟩, h3⟩, h4⟩ := hok
    simp only [List.all_eq_true (l := prs.toList), decide_eq_true_eq] at h4
    simp only [bg_wp, bg_p1] at hw
    split at hw
    · rw [h3] at hw
      exact sm_lookup hC hd h1 h2 h4 hw
    · exact hw.elim
  | getstatic i =>
    simp only [bg_ok1, Bool.and_eq_true, decide_eq_true_eq] at hok
    obtain ⟨⟨hd, rfl⟩, h1⟩ := hok
    exact sm_getstatic hC hd (bg_wd_in h1) hw
  | getfield i =>
    simp only [bg_ok1, Bool.and_eq_true, decide_eq_true_eq] at hok
    obtain ⟨⟨hd, rfl⟩, ⟨h1, h2⟩, h3⟩ := hok
    obtain ⟨C, T, N, hcl, hb, hwd⟩ := bg_fl_of h1
    simp only [bg_wp, bg_r1] at hw
    split at hw
    · rename_i k r
      obtain ⟨c0, hc, hw1⟩ := bg_at_of hw
      obtain ⟨he, hw2⟩ := bg_if_of hw1
      clear hw hw1
      have hw := hw2
      clear hw2
      have he : c0.1 = a := Nat.eq_of_beq_eq_true he
      subst he
      split at hw
      · refine sm_getfield hC hd hc hcl hb hwd (v := .inl (Hh.2 k b)) (fun ad => ?_) (fun _ _ => trivial) hw
        unfold bg_fd
        revert h2
        generalize bg_tg c0.1 b = tg
        intro h2
        match tg, h2 with
        | 0, _ => rfl
        | 3, _ => rfl
        | 1, h2 => cases h2
        | 2, h2 => cases h2
        | n + 4, h2 => cases h2
      · refine sm_getfield hC hd hc hcl hb hwd (v := .inr (.inl (Hh.2 k b))) (fun ad => ?_) (fun _ _ => trivial) hw
        unfold bg_fd
        revert h2
        generalize bg_tg c0.1 b = tg
        intro h2
        match tg, h2 with
        | 1, _ => rfl
        | 0, h2 => cases h2
        | 3, h2 => cases h2
        | 2, h2 => cases h2
        | n + 4, h2 => cases h2
      · rename_i hn0 hn1
        have ht2 : t = 2 := by
          have : t ≠ 0 := hn0
          have : t ≠ 1 := hn1
          omega
        subst ht2
        split at hw
        · rename_i oo ho
          have hg : c0.2.2.getD b none = oo := by rw [List.getD_eq_getElem?_getD, ← bg_nth_eq, ho]; rfl
          refine sm_getfield hC hd hc hcl hb hwd (v := .inr (.inr oo)) (fun ad => ?_) (fun hwf hk2 => ?_) hw
          · unfold bg_fd
            rw [hg]
            revert h2
            generalize bg_tg c0.1 b = tg
            intro h2
            match tg, h2 with
            | 2, _ => rfl
            | 0, h2 => cases h2
            | 1, h2 => cases h2
            | 3, h2 => cases h2
            | n + 4, h2 => rfl
          · cases oo with
            | none => trivial
            | some x => exact (hwf.2 k c0 hc hk2).2.2.2.1 _ x hg
        · exact hw.elim
    · exact hw.elim
  | putfield i =>
    simp only [bg_ok1, Bool.and_eq_true, decide_eq_true_eq] at hok
    obtain ⟨⟨hd, rfl⟩, ⟨⟨h1, h2⟩, h3⟩, h4⟩ := hok
    obtain ⟨C, T, N, hcl, hb, hwd⟩ := bg_fl_of h1
    rw [hcl] at h4
    simp only [Bool.or_eq_true, Bool.and_eq_true, decide_eq_true_eq] at h4
    have htt := bg_cls_tg _ _ _ _ hcl b hb
    rw [← h2] at htt
    simp only [bg_wp] at hw
    split at hw
    · rename_i x k r
      obtain ⟨c0, hc, hw1⟩ := bg_at_of hw
      obtain ⟨he, hw2⟩ := bg_if_of hw1
      clear hw hw1
      have hw := hw2
      clear hw2
      have he : c0.1 = a := Nat.eq_of_beq_eq_true he
      subst he
      split at hw
      · refine sm_putnum hC hd hc hcl hb hwd h4 (v := .inl x) rfl (fun ad => ?_) (fun ad => ?_) (fun ad g hg => ?_) hw
        · revert htt
          generalize bg_tyOf c0.1 b = ty
          intro htt
          cases ty <;> first | rfl | cases htt
        · revert htt
          generalize bg_tyOf c0.1 b = ty
          intro htt
          cases ty <;> first | rfl | cases htt
        · unfold bg_fd
          rw [← h2, hg]
          rfl
      · refine sm_putnum hC hd hc hcl hb hwd h4 (v := .inl x) rfl (fun ad => ?_) (fun ad => ?_) (fun ad g hg => ?_) hw.2
        · revert htt
          generalize bg_tyOf c0.1 b = ty
          intro htt
          rcases hw.1 with rfl | rfl <;> (cases ty <;> first | rfl | cases htt)
        · revert htt
          generalize bg_tyOf c0.1 b = ty
          intro htt
          rcases hw.1 with rfl | rfl <;> (cases ty <;> first | rfl | cases htt)
        · unfold bg_fd
          rw [← h2, hg]
          rfl
      · exact hw.elim
    · rename_i x k r
      obtain ⟨c0, hc, hw1⟩ := bg_at_of hw
      obtain ⟨he, hw2⟩ := bg_if_of hw1
      clear hw hw1
      have hw := hw2
      clear hw2
      rw [Bool.and_eq_true] at he
      have he1 : c0.1 = a := Nat.eq_of_beq_eq_true he.1
      have he2 : t = 1 := Nat.eq_of_beq_eq_true he.2
      subst he1
      subst he2
      refine sm_putnum hC hd hc hcl hb hwd h4 (v := .inr (.inl x)) rfl (fun ad => ?_) (fun ad => ?_) (fun ad g hg => ?_) hw
      · revert htt
        generalize bg_tyOf c0.1 b = ty
        intro htt
        cases ty <;> first | rfl | cases htt
      · revert htt
        generalize bg_tyOf c0.1 b = ty
        intro htt
        cases ty <;> first | rfl | cases htt
      · unfold bg_fd
        rw [← h2, hg]
        rfl
    · rename_i oo k r
      obtain ⟨c0, hc, hw1⟩ := bg_at_of hw
      obtain ⟨he, hw2⟩ := bg_if_of hw1
      clear hw hw1
      have hw := hw2
      clear hw2
      rw [Bool.and_eq_true, Bool.and_eq_true] at he
      have he1 : c0.1 = a := Nat.eq_of_beq_eq_true he.1.1
      have he2 : t = 2 := Nat.eq_of_beq_eq_true he.1.2
      subst he1
      subst he2
      exact sm_putref hC hd hc hcl hb hwd h4 h2.symm (Nat.le_of_ble_eq_true he.2) hw
    · exact hw.elim
  | arraylength =>
    simp only [bg_ok1, Bool.and_eq_true, decide_eq_true_eq] at hok
    obtain ⟨⟨hd, rfl⟩, -⟩ := hok
    simp only [bg_wp, bg_r1] at hw
    split at hw
    · obtain ⟨c0, hc, hw⟩ := bg_at_of hw
      obtain ⟨he, hw⟩ := bg_if_of hw
      exact sm_alen hC hd hc (Nat.le_of_ble_eq_true he) hw
    · exact hw.elim
  | iaload =>
    simp only [bg_ok1, Bool.and_eq_true, decide_eq_true_eq] at hok
    obtain ⟨⟨hd, rfl⟩, -⟩ := hok
    simp only [bg_wp, bg_pr] at hw
    split at hw
    · obtain ⟨c0, hc, hw⟩ := bg_at_of hw
      obtain ⟨he, hw⟩ := bg_if_of hw
      rw [Bool.or_eq_true] at he
      exact sm_iaload hC hd hc (he.imp Nat.eq_of_beq_eq_true Nat.eq_of_beq_eq_true) hw.1 hw.2
    · exact hw.elim
  | laload =>
    simp only [bg_ok1, Bool.and_eq_true, decide_eq_true_eq] at hok
    obtain ⟨⟨hd, rfl⟩, -⟩ := hok
    simp only [bg_wp, bg_pr] at hw
    split at hw
    · obtain ⟨c0, hc, hw⟩ := bg_at_of hw
      obtain ⟨he, hw⟩ := bg_if_of hw
      exact sm_laload hC hd hc (Nat.eq_of_beq_eq_true he) hw.1 hw.2
    · exact hw.elim
  | aaload =>
    simp only [bg_ok1, Bool.and_eq_true, decide_eq_true_eq] at hok
    obtain ⟨⟨hd, rfl⟩, -⟩ := hok
    simp only [bg_wp, bg_pr] at hw
    split at hw
    · obtain ⟨c0, hc, hw⟩ := bg_at_of hw
      obtain ⟨he, hw⟩ := bg_if_of hw
      rw [Bool.and_eq_true] at he
      obtain ⟨hi, hw⟩ := hw
      split at hw
      · rename_i oo ho
        exact sm_aaload hC hd hc (Nat.le_of_ble_eq_true he.1) (Nat.le_of_ble_eq_true he.2) hi ho hw
      · exact hw.elim
    · exact hw.elim
  | iastore =>
    simp only [bg_ok1, Bool.and_eq_true, decide_eq_true_eq] at hok
    obtain ⟨⟨hd, rfl⟩, -⟩ := hok
    simp only [bg_wp] at hw
    split at hw
    · obtain ⟨c0, hc, hw⟩ := bg_at_of hw
      obtain ⟨he, hw⟩ := bg_if_of hw
      exact sm_iastore hC hd hc (Nat.eq_of_beq_eq_true he) hw.1 hw.2
    · exact hw.elim
  | lastore =>
    simp only [bg_ok1, Bool.and_eq_true, decide_eq_true_eq] at hok
    obtain ⟨⟨hd, rfl⟩, -⟩ := hok
    simp only [bg_wp] at hw
    split at hw
    · obtain ⟨c0, hc, hw⟩ := bg_at_of hw
      obtain ⟨he, hw⟩ := bg_if_of hw
      exact sm_lastore hC hd hc (Nat.eq_of_beq_eq_true he) hw.1 hw.2
    · exact hw.elim
  | aastore =>
    simp only [bg_ok1, Bool.and_eq_true, decide_eq_true_eq] at hok
    obtain ⟨⟨hd, rfl⟩, -⟩ := hok
    simp only [bg_wp] at hw
    split at hw
    · obtain ⟨c0, hc, hw⟩ := bg_at_of hw
      obtain ⟨c1, hc1, hw⟩ := bg_at_of hw
      obtain ⟨he, hw⟩ := bg_if_of hw
      rw [Bool.or_eq_true, Bool.and_eq_true, Bool.and_eq_true] at he
      exact sm_aastore hC hd hc hc1 (he.imp (fun h => ⟨Nat.eq_of_beq_eq_true h.1, Nat.eq_of_beq_eq_true h.2⟩) (fun h => ⟨Nat.eq_of_beq_eq_true h.1, Nat.eq_of_beq_eq_true h.2⟩)) hw.1 hw.2
    · exact hw.elim
  | new i =>
    simp only [bg_ok1, Bool.and_eq_true, decide_eq_true_eq] at hok
    obtain ⟨⟨hd, rfl⟩, h1⟩ := hok
    split at h1
    · rename_i C T N hcl
      simp only [Bool.and_eq_true, decide_eq_true_eq] at h1
      obtain ⟨rfl, h1⟩ := h1
      obtain ⟨he, hw⟩ := bg_if_of hw
      rw [Bool.and_eq_true] at he
      obtain ⟨w2, w3, hN⟩ := bg_cls_w _ _ _ _ hcl
      exact sm_new hC hd hcl (bg_wd_in h1) w2 w3 (Nat.le_trans (Nat.le_of_ble_eq_true he.1) hRc) (Nat.le_trans (Nat.le_of_ble_eq_true he.2) hRs) (by omega) hw
    · cases h1
  | newarray ty =>
    simp only [bg_ok1, Bool.and_eq_true, decide_eq_true_eq] at hok
    obtain ⟨⟨hd, rfl⟩, h1, h2⟩ := hok
    simp only [Bool.or_eq_true, decide_eq_true_eq] at h1
    simp only [bg_wp, bg_p1] at hw
    split at hw
    · obtain ⟨he, hw1⟩ := bg_if_of hw
      clear hw
      rw [Bool.and_eq_true] at he
      obtain ⟨rfl, hw⟩ := hw1
      exact sm_newarray hC hd h1 h2 (Nat.le_trans (Nat.le_of_ble_eq_true he.1) hRc) (Nat.le_trans (Nat.le_of_ble_eq_true he.2) hRs) hw
    · exact hw.elim
  | anewarray i =>
    simp only [bg_ok1, Bool.and_eq_true, decide_eq_true_eq] at hok
    obtain ⟨⟨hd, rfl⟩, h1, h2⟩ := hok
    simp only [Bool.or_eq_true, Bool.and_eq_true, decide_eq_true_eq] at h1
    simp only [bg_wp, bg_p1] at hw
    split at hw
    · obtain ⟨he, hw1⟩ := bg_if_of hw
      clear hw
      rw [Bool.and_eq_true] at he
      obtain ⟨rfl, hw⟩ := hw1
      rcases h1 with ⟨rfl, h1⟩ | ⟨rfl, h1⟩
      · exact sm_anewarray (t0 := 2) hC hd (Or.inl rfl) (fun _ => rfl) (bg_wd_in h1) (by simp) h2 (Nat.le_trans (Nat.le_of_ble_eq_true he.1) hRc) (Nat.le_trans (Nat.le_of_ble_eq_true he.2) hRs) hw
      · exact sm_anewarray (t0 := 3) hC hd (Or.inr rfl) (fun _ => rfl) (bg_wd_in h1) (by simp) h2 (Nat.le_trans (Nat.le_of_ble_eq_true he.1) hRc) (Nat.le_trans (Nat.le_of_ble_eq_true he.2) hRs) hw
    · exact hw.elim
  | multianewarray i n =>
    simp only [bg_ok1, Bool.and_eq_true, decide_eq_true_eq] at hok
    obtain ⟨⟨hd, rfl⟩, ⟨rfl, h1⟩, h2⟩ := hok
    simp only [Bool.or_eq_true, Bool.and_eq_true, decide_eq_true_eq] at h1
    simp only [bg_wp, bg_p2] at hw
    split at hw
    · obtain ⟨he, hw1⟩ := bg_if_of hw
      clear hw
      rw [Bool.and_eq_true] at he
      obtain ⟨⟨rfl, rfl⟩, hw⟩ := hw1
      rcases h1 with ⟨rfl, h1⟩ | ⟨rfl, h1⟩
      · exact sm_multi (ty := .int) hC hd (Or.inl ⟨rfl, rfl⟩) (bg_wd_in h1) h2 (Nat.le_trans (Nat.le_of_ble_eq_true he.1) hRc) (Nat.le_trans (Nat.le_of_ble_eq_true he.2) hRs) hw
      · exact sm_multi (ty := .long) hC hd (Or.inr ⟨rfl, rfl⟩) (bg_wd_in h1) h2 (Nat.le_trans (Nat.le_of_ble_eq_true he.1) hRc) (Nat.le_trans (Nat.le_of_ble_eq_true he.2) hRs) hw
    · exact hw.elim
  | invokevirtual i =>
    simp only [bg_ok1, Bool.and_eq_true, decide_eq_true_eq] at hok
    obtain ⟨⟨hd, rfl⟩, h1⟩ := hok
    split at h1
    · rename_i M' hk
      simp only [Bool.and_eq_true, decide_eq_true_eq] at h1
      obtain ⟨⟨h1, h2⟩, h3⟩ := h1
      simp only [bg_wp] at hw
      split at hw
      · rename_i k as rest hp
        obtain ⟨e1, e2⟩ := bg_pop_eq _ _ _ _ _ hp
        obtain ⟨c0, hc, hw⟩ := bg_at_of hw
        obtain ⟨he0, hw⟩ := bg_if_of hw
        have he0 : c0.1 = t := Nat.eq_of_beq_eq_true he0
        unfold bg_call at hw
        obtain ⟨he, hw⟩ := bg_if_of hw
        simp only [Bool.and_eq_true] at he
        have g1 := Nat.le_trans (Nat.le_of_ble_eq_true he.1.2) hRc
        have g2 := Nat.le_trans (Nat.le_of_ble_eq_true he.2) hRs
        have g3 := Nat.le_of_ble_eq_true he.1.1
        rw [← he0] at h3
        have e1 : st = (Sum.inr (Sum.inr (some k)) :: as).reverse ++ rest := by rw [e1]; rfl
        rw [e1]
        exact sm_callV hC hM hRf hRl hd hk (bg_wd_in h1) h2 (Nat.eq_of_beq_eq_true hkq) hc h3 (by simp at e2; omega) g3 g1 g2 hw
      · exact hw.elim
    · cases h1
  | invokestatic i =>
    simp only [bg_ok1, Bool.and_eq_true, decide_eq_true_eq] at hok
    obtain ⟨⟨hd, rfl⟩, h1⟩ := hok
    simp only [bg_wp] at hw
    split at hw
    · split at hw
      · obtain ⟨c0, hc0, hw⟩ := bg_at_of hw
        obtain ⟨c1, hc1, hw⟩ := bg_at_of hw
        obtain ⟨he, hw⟩ := bg_if_of hw
        simp only [Bool.and_eq_true] at he
        obtain ⟨⟨q1, q2, q3, q4, q5⟩, hw⟩ := hw
        exact sm_copy (k := 0) hC (by omega) (by omega) hd (bg_wd_in h1) hc0 hc1 (Nat.eq_of_beq_eq_true he.1.1) (Nat.eq_of_beq_eq_true he.1.2) (Nat.le_of_ble_eq_true he.2) q1 q2 q3 q4 q5 hw
      · exact hw.elim
    · simp only [bg_p2] at hw
      split at hw
      · obtain ⟨he, hw⟩ := bg_if_of hw
        simp only [Bool.and_eq_true] at he
        exact sm_mmax hC (by omega) (by omega) (Nat.le_trans (Nat.le_of_ble_eq_true he.1.2) hRc) (Nat.le_trans (Nat.le_of_ble_eq_true he.2) hRs) hd (bg_wd_in h1) (Nat.le_of_ble_eq_true he.1.1) hw
      · exact hw.elim
    · simp only [bg_p2] at hw
      split at hw
      · obtain ⟨he, hw⟩ := bg_if_of hw
        simp only [Bool.and_eq_true] at he
        exact sm_mmin hC (by omega) (by omega) (Nat.le_trans (Nat.le_of_ble_eq_true he.1.2) hRc) (Nat.le_trans (Nat.le_of_ble_eq_true he.2) hRs) hd (bg_wd_in h1) (Nat.le_of_ble_eq_true he.1.1) hw
      · exact hw.elim
    · simp only [bg_q2] at hw
      split at hw
      · obtain ⟨he, hw⟩ := bg_if_of hw
        simp only [Bool.and_eq_true] at he
        exact sm_mmaxl hC (by omega) (by omega) (Nat.le_trans (Nat.le_of_ble_eq_true he.1.2) hRc) (Nat.le_trans (Nat.le_of_ble_eq_true he.2) hRs) hd (bg_wd_in h1) (Nat.le_of_ble_eq_true he.1.1) hw
      · exact hw.elim
    · rename_i hn1 hn2 hn3 hn4
      split at h1
      · exact absurd rfl hn1
      · exact absurd rfl hn2
      · exact absurd rfl hn3
      · exact absurd rfl hn4
      · split at h1
        · rename_i M' hk
          simp only [Bool.and_eq_true, decide_eq_true_eq] at h1
          split at hw
          · rename_i as rest hp
            obtain ⟨e1, e2⟩ := bg_pop_eq _ _ _ _ _ hp
            unfold bg_call at hw
            obtain ⟨he, hw⟩ := bg_if_of hw
            simp only [Bool.and_eq_true] at he
            have g1 := Nat.le_trans (Nat.le_of_ble_eq_true he.1.2) hRc
            have g2 := Nat.le_trans (Nat.le_of_ble_eq_true he.2) hRs
            have g3 := Nat.le_of_ble_eq_true he.1.1
            have e1 : st = as.reverse ++ rest := by rw [e1]; rfl
            rw [e1]
            have hkq2 : bg_kd a = 0 := by
              have : t ≠ 1 := hn1
              have : t ≠ 2 := hn2
              have : t ≠ 3 := hn3
              have : t ≠ 4 := hn4
              simp only [bg_kq, Bool.or_eq_true] at hkq
              rcases hkq with h | h
              · rw [Bool.and_eq_true] at h
                have := Nat.le_of_ble_eq_true h.1
                have := Nat.le_of_ble_eq_true h.2
                omega
              · exact Nat.eq_of_beq_eq_true h
            exact sm_callS hC hM hRf hRl hd hk (bg_wd_in h1.1) h1.2 hkq2 (by simp at e2; omega) g3 g1 g2 hw
          · exact hw.elim
        · cases h1
  | invokespecial i =>
    simp only [bg_ok1, Bool.and_eq_true, decide_eq_true_eq] at hok
    obtain ⟨⟨hd, rfl⟩, h1⟩ := hok
    simp only [bg_wp] at hw
    split at hw
    · simp only [bg_r1] at hw
      split at hw
      · obtain ⟨he, hw⟩ := bg_if_of hw
        exact sm_objinit hC (by omega) (by omega) hd (bg_wd_in h1) (Nat.le_of_ble_eq_true he) hw
      · exact hw.elim
    · rename_i hn1
      split at h1
      · exact absurd rfl hn1
      · split at h1
        · rename_i M' hk
          simp only [Bool.and_eq_true, decide_eq_true_eq] at h1
          obtain ⟨⟨⟨h1, h2⟩, h3⟩, h4⟩ := h1
          split at hw
          · rename_i k as rest hp
            obtain ⟨e1, e2⟩ := bg_pop_eq _ _ _ _ _ hp
            unfold bg_call at hw
            obtain ⟨he, hw⟩ := bg_if_of hw
            simp only [Bool.and_eq_true] at he
            have g1 := Nat.le_trans (Nat.le_of_ble_eq_true he.1.2) hRc
            have g2 := Nat.le_trans (Nat.le_of_ble_eq_true he.2) hRs
            have g3 := Nat.le_of_ble_eq_true he.1.1
            have e1 : st = (Sum.inr (Sum.inr (some k)) :: as).reverse ++ rest := by rw [e1]; rfl
            rw [e1]
            have hkq2 : bg_kd a = 2 := by
              simp only [bg_kq, Bool.or_eq_true] at hkq
              rcases hkq with h | h
              · exact absurd (Nat.eq_of_beq_eq_true h) hn1
              · exact Nat.eq_of_beq_eq_true h
            exact sm_callI hC hM hRf hRl hd hk (bg_wd_in h1) h2 hkq2 h3 h4 (by simp at e2; omega) g3 g1 g2 hw
          · exact hw.elim
        · cases h1
  | ireturn =>
    simp only [bg_ok1, Bool.and_eq_true, decide_eq_true_eq] at hok
    obtain ⟨⟨hd, -⟩, h1, h2⟩ := hok
    simp only [bg_wp] at hw
    split at hw
    · obtain ⟨he, hw⟩ := bg_if_of hw
      rw [Bool.and_eq_true] at he
      have g1 := Nat.le_of_ble_eq_true he.1
      have g2 := Nat.le_of_ble_eq_true he.2
      rcases h2 with h2 | h2
      · rw [h2] at h1
        subst h1
        exact hI _ _ _ _ _ hd (Or.inr ⟨h2, hw.1⟩) g1 g2 hw.2
      · rw [h2] at h1
        subst h1
        exact hI _ _ _ _ _ hd (Or.inl h2) g1 g2 hw
    · exact hw.elim
  | lreturn =>
    simp only [bg_ok1, Bool.and_eq_true, decide_eq_true_eq] at hok
    obtain ⟨⟨hd, -⟩, h1⟩ := hok
    simp only [bg_wp] at hw
    split at hw
    · obtain ⟨he, hw⟩ := bg_if_of hw
      rw [Bool.and_eq_true] at he
      exact hJ _ _ _ _ _ hd h1 (Nat.le_of_ble_eq_true he.1) (Nat.le_of_ble_eq_true he.2) hw
    · exact hw.elim
  | return_ =>
    simp only [bg_ok1, Bool.and_eq_true, decide_eq_true_eq] at hok
    obtain ⟨⟨hd, -⟩, h1⟩ := hok
    simp only [bg_wp] at hw
    split at hw
    · obtain ⟨he, hw⟩ := bg_if_of hw
      rw [Bool.and_eq_true] at he
      exact hV _ _ _ _ hd h1 (Nat.le_of_ble_eq_true he.1) (Nat.le_of_ble_eq_true he.2) hw
    · exact hw.elim
  | _ => exact hw.elim
end BgE
