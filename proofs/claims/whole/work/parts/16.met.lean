/-! every method's contract -/
theorem bg_lay_nth (ad : Nat → Nat) : ∀ (as : List bg_V) (n i0 j : Nat) (v : bg_V), bg_nth (bg_lay as n) j = some (some v) → (i0 + j, bg_cv ad v) ∈ lv_args i0 (as.map (bg_cv ad)) ∧ v ∈ as
  | [], 0, i0, j, v, h => by simp [bg_lay, bg_nth] at h
  | [], n + 1, i0, 0, v, h => by simp [bg_lay, bg_nth] at h
  | [], n + 1, i0, j + 1, v, h => by
    have := bg_lay_nth ad [] n (i0 + 1) j v (by simpa [bg_lay, bg_nth] using h)
    exact absurd this.2 List.not_mem_nil
  | .inr (.inl x) :: vs, n, i0, 0, v, h => by
    simp [bg_lay, bg_nth] at h
    subst h
    exact ⟨List.mem_cons_self, List.mem_cons_self⟩
  | .inr (.inl x) :: vs, n, i0, 1, v, h => by simp [bg_lay, bg_nth] at h
  | .inr (.inl x) :: vs, n, i0, j + 2, v, h => by
    have := bg_lay_nth ad vs (n - 2) (i0 + 2) j v (by simpa [bg_lay, bg_nth] using h)
    refine ⟨List.mem_cons_of_mem _ ?_, List.mem_cons_of_mem _ this.2⟩
    show (i0 + (j + 2), bg_cv ad v) ∈ lv_args (i0 + 2) _
    rw [show i0 + (j + 2) = i0 + 2 + j by omega]
    exact this.1
  | .inl x :: vs, n, i0, 0, v, h => by
    simp [bg_lay, bg_nth] at h
    subst h
    exact ⟨List.mem_cons_self, List.mem_cons_self⟩
  | .inl x :: vs, n, i0, j + 1, v, h => by
    have := bg_lay_nth ad vs (n - 1) (i0 + 1) j v (by simpa [bg_lay, bg_nth] using h)
    refine ⟨List.mem_cons_of_mem _ ?_, List.mem_cons_of_mem _ this.2⟩
    show (i0 + (j + 1), bg_cv ad v) ∈ lv_args (i0 + 1) _
    rw [show i0 + (j + 1) = i0 + 1 + j by omega]
    exact this.1
  | .inr (.inr o) :: vs, n, i0, 0, v, h => by
    simp [bg_lay, bg_nth] at h
    subst h
    exact ⟨List.mem_cons_self, List.mem_cons_self⟩
  | .inr (.inr o) :: vs, n, i0, j + 1, v, h => by
    have := bg_lay_nth ad vs (n - 1) (i0 + 1) j v (by simpa [bg_lay, bg_nth] using h)
    refine ⟨List.mem_cons_of_mem _ ?_, List.mem_cons_of_mem _ this.2⟩
    have e : (bg_cv ad (.inr (.inr o))).category = 1 := by cases o <;> rfl
    show (i0 + (j + 1), bg_cv ad v) ∈ lv_args (if (bg_cv ad (.inr (.inr o))).category = 2 then i0 + 2 else i0 + 1) _
    rw [e, if_neg (by decide), show i0 + (j + 1) = i0 + 1 + j by omega]
    exact this.1
theorem bg_sl_len (ad : Nat → Nat) : ∀ as : List bg_V, (lg_sl (as.map (bg_cv ad))).length = bg_cats as
  | [] => rfl
  | .inl x :: l => by
    have := bg_sl_len ad l
    simp only [lg_sl, List.map_cons, List.flatMap_cons, List.length_append] at this ⊢
    rw [this]; rfl
  | .inr (.inl x) :: l => by
    have := bg_sl_len ad l
    simp only [lg_sl, List.map_cons, List.flatMap_cons, List.length_append] at this ⊢
    rw [this]; rfl
  | .inr (.inr none) :: l => by
    have := bg_sl_len ad l
    simp only [lg_sl, List.map_cons, List.flatMap_cons, List.length_append] at this ⊢
    rw [this]; rfl
  | .inr (.inr (some x)) :: l => by
    have := bg_sl_len ad l
    simp only [lg_sl, List.map_cons, List.flatMap_cons, List.length_append] at this ⊢
    rw [this]; rfl
/-- the entry: the arguments lie in the locals -/
theorem bg_entry {as : List bg_V} {ml : Nat} (ad : Nat → Nat) (h : bg_cats as ≤ ml) : bg_rl ad (bg_lay as ml) ((lg_sl (as.map (bg_cv ad)) ++ List.replicate (ml - (lg_sl (as.map (bg_cv ad))).length) Slot.unset).toArray) ml := by
  have hl := lv_entry (as.map (bg_cv ad)) (n := ml) (by rw [bg_sl_len]; exact h)
  refine ⟨hl.1, hl.2.1, fun j v hj => ?_⟩
  have := (bg_lay_nth ad as ml 0 j v hj).1
  rw [Nat.zero_add] at this
  exact hl.2.2 _ this
set_option maxHeartbeats 4000000 in
theorem bg_met (l : Launch) : ∀ d : Nat, bg_Met l d
  | 0 => fun k M hk D cy ad Hh sz as Rt hwf has hca => hca.elim
  | d + 1 => fun k M hk D cy ad Hh sz as Rt hwf has hca => by
    obtain ⟨q, -, hm⟩ := bg_kind hk
    simp only [bg_okm, Bool.and_eq_true, decide_eq_true_eq] at hm
    unfold bg_Ca at hca
    rw [hk] at hca
    have hokc := bg_okc_of _ bg_okc_all k M hk
    have hokk : bg_kc M.2.2.2.2.1 = true := by
      have h1 : M ∈ bg_MS := by rw [bg_nth_eq] at hk; exact List.mem_of_getElem? hk
      exact List.all_eq_true.mp bg_kc_all M h1
    obtain ⟨y, bytes, ml, ret, cd, mx, ix⟩ := M
    obtain ⟨hcat, hrun⟩ := bg_if_of hca
    have hcat := Nat.le_of_ble_eq_true hcat
    have hmx : mx = bg_mc k := hm.1.1.2
    refine Met.ofW (cc := bytes) (maxL := ml) (ret := ret) hm.1.1.1.1.1.1 rfl ?_
    intro p e s m args below meth c s₁ B hml hv
    obtain ⟨rfl, hsz, hP, hK, hD0, hAO, hro⟩ := hv
    have hx := B.exec
    have hb := B.bytes
    have hr := B.returns
    have hts := atoms_spec (ws := bg_wds (y, bytes, ml, ret, cd, mx, ix)) B.pre
    have hown : s.vm.findClass y.cls = some m.cls := findClass_of_methodNamed B.named
    have hlocks := B.notSynchronized
    have hnm : meth.name = y.name := (name_of_methodNamed B.named B.method).1
    subst hsz
    have hD := hD0.self (sz := s.heap.size)
    generalize hAe : va_A (bg_ws cy ad Hh) s.heap.size = A at hD hro ⊢
    have hA : ∀ q : Nat, s.heap.size ≤ q → A q := fun q h => by rw [← hAe]; exact Or.inr h
    have hS : va_S A s.heap s.heap [] := va_S.rf
    have hC : bg_Cx p s m (as.map (bg_cv ad)).toArray meth c D cy A (y, bytes, ml, ret, cd, mx, ix) := ⟨hx, hb, hml, hown, fun w hw => hts w (List.mem_cons_of_mem _ hw), hK, hA, hnm, hAO⟩
    rw [lg_entry_eq]
    have key := hrun (bg_Sim p l e (headSpec (bg_wds (y, bytes, ml, ret, cd, mx, ix)) (bg_rm (d + 1) k)).room s m (as.map (bg_cv ad)).toArray below meth c (MQ below (bg_Qc ret D cy A Rt ad Hh) (as.map (bg_cv ad)).toArray s (bg_mc k).1 (bg_mc k).2 A) D cy A (ad, Hh) ml) (fun g hg => ?_)
    · exact key ad s.heap [] _ ⟨hP, hD, hS, bg_entry ad hcat, hwf, hro, fun v hv => absurd hv List.not_mem_nil, fun j v hj => has v (bg_lay_nth ad as ml 0 j v hj).2, fun _ _ => rfl, Nat.le_refl _, rfl, rfl, rfl⟩
    · obtain ⟨pc, L, st, Hg, cn⟩ := g
      simp only [bg_st] at hg
      split at hg
      · rename_i q0 hq0
        refine bg_step (M := (y, bytes, ml, ret, cd, mx, ix)) (R := (headSpec (bg_wds (y, bytes, ml, ret, cd, mx, ix)) (bg_rm (d + 1) k)).room) hC (bg_met l d) (Nat.le_refl _) (Nat.le_refl _) (mx := mx) (by rw [hmx]; exact Nat.le_refl _) (by rw [hmx]; exact Nat.le_refl _) ?_ ?_ ?_ (bg_look_ok cd hokc pc q0 hq0) (bg_look_kq cd hokk pc q0 hq0) hg
        · intro pc L x Hg cn hd hret h1 h2 hRt ad2 H locs ls h
          rw [hmx] at h1 h2
          refine W.widen h1 h2 ?_
          obtain ⟨a1, a2, a3, a4, a5, a6, a7, a8, x1, x2, x3, x4, x5⟩ := h
          have hpo : bg_po Rt ad Hh (ad2, Hg, some (.inl x)) := ⟨hRt, x1, x2, a5, x3, x4, x5⟩
          rcases hret with rfl | ⟨rfl, hbo⟩
          · exact W.iret hx hb hr (fun t ht hW => ⟨⟨Int32.ofInt x, (ad2, Hg, some (.inl x)), rfl, ⟨hpo, x, rfl, rfl⟩, by rw [ht]; exact a1, va_K.moved hW.alike hK, a2⟩, a3.F ht⟩) a3.2.2 hd hlocks
          · refine W.zret hx hb hr ?_ (fun t ht hW => ⟨⟨Int32.ofInt x, (ad2, Hg, some (.inl x)), rfl, ⟨hpo, x, rfl, rfl⟩, by rw [ht]; exact a1, va_K.moved hW.alike hK, a2⟩, a3.F ht⟩) a3.2.2 hd hlocks
            rcases hbo with rfl | rfl <;> rfl
        · intro pc L x Hg cn hd hret h1 h2 hRt ad2 H locs ls h
          rw [hmx] at h1 h2
          have hret : ret = some .long := hret
          subst hret
          refine W.widen h1 h2 ?_
          obtain ⟨a1, a2, a3, a4, a5, a6, a7, a8, x1, x2, x3, x4, x5⟩ := h
          have hpo : bg_po Rt ad Hh (ad2, Hg, some (.inr (.inl x))) := ⟨hRt, x1, x2, a5, x3, x4, x5⟩
          exact W.lret hx hb hr (fun t ht hW => ⟨⟨Int64.ofInt x, (ad2, Hg, some (.inr (.inl x))), rfl, ⟨hpo, x, rfl, rfl⟩, by rw [ht]; exact a1, va_K.moved hW.alike hK, a2⟩, a3.F ht⟩) a3.2.2 hd hlocks
        · intro pc L Hg cn hd hret h1 h2 hRt ad2 H locs ls h
          rw [hmx] at h1 h2
          have hret : ret = none := hret
          subst hret
          refine W.widen h1 h2 ?_
          obtain ⟨a1, a2, a3, a4, a5, a6, a7, a8, x1, x2, x3, x4, x5⟩ := h
          have hpo : bg_po Rt ad Hh (ad2, Hg, none) := ⟨hRt, x1, x2, a5, x3, x4, x5⟩
          exact W.vret hx hb hr (fun t ht hW => ⟨⟨(ad2, Hg, none), rfl, ⟨hpo, rfl⟩, by rw [ht]; exact a1, va_K.moved hW.alike hK, a2⟩, a3.F ht⟩) a3.2.2 hd hlocks
      · exact hg.elim
