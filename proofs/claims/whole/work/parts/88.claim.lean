/-! THE CLAIM OUT OF ONE WALK OF THE LAW'S BODY. Your part is whole_start (and what it stands on); all else here is the same for every law, but numbers. -/
def R_law : String := "BorderGuardsLaw"
def lw_P (b : Addr) (xs : List Int32) (args : Array Value) (s : State) : Prop := args = #[.ref b] ∧ s.IntsAt b xs ∧ xs.length ≤ 2048 ∧ (Jvm.Cond.and given_1 narrow_1).before args s = true
def lw_Q (_ : Array Value) (s : State) (o : Outcome) (t : State) : Prop := o = .returned (some (.int 1)) ∧ Framed s o t [] 600000 7302250
def lw_Z (below : List Frame) (a : Array Value) (s : State) : State → Prop := fun t => ∃ o, t.status = .running ∧ Ended t below o ∧ lw_Q a s o t
/-- the law's own end, with 1 on the stack, nothing written that was there before, its room as the claim has it -/
theorem lw_ret {p : Program} {l : Launch} {e : Env} {s : State} {m : MethodId} {below : List Frame} {meth : Method} {c : Code} {b : Nat} (hx : p.tables.exec = Jvm.exec) (hb : c.code = code) (hr : meth.sig.returnType = ret) (hlocks : meth.locks = false) {pc : Nat} {H : Heap} {ls : Array Slot} (hdg : decode code pc = .ok (.ireturn, 1)) : W p l e room_1 s m #[Value.ref b] below meth c H [] 600000 7302250 (lw_Z below #[Value.ref b] s) (F0 m pc ls [.int 1]) := by
  intro T hT X
  obtain ⟨fs, hret, hrun, hended, hW, hframe⟩ := X.leave (v := some (.int 1)) (hlocks := hlocks) (fun h => by rw [hr] at h; cases h)
  have hmeth' : T.vm.method? m = some meth := X.method'
  refine ⟨T.setFrames fs, ?_, .returned (some (.int 1)), hrun, hended, rfl, ⟨_, rfl⟩, hW, hframe⟩
  jvm_step X.here [X.here.top, hx, hb, hdg, hmeth', hr, ret, narrow_b1]
  (try refine ⟨rfl, ?_⟩); (try refine ⟨rfl, ?_⟩)
  first | (intro acts; rw [hret _ acts rfl rfl rfl]) | rw [hret _ _ rfl rfl rfl]
  exact Steps.refl _
/-- what holds at the law's entry: the machine, the code, the tables' words (any of lw_tbl by 'hts w (by decide +kernel)'), the script of L ints xs at the cell b, what the Statement gives of the start (any of its parts by flat_of_before) -/
def lw_At (p : Program) (s : State) (m : MethodId) (meth : Method) (c : Code) (b L : Nat) (xs : Nat → Int32) : Prop :=
  p.tables.exec = Jvm.exec ∧ c.code = code ∧ meth.sig.returnType = ret ∧ c.maxLocals = 4 ∧ s.vm.findClass R_law = some m.cls ∧ (∀ w ∈ lw_tbl, w.before #[Value.ref b] s = true) ∧ va_X b L xs s s.heap ∧ b < s.heap.size ∧ meth.locks = false ∧ (Jvm.Cond.and given_1 narrow_1).before #[Value.ref b] s = true ∧ meth.name = "law"
/-- an array class that the tables name -/
theorem st_arr {args : Array Value} {s : State} {ty : FieldType} (hty : ty = .int ∨ ty = .long) (h : (Cond.arrayClass ty).before args s = true) : ∃ cA : ClassId, ArrOfT s cA ty ∧ va_RA s cA ty := by
  obtain ⟨cA, k, comp, h1, h2, h3⟩ := Cond.arrayClass_spec h
  refine ⟨cA, fun n z => ⟨fun k h => (by cases h), k, h2, comp, h3⟩, ?_⟩
  rcases hty with rfl | rfl
  · exact h1
  · exact h1
theorem st_obj {args : Array Value} {s : State} {C : String} (h : (Cond.arrayOver (.object C)).before args s = true) : ∃ cA : ClassId, ArrOfT s cA (.object C) ∧ va_RA s cA (.object C) := by
  obtain ⟨comp, cA, k, h1, -, h2, h3, h4⟩ := Cond.arrayOver_spec h
  exact ⟨cA, fun n z => ⟨fun k h => (by cases h), k, h2, comp, h3⟩, k, comp, h2, h3, h1, h4⟩
theorem st_two {args : Array Value} {s : State} {t : FieldType} (h : (Cond.arrayOver (.array t)).before args s = true) : ∃ cA : ClassId, ArrOfT s cA (.array t) ∧ va_RA s cA (.array t) := by
  obtain ⟨comp, cA, k, -, h2, h3, h4⟩ := Cond.arrayOver_specA h
  exact ⟨cA, fun n z => ⟨fun k h => (by cases h), k, h2, comp, h3⟩, h4⟩
/-- the tables know the classes -/
theorem st_K {args : Array Value} {s : State} (hts : ∀ w ∈ lw_tbl, w.before args s = true) : ∃ (D : va_G) (cy : Nat → ClassId), va_K D bg_cls (bg_tys cy) s := by
  obtain ⟨c0, i0, k0⟩ := u_known (C := bg_R0) (T := bg_T0) (N := 4) (n := 4) hts bg_in0 (hts (.instantiable bg_R0 4) (by decide +kernel))
  obtain ⟨c1, i1, k1⟩ := u_known (C := bg_R1) (T := bg_T1) (N := 6) (n := 6) hts bg_in1 (hts (.instantiable bg_R1 6) (by decide +kernel))
  obtain ⟨c2, i2, k2⟩ := u_known (C := bg_R2) (T := bg_T2) (N := 8) (n := 8) hts bg_in2 (hts (.instantiable bg_R2 8) (by decide +kernel))
  obtain ⟨c3, i3, k3⟩ := u_known (C := bg_R3) (T := bg_T3) (N := 2) (n := 2) hts bg_in3 (hts (.instantiable bg_R3 2) (by decide +kernel))
  obtain ⟨c4, i4, k4⟩ := u_known (C := bg_R4) (T := bg_T4) (N := 12) (n := 12) hts bg_in4 (hts (.instantiable bg_R4 12) (by decide +kernel))
  obtain ⟨c5, i5, k5⟩ := u_known (C := bg_R5) (T := bg_T5) (N := 4) (n := 4) hts bg_in5 (hts (.instantiable bg_R5 4) (by decide +kernel))
  obtain ⟨c6, i6, k6⟩ := u_known (C := bg_R6) (T := bg_T6) (N := 4) (n := 4) hts bg_in6 (hts (.instantiable bg_R6 4) (by decide +kernel))
  obtain ⟨c7, i7, k7⟩ := u_known (C := bg_R7) (T := bg_T7) (N := 6) (n := 6) hts bg_in7 (hts (.instantiable bg_R7 6) (by decide +kernel))
  obtain ⟨c8, i8, k8⟩ := u_known (C := bg_R8) (T := bg_T8) (N := 14) (n := 14) hts bg_in8 (hts (.instantiable bg_R8 14) (by decide +kernel))
  obtain ⟨c9, i9, k9⟩ := u_known (C := bg_R9) (T := bg_T9) (N := 33) (n := 33) hts bg_in9 (hts (.instantiable bg_R9 33) (by decide +kernel))
  obtain ⟨a0, b0⟩ := st_arr (Or.inl rfl) (hts (.arrayClass .int) (by decide +kernel))
  obtain ⟨a1, b1⟩ := st_arr (Or.inr rfl) (hts (.arrayClass .long) (by decide +kernel))
  obtain ⟨a2, b2⟩ := st_obj (hts (.arrayOver (.object "BorderGuards$Land")) (by decide +kernel))
  obtain ⟨a3, b3⟩ := st_obj (hts (.arrayOver (.object "BorderGuards$Lots")) (by decide +kernel))
  obtain ⟨a4, b4⟩ := st_two (hts (.arrayOver (.array .int)) (by decide +kernel))
  obtain ⟨a5, b5⟩ := st_two (hts (.arrayOver (.array .long)) (by decide +kernel))
  refine ⟨(fun k => match k with | 0 => c0 | 1 => c1 | 2 => c2 | 3 => c3 | 4 => c4 | 5 => c5 | 6 => c6 | 7 => c7 | 8 => c8 | _ => c9, fun k => match k with | 0 => i0 | 1 => i1 | 2 => i2 | 3 => i3 | 4 => i4 | 5 => i5 | 6 => i6 | 7 => i7 | 8 => i8 | _ => i9), fun k => match k with | 10 => a0 | 11 => a1 | 12 => a2 | 13 => a3 | 14 => a4 | _ => a5, fun k q hq => ?_, fun k q hq => ?_⟩
  · match k, hq with
    | 0, hq => cases hq; exact k0
    | 1, hq => cases hq; exact k1
    | 2, hq => cases hq; exact k2
    | 3, hq => cases hq; exact k3
    | 4, hq => cases hq; exact k4
    | 5, hq => cases hq; exact k5
    | 6, hq => cases hq; exact k6
    | 7, hq => cases hq; exact k7
    | 8, hq => cases hq; exact k8
    | 9, hq => cases hq; exact k9
    | k + 10, hq => simp at hq
  · match k, hq with
    | 0, hq => cases hq; exact b0
    | 1, hq => cases hq; exact b1
    | 2, hq => cases hq; exact b2
    | 3, hq => cases hq; exact b3
    | 4, hq => cases hq; exact b4
    | 5, hq => cases hq; exact b5
    | k + 6, hq => simp [bg_tys] at hq
theorem st_AO {args : Array Value} {s : State} (hts : ∀ w ∈ lw_tbl, w.before args s = true) : bg_AO s := fun ty hty => by
  simp only [List.mem_cons, List.not_mem_nil, or_false] at hty
  rcases hty with rfl | rfl | rfl | rfl
  · exact hts (.arrayOver (.object "BorderGuards$Land")) (by decide +kernel)
  · exact hts (.arrayOver (.object "BorderGuards$Lots")) (by decide +kernel)
  · exact hts (.arrayOver (.array .int)) (by decide +kernel)
  · exact hts (.arrayOver (.array .long)) (by decide +kernel)
theorem st_elem {args : Array Value} {s : State} (h : (Jvm.Cond.and given_1 narrow_1).before args s = true) : ∀ j : Nat, j < 7 → (Term.elem (.static "BorderGuards$Land" "PATH_LIMITS" "[I") (.int (Int32.ofNat j))).eval args s none [] s = some (.int (Int32.ofInt (lim j))) := by
  have hs := flat_of_before _ h
  intro j hj
  match j, hj with
  | 0, _ => exact va_eqt (hs (Cond.eq (.elem (.static "BorderGuards$Land" "PATH_LIMITS" "[I") (.int 0)) (.int 7)) (by decide +kernel))
  | 1, _ => exact va_eqt (hs (Cond.eq (.elem (.static "BorderGuards$Land" "PATH_LIMITS" "[I") (.int 1)) (.int 7)) (by decide +kernel))
  | 2, _ => exact va_eqt (hs (Cond.eq (.elem (.static "BorderGuards$Land" "PATH_LIMITS" "[I") (.int 2)) (.int 99)) (by decide +kernel))
  | 3, _ => exact va_eqt (hs (Cond.eq (.elem (.static "BorderGuards$Land" "PATH_LIMITS" "[I") (.int 3)) (.int 99)) (by decide +kernel))
  | 4, _ => exact va_eqt (hs (Cond.eq (.elem (.static "BorderGuards$Land" "PATH_LIMITS" "[I") (.int 4)) (.int 20)) (by decide +kernel))
  | 5, _ => exact va_eqt (hs (Cond.eq (.elem (.static "BorderGuards$Land" "PATH_LIMITS" "[I") (.int 5)) (.int 100)) (by decide +kernel))
  | 6, _ => exact va_eqt (hs (Cond.eq (.elem (.static "BorderGuards$Land" "PATH_LIMITS" "[I") (.int 6)) (.int 99)) (by decide +kernel))
  | j + 7, hj => exact absurd hj (by omega)
/-- the heap that the walk begins with: the script, the limits -/
def st_h (xs : Nat → Int32) : bg_G := fun k j => if k = 0 then (xs j.toNat).toInt else lim j.toNat
set_option maxHeartbeats 4000000 in
/-- from the entry, for every script of at most 2048 ints, the law comes to its end with true -/
theorem whole_start {p : Program} {e : Env} {s : State} {m : MethodId} {below : List Frame} {meth : Method} {c : Code} (l : Launch) {b L : Nat} {xs : Nat → Int32} (hL : L ≤ 2048) (C0 : lw_At p s m meth c b L xs) : W p l e room_1 s m #[Value.ref b] below meth c s.heap [] 0 0 (lw_Z below #[Value.ref b] s) (entryFrame m ([Value.ref b] : List Value).toArray 4) := by
  obtain ⟨hx, hb, hr, hml, hown, hts, hX, hbl, hlocks, hgv, hnm⟩ := id C0
  have hs := flat_of_before _ hgv
  have hAn : ∀ a : Nat, a < s.heap.size → ¬ (fun q : Nat => s.heap.size ≤ q) a := fun a h c => Nat.not_le.mpr h c
  obtain ⟨t, ht, hT⟩ := va_Tof (N := 7) (f := fun j => .int (Int32.ofInt (lim j))) (A := fun q : Nat => s.heap.size ≤ q) (by decide) (hs (Cond.arrayOf (.static "BorderGuards$Land" "PATH_LIMITS" "[I") .int) (by decide +kernel)) (va_eqt (hs (Cond.eq (.length (.static "BorderGuards$Land" "PATH_LIMITS" "[I")) (.int 7)) (by decide +kernel))) (st_elem hgv) hAn
  have hZ := va_Zof (hts (.laysStatic "BorderGuards$Land" "PATH_LIMITS" "[I") (by decide +kernel)) (hts (.initialized "BorderGuards$Land") (by decide +kernel)) ht hAn
  obtain ⟨D, cy, hK⟩ := st_K hts
  have hAO := st_AO hts
  obtain ⟨ad, had⟩ : ∃ ad : Nat → Nat, ad 0 = b ∧ ad 1 = t := ⟨fun k => if k = 0 then b else t, rfl, rfl⟩
  have hC : bg_Cx p s m #[Value.ref b] meth c D cy (fun q : Nat => s.heap.size ≤ q) me_L_law := ⟨hx, hb, hml, hown, fun w hw => hts w ((List.mem_filter.mp hw).1), hK, fun _ h => h, hnm, hAO⟩
  have hwf : bg_wf (([(16, L, []), (16, 7, [])], st_h xs) : bg_H) := ⟨⟨L, rfl, by omega, rfl⟩, fun k c hk h2 => by
    match k, hk, h2 with
    | k + 2, hk, _ => cases hk⟩
  have hro : bg_ro ad (([(16, L, []), (16, 7, [])], st_h xs) : bg_H) (fun q : Nat => s.heap.size ≤ q) s := by
    refine ⟨fun L0 h0 => ?_, ?_, ?_⟩
    · cases h0
      rw [had.1]
      obtain ⟨scr, g1, g2, g3, g4, g5⟩ := hX
      refine ⟨scr, g1, g2, g3, Nat.le_of_eq g4.symm, congrArg Nat.toInt32 g4, fun j hj => ?_, hAn b hbl⟩
      rw [g5 j hj]
      show some (Value.int (xs j)) = some (Value.int (Int32.ofInt (xs ((j : Int).toNat)).toInt))
      rw [Int32.ofInt_toInt, Int.toNat_natCast]
    · rw [had.2]
      exact hT
    · rw [had.2]
      exact hZ
  have hl : limC (st_h xs) := fun i hi => by
    show lim ((i : Int).toNat) = lim i
    rw [Int.toNat_natCast]
  have hf : ∀ j, i32 (st_h xs 0 j) := fun j => by
    show -2147483648 ≤ (xs j.toNat).toInt ∧ (xs j.toNat).toInt ≤ 2147483647
    have h1 := Int32.le_toInt (xs j.toNat)
    have h2 := Int32.toInt_lt (xs j.toNat)
    omega
  rw [lg_entry_eq]
  have key := law_run (X := bg_Sim p l e room_1 s m #[Value.ref b] below meth c (lw_Z below #[Value.ref b] s) D cy (fun q : Nat => s.heap.size ≤ q) (ad, ([(16, L, []), (16, 7, [])], st_h xs)) 4) L 13 (Nat.le_refl _) (fun g hg => by
    obtain ⟨pc, ls, st, Hg, cn⟩ := g
    simp only [bg_st] at hg
    split at hg
    · rename_i q0 hq0
      refine bg_step (M := me_L_law) (R := room_1) hC (bg_met l 13) (by decide) (by decide) (mx := (600000, 7302250)) (Nat.le_refl _) (Nat.le_refl _) ?_ ?_ ?_ (bg_look_ok cd_L_law ok_L_law pc q0 hq0) (bg_look_kq cd_L_law bg_kc_law pc q0 hq0) hg
      · intro pc L x Hg cn hd hret h1 h2 hRt ad2 H locs ls h
        cases hRt
        refine va_forget h.2.2.1.2.2 (W.widen h1 h2 ?_)
        exact lw_ret hx hb hr hlocks hd
      · intro pc L x Hg cn hd hret h1 h2 hRt
        cases hRt
      · intro pc L Hg cn hd hret h1 h2 hRt
        cases hRt
    · exact hg.elim) (by omega) (st_h xs) hf hl
  have ent := bg_entry (as := [.inr (.inr (some 0))]) (ml := 4) ad (by decide)
  have e0 : (([.inr (.inr (some 0))] : List bg_V).map (bg_cv ad)) = [Value.ref b] := by
    show [Value.ref (ad 0)] = _
    rw [had.1]
  rw [e0, show bg_lay [.inr (.inr (some 0))] 4 = [oR 0, none, none, none] by simp [bg_lay]] at ent
  refine key ad s.heap [] _ ⟨fun k q h => ?_, ⟨fun i j p q h => ?_, fun k q h => ?_⟩, va_S.rf, ent, hwf, hro, fun v hv => absurd hv List.not_mem_nil, fun j v hj => ?_, fun _ _ => rfl, Nat.le_refl _, rfl, rfl, rfl⟩
  · exact absurd h (by simp [bg_ws])
  · exact absurd h (by simp [bg_ws])
  · exact absurd h (by simp [bg_ws])
  · match j, hj with
    | 0, hj => cases hj; exact Nat.zero_lt_succ 1
    | 1, hj => cases hj
    | 2, hj => cases hj
    | 3, hj => cases hj
    | j + 4, hj => cases hj
set_option maxHeartbeats 4000000 in
theorem lw_walk (l : Launch) (b : Addr) (xs : List Int32) : MetFree l x (headSpec (Jvm.Cond.code x code maxLocals ret :: tables_1) room_1) (lw_P b xs) (fun _ _ _ _ _ => True) lw_Q := by
  refine MetFree.of_bodyS (code := code) (maxLocals := maxLocals) (ret := ret) (by decide) ?_ ?_
  · intro args s m h hn
    obtain ⟨meth, c, h1, h2, h3, h4, h5, h6, -, -⟩ := Cond.code_spec hn (atoms_spec (ws := Jvm.Cond.code x code maxLocals ret :: tables_1) h _ List.mem_cons_self)
    exact ⟨meth, c, h1, h2, h3, h4, h5, h6⟩
  · intro p e s m args below meth c s₁ B hml0 hP _
    obtain ⟨rfl, hx, hbd, hgv⟩ := hP
    obtain ⟨scr, harrAt, hlist, hof, hsmall⟩ := hx
    obtain ⟨hcb, hkn, -, -⟩ := State.arrayAt?_spec harrAt
    have hown : s.vm.findClass R_law = some m.cls := findClass_of_methodNamed B.named
    have hts0 : ∀ c ∈ (Jvm.Cond.code x code maxLocals ret :: tables_1), c.before #[Value.ref b] s = true := atoms_spec (ws := Jvm.Cond.code x code maxLocals ret :: tables_1) B.pre
    have hts : ∀ w ∈ lw_tbl, w.before #[Value.ref b] s = true := k2_hts_sels lw_privs (fun w hw => hts0 w (List.mem_cons_of_mem _ hw)) lw_privs_ok
    have hml : c.maxLocals = 4 := B.maxLocals_eq (hts0 _ List.mem_cons_self)
    have X₀ : Stand p l e room_1 s m #[Value.ref b] below meth c s₁ [] 0 0 := Stand.of_body B
    have hh0 : s₁.heap = s.heap := by rw [B.state]; rfl
    have hsz : scr.slots.size = xs.length := by rw [← Array.length_toList, hlist, List.length_map]
    have hval : ∀ j : Nat, j < xs.length → scr.slots[j]? = some (.int (xs.getD j 0)) := fun j hj => by
      rw [← Array.getElem?_toList, hlist]
      simp [hj]
    have hbl : b < s.heap.size := (Array.getElem?_eq_some_iff.mp hcb).1
    have hX : va_X b xs.length (fun j => xs.getD j 0) s s.heap := ⟨scr, hcb, hof, hkn, hsz, hval⟩
    have K : W p l e room_1 s m #[Value.ref b] below meth c s₁.heap [] 0 0 (lw_Z below #[Value.ref b] s) (entryFrame m ([Value.ref b] : List Value).toArray 4) := by
      rw [hh0]
      exact whole_start l hbd ⟨B.exec, B.bytes, B.returns, hml, hown, hts, hX, hbl, B.notSynchronized, hgv, (name_of_methodNamed B.named B.method).1⟩
    obtain ⟨t, a1, o, b1, b2, b3⟩ := K s₁ rfl X₀
    exact ⟨t, o, a1, b1, b2, b3⟩
theorem lw_pre_spec {args : Array Value} {s : State} (h : (Jvm.Cond.and given_1 narrow_1).before args s = true) (hr : rest_1_c.before args s = true) : ∃ (b : Addr) (xs : List Int32), lw_P b xs args s := by
  have hs := flat_of_before _ h
  have hq := flat_of_before _ hr
  have hc : (Cond.count 1).before args s = true := hs _ (by decide +kernel)
  have harr : (Cond.arrayOf (.arg 0) .int).before args s = true := hs _ (by decide +kernel)
  have hle : (Cond.le (.length (.arg 0)) (.int 2048)).before args s = true := hs _ (by decide +kernel)
  have hlen : (Cond.isInt (.length (.arg 0))).before args s = true := hq _ (by decide +kernel)
  have hall : (Cond.all (.arg 0) (.isInt (.elem (.arg 0) (.index 0)))).before args s = true := hq _ (by decide +kernel)
  obtain ⟨b, xs, hb, hx⟩ := State.ints_of_pre rfl harr hlen hall
  have hsm : xs.length < 2 ^ 31 := hx.choose_spec.2.2.2
  have hev : (Term.length (.arg 0)).eval args s none [] s = some (.int xs.length.toInt32) := hx.length_eval hb
  have hv := Cond.le_ints hev (show (Term.int 2048).eval args s none [] s = some (.int 2048) from rfl)
  have hd : xs.length.toInt32 ≤ 2048 := by
    simpa [Cond.before, Cond.holds, hv] using hle
  have hN : xs.length ≤ 2048 := (Int32.ofNat_le_ofNat hsm (by decide)).mp (show Int32.ofNat xs.length ≤ Int32.ofNat 2048 from hd)
  exact ⟨b, xs, Cond.one_arg hc (show args[0]? = some (.ref b) from hb), hx, hN, h⟩
theorem lw_comes (l : Launch) : Comes l x (Jvm.Cond.code x code maxLocals ret :: tables_1) room_1 (fun tb e args s => Calls_1 tb e args s ∧ rest_1 tb e args s ∧ Pre_1 tb e args s)
    (fun _ _ args s o t => lw_Q args s o t) := by
  intro p e ha hc hk s m args below hf hfit hheap happ hpre
  obtain ⟨b, xs, hP⟩ := lw_pre_spec hpre.2.2 hpre.2.1
  obtain ⟨k, o, h1, h2, h3, hQ⟩ := lw_walk l b xs p e ha hc hk s m args below hf ((Spec.applies_iff_loose hf).mp happ).1 hP trivial
  exact ⟨k, o, h1, h2, h3, hQ⟩
theorem lw_frame {s t : State} {o : Outcome} {args : Array Value} (h : Framed s o t [] 600000 7302250) :
    Framed s o t (fieldLocs frame_1_writes args s ++ arrayLocs frame_1_arrays args s ++ staticLocs frame_1_statics s) 600000 7302250 := h
theorem lw_limb (L : Cond) (hL : ∀ (args : Array Value) (s t : State), L.after args s (.returned (some (.int 1))) t = true) :
    ArmFor flags0 classFile x code maxLocals ret World_1 tables_1 room_1 Calls_1 rest_1 Pre_1
      (fun tb e a s o t => postC L tb e a s o t ∧ Framed s o t (fieldLocs frame_1_writes a s ++ arrayLocs frame_1_arrays a s ++ staticLocs frame_1_statics s) 600000 7302250) := by
  intro l _ _ _ p e ha hc hk s m args below hf hfit hheap happ hpre
  obtain ⟨k, o, h1, h2, h3, rfl, hF⟩ := lw_comes l p e ha hc hk s m args below hf hfit hheap happ hpre
  exact ⟨k, _, h1, h2, h3, hL args s _, lw_frame hF⟩
theorem i_vc : Claimed_1_1 ∧ Claimed_1_2 := ⟨lw_limb limb_1_1 (fun args s t => by simp [limb_1_1, Cond.after, Cond.holds, Cond.value]), lw_limb limb_1_2 (fun args s t => Cond.after_iff.mpr (by
  first | (rw [show limb_1_2 = Cond.eq .result (.int 1) from rfl, Cond.eq_ints (x := 1) (y := 1) rfl rfl]; simp; done) | (simp [limb_1_2, Cond.value, Term.eval]; done)))⟩
