/-! what is checked of every instruction of the tables, by program -/
def bg_len : Instr → Nat
  | .iconst _ => 1 | .bipush _ => 2 | .sipush _ => 3 | .ldc _ => 2 | .ldc_w _ => 3 | .ldc2_w _ => 3 | .lconst _ => 1
  | .iload _ => 2 | .lload _ => 2 | .aload _ => 2 | .istore _ => 2 | .lstore _ => 2 | .iinc _ _ => 3
  | .goto _ => 3 | .ifCond _ _ => 3 | .if_icmp _ _ => 3 | .getstatic _ => 3 | .getfield _ => 3 | .putfield _ => 3
  | .new _ => 3 | .newarray _ => 2 | .anewarray _ => 3 | .multianewarray _ _ => 4 | .invokevirtual _ => 3 | .invokestatic _ => 3 | .invokespecial _ => 3
  | _ => 1
def bg_tg (a b : Nat) : Nat := match bg_nth bg_tags a with
  | some l => (match bg_nth l b with
    | some t => t
    | none => 9)
  | none => 9
/-- the tables' words that stand in every state -/
def bg_tbl : List Cond := lw_tbl.filter goodWord
def bg_wd (p : Nat) (w : Cond) : Bool := decide (lw_tbl[p]? = some w) && goodWord w
def bg_fl (own : String) (i a b : Nat) (d : Int) : Bool := match bg_nth bg_cls a with
  | some (C, T, N) => Nat.blt b N && bg_wd d.toNat (.fieldLink own i C (T b).2.1 (T b).2.2.1)
  | none => false
def bg_ok1 (M : bg_M) (pc : Nat) (q : bg_I) : Bool :=
  match q with
  | (.tableswitch df lo hi offs, nx, (a, _, _, _, ps)) => decide (decode M.2.1 pc = .ok (.tableswitch df lo hi offs, nx - pc)) && decide ((pc : Int) + df = a) && decide (ps.map (·.1) = (List.range (hi - lo + 1).toNat).map (fun (j : Nat) => lo + (j : Int))) && ps.all (fun r => decide (offs[(r.1 - lo).toNat]? = some ((r.2 : Int) - pc)))
  | (.lookupswitch df prs, nx, (a, _, _, _, ps)) => decide (decode M.2.1 pc = .ok (.lookupswitch df prs, nx - pc)) && decide ((pc : Int) + df = a) && (prs.toList.zip (prs.toList.drop 1)).all (fun (x, y) => x.1 < y.1) && decide (ps = prs.toList.map (fun r => (r.1, ((pc : Int) + r.2).toNat))) && prs.toList.all (fun r => decide (0 ≤ (pc : Int) + r.2))
  | (ins, nx, (a, b, t, d, _)) => decide (decode M.2.1 pc = .ok (ins, bg_len ins)) && decide (nx = pc + bg_len ins) && (match ins with
    | .iconst n => decide (d = n)
    | .bipush n => decide (d = n ∧ -128 ≤ n ∧ n ≤ 127)
    | .sipush n => decide (d = n ∧ -32768 ≤ n ∧ n ≤ 32767)
    | .lconst n => decide (d = ((n : Nat) : Int))
    | .ldc i => bg_wd b (.constant M.1.cls i (Int32.ofInt d))
    | .ldc_w i => bg_wd b (.constant M.1.cls i (Int32.ofInt d))
    | .ldc2_w i => bg_wd b (.constantLong M.1.cls i (Int64.ofInt d))
    | .iload i => decide (a = i)
    | .iload_n i => decide (a = (i : Nat))
    | .lload i => decide (a = i)
    | .lload_n i => decide (a = (i : Nat))
    | .aload i => decide (a = i)
    | .aload_n i => decide (a = (i : Nat))
    | .istore i => decide (a = i ∧ a < M.2.2.1)
    | .istore_n i => decide (a = (i : Nat) ∧ a < M.2.2.1)
    | .lstore i => decide (a = i ∧ a + 1 < M.2.2.1)
    | .lstore_n i => decide (a = (i : Nat) ∧ a + 1 < M.2.2.1)
    | .astore_n i => decide (a = (i : Nat) ∧ a < M.2.2.1)
    | .iinc i n => decide (a = i ∧ d = n ∧ a < M.2.2.1)
    | .goto o => decide ((pc : Int) + o = a)
    | .ifCond _ o => decide ((pc : Int) + o = a)
    | .if_icmp _ o => decide ((pc : Int) + o = a)
    | .getstatic i => bg_wd d.toNat (.fieldLink M.1.cls i "BorderGuards$Land" "PATH_LIMITS" "[I")
    | .getfield i => bg_fl M.1.cls i a b d && decide (t = (match bg_tg a b with | 3 => 0 | x => x)) && decide (t ≤ 2)
    | .putfield i => bg_fl M.1.cls i a b d && decide (t = bg_tg a b) && decide (t ≤ 3) && (match bg_nth bg_cls a with
      | some (_, T, _) => decide ((T b).2.2.2 = false) || (decide (M.1.name = "<init>") && decide ((T b).1 = M.1.cls))
      | none => false)
    | .new i => (match bg_nth bg_cls a with
      | some (C, _, N) => decide (b = N) && bg_wd d.toNat (.classLink M.1.cls i C)
      | none => false)
    | .newarray ty => (decide (ty = .int ∧ a = 10) || decide (ty = .long ∧ a = 11)) && decide (b ≤ 5000)
    | .anewarray i => ((decide (a = 12) && bg_wd d.toNat (.classLink M.1.cls i "BorderGuards$Land")) || (decide (a = 13) && bg_wd d.toNat (.classLink M.1.cls i "BorderGuards$Lots"))) && decide (b ≤ 100)
    | .multianewarray i n => decide (n = 2) && ((decide (a = 14) && bg_wd d.toNat (.classLink M.1.cls i "[[I")) || (decide (a = 15) && bg_wd d.toNat (.classLink M.1.cls i "[[J"))) && decide (b ≤ 100 ∧ t ≤ 100)
    | .invokevirtual i => (match bg_nth bg_MS a with
      | some M' => bg_wd d.toNat (.methodLink M.1.cls i M'.1) && decide ((parseMethodDescriptor M'.1.desc).map (fun s => s.parameters.length) = some b) && decide ((bg_nth bg_cls t).map (·.1) = some M'.1.cls)
      | none => false)
    | .invokestatic i => (match t with
      | 1 => bg_wd d.toNat (.methodLink M.1.cls i arraycopyName)
      | 2 => bg_wd d.toNat (.methodLink M.1.cls i Lib.Math.max.name)
      | 3 => bg_wd d.toNat (.methodLink M.1.cls i Lib.Math.min.name)
      | 4 => bg_wd d.toNat (.methodLink M.1.cls i Lib.MathLoose.max_long.x)
      | _ => (match bg_nth bg_MS a with
        | some M' => bg_wd d.toNat (.methodLink M.1.cls i M'.1) && decide ((parseMethodDescriptor M'.1.desc).map (fun s => s.parameters.length) = some b)
        | none => false))
    | .invokespecial i => (match t with
      | 1 => bg_wd d.toNat (.methodLink M.1.cls i objectInit)
      | _ => (match bg_nth bg_MS a with
        | some M' => bg_wd d.toNat (.methodLink M.1.cls i M'.1) && decide ((parseMethodDescriptor M'.1.desc).map (fun s => s.parameters.length) = some b) && decide (M'.1.name = "<init>") && decide (M'.2.2.2.1 = none)
        | none => false))
    | .ireturn => decide (t = (match M.2.2.2.1 with | some .boolean => 1 | _ => 0)) && decide (M.2.2.2.1 = some .boolean ∨ M.2.2.2.1 = some .int)
    | .lreturn => decide (M.2.2.2.1 = some .long)
    | .return_ => decide (M.2.2.2.1 = none)
    | _ => true)
def bg_okc (M : bg_M) (cd : bg_K) : Bool := cd.all (fun ch => ch.2.all (fun r => bg_ok1 M r.1 r.2))
theorem bg_jn0 : ∀ w ∈ u_ws bg_R0 bg_T0 4, w ∈ bg_tbl := fun w hw => List.mem_filter.mpr ⟨bg_in0 w hw, List.all_eq_true.mp (show (u_ws bg_R0 bg_T0 4).all goodWord = true by decide +kernel) w hw⟩
theorem bg_jn1 : ∀ w ∈ u_ws bg_R1 bg_T1 6, w ∈ bg_tbl := fun w hw => List.mem_filter.mpr ⟨bg_in1 w hw, List.all_eq_true.mp (show (u_ws bg_R1 bg_T1 6).all goodWord = true by decide +kernel) w hw⟩
theorem bg_jn2 : ∀ w ∈ u_ws bg_R2 bg_T2 8, w ∈ bg_tbl := fun w hw => List.mem_filter.mpr ⟨bg_in2 w hw, List.all_eq_true.mp (show (u_ws bg_R2 bg_T2 8).all goodWord = true by decide +kernel) w hw⟩
theorem bg_jn3 : ∀ w ∈ u_ws bg_R3 bg_T3 2, w ∈ bg_tbl := fun w hw => List.mem_filter.mpr ⟨bg_in3 w hw, List.all_eq_true.mp (show (u_ws bg_R3 bg_T3 2).all goodWord = true by decide +kernel) w hw⟩
theorem bg_jn4 : ∀ w ∈ u_ws bg_R4 bg_T4 12, w ∈ bg_tbl := fun w hw => List.mem_filter.mpr ⟨bg_in4 w hw, List.all_eq_true.mp (show (u_ws bg_R4 bg_T4 12).all goodWord = true by decide +kernel) w hw⟩
theorem bg_jn5 : ∀ w ∈ u_ws bg_R5 bg_T5 4, w ∈ bg_tbl := fun w hw => List.mem_filter.mpr ⟨bg_in5 w hw, List.all_eq_true.mp (show (u_ws bg_R5 bg_T5 4).all goodWord = true by decide +kernel) w hw⟩
theorem bg_jn6 : ∀ w ∈ u_ws bg_R6 bg_T6 4, w ∈ bg_tbl := fun w hw => List.mem_filter.mpr ⟨bg_in6 w hw, List.all_eq_true.mp (show (u_ws bg_R6 bg_T6 4).all goodWord = true by decide +kernel) w hw⟩
theorem bg_jn7 : ∀ w ∈ u_ws bg_R7 bg_T7 6, w ∈ bg_tbl := fun w hw => List.mem_filter.mpr ⟨bg_in7 w hw, List.all_eq_true.mp (show (u_ws bg_R7 bg_T7 6).all goodWord = true by decide +kernel) w hw⟩
theorem bg_jn8 : ∀ w ∈ u_ws bg_R8 bg_T8 14, w ∈ bg_tbl := fun w hw => List.mem_filter.mpr ⟨bg_in8 w hw, List.all_eq_true.mp (show (u_ws bg_R8 bg_T8 14).all goodWord = true by decide +kernel) w hw⟩
theorem bg_jn9 : ∀ w ∈ u_ws bg_R9 bg_T9 33, w ∈ bg_tbl := fun w hw => List.mem_filter.mpr ⟨bg_in9 w hw, List.all_eq_true.mp (show (u_ws bg_R9 bg_T9 33).all goodWord = true by decide +kernel) w hw⟩
