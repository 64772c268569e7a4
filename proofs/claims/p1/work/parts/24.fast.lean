/-! THE SAME WALK, an instruction a function of its own: the kernel evaluates it with less. -/
abbrev an_Op : Type := List (Nat × Nat) → Nat → Nat → an_L → List an_V → Nat → Nat → an_S → Option (List an_It)
def an_o_iconst (n : Int) (ra rb inf : Nat) : an_Op := fun mods m pc L st k sl S => an_it (pc + 1) L ((0, (0, (Int32.ofInt n).toInt), (0, 0)) :: st) k sl S
def an_o_bipush (n : Int) (ra rb inf : Nat) : an_Op := fun mods m pc L st k sl S => an_it (pc + 2) L ((0, (0, (Int8.ofInt n).toInt32.toInt), (0, 0)) :: st) k sl S
def an_o_sipush (n : Int) (ra rb inf : Nat) : an_Op := fun mods m pc L st k sl S => an_it (pc + 3) L ((0, (0, (Int16.ofInt n).toInt32.toInt), (0, 0)) :: st) k sl S
def an_o_lconst (n : Nat) (ra rb inf : Nat) : an_Op := fun mods m pc L st k sl S => an_it (pc + 1) L ((1, (0, (Int64.ofNat n).toInt), (0, 0)) :: st) k sl S
def an_o_aconst_null (ra rb inf : Nat) : an_Op := fun mods m pc L st k sl S => an_it (pc + 1) L (an_zv :: st) k sl S
def an_o_ldc (ra rb inf : Nat) : an_Op := fun mods m pc L st k sl S => an_it (pc + 2) L ((0, (0, (Int32.ofNat ra).toInt), (0, 0)) :: st) k sl S
def an_o_ldc_w (ra rb inf : Nat) : an_Op := fun mods m pc L st k sl S => an_it (pc + 3) L ((0, (0, (Int32.ofNat ra).toInt), (0, 0)) :: st) k sl S
def an_o_ldc2_w (ra rb inf : Nat) : an_Op := fun mods m pc L st k sl S => an_it (pc + 3) L ((1, (0, (Int64.ofNat ra).toInt), (0, 0)) :: st) k sl S
def an_o_iload_n (j : Fin 4) (ra rb inf : Nat) : an_Op := fun mods m pc L st k sl S => match an_lget L j.val with
    | some (0, e, f) => an_it (pc + 1) L ((0, e, f) :: st) k sl S
    | _ => none
def an_o_iload (j : Nat) (ra rb inf : Nat) : an_Op := fun mods m pc L st k sl S => match an_lget L j with
    | some (0, e, f) => an_it (pc + 2) L ((0, e, f) :: st) k sl S
    | _ => none
def an_o_lload_n (j : Fin 4) (ra rb inf : Nat) : an_Op := fun mods m pc L st k sl S => match an_lget L j.val with
    | some (1, e, f) => an_it (pc + 1) L ((1, e, f) :: st) k sl S
    | _ => none
def an_o_lload (j : Nat) (ra rb inf : Nat) : an_Op := fun mods m pc L st k sl S => match an_lget L j with
    | some (1, e, f) => an_it (pc + 2) L ((1, e, f) :: st) k sl S
    | _ => none
def an_o_aload_n (j : Fin 4) (ra rb inf : Nat) : an_Op := fun mods m pc L st k sl S => match an_lget L j.val with
    | some (2, e, f) => an_it (pc + 1) L ((2, e, f) :: st) k sl S
    | some (3, e, f) => an_it (pc + 1) L ((3, e, f) :: st) k sl S
    | some (5, e, f) => an_it (pc + 1) L ((5, e, f) :: st) k sl S
    | _ => none
def an_o_aload (j : Nat) (ra rb inf : Nat) : an_Op := fun mods m pc L st k sl S => match an_lget L j with
    | some (2, e, f) => an_it (pc + 2) L ((2, e, f) :: st) k sl S
    | some (3, e, f) => an_it (pc + 2) L ((3, e, f) :: st) k sl S
    | some (5, e, f) => an_it (pc + 2) L ((5, e, f) :: st) k sl S
    | _ => none
def an_o_istore_n (j : Fin 4) (ra rb inf : Nat) : an_Op := fun mods m pc L st k sl S => match st with
    | (0, e, f) :: r => if j.val < am_ml m then an_it (pc + 1) (an_lput L j.val (0, e, f)) r k sl S else none
    | _ => none
def an_o_istore (j : Nat) (ra rb inf : Nat) : an_Op := fun mods m pc L st k sl S => match st with
    | (0, e, f) :: r => if j < am_ml m then an_it (pc + 2) (an_lput L j (0, e, f)) r k sl S else none
    | _ => none
def an_o_lstore_n (j : Fin 4) (ra rb inf : Nat) : an_Op := fun mods m pc L st k sl S => match st with
    | (1, e, f) :: r => if j.val + 1 < am_ml m then an_it (pc + 1) (an_lput2 L j.val (1, e, f)) r k sl S else none
    | _ => none
def an_o_lstore (j : Nat) (ra rb inf : Nat) : an_Op := fun mods m pc L st k sl S => match st with
    | (1, e, f) :: r => if j + 1 < am_ml m then an_it (pc + 2) (an_lput2 L j (1, e, f)) r k sl S else none
    | _ => none
def an_o_astore_n (j : Fin 4) (ra rb inf : Nat) : an_Op := fun mods m pc L st k sl S => match st with
    | (2, e, f) :: r => if j.val < am_ml m then an_it (pc + 1) (an_lput L j.val (2, e, f)) r k sl S else none
    | (3, e, f) :: r => if j.val < am_ml m then an_it (pc + 1) (an_lput L j.val (3, e, f)) r k sl S else none
    | _ => none
def an_o_astore (j : Nat) (ra rb inf : Nat) : an_Op := fun mods m pc L st k sl S => match st with
    | (2, e, f) :: r => if j < am_ml m then an_it (pc + 2) (an_lput L j (2, e, f)) r k sl S else none
    | (3, e, f) :: r => if j < am_ml m then an_it (pc + 2) (an_lput L j (3, e, f)) r k sl S else none
    | _ => none
def an_o_iinc (j : Nat) (n : Int) (ra rb inf : Nat) : an_Op := fun mods m pc L st k sl S => match an_lget L j with
    | some (0, e, _) => let r := an_add S.1 S.2.1 e (0, (Int32.ofInt n).toInt); an_it (pc + 3) (an_lput L j (0, r.2.2, (0, 0))) st k sl (r.1, r.2.1, S.2.2)
    | _ => none
def an_o_iadd (i : Instr) (ra rb inf : Nat) : an_Op := fun mods m pc L st k sl S => match st with
    | (0, y, _) :: (0, x, _) :: r => match an_ib i S.1 S.2.1 x y with
      | some q => an_it (pc + 1) L ((0, q.2.2, (0, 0)) :: r) k sl (q.1, q.2.1, S.2.2)
      | none => none
    | _ => none
def an_o_ladd (i : Instr) (ra rb inf : Nat) : an_Op := fun mods m pc L st k sl S => match st with
    | (1, y, _) :: (1, x, _) :: r => match an_lb i S.1 x y with
      | some q => an_it (pc + 1) L ((1, q.2, (0, 0)) :: r) k sl (q.1, S.2)
      | none => none
    | _ => none
def an_o_lshl (ra rb inf : Nat) : an_Op := fun mods m pc L st k sl S => match st with
    | (0, y, _) :: (1, x, _) :: r => let q := an_shl S.1 x y; an_it (pc + 1) L ((1, q.2, (0, 0)) :: r) k sl (q.1, S.2)
    | _ => none
def an_o_i2l (ra rb inf : Nat) : an_Op := fun mods m pc L st k sl S => match st with
    | (0, x, _) :: r => an_it (pc + 1) L ((1, x, (0, 0)) :: r) k sl S
    | _ => none
def an_o_l2i (ra rb inf : Nat) : an_Op := fun mods m pc L st k sl S => match st with
    | (1, x, _) :: r => if an_MN ≤ an_lo S.1 x ∧ an_hi S.1 x ≤ an_MX then an_it (pc + 1) L ((0, x, (0, 0)) :: r) k sl S else let q := an_full S.1; an_it (pc + 1) L ((0, q.2, (0, 0)) :: r) k sl (q.1, S.2)
    | _ => none
def an_o_lcmp (ra rb inf : Nat) : an_Op := fun mods m pc L st k sl S => match st with
    | (1, y, _) :: (1, x, _) :: r => an_it (pc + 1) L ((4, x, y) :: r) k sl S
    | _ => none
def an_o_ifCond (c : ClassFile.Cond) (ra rb inf : Nat) : an_Op := fun mods m pc L st k sl S => match st with
    | (0, x, _) :: r => some (an_br S.1 c x (0, 0) (fun B => (ra, L, r, k, sl, (B, S.2))) (fun B => (pc + 3, L, r, k, sl, (B, S.2))))
    | (4, x, y) :: r => some (an_br S.1 c x y (fun B => (ra, L, r, k, sl, (B, S.2))) (fun B => (pc + 3, L, r, k, sl, (B, S.2))))
    | _ => none
def an_o_if_icmp (c : ClassFile.Cond) (ra rb inf : Nat) : an_Op := fun mods m pc L st k sl S => match st with
    | (0, y, _) :: (0, x, _) :: r => some (an_br S.1 c x y (fun B => (ra, L, r, k, sl, (B, S.2))) (fun B => (pc + 3, L, r, k, sl, (B, S.2))))
    | _ => none
def an_o_goto (ra rb inf : Nat) : an_Op := fun mods m pc L st k sl S => an_it ra L st k sl S
def an_o_tableswitch (d : Int) (lo : Int) (hi : Int) (offs : Array Int) (ra rb inf : Nat) : an_Op := fun mods m pc L st k sl S => match st with
    | (0, x, _) :: r => if (hi - lo + 1).toNat = offs.toList.length ∧ offs.toList.all (fun o => decide (0 ≤ (pc : Int) + o)) = true ∧ 0 ≤ (pc : Int) + d then
        let g : Nat → an_B → an_It := fun t B => (t, L, r, k, sl, (B, S.2))
        let a := an_sw pc x S.1 g lo offs.toList
        let b := match an_le S.1 x (0, lo) (-1) with
          | some B1 => g ((pc : Int) + d).toNat B1 :: a
          | none => a
        match an_le S.1 (0, hi) x (-1) with
          | some B1 => some (g ((pc : Int) + d).toNat B1 :: b)
          | none => some b
      else none
    | _ => none
def an_o_getfield (ra rb inf : Nat) : an_Op := fun mods m pc L st k sl S => match st with
    | (2, r, _) :: rest => match an_ki (an_rk S r.1) with
      | (0, ci, tys, _) => if ci == ra && decide (rb < 1000) then match an_tget S.2.2.2 r.1 rb (0, 0) with
          | some v => an_it (pc + 3) L (v :: rest) k sl S
          | none => match an_g8 S r.1 rb with
          | some Ss => some (Ss.map (fun p => (pc + 3, L, (0, (0, p.2), (0, 0)) :: rest, k, sl, p.1)))
          | none => match tys[rb]? with
            | some t => match an_typ S t with
              | some (S1, v) => an_it (pc + 3) L (v :: rest) k sl (an_tadd S1 r.1 rb (0, 0) v)
              | none => none
            | none => none
        else none
      | _ => none
    | _ => none
def an_o_putfield (ra rb inf : Nat) : an_Op := fun mods m pc L st k sl S => match st with
    | v :: (2, r, _) :: rest => match an_ki (an_rk S r.1) with
      | (0, ci, tys, _) => match tys[rb]? with
        | some t => if ci == ra && (an_fit S v t && (an_mem2 mods (an_rk S r.1) rb && !(ci == 0))) then an_it (pc + 3) L rest k sl (an_gC8 S r.1 rb v (an_gB8 S r.1 rb v (an_gB S r.1 rb (an_tput S r.1 rb (0, 0) v)))) else none
        | none => none
      | _ => none
    | _ => none
def an_o_getstatic (ra rb inf : Nat) : an_Op := fun mods m pc L st k sl S => an_it (pc + 3) L ((5, (ra, 0), (0, 0)) :: st) k sl S
def an_o_iaload (i : Instr) (ra rb inf : Nat) : an_Op := fun mods m pc L st k sl S => match st with
    | (0, e, _) :: (2, r, _) :: rest => match an_ald (an_tg i) S r.1 (an_nrm S.1 e) with
      | some (S1, v) => an_it (pc + 1) L (v :: rest) k sl S1
      | none => none
    | (0, e, _) :: (5, j, _) :: rest => match i with
      | .iaload => if an_oin S j.1 e then match an_tget S.2.2.2 j.1 1002 (an_nrm S.1 e) with
          | some v => an_it (pc + 1) L (v :: rest) k sl S
          | none => an_it (pc + 1) L ((an_num S 0 (an_full S.1)).2 :: rest) k sl (an_tadd (an_num S 0 (an_full S.1)).1 j.1 1002 (an_nrm S.1 e) (an_num S 0 (an_full S.1)).2)
        else none
      | _ => none
    | _ => none
def an_o_ishl (ra rb inf : Nat) : an_Op := fun mods m pc L st k sl S => match st with
    | (0, y, _) :: (0, x, _) :: r => match an_shs S x y with
      | some qs => some (qs.map (fun q => (pc + 1, L, (0, q.2.2, (0, 0)) :: r, k, sl, (q.1, q.2.1, S.2.2))))
      | none => match an_ib .ishl S.1 S.2.1 x y with
        | some q => an_it (pc + 1) L ((0, q.2.2, (0, 0)) :: r) k sl (q.1, q.2.1, S.2.2)
        | none => none
    | _ => none
def an_o_aaload (ra rb inf : Nat) : an_Op := fun mods m pc L st k sl S => match st with
    | (0, e, _) :: (2, r, _) :: rest => match an_spl S r.1 (an_nrm S.1 e) with
      | some ps => some (ps.map (fun p => (pc + 1, L, p.2 :: rest, k, sl, p.1)))
      | none => match an_ald 3 S r.1 (an_nrm S.1 e) with
        | some (S1, v) => an_it (pc + 1) L (v :: rest) k sl S1
        | none => none
    | _ => none
def an_o_iastore (i : Instr) (ra rb inf : Nat) : an_Op := fun mods m pc L st k sl S => match st with
    | v :: (0, e, _) :: (2, r, _) :: rest => match an_ast (an_tg i) mods S r.1 (an_nrm S.1 e) v with
      | some S1 => an_it (pc + 1) L rest k sl (an_gC S r.1 (an_nrm S.1 e) v S1)
      | none => none
    | _ => none
def an_o_arraylength (ra rb inf : Nat) : an_Op := fun mods m pc L st k sl S => match st with
    | (2, r, _) :: rest => let q := an_ki (an_rk S r.1)
      if q.1 == 0 || q.1 == 9 then none else if q.2.2.2.1 = q.2.2.2.2.1 then an_it (pc + 1) L ((0, (0, q.2.2.2.1), (0, 0)) :: rest) k sl S else match an_tget S.2.2.2 r.1 1001 (0, 0) with
        | some v => an_it (pc + 1) L (v :: rest) k sl S
        | none => let w := an_num S 0 (an_new S.1 q.2.2.2.1 q.2.2.2.2.1); an_it (pc + 1) L (w.2 :: rest) k sl (an_tadd w.1 r.1 1001 (0, 0) w.2)
    | (5, j, _) :: rest => if j.1 < 3 then (if (an_OL j.1).1 = (an_OL j.1).2 then an_it (pc + 1) L ((0, (0, (an_OL j.1).1), (0, 0)) :: rest) k sl S else match an_tget S.2.2.2 j.1 1002 (0, -1) with
        | some v => an_it (pc + 1) L (v :: rest) k sl S
        | none => none) else none
    | _ => none
def an_o_newarray_int (ra rb inf : Nat) : an_Op := fun mods m pc L st k sl S => an_nwo 1 2 ra inf m pc L st k sl S
def an_o_newarray_long (ra rb inf : Nat) : an_Op := fun mods m pc L st k sl S => an_nwo 2 2 ra inf m pc L st k sl (an_gi (an_gi8 S))
def an_o_anewarray (ra rb inf : Nat) : an_Op := fun mods m pc L st k sl S => an_nwo 3 3 ra inf m pc L st k sl S
def an_o_new (ra rb inf : Nat) : an_Op := fun mods m pc L st k sl S => an_nwb ra inf m pc L st k sl S
def an_o_dup (ra rb inf : Nat) : an_Op := fun mods m pc L st k sl S => match st with
    | v :: r => if v.1 == 1 then none else an_it (pc + 1) L (v :: v :: r) k sl S
    | _ => none
def an_o_dup_x1 (ra rb inf : Nat) : an_Op := fun mods m pc L st k sl S => match st with
    | v :: w :: r => if v.1 == 1 || w.1 == 1 then none else an_it (pc + 1) L (v :: w :: v :: r) k sl S
    | _ => none
def an_o_dup2 (ra rb inf : Nat) : an_Op := fun mods m pc L st k sl S => match st with
    | v :: w :: r => if v.1 == 1 || w.1 == 1 then none else an_it (pc + 1) L (v :: w :: v :: w :: r) k sl S
    | _ => none
def an_o_pop (ra rb inf : Nat) : an_Op := fun mods m pc L st k sl S => match st with
    | v :: r => if v.1 == 1 then none else an_it (pc + 1) L r k sl S
    | _ => none
def an_o_checkcast (ra rb inf : Nat) : an_Op := fun mods m pc L st k sl S => match st with
    | (2, r, f) :: rest => match an_ki (an_rk S r.1) with
      | (0, ci, _) => if ci == ra then an_it (pc + 3) L ((2, r, f) :: rest) k sl S else none
      | _ => none
    | _ => none
def an_o_obj (ra rb inf : Nat) : an_Op := fun mods m pc L st k sl S => match st with
    | (2, _, _) :: rest => if rb == 5 && (decide (an_wt rest + 12 ≤ am_Lc m) && decide (1 ≤ am_F m)) then an_it (pc + 3) L rest k sl S else none
    | _ => none
def an_o_no : an_Op := fun _ _ _ _ _ _ _ _ => none
/-- kind (0 a step, 1 a call, 2 an end, 3 a throw), two numbers, the step -/
def an_cvE (e : am_I) : Nat × Nat × Nat × an_Op := match e with
  | (_, i, _, ra, rb, _, _, inf) => match i with
    | .iconst n => (match inf with
      | 0 => (0, 0, 0, an_o_iconst n ra rb 0)
      | p + 1 => (4, p, 0, an_o_iconst n ra rb (p + 1)))
    | .bipush n => (0, 0, 0, an_o_bipush n ra rb inf)
    | .sipush n => (0, 0, 0, an_o_sipush n ra rb inf)
    | .lconst n => (0, 0, 0, an_o_lconst n ra rb inf)
    | .aconst_null => (0, 0, 0, an_o_aconst_null ra rb inf)
    | .ldc _ => (0, 0, 0, an_o_ldc ra rb inf)
    | .ldc_w _ => (0, 0, 0, an_o_ldc_w ra rb inf)
    | .ldc2_w _ => (0, 0, 0, an_o_ldc2_w ra rb inf)
    | .iload_n j => (0, 0, 0, an_o_iload_n j ra rb inf)
    | .iload j => (0, 0, 0, an_o_iload j ra rb inf)
    | .lload_n j => (0, 0, 0, an_o_lload_n j ra rb inf)
    | .lload j => (0, 0, 0, an_o_lload j ra rb inf)
    | .aload_n j => (0, 0, 0, an_o_aload_n j ra rb inf)
    | .aload j => (0, 0, 0, an_o_aload j ra rb inf)
    | .istore_n j => (0, 0, 0, an_o_istore_n j ra rb inf)
    | .istore j => (0, 0, 0, an_o_istore j ra rb inf)
    | .lstore_n j => (0, 0, 0, an_o_lstore_n j ra rb inf)
    | .lstore j => (0, 0, 0, an_o_lstore j ra rb inf)
    | .astore_n j => (0, 0, 0, an_o_astore_n j ra rb inf)
    | .astore j => (0, 0, 0, an_o_astore j ra rb inf)
    | .iinc j n => (0, 0, 0, an_o_iinc j n ra rb inf)
    | .iadd => (0, 0, 0, an_o_iadd .iadd ra rb inf)
    | .isub => (0, 0, 0, an_o_iadd .isub ra rb inf)
    | .imul => (0, 0, 0, an_o_iadd .imul ra rb inf)
    | .iand => (0, 0, 0, an_o_iadd .iand ra rb inf)
    | .ior => (0, 0, 0, an_o_iadd .ior ra rb inf)
    | .ixor => (0, 0, 0, an_o_iadd .ixor ra rb inf)
    | .ishl => (0, 0, 0, an_o_ishl ra rb inf)
    | .ishr => (0, 0, 0, an_o_iadd .ishr ra rb inf)
    | .iushr => (0, 0, 0, an_o_iadd .iushr ra rb inf)
    | .idiv => (0, 0, 0, an_o_iadd .idiv ra rb inf)
    | .irem => (0, 0, 0, an_o_iadd .irem ra rb inf)
    | .ladd => (0, 0, 0, an_o_ladd .ladd ra rb inf)
    | .lsub => (0, 0, 0, an_o_ladd .lsub ra rb inf)
    | .lmul => (0, 0, 0, an_o_ladd .lmul ra rb inf)
    | .ldiv => (0, 0, 0, an_o_ladd .ldiv ra rb inf)
    | .lshl => (0, 0, 0, an_o_lshl ra rb inf)
    | .i2l => (0, 0, 0, an_o_i2l ra rb inf)
    | .l2i => (0, 0, 0, an_o_l2i ra rb inf)
    | .lcmp => (0, 0, 0, an_o_lcmp ra rb inf)
    | .ifCond c _ => (0, 0, 0, an_o_ifCond c ra rb inf)
    | .if_icmp c _ => (0, 0, 0, an_o_if_icmp c ra rb inf)
    | .goto _ => (0, 0, 0, an_o_goto ra rb inf)
    | .tableswitch d lo hi offs => (0, 0, 0, an_o_tableswitch d lo hi offs ra rb inf)
    | .getfield _ => (0, 0, 0, an_o_getfield ra rb inf)
    | .putfield _ => (0, 0, 0, an_o_putfield ra rb inf)
    | .getstatic _ => (0, 0, 0, an_o_getstatic ra rb inf)
    | .iaload => (0, 0, 0, an_o_iaload .iaload ra rb inf)
    | .laload => (0, 0, 0, an_o_iaload .laload ra rb inf)
    | .aaload => (0, 0, 0, an_o_aaload ra rb inf)
    | .iastore => (0, 0, 0, an_o_iastore .iastore ra rb inf)
    | .lastore => (0, 0, 0, an_o_iastore .lastore ra rb inf)
    | .aastore => (0, 0, 0, an_o_iastore .aastore ra rb inf)
    | .arraylength => (0, 0, 0, an_o_arraylength ra rb inf)
    | .newarray .int => (0, 0, 0, an_o_newarray_int ra rb inf)
    | .newarray .long => (0, 0, 0, an_o_newarray_long ra rb inf)
    | .anewarray _ => (0, 0, 0, an_o_anewarray ra rb inf)
    | .new _ => if ra == 0 then (3, rb, 0, an_o_no) else (0, 0, 0, an_o_new ra rb inf)
    | .dup => (0, 0, 0, an_o_dup ra rb inf)
    | .dup_x1 => (0, 0, 0, an_o_dup_x1 ra rb inf)
    | .dup2 => (0, 0, 0, an_o_dup2 ra rb inf)
    | .pop => (0, 0, 0, an_o_pop ra rb inf)
    | .checkcast _ => (0, 0, 0, an_o_checkcast ra rb inf)
    | .invokespecial _ => if rb == 5 then (0, 0, 0, an_o_obj ra rb inf) else (1, ra, rb, an_o_no)
    | .invokevirtual _ => (1, ra, rb, an_o_no)
    | .invokestatic _ => (1, ra, rb, an_o_no)
    | .ireturn => (2, 0, inf, an_o_no)
    | .areturn => (2, 1, inf, an_o_no)
    | .return_ => (2, 2, inf, an_o_no)
    | _ => (0, 0, 0, an_o_no)
def an_gox2 (op : an_Op) (mods : List (Nat × Nat)) (rec : an_Rec) (m pc len : Nat) (cs : List am_I) (L : an_L) (st : List an_V) (k sl : Nat) (acts : List an_Ac) (S : an_S) : Option (List an_X) := match op mods m pc L st k sl S with
  | none => none
  | some [(pc2, L2, st2, k2, sl2, S2)] => if pc2 == pc + len then rec m cs L2 st2 k2 sl2 acts S2 else rec m (an_find (am_code m) pc2) L2 st2 k2 sl2 acts S2
  | some its => an_each (fun it => rec m (an_find (am_code m) it.1) it.2.1 it.2.2.1 it.2.2.2.1 it.2.2.2.2.1 acts it.2.2.2.2.2) its
def an_finI (m : Nat) (st : List an_V) (k sl : Nat) (S : an_S) : Option (List an_X) := if k ≤ am_mc m ∧ sl ≤ am_ms m then (match st with
      | [(0, x, _)] => if am_rk m = 1 ∨ (am_rk m = 2 ∧ 0 ≤ an_lo S.1 x ∧ an_hi S.1 x ≤ 1) then some [(1, (0, an_nrm S.1 x, (0, 0)), S)] else none
      | [(4, x, y)] => if am_rk m = 1 then some [(1, (4, x, y), S)] else none
      | _ => none) else none
def an_finA (m : Nat) (st : List an_V) (k sl : Nat) (S : an_S) : Option (List an_X) := if k ≤ am_mc m ∧ sl ≤ am_ms m then (match st with
      | [(2, x, f)] => if am_rk m = 3 then some [(1, (2, x, f), S)] else none
      | _ => none) else none
def an_finV (m inf : Nat) (L : an_L) (st : List an_V) (k sl : Nat) (S : an_S) : Option (List an_X) := if k ≤ am_mc m ∧ sl ≤ am_ms m then (match st with
      | [] => if am_rk m = 0 then (match inf with
        | 0 => some [(0, an_zv, S)]
        | p + 1 => match an_prm S L (an_PM.getD p (0, 0, 0)) with
          | some S1 => some [(0, an_zv, S1)]
          | none => none) else none
      | _ => none) else none
def an_thw (m rb : Nat) (st : List an_V) (k sl : Nat) (S : an_S) : Option (List an_X) := match st, am_H.getD m [] with
  | [], [] => if k + 1 ≤ am_mc m ∧ sl + 6 ≤ am_ms m ∧ 5 < am_F m ∧ 81 ≤ am_Lc m then some [(rb + 2, an_zv, S)] else none
  | _, _ => none
def an_stp2 (mods : List (Nat × Nat)) (rec : an_Rec) (m : Nat) (e : am_I) (cs : List am_I) (L : an_L) (st : List an_V) (k sl : Nat) (acts : List an_Ac) (S : an_S) : Option (List an_X) := match an_cvE e with
  | (0, _, _, op) => an_gox2 op mods rec m e.1 e.2.2.1 cs L st k sl acts S
  | (1, m2, mode, _) => an_inv mods rec m e.1 m2 mode cs L st k sl acts S
  | (2, 0, _, _) => an_finI m st k sl S
  | (2, 1, _, _) => an_finA m st k sl S
  | (2, _, inf, _) => an_finV m inf L st k sl S
  | (3, rb, _, _) => an_thw m rb st k sl S
  | (_, p, _, op) => match an_prm S L (an_PM.getD p (0, 0, 0)) with
    | some S1 => an_gox2 op mods rec m e.1 e.2.2.1 cs L st k sl acts S1
    | none => none
set_option maxHeartbeats 4000000 in
set_option maxRecDepth 100000 in
theorem an_stp2_eq (mods : List (Nat × Nat)) (rec : an_Rec) (m : Nat) (e : am_I) (cs : List am_I) (L : an_L) (st : List an_V) (k sl : Nat) (acts : List an_Ac) (S : an_S) : an_stp2 mods rec m e cs L st k sl acts S = an_stp mods rec m e cs L st k sl acts S := by
  obtain ⟨pc, i, len, ra, rb, rw0, cu, inf⟩ := e
  cases i
  case newarray ty => cases ty <;> rfl
  case iconst q => cases inf <;> rfl
  case invokespecial q =>
    by_cases h : (rb == 5) = true
    · simp only [an_stp2, an_cvE, an_stp, h, if_true]
      all_goals rfl
    · rw [Bool.not_eq_true] at h
      simp only [an_stp2, an_cvE, an_stp, h, Bool.false_eq_true, if_false]
  case new q =>
    by_cases h : (ra == 0) = true
    · simp only [an_stp2, an_cvE, an_stp, h, if_true, an_thw]
      all_goals rfl
    · rw [Bool.not_eq_true] at h
      simp only [an_stp2, an_cvE, an_stp, h, Bool.false_eq_true, if_false]
      all_goals rfl
  all_goals rfl
def an_exb2 (mods : List (Nat × Nat)) (rec : an_Rec) : an_Rec := fun m cs L st k sl acts S => match cs with
  | [] => none
  | e :: cs2 => match e.2.2.2.2.2.2.1 with
    | 0 => an_stp2 mods rec m e cs2 L st k sl acts S
    | cu + 1 => match an_acts acts cu e.1 with
      | some a => match st with
        | [] => if an_back (an_CUT.getD cu an_c0) a L k sl S then some [] else none
        | _ => none
      | none => match st, an_head (an_CUT.getD cu an_c0) L S with
        | [], some (L1, L2, T2, ps, S1) => an_fS S1 (fun S1 => an_fLo L1 (fun L1 =>
          match an_stp2 mods rec m e cs2 L1 [] (k + (an_CUT.getD cu an_c0).2.2.2.2.2.2.1 * an_rng2 (an_CUT.getD cu an_c0)) (sl + (an_CUT.getD cu an_c0).2.2.2.2.2.2.2 * an_rng2 (an_CUT.getD cu an_c0))
            ((cu, e.1, L2, T2, ps, S.1.1, k + (an_CUT.getD cu an_c0).2.2.2.2.2.2.1 * an_rng2 (an_CUT.getD cu an_c0), sl + (an_CUT.getD cu an_c0).2.2.2.2.2.2.2 * an_rng2 (an_CUT.getD cu an_c0)) :: acts) S1 with
          | some xs => some (an_own S.2.2.1.2.2 xs)
          | none => none))
        | _, _ => none
theorem an_exb2_eq (mods : List (Nat × Nat)) (rec : an_Rec) (m : Nat) (cs : List am_I) (L : an_L) (st : List an_V) (k sl : Nat) (acts : List an_Ac) (S : an_S) : an_exb2 mods rec m cs L st k sl acts S = an_exb mods rec m cs L st k sl acts S := by
  unfold an_exb2 an_exb
  simp only [an_stp2_eq]
  rfl
def an_ex2 (mods : List (Nat × Nat)) : Nat → an_Rec
  | 0 => fun _ _ _ _ _ _ _ _ => none
  | n + 1 => fun m cs L st k sl acts S => if n % 32 == 0 then an_fS S (fun S => an_fLo L (fun L => an_fL an_fV st (fun st => an_fN k (fun k => an_fN sl (fun sl => an_exb2 mods (an_ex2 mods n) m cs L st k sl acts S))))) else an_exb2 mods (an_ex2 mods n) m cs L st k sl acts S
theorem an_ex2_eq (mods : List (Nat × Nat)) : ∀ (n m : Nat) (cs : List am_I) (L : an_L) (st : List an_V) (k sl : Nat) (acts : List an_Ac) (S : an_S), an_ex2 mods n m cs L st k sl acts S = an_ex mods n m cs L st k sl acts S := by
  intro n
  induction n with
  | zero => intro m cs L st k sl acts S; rfl
  | succ n ih =>
    have hf : an_ex2 mods n = an_ex mods n := by
      funext m cs L st k sl acts S
      exact ih m cs L st k sl acts S
    intro m cs L st k sl acts S
    simp only [an_ex2, an_ex, hf, an_exb2_eq, an_fS_id, an_fLo_id, an_fL_id an_fV_id, an_fN_id, ite_self]
def an_chk2 (fu m : Nat) : Bool := match an_CT.getD m none with
  | none => false
  | some (ps, pre, ret, post, ths, rets, ms) => match an_ent ps an_s0 with
    | none => false
    | some (S, as) => (pre.isEmpty && post.isEmpty || an_is2 as) && (match an_ex2 ms fu m (am_code m) (an_args 0 as) [] 0 0 [] (an_post (an_r0 as) pre S) with
      | none => false
      | some xs => xs.all (fun x => match x with
        | (0, _, S1) => rets && (ret.isNone && an_pre S1 (an_r0 as) post)
        | (1, v, S1) => rets && ((match ret with
          | some t => an_fit S1 v t
          | none => false) && an_pre S1 (an_r0 as) post)
        | (j + 2, _, _) => an_memN ths j))
theorem an_chk2_eq (fu m : Nat) : an_chk2 fu m = an_chk fu m := by
  unfold an_chk2 an_chk
  simp only [an_ex2_eq]
  rfl
theorem an_chk2_ok {O : am_O} {X : Nat → ClassId} (hO : an_Ook O) {fu m : Nat} (h : an_chk2 fu m = true) (hC : ∀ m2, m2 < m → an_CS O X m2) : an_CS O X m := an_chk_ok hO (an_LSok hO) (by rw [← an_chk2_eq]; exact h) hC
