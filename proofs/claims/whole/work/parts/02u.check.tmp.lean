/-! what is checked of each instruction, and the small machine's step against the machine's -/
def z_dl (e : z_E) : Nat := match e with | (.new _, _, _, 1, _) => 3 | (.invokestatic _, _, _, 10, _) => 3 | (.invokevirtual _, _, _, 11, _) => 3 | (_, n, _, _, _) => n
def z_at (cc : ByteArray) (pc : Nat) (i : Instr) (n : Nat) : Bool := match decode cc pc with | .ok q => decide (q = (i, n)) | _ => false
theorem z_at_e {cc : ByteArray} {pc : Nat} {i : Instr} {n : Nat} (h : z_at cc pc i n = true) : decode cc pc = .ok (i, n) := by
  unfold z_at at h
  split at h
  · rename_i q hq
    rw [hq, of_decide_eq_true h]
  · cases h
def z_exB (yk : Nat) (ini : Bool) (cc : ByteArray) (nL pc : Nat) (e : z_E) : Bool := match e with
  | (.aconst_null, n, _, _, _) => n == 1
  | (.dup, n, _, _, _) => n == 1
  | (.pop, n, _, _, _) => n == 1
  | (.dup2, n, _, _, _) => n == 1
  | (.iadd, n, _, _, _) => n == 1
  | (.isub, n, _, _, _) => n == 1
  | (.imul, n, _, _, _) => n == 1
  | (.iand, n, _, _, _) => n == 1
  | (.iushr, n, _, _, _) => n == 1
  | (.ineg, n, _, _, _) => n == 1
  | (.ladd, n, _, _, _) => n == 1
  | (.lsub, n, _, _, _) => n == 1
  | (.lmul, n, _, _, _) => n == 1
  | (.land, n, _, _, _) => n == 1
  | (.lor, n, _, _, _) => n == 1
  | (.ldiv, n, _, _, _) => n == 1
  | (.lrem, n, _, _, _) => n == 1
  | (.lneg, n, _, _, _) => n == 1
  | (.lshl, n, _, _, _) => n == 1
  | (.i2l, n, _, _, _) => n == 1
  | (.l2i, n, _, _, _) => n == 1
  | (.i2b, n, _, _, _) => n == 1
  | (.i2s, n, _, _, _) => n == 1
  | (.lcmp, n, _, _, _) => n == 1
  | (.arraylength, n, _, _, _) => n == 1
  | (.iaload, n, _, _, _) => n == 1
  | (.baload, n, _, _, _) => n == 1
  | (.laload, n, _, _, _) => n == 1
  | (.iastore, n, _, _, _) => n == 1
  | (.bastore, n, _, _, _) => n == 1
  | (.lastore, n, _, _, _) => n == 1
  | (.ireturn, n, _, _, _) => n == 1
  | (.lreturn, n, _, _, _) => n == 1
  | (.areturn, n, _, _, _) => n == 1
  | (.return_, n, _, _, _) => n == 1
  | (.iconst _, n, _, _, _) => n == 1
  | (.lconst _, n, _, _, _) => n == 1
  | (.iload _, n, _, _, _) => n == 2
  | (.iload_n _, n, _, _, _) => n == 1
  | (.lload _, n, _, _, _) => n == 2
  | (.lload_n _, n, _, _, _) => n == 1
  | (.aload _, n, _, _, _) => n == 2
  | (.aload_n _, n, _, _, _) => n == 1
  | (.bipush v, n, _, _, _) => n == 2 && decide ((Int8.ofInt v).toInt32 = Int32.ofInt v)
  | (.sipush v, n, _, _, _) => n == 3 && decide ((Int16.ofInt v).toInt32 = Int32.ofInt v)
  | (.ldc i, n, _, _, z) => n == 2 && false
  | (.ldc2_w i, n, _, _, z) => n == 3 && decide ((i, z) ∈ z_Lk yk)
  | (.istore i, n, _, _, _) => n == 2 && decide (i < nL)
  | (.istore_n i, n, _, _, _) => n == 1 && decide ((i : Nat) < nL)
  | (.lstore i, n, _, _, _) => n == 2 && decide (i + 1 < nL)
  | (.lstore_n i, n, _, _, _) => n == 1 && decide ((i : Nat) + 1 < nL)
  | (.astore i, n, _, _, _) => n == 2 && decide (i < nL)
  | (.astore_n i, n, _, _, _) => n == 1 && decide ((i : Nat) < nL)
  | (.iinc i _, n, _, _, _) => n == 3 && decide (i < nL)
  | (.if_icmp _ off, n, t, _, _) => n == 3 && decide ((pc : Int) + off = (t : Int))
  | (.ifCond _ off, n, t, _, _) => n == 3 && decide ((pc : Int) + off = (t : Int))
  | (.ifnull off, n, t, _, _) => n == 3 && decide ((pc : Int) + off = (t : Int))
  | (.ifnonnull off, n, t, _, _) => n == 3 && decide ((pc : Int) + off = (t : Int))
  | (.goto off, n, t, _, _) => n == 3 && decide ((pc : Int) + off = (t : Int))
  | (.tableswitch dflt lo hi offs, _, t, _, _) => t == pc && decide (0 ≤ (pc : Int) + dflt) && offs.toList.all (fun o => decide (0 ≤ (pc : Int) + o)) && decide (hi - lo + 1 = (offs.size : Int))
  | (.lookupswitch dflt ps, _, t, _, _) => t == pc && decide (0 ≤ (pc : Int) + dflt) && ps.toList.all (fun o => decide (0 ≤ (pc : Int) + o.2)) && (ps.toList.zip (ps.toList.drop 1)).all (fun (a, next) => a.1 < next.1)
  | (.getfield i, n, K, f, z) => n == 3 && z_obj K && decide (f < kF K) && decide (z = ((z_fc (kY K f) : Nat) : Int)) && decide ((i, K, f) ∈ z_Fk yk)
  | (.putfield i, n, K, f, z) => n == 3 && z_obj K && decide (f < kF K) && decide (z = ((z_fc (kY K f) : Nat) : Int)) && decide ((i, K, f) ∈ z_Fk yk) && (!(kT K f).2.2.2 || (ini && yk == K))
  | (.new i, n, K, 0, _) => n == 3 && z_obj K && decide ((i, K) ∈ z_Nk yk)
  | (.new i, n, K, 1, z) => n == 7 && z_lst K && decide ((i, 20) ∈ z_Pk yk) && z_at cc (pc + 3) .dup 1 && z_at cc (pc + 4) (.invokespecial z.toNat) 3 && decide ((z.toNat, 8) ∈ z_Pk yk)
  | (.newarray t, n, K, _, _) => n == 2 && decide (aLen K ≠ 0) && decide (newarray.typeOf t = aTy (aCod K))
  | (.checkcast i, n, K, _, _) => n == 3 && z_obj K && decide ((i, K) ∈ z_Nk yk)
  | (.invokevirtual _, n, _, 0, _) => n == 3
  | (.invokestatic _, n, _, 0, _) => n == 3
  | (.invokespecial _, n, _, 0, _) => n == 3
  | (.invokespecial i, n, _, 7, _) => n == 3 && decide ((i, 7) ∈ z_Pk yk)
  | (.invokevirtual i, n, _, 1, _) => n == 3 && decide ((i, 1) ∈ z_Pk yk)
  | (.invokevirtual i, n, _, 2, _) => n == 3 && decide ((i, 2) ∈ z_Pk yk)
  | (.invokevirtual i, n, _, 3, _) => n == 3 && decide ((i, 3) ∈ z_Pk yk)
  | (.invokestatic i, n, j, 10, _) => n == 6 && decide ((i, 4) ∈ z_Pk yk) && z_at cc (pc + 3) (.invokevirtual j) 3 && decide ((j, 3) ∈ z_Pk yk)
  | (.invokevirtual i, n, j, 11, z) => n == 9 && decide ((i, 2) ∈ z_Pk yk) && z_at cc (pc + 3) (.checkcast j) 3 && decide ((j, 21) ∈ z_Pk yk) && z_at cc (pc + 6) (.invokevirtual z.toNat) 3 && decide ((z.toNat, 5) ∈ z_Pk yk)
  | (.invokestatic i, n, _, 6, _) => n == 3 && decide ((i, 6) ∈ z_Pk yk)
  | _ => false
def z_chk (yk : Nat) (ini : Bool) (cc : ByteArray) (nL : Nat) : Nat → List z_E → Nat → Bool
  | pc, [], ep => pc == ep
  | pc, e :: r, ep => z_at cc pc e.1 (z_dl e) && z_exB yk ini cc nL pc e && z_chk yk ini cc nL (pc + e.2.1) r ep
