section ZR
variable {l : Launch} {G : zG} {y : zMD} {fr lo bc bs pc : Nat} {ls : List (Option Value)} {st : List Value} {M : zMem} {Q : zOut → zMem → Prop}
theorem s_iadd {a b : Int32} (hd : decode (yC y) pc = .ok (.iadd, 1)) (k : zS l G y fr lo bc bs (pc + 1) ls (.int (a + b) :: st) M Q) : zS l G y fr lo bc bs pc ls (.int b :: .int a :: st) M Q := by
  intro p e R s m args below meth c H locs cells slots X la F hc hs hW hl hE
  exact lv_iadd F.1 F.2.1 hd (k p e R s m args below meth c H locs cells slots X la F hc hs hW hl hE)
theorem s_isub {a b : Int32} (hd : decode (yC y) pc = .ok (.isub, 1)) (k : zS l G y fr lo bc bs (pc + 1) ls (.int (a - b) :: st) M Q) : zS l G y fr lo bc bs pc ls (.int b :: .int a :: st) M Q := by
  intro p e R s m args below meth c H locs cells slots X la F hc hs hW hl hE
  exact lv_isub F.1 F.2.1 hd (k p e R s m args below meth c H locs cells slots X la F hc hs hW hl hE)
theorem s_imul {a b : Int32} (hd : decode (yC y) pc = .ok (.imul, 1)) (k : zS l G y fr lo bc bs (pc + 1) ls (.int (a * b) :: st) M Q) : zS l G y fr lo bc bs pc ls (.int b :: .int a :: st) M Q := by
  intro p e R s m args below meth c H locs cells slots X la F hc hs hW hl hE
  exact lv_imul F.1 F.2.1 hd (k p e R s m args below meth c H locs cells slots X la F hc hs hW hl hE)
theorem s_iand {a b : Int32} (hd : decode (yC y) pc = .ok (.iand, 1)) (k : zS l G y fr lo bc bs (pc + 1) ls (.int (a &&& b) :: st) M Q) : zS l G y fr lo bc bs pc ls (.int b :: .int a :: st) M Q := by
  intro p e R s m args below meth c H locs cells slots X la F hc hs hW hl hE
  exact lv_iand F.1 F.2.1 hd (k p e R s m args below meth c H locs cells slots X la F hc hs hW hl hE)
theorem s_ixor {a b : Int32} (hd : decode (yC y) pc = .ok (.ixor, 1)) (k : zS l G y fr lo bc bs (pc + 1) ls (.int (a ^^^ b) :: st) M Q) : zS l G y fr lo bc bs pc ls (.int b :: .int a :: st) M Q := by
  intro p e R s m args below meth c H locs cells slots X la F hc hs hW hl hE
  exact lv_ixor F.1 F.2.1 hd (k p e R s m args below meth c H locs cells slots X la F hc hs hW hl hE)
theorem s_ishr {a b : Int32} (hd : decode (yC y) pc = .ok (.ishr, 1)) (k : zS l G y fr lo bc bs (pc + 1) ls (.int (a >>> (b &&& 31)) :: st) M Q) : zS l G y fr lo bc bs pc ls (.int b :: .int a :: st) M Q := by
  intro p e R s m args below meth c H locs cells slots X la F hc hs hW hl hE
  exact lv_ishr F.1 F.2.1 hd (k p e R s m args below meth c H locs cells slots X la F hc hs hW hl hE)
theorem s_idiv {a b : Int32} (hd : decode (yC y) pc = .ok (.idiv, 1)) (hne : ¬ b = 0) (k : zS l G y fr lo bc bs (pc + 1) ls (.int (a / b) :: st) M Q) : zS l G y fr lo bc bs pc ls (.int b :: .int a :: st) M Q := by
  intro p e R s m args below meth c H locs cells slots X la F hc hs hW hl hE
  exact lv_idiv F.1 F.2.1 hd hne (k p e R s m args below meth c H locs cells slots X la F hc hs hW hl hE)
theorem s_irem {a b : Int32} (hd : decode (yC y) pc = .ok (.irem, 1)) (hne : ¬ b = 0) (k : zS l G y fr lo bc bs (pc + 1) ls (.int (a - a / b * b) :: st) M Q) : zS l G y fr lo bc bs pc ls (.int b :: .int a :: st) M Q := by
  intro p e R s m args below meth c H locs cells slots X la F hc hs hW hl hE
  exact lv_irem F.1 F.2.1 hd hne (k p e R s m args below meth c H locs cells slots X la F hc hs hW hl hE)
theorem s_ineg {a : Int32} (hd : decode (yC y) pc = .ok (.ineg, 1)) (k : zS l G y fr lo bc bs (pc + 1) ls (.int (-a) :: st) M Q) : zS l G y fr lo bc bs pc ls (.int a :: st) M Q := by
  intro p e R s m args below meth c H locs cells slots X la F hc hs hW hl hE
  exact lv_ineg F.1 F.2.1 hd (k p e R s m args below meth c H locs cells slots X la F hc hs hW hl hE)
theorem s_ladd {a b : Int64} (hd : decode (yC y) pc = .ok (.ladd, 1)) (k : zS l G y fr lo bc bs (pc + 1) ls (.long (a + b) :: st) M Q) : zS l G y fr lo bc bs pc ls (.long b :: .long a :: st) M Q := by
  intro p e R s m args below meth c H locs cells slots X la F hc hs hW hl hE
  exact lv_ladd F.1 F.2.1 hd (k p e R s m args below meth c H locs cells slots X la F hc hs hW hl hE)
theorem s_lsub {a b : Int64} (hd : decode (yC y) pc = .ok (.lsub, 1)) (k : zS l G y fr lo bc bs (pc + 1) ls (.long (a - b) :: st) M Q) : zS l G y fr lo bc bs pc ls (.long b :: .long a :: st) M Q := by
  intro p e R s m args below meth c H locs cells slots X la F hc hs hW hl hE
  exact lv_lsub F.1 F.2.1 hd (k p e R s m args below meth c H locs cells slots X la F hc hs hW hl hE)
theorem s_lmul {a b : Int64} (hd : decode (yC y) pc = .ok (.lmul, 1)) (k : zS l G y fr lo bc bs (pc + 1) ls (.long (a * b) :: st) M Q) : zS l G y fr lo bc bs pc ls (.long b :: .long a :: st) M Q := by
  intro p e R s m args below meth c H locs cells slots X la F hc hs hW hl hE
  exact lv_lmul F.1 F.2.1 hd (k p e R s m args below meth c H locs cells slots X la F hc hs hW hl hE)
theorem s_ldiv {a b : Int64} (hd : decode (yC y) pc = .ok (.ldiv, 1)) (hne : ¬ b = 0) (k : zS l G y fr lo bc bs (pc + 1) ls (.long (a / b) :: st) M Q) : zS l G y fr lo bc bs pc ls (.long b :: .long a :: st) M Q := by
  intro p e R s m args below meth c H locs cells slots X la F hc hs hW hl hE
  exact lv_ldiv F.1 F.2.1 hd hne (k p e R s m args below meth c H locs cells slots X la F hc hs hW hl hE)
theorem s_lneg {a : Int64} (hd : decode (yC y) pc = .ok (.lneg, 1)) (k : zS l G y fr lo bc bs (pc + 1) ls (.long (-a) :: st) M Q) : zS l G y fr lo bc bs pc ls (.long a :: st) M Q := by
  intro p e R s m args below meth c H locs cells slots X la F hc hs hW hl hE
  exact lv_lneg F.1 F.2.1 hd (k p e R s m args below meth c H locs cells slots X la F hc hs hW hl hE)
theorem s_lshl {a : Int64} {b : Int32} (hd : decode (yC y) pc = .ok (.lshl, 1)) (k : zS l G y fr lo bc bs (pc + 1) ls (.long (a <<< (b.toInt64 &&& 63)) :: st) M Q) : zS l G y fr lo bc bs pc ls (.int b :: .long a :: st) M Q := by
  intro p e R s m args below meth c H locs cells slots X la F hc hs hW hl hE
  exact lv_lshl F.1 F.2.1 hd rfl (k p e R s m args below meth c H locs cells slots X la F hc hs hW hl hE)
theorem s_lshr {a : Int64} {b : Int32} (hd : decode (yC y) pc = .ok (.lshr, 1)) (k : zS l G y fr lo bc bs (pc + 1) ls (.long (a >>> (b.toInt64 &&& 63)) :: st) M Q) : zS l G y fr lo bc bs pc ls (.int b :: .long a :: st) M Q := by
  intro p e R s m args below meth c H locs cells slots X la F hc hs hW hl hE
  exact lv_lshr F.1 F.2.1 hd rfl (k p e R s m args below meth c H locs cells slots X la F hc hs hW hl hE)
theorem s_i2l {a : Int32} (hd : decode (yC y) pc = .ok (.i2l, 1)) (k : zS l G y fr lo bc bs (pc + 1) ls (.long a.toInt64 :: st) M Q) : zS l G y fr lo bc bs pc ls (.int a :: st) M Q := by
  intro p e R s m args below meth c H locs cells slots X la F hc hs hW hl hE
  exact lv_i2l F.1 F.2.1 hd rfl (k p e R s m args below meth c H locs cells slots X la F hc hs hW hl hE)
theorem s_l2i {a : Int64} (hd : decode (yC y) pc = .ok (.l2i, 1)) (k : zS l G y fr lo bc bs (pc + 1) ls (.int a.toInt32 :: st) M Q) : zS l G y fr lo bc bs pc ls (.long a :: st) M Q := by
  intro p e R s m args below meth c H locs cells slots X la F hc hs hW hl hE
  exact lv_l2i F.1 F.2.1 hd rfl (k p e R s m args below meth c H locs cells slots X la F hc hs hW hl hE)
theorem s_i2d {a : Int32} (hd : decode (yC y) pc = .ok (.i2d, 1)) (k : zS l G y fr lo bc bs (pc + 1) ls (.double (FP.i2d a) :: st) M Q) : zS l G y fr lo bc bs pc ls (.int a :: st) M Q := by
  intro p e R s m args below meth c H locs cells slots X la F hc hs hW hl hE
  exact lv_i2d F.1 F.2.1 hd (k p e R s m args below meth c H locs cells slots X la F hc hs hW hl hE)
theorem s_l2d {a : Int64} (hd : decode (yC y) pc = .ok (.l2d, 1)) (k : zS l G y fr lo bc bs (pc + 1) ls (.double (FP.l2d a) :: st) M Q) : zS l G y fr lo bc bs pc ls (.long a :: st) M Q := by
  intro p e R s m args below meth c H locs cells slots X la F hc hs hW hl hE
  exact lv_l2d F.1 F.2.1 hd (k p e R s m args below meth c H locs cells slots X la F hc hs hW hl hE)
theorem s_l2f {a : Int64} (hd : decode (yC y) pc = .ok (.l2f, 1)) (k : zS l G y fr lo bc bs (pc + 1) ls (.float (FP.l2f a) :: st) M Q) : zS l G y fr lo bc bs pc ls (.long a :: st) M Q := by
  intro p e R s m args below meth c H locs cells slots X la F hc hs hW hl hE
  exact lv_l2f F.1 F.2.1 hd (k p e R s m args below meth c H locs cells slots X la F hc hs hW hl hE)
theorem s_f2d {a : UInt32} (hd : decode (yC y) pc = .ok (.f2d, 1)) (hne : vf_n64 (FP.f2d a)) (k : zS l G y fr lo bc bs (pc + 1) ls (.double (FP.f2d a) :: st) M Q) : zS l G y fr lo bc bs pc ls (.float a :: st) M Q := by
  intro p e R s m args below meth c H locs cells slots X la F hc hs hW hl hE
  exact lv_f2d F.1 F.2.1 hd hne (k p e R s m args below meth c H locs cells slots X la F hc hs hW hl hE)
theorem s_ddiv {a b : UInt64} (hd : decode (yC y) pc = .ok (.ddiv, 1)) (hne : vf_n64 (FP.ddiv a b)) (k : zS l G y fr lo bc bs (pc + 1) ls (.double (FP.ddiv a b) :: st) M Q) : zS l G y fr lo bc bs pc ls (.double b :: .double a :: st) M Q := by
  intro p e R s m args below meth c H locs cells slots X la F hc hs hW hl hE
  exact lv_ddiv F.1 F.2.1 hd hne (k p e R s m args below meth c H locs cells slots X la F hc hs hW hl hE)
theorem s_fdiv {a b : UInt32} (hd : decode (yC y) pc = .ok (.fdiv, 1)) (hne : vf_n32 (FP.fdiv a b)) (k : zS l G y fr lo bc bs (pc + 1) ls (.float (FP.fdiv a b) :: st) M Q) : zS l G y fr lo bc bs pc ls (.float b :: .float a :: st) M Q := by
  intro p e R s m args below meth c H locs cells slots X la F hc hs hW hl hE
  exact lv_fdiv F.1 F.2.1 hd hne (k p e R s m args below meth c H locs cells slots X la F hc hs hW hl hE)
theorem s_dcmp {a b : UInt64} {op : CmpOp} (hd : decode (yC y) pc = .ok (.dcmp op, 1)) (k : zS l G y fr lo bc bs (pc + 1) ls (.int (Op.cmpValue (FP.dcmp a b) op) :: st) M Q) : zS l G y fr lo bc bs pc ls (.double b :: .double a :: st) M Q := by
  intro p e R s m args below meth c H locs cells slots X la F hc hs hW hl hE
  exact lv_dcmp F.1 F.2.1 hd (k p e R s m args below meth c H locs cells slots X la F hc hs hW hl hE)
theorem s_lcmp {a b : Int64} (hd : decode (yC y) pc = .ok (.lcmp, 1)) (k : zS l G y fr lo bc bs (pc + 1) ls (.int (lg_cmp a b) :: st) M Q) : zS l G y fr lo bc bs pc ls (.long b :: .long a :: st) M Q := by
  intro p e R s m args below meth c H locs cells slots X la F hc hs hW hl hE
  exact W.lcmp F.1 F.2.1 hd (k p e R s m args below meth c H locs cells slots X la F hc hs hW hl hE)
theorem s_iconst {n : Int} (hd : decode (yC y) pc = .ok (.iconst n, 1)) (k : zS l G y fr lo bc bs (pc + 1) ls (.int (Int32.ofInt n) :: st) M Q) : zS l G y fr lo bc bs pc ls (st) M Q := by
  intro p e R s m args below meth c H locs cells slots X la F hc hs hW hl hE
  exact lv_iconst F.1 F.2.1 hd rfl (k p e R s m args below meth c H locs cells slots X la F hc hs hW hl hE)
theorem s_bipush {n : Int} (hd : decode (yC y) pc = .ok (.bipush n, 2)) (k : zS l G y fr lo bc bs (pc + 2) ls (.int (Int8.ofInt n).toInt32 :: st) M Q) : zS l G y fr lo bc bs pc ls (st) M Q := by
  intro p e R s m args below meth c H locs cells slots X la F hc hs hW hl hE
  exact lv_bipush F.1 F.2.1 hd rfl (k p e R s m args below meth c H locs cells slots X la F hc hs hW hl hE)
theorem s_sipush {n : Int} (hd : decode (yC y) pc = .ok (.sipush n, 3)) (k : zS l G y fr lo bc bs (pc + 3) ls (.int (Int16.ofInt n).toInt32 :: st) M Q) : zS l G y fr lo bc bs pc ls (st) M Q := by
  intro p e R s m args below meth c H locs cells slots X la F hc hs hW hl hE
  exact lv_sipush F.1 F.2.1 hd rfl (k p e R s m args below meth c H locs cells slots X la F hc hs hW hl hE)
theorem s_lconst {n : Fin 2} (hd : decode (yC y) pc = .ok (.lconst n, 1)) (k : zS l G y fr lo bc bs (pc + 1) ls (.long (Int64.ofNat n) :: st) M Q) : zS l G y fr lo bc bs pc ls (st) M Q := by
  intro p e R s m args below meth c H locs cells slots X la F hc hs hW hl hE
  exact lv_lconst F.1 F.2.1 hd rfl (k p e R s m args below meth c H locs cells slots X la F hc hs hW hl hE)
theorem s_dconst0  (hd : decode (yC y) pc = .ok (.dconst 0, 1)) (k : zS l G y fr lo bc bs (pc + 1) ls (.double FP.dconst0 :: st) M Q) : zS l G y fr lo bc bs pc ls (st) M Q := by
  intro p e R s m args below meth c H locs cells slots X la F hc hs hW hl hE
  exact lv_dconst0 F.1 F.2.1 hd (k p e R s m args below meth c H locs cells slots X la F hc hs hW hl hE)
theorem s_fconst0  (hd : decode (yC y) pc = .ok (.fconst 0, 1)) (k : zS l G y fr lo bc bs (pc + 1) ls (.float FP.fconst0 :: st) M Q) : zS l G y fr lo bc bs pc ls (st) M Q := by
  intro p e R s m args below meth c H locs cells slots X la F hc hs hW hl hE
  exact lv_fconst0 F.1 F.2.1 hd (k p e R s m args below meth c H locs cells slots X la F hc hs hW hl hE)
theorem s_iconstv {n : Int} {v : Int32} (hd : decode (yC y) pc = .ok (.iconst n, 1)) (hv : Int32.ofInt n = v) (k : zS l G y fr lo bc bs (pc + 1) ls (.int v :: st) M Q) : zS l G y fr lo bc bs pc ls (st) M Q := by
  intro p e R s m args below meth c H locs cells slots X la F hc hs hW hl hE
  exact lv_iconst F.1 F.2.1 hd hv (k p e R s m args below meth c H locs cells slots X la F hc hs hW hl hE)
theorem s_bipushv {n : Int} {v : Int32} (hd : decode (yC y) pc = .ok (.bipush n, 2)) (hv : (Int8.ofInt n).toInt32 = v) (k : zS l G y fr lo bc bs (pc + 2) ls (.int v :: st) M Q) : zS l G y fr lo bc bs pc ls (st) M Q := by
  intro p e R s m args below meth c H locs cells slots X la F hc hs hW hl hE
  exact lv_bipush F.1 F.2.1 hd hv (k p e R s m args below meth c H locs cells slots X la F hc hs hW hl hE)
theorem s_sipushv {n : Int} {v : Int32} (hd : decode (yC y) pc = .ok (.sipush n, 3)) (hv : (Int16.ofInt n).toInt32 = v) (k : zS l G y fr lo bc bs (pc + 3) ls (.int v :: st) M Q) : zS l G y fr lo bc bs pc ls (st) M Q := by
  intro p e R s m args below meth c H locs cells slots X la F hc hs hW hl hE
  exact lv_sipush F.1 F.2.1 hd hv (k p e R s m args below meth c H locs cells slots X la F hc hs hW hl hE)
theorem s_lconstv {n : Fin 2} {v : Int64} (hd : decode (yC y) pc = .ok (.lconst n, 1)) (hv : Int64.ofNat (n : Nat) = v) (k : zS l G y fr lo bc bs (pc + 1) ls (.long v :: st) M Q) : zS l G y fr lo bc bs pc ls (st) M Q := by
  intro p e R s m args below meth c H locs cells slots X la F hc hs hW hl hE
  exact lv_lconst F.1 F.2.1 hd hv (k p e R s m args below meth c H locs cells slots X la F hc hs hW hl hE)
theorem s_ldc {i : Nat} {v : Int32} (hd : decode (yC y) pc = .ok (.ldc i, 2)) (hw : Jvm.Cond.constant (yN y).cls i v ∈ zGW) (k : zS l G y fr lo bc bs (pc + 2) ls (.int v :: st) M Q) : zS l G y fr lo bc bs pc ls (st) M Q := by
  intro p e R s m args below meth c H locs cells slots X la F hc hs hW hl hE
  exact lv_ldc F.1 F.2.1 F.2.2.2.1 (F.2.2.2.2.1 _ hw) hd (k p e R s m args below meth c H locs cells slots X la F hc hs hW hl hE)
theorem s_ldc2 {i : Nat} {v : Int64} (hd : decode (yC y) pc = .ok (.ldc2_w i, 3)) (hw : Jvm.Cond.constantLong (yN y).cls i v ∈ zGW) (k : zS l G y fr lo bc bs (pc + 3) ls (.long v :: st) M Q) : zS l G y fr lo bc bs pc ls (st) M Q := by
  intro p e R s m args below meth c H locs cells slots X la F hc hs hW hl hE
  exact lv_ldc2 F.1 F.2.1 F.2.2.2.1 (F.2.2.2.2.1 _ hw) hd (k p e R s m args below meth c H locs cells slots X la F hc hs hW hl hE)
theorem s_iload {i : Nat} {v : Int32} (hd : decode (yC y) pc = .ok (.iload i, 2)) (hv : ls[i]? = some (some (.int v))) (k : zS l G y fr lo bc bs (pc + 2) ls (.int v :: st) M Q) : zS l G y fr lo bc bs pc ls (st) M Q := by
  intro p e R s m args below meth c H locs cells slots X la F hc hs hW hl hE
  exact lv_iload F.1 F.2.1 hd (zll_at hl hv) (k p e R s m args below meth c H locs cells slots X la F hc hs hW hl hE)
theorem s_iload_n {i : Fin 4} {v : Int32} (hd : decode (yC y) pc = .ok (.iload_n i, 1)) (hv : ls[(i : Nat)]? = some (some (.int v))) (k : zS l G y fr lo bc bs (pc + 1) ls (.int v :: st) M Q) : zS l G y fr lo bc bs pc ls (st) M Q := by
  intro p e R s m args below meth c H locs cells slots X la F hc hs hW hl hE
  exact lv_iload_n F.1 F.2.1 hd rfl (zll_at hl hv) (k p e R s m args below meth c H locs cells slots X la F hc hs hW hl hE)
theorem s_lload {i : Nat} {v : Int64} (hd : decode (yC y) pc = .ok (.lload i, 2)) (hv : ls[i]? = some (some (.long v))) (k : zS l G y fr lo bc bs (pc + 2) ls (.long v :: st) M Q) : zS l G y fr lo bc bs pc ls (st) M Q := by
  intro p e R s m args below meth c H locs cells slots X la F hc hs hW hl hE
  exact lv_lload F.1 F.2.1 hd (zll_at hl hv) (k p e R s m args below meth c H locs cells slots X la F hc hs hW hl hE)
theorem s_lload_n {i : Fin 4} {v : Int64} (hd : decode (yC y) pc = .ok (.lload_n i, 1)) (hv : ls[(i : Nat)]? = some (some (.long v))) (k : zS l G y fr lo bc bs (pc + 1) ls (.long v :: st) M Q) : zS l G y fr lo bc bs pc ls (st) M Q := by
  intro p e R s m args below meth c H locs cells slots X la F hc hs hW hl hE
  exact lv_lload_n F.1 F.2.1 hd rfl (zll_at hl hv) (k p e R s m args below meth c H locs cells slots X la F hc hs hW hl hE)
theorem s_aload {i : Nat} {v : Nat} (hd : decode (yC y) pc = .ok (.aload i, 2)) (hv : ls[i]? = some (some (.ref v))) (k : zS l G y fr lo bc bs (pc + 2) ls (.ref v :: st) M Q) : zS l G y fr lo bc bs pc ls (st) M Q := by
  intro p e R s m args below meth c H locs cells slots X la F hc hs hW hl hE
  exact lv_aload F.1 F.2.1 hd (zll_at hl hv) (k p e R s m args below meth c H locs cells slots X la F hc hs hW hl hE)
theorem s_aload_n {i : Fin 4} {v : Nat} (hd : decode (yC y) pc = .ok (.aload_n i, 1)) (hv : ls[(i : Nat)]? = some (some (.ref v))) (k : zS l G y fr lo bc bs (pc + 1) ls (.ref v :: st) M Q) : zS l G y fr lo bc bs pc ls (st) M Q := by
  intro p e R s m args below meth c H locs cells slots X la F hc hs hW hl hE
  exact lv_aload_n F.1 F.2.1 hd rfl (zll_at hl hv) (k p e R s m args below meth c H locs cells slots X la F hc hs hW hl hE)
theorem s_dload {i : Nat} {v : UInt64} (hd : decode (yC y) pc = .ok (.dload i, 2)) (hv : ls[i]? = some (some (.double v))) (k : zS l G y fr lo bc bs (pc + 2) ls (.double v :: st) M Q) : zS l G y fr lo bc bs pc ls (st) M Q := by
  intro p e R s m args below meth c H locs cells slots X la F hc hs hW hl hE
  exact lv_dload F.1 F.2.1 hd (zll_at hl hv) (k p e R s m args below meth c H locs cells slots X la F hc hs hW hl hE)
theorem s_dload_n {i : Fin 4} {v : UInt64} (hd : decode (yC y) pc = .ok (.dload_n i, 1)) (hv : ls[(i : Nat)]? = some (some (.double v))) (k : zS l G y fr lo bc bs (pc + 1) ls (.double v :: st) M Q) : zS l G y fr lo bc bs pc ls (st) M Q := by
  intro p e R s m args below meth c H locs cells slots X la F hc hs hW hl hE
  exact lv_dload_n F.1 F.2.1 hd rfl (zll_at hl hv) (k p e R s m args below meth c H locs cells slots X la F hc hs hW hl hE)
theorem s_istore {i : Nat} {v : Int32} (hd : decode (yC y) pc = .ok (.istore i, 2)) (hn : i < yL y) (k : zS l G y fr lo bc bs (pc + 2) (zp1 ls i (.int v)) st M Q) : zS l G y fr lo bc bs pc ls (.int v :: st) M Q := by
  intro p e R s m args below meth c H locs cells slots X la F hc hs hW hl hE
  exact lv_istore F.1 F.2.1 hd hl hn rfl (fun la hl => k p e R s m args below meth c H locs cells slots X la F hc hs hW (zp1_has hl) hE)
theorem s_istore_n {i : Fin 4} {v : Int32} (hd : decode (yC y) pc = .ok (.istore_n i, 1)) (hn : (i : Nat) < yL y) (k : zS l G y fr lo bc bs (pc + 1) (zp1 ls i (.int v)) st M Q) : zS l G y fr lo bc bs pc ls (.int v :: st) M Q := by
  intro p e R s m args below meth c H locs cells slots X la F hc hs hW hl hE
  exact lv_istore_n F.1 F.2.1 hd rfl hl hn rfl (fun la hl => k p e R s m args below meth c H locs cells slots X la F hc hs hW (zp1_has hl) hE)
theorem s_lstore {i : Nat} {v : Int64} (hd : decode (yC y) pc = .ok (.lstore i, 2)) (hn : i + 1 < yL y) (k : zS l G y fr lo bc bs (pc + 2) (zp2 ls i (.long v)) st M Q) : zS l G y fr lo bc bs pc ls (.long v :: st) M Q := by
  intro p e R s m args below meth c H locs cells slots X la F hc hs hW hl hE
  exact lv_lstore F.1 F.2.1 hd hl hn rfl (fun la hl => k p e R s m args below meth c H locs cells slots X la F hc hs hW (zp2_has hl) hE)
theorem s_lstore_n {i : Fin 4} {v : Int64} (hd : decode (yC y) pc = .ok (.lstore_n i, 1)) (hn : (i : Nat) + 1 < yL y) (k : zS l G y fr lo bc bs (pc + 1) (zp2 ls i (.long v)) st M Q) : zS l G y fr lo bc bs pc ls (.long v :: st) M Q := by
  intro p e R s m args below meth c H locs cells slots X la F hc hs hW hl hE
  exact lv_lstore_n F.1 F.2.1 hd rfl hl hn rfl (fun la hl => k p e R s m args below meth c H locs cells slots X la F hc hs hW (zp2_has hl) hE)
theorem s_astore {i : Nat} {v : Nat} (hd : decode (yC y) pc = .ok (.astore i, 2)) (hn : i < yL y) (k : zS l G y fr lo bc bs (pc + 2) (zp1 ls i (.ref v)) st M Q) : zS l G y fr lo bc bs pc ls (.ref v :: st) M Q := by
  intro p e R s m args below meth c H locs cells slots X la F hc hs hW hl hE
  exact lv_astore F.1 F.2.1 hd hl hn rfl (fun la hl => k p e R s m args below meth c H locs cells slots X la F hc hs hW (zp1_has hl) hE)
theorem s_astore_n {i : Fin 4} {v : Nat} (hd : decode (yC y) pc = .ok (.astore_n i, 1)) (hn : (i : Nat) < yL y) (k : zS l G y fr lo bc bs (pc + 1) (zp1 ls i (.ref v)) st M Q) : zS l G y fr lo bc bs pc ls (.ref v :: st) M Q := by
  intro p e R s m args below meth c H locs cells slots X la F hc hs hW hl hE
  exact lv_astore_n F.1 F.2.1 hd rfl hl hn rfl (fun la hl => k p e R s m args below meth c H locs cells slots X la F hc hs hW (zp1_has hl) hE)
theorem s_dstore {i : Nat} {v : UInt64} (hd : decode (yC y) pc = .ok (.dstore i, 2)) (hn : i + 1 < yL y) (k : zS l G y fr lo bc bs (pc + 2) (zp2 ls i (.double v)) st M Q) : zS l G y fr lo bc bs pc ls (.double v :: st) M Q := by
  intro p e R s m args below meth c H locs cells slots X la F hc hs hW hl hE
  exact lv_dstore F.1 F.2.1 hd hl hn rfl (fun la hl => k p e R s m args below meth c H locs cells slots X la F hc hs hW (zp2_has hl) hE)
theorem s_dstore_n {i : Fin 4} {v : UInt64} (hd : decode (yC y) pc = .ok (.dstore_n i, 1)) (hn : (i : Nat) + 1 < yL y) (k : zS l G y fr lo bc bs (pc + 1) (zp2 ls i (.double v)) st M Q) : zS l G y fr lo bc bs pc ls (.double v :: st) M Q := by
  intro p e R s m args below meth c H locs cells slots X la F hc hs hW hl hE
  exact lv_dstore_n F.1 F.2.1 hd rfl hl hn rfl (fun la hl => k p e R s m args below meth c H locs cells slots X la F hc hs hW (zp2_has hl) hE)
theorem s_iinc {i : Nat} {n : Int} {v r : Int32} (hd : decode (yC y) pc = .ok (.iinc i n, 3)) (hn : i < yL y) (hv : ls[i]? = some (some (.int v))) (hr : v + Int32.ofInt n = r) (k : zS l G y fr lo bc bs (pc + 3) (zp1 ls i (.int r)) st M Q) : zS l G y fr lo bc bs pc ls st M Q := by
  intro p e R s m args below meth c H locs cells slots X la F hc hs hW hl hE
  obtain ⟨j, hj⟩ := List.getElem?_of_mem (show (i, Value.int v) ∈ zll G ls from zll_mem.mpr ⟨.int v, hv, rfl⟩)
  exact lv_iinc F.1 F.2.1 hd hl hj hr hn rfl (fun la hl => k p e R s m args below meth c H locs cells slots X la F hc hs hW (zp1_has hl) hE)
theorem s_dupi {v : Int32} (hd : decode (yC y) pc = .ok (.dup, 1)) (k : zS l G y fr lo bc bs (pc + 1) ls (.int v :: .int v :: st) M Q) : zS l G y fr lo bc bs pc ls (.int v :: st) M Q := by
  intro p e R s m args below meth c H locs cells slots X la F hc hs hW hl hE
  exact lv_dup F.1 F.2.1 hd rfl (k p e R s m args below meth c H locs cells slots X la F hc hs hW hl hE)
theorem s_dupr {v : Nat} (hd : decode (yC y) pc = .ok (.dup, 1)) (k : zS l G y fr lo bc bs (pc + 1) ls (.ref v :: .ref v :: st) M Q) : zS l G y fr lo bc bs pc ls (.ref v :: st) M Q := by
  intro p e R s m args below meth c H locs cells slots X la F hc hs hW hl hE
  exact lv_dup F.1 F.2.1 hd rfl (k p e R s m args below meth c H locs cells slots X la F hc hs hW hl hE)
theorem s_popi {v : Int32} (hd : decode (yC y) pc = .ok (.pop, 1)) (k : zS l G y fr lo bc bs (pc + 1) ls (st) M Q) : zS l G y fr lo bc bs pc ls (.int v :: st) M Q := by
  intro p e R s m args below meth c H locs cells slots X la F hc hs hW hl hE
  exact lv_pop F.1 F.2.1 hd rfl (k p e R s m args below meth c H locs cells slots X la F hc hs hW hl hE)
theorem s_popr {v : Nat} (hd : decode (yC y) pc = .ok (.pop, 1)) (k : zS l G y fr lo bc bs (pc + 1) ls (st) M Q) : zS l G y fr lo bc bs pc ls (.ref v :: st) M Q := by
  intro p e R s m args below meth c H locs cells slots X la F hc hs hW hl hE
  exact lv_pop F.1 F.2.1 hd rfl (k p e R s m args below meth c H locs cells slots X la F hc hs hW hl hE)
theorem s_dup2ir {v : Int32} {a : Nat} (hd : decode (yC y) pc = .ok (.dup2, 1)) (k : zS l G y fr lo bc bs (pc + 1) ls (.int v :: .ref a :: .int v :: .ref a :: st) M Q) : zS l G y fr lo bc bs pc ls (.int v :: .ref a :: st) M Q := by
  intro p e R s m args below meth c H locs cells slots X la F hc hs hW hl hE
  exact lv_dup2_11 F.1 F.2.1 hd rfl rfl (k p e R s m args below meth c H locs cells slots X la F hc hs hW hl hE)
theorem s_dup2l {v : Int64} (hd : decode (yC y) pc = .ok (.dup2, 1)) (k : zS l G y fr lo bc bs (pc + 1) ls (.long v :: .long v :: st) M Q) : zS l G y fr lo bc bs pc ls (.long v :: st) M Q := by
  intro p e R s m args below meth c H locs cells slots X la F hc hs hW hl hE
  exact lv_dup2_2 F.1 F.2.1 hd rfl (k p e R s m args below meth c H locs cells slots X la F hc hs hW hl hE)
theorem s_goto {off : Int} (t : Nat) (hd : decode (yC y) pc = .ok (.goto off, 3)) (ht : (pc : Int) + off = (t : Int)) (k : zS l G y fr lo bc bs t ls st M Q) : zS l G y fr lo bc bs pc ls st M Q := by
  intro p e R s m args below meth c H locs cells slots X la F hc hs hW hl hE
  exact lv_goto F.1 F.2.1 hd ht (k p e R s m args below meth c H locs cells slots X la F hc hs hW hl hE)
theorem s_icmp_eq {a b : Int32} {off : Int} (t : Nat) (hd : decode (yC y) pc = .ok (.if_icmp .eq off, 3)) (ht : (pc : Int) + off = (t : Int)) (kt : a = b → zS l G y fr lo bc bs t ls st M Q) (kf : ¬ a = b → zS l G y fr lo bc bs (pc + 3) ls st M Q) : zS l G y fr lo bc bs pc ls (.int b :: .int a :: st) M Q := by
  intro p e R s m args below meth c H locs cells slots X la F hc hs hW hl hE
  exact lv_icmp_eq F.1 F.2.1 hd ht (fun h => kt h p e R s m args below meth c H locs cells slots X la F hc hs hW hl hE) (fun h => kf h p e R s m args below meth c H locs cells slots X la F hc hs hW hl hE)
theorem s_if_eq {a : Int32} {off : Int} (t : Nat) (hd : decode (yC y) pc = .ok (.ifCond .eq off, 3)) (ht : (pc : Int) + off = (t : Int)) (kt : a = 0 → zS l G y fr lo bc bs t ls st M Q) (kf : ¬ a = 0 → zS l G y fr lo bc bs (pc + 3) ls st M Q) : zS l G y fr lo bc bs pc ls (.int a :: st) M Q := by
  intro p e R s m args below meth c H locs cells slots X la F hc hs hW hl hE
  exact lv_if_eq F.1 F.2.1 hd ht (fun h => kt h p e R s m args below meth c H locs cells slots X la F hc hs hW hl hE) (fun h => kf h p e R s m args below meth c H locs cells slots X la F hc hs hW hl hE)
theorem s_icmp_ne {a b : Int32} {off : Int} (t : Nat) (hd : decode (yC y) pc = .ok (.if_icmp .ne off, 3)) (ht : (pc : Int) + off = (t : Int)) (kt : ¬ a = b → zS l G y fr lo bc bs t ls st M Q) (kf : a = b → zS l G y fr lo bc bs (pc + 3) ls st M Q) : zS l G y fr lo bc bs pc ls (.int b :: .int a :: st) M Q := by
  intro p e R s m args below meth c H locs cells slots X la F hc hs hW hl hE
  exact lv_icmp_ne F.1 F.2.1 hd ht (fun h => kt h p e R s m args below meth c H locs cells slots X la F hc hs hW hl hE) (fun h => kf h p e R s m args below meth c H locs cells slots X la F hc hs hW hl hE)
theorem s_if_ne {a : Int32} {off : Int} (t : Nat) (hd : decode (yC y) pc = .ok (.ifCond .ne off, 3)) (ht : (pc : Int) + off = (t : Int)) (kt : ¬ a = 0 → zS l G y fr lo bc bs t ls st M Q) (kf : a = 0 → zS l G y fr lo bc bs (pc + 3) ls st M Q) : zS l G y fr lo bc bs pc ls (.int a :: st) M Q := by
  intro p e R s m args below meth c H locs cells slots X la F hc hs hW hl hE
  exact lv_if_ne F.1 F.2.1 hd ht (fun h => kt h p e R s m args below meth c H locs cells slots X la F hc hs hW hl hE) (fun h => kf h p e R s m args below meth c H locs cells slots X la F hc hs hW hl hE)
theorem s_icmp_lt {a b : Int32} {off : Int} (t : Nat) (hd : decode (yC y) pc = .ok (.if_icmp .lt off, 3)) (ht : (pc : Int) + off = (t : Int)) (kt : a < b → zS l G y fr lo bc bs t ls st M Q) (kf : ¬ a < b → zS l G y fr lo bc bs (pc + 3) ls st M Q) : zS l G y fr lo bc bs pc ls (.int b :: .int a :: st) M Q := by
  intro p e R s m args below meth c H locs cells slots X la F hc hs hW hl hE
  exact lv_icmp_lt F.1 F.2.1 hd ht (fun h => kt h p e R s m args below meth c H locs cells slots X la F hc hs hW hl hE) (fun h => kf h p e R s m args below meth c H locs cells slots X la F hc hs hW hl hE)
theorem s_if_lt {a : Int32} {off : Int} (t : Nat) (hd : decode (yC y) pc = .ok (.ifCond .lt off, 3)) (ht : (pc : Int) + off = (t : Int)) (kt : a < 0 → zS l G y fr lo bc bs t ls st M Q) (kf : ¬ a < 0 → zS l G y fr lo bc bs (pc + 3) ls st M Q) : zS l G y fr lo bc bs pc ls (.int a :: st) M Q := by
  intro p e R s m args below meth c H locs cells slots X la F hc hs hW hl hE
  exact lv_if_lt F.1 F.2.1 hd ht (fun h => kt h p e R s m args below meth c H locs cells slots X la F hc hs hW hl hE) (fun h => kf h p e R s m args below meth c H locs cells slots X la F hc hs hW hl hE)
theorem s_icmp_ge {a b : Int32} {off : Int} (t : Nat) (hd : decode (yC y) pc = .ok (.if_icmp .ge off, 3)) (ht : (pc : Int) + off = (t : Int)) (kt : b ≤ a → zS l G y fr lo bc bs t ls st M Q) (kf : ¬ b ≤ a → zS l G y fr lo bc bs (pc + 3) ls st M Q) : zS l G y fr lo bc bs pc ls (.int b :: .int a :: st) M Q := by
  intro p e R s m args below meth c H locs cells slots X la F hc hs hW hl hE
  exact lv_icmp_ge F.1 F.2.1 hd ht (fun h => kt h p e R s m args below meth c H locs cells slots X la F hc hs hW hl hE) (fun h => kf h p e R s m args below meth c H locs cells slots X la F hc hs hW hl hE)
theorem s_if_ge {a : Int32} {off : Int} (t : Nat) (hd : decode (yC y) pc = .ok (.ifCond .ge off, 3)) (ht : (pc : Int) + off = (t : Int)) (kt : 0 ≤ a → zS l G y fr lo bc bs t ls st M Q) (kf : ¬ 0 ≤ a → zS l G y fr lo bc bs (pc + 3) ls st M Q) : zS l G y fr lo bc bs pc ls (.int a :: st) M Q := by
  intro p e R s m args below meth c H locs cells slots X la F hc hs hW hl hE
  exact lv_if_ge F.1 F.2.1 hd ht (fun h => kt h p e R s m args below meth c H locs cells slots X la F hc hs hW hl hE) (fun h => kf h p e R s m args below meth c H locs cells slots X la F hc hs hW hl hE)
theorem s_icmp_gt {a b : Int32} {off : Int} (t : Nat) (hd : decode (yC y) pc = .ok (.if_icmp .gt off, 3)) (ht : (pc : Int) + off = (t : Int)) (kt : b < a → zS l G y fr lo bc bs t ls st M Q) (kf : ¬ b < a → zS l G y fr lo bc bs (pc + 3) ls st M Q) : zS l G y fr lo bc bs pc ls (.int b :: .int a :: st) M Q := by
  intro p e R s m args below meth c H locs cells slots X la F hc hs hW hl hE
  exact lv_icmp_gt F.1 F.2.1 hd ht (fun h => kt h p e R s m args below meth c H locs cells slots X la F hc hs hW hl hE) (fun h => kf h p e R s m args below meth c H locs cells slots X la F hc hs hW hl hE)
theorem s_if_gt {a : Int32} {off : Int} (t : Nat) (hd : decode (yC y) pc = .ok (.ifCond .gt off, 3)) (ht : (pc : Int) + off = (t : Int)) (kt : 0 < a → zS l G y fr lo bc bs t ls st M Q) (kf : ¬ 0 < a → zS l G y fr lo bc bs (pc + 3) ls st M Q) : zS l G y fr lo bc bs pc ls (.int a :: st) M Q := by
  intro p e R s m args below meth c H locs cells slots X la F hc hs hW hl hE
  exact lv_if_gt F.1 F.2.1 hd ht (fun h => kt h p e R s m args below meth c H locs cells slots X la F hc hs hW hl hE) (fun h => kf h p e R s m args below meth c H locs cells slots X la F hc hs hW hl hE)
theorem s_icmp_le {a b : Int32} {off : Int} (t : Nat) (hd : decode (yC y) pc = .ok (.if_icmp .le off, 3)) (ht : (pc : Int) + off = (t : Int)) (kt : a ≤ b → zS l G y fr lo bc bs t ls st M Q) (kf : ¬ a ≤ b → zS l G y fr lo bc bs (pc + 3) ls st M Q) : zS l G y fr lo bc bs pc ls (.int b :: .int a :: st) M Q := by
  intro p e R s m args below meth c H locs cells slots X la F hc hs hW hl hE
  exact lv_icmp_le F.1 F.2.1 hd ht (fun h => kt h p e R s m args below meth c H locs cells slots X la F hc hs hW hl hE) (fun h => kf h p e R s m args below meth c H locs cells slots X la F hc hs hW hl hE)
theorem s_if_le {a : Int32} {off : Int} (t : Nat) (hd : decode (yC y) pc = .ok (.ifCond .le off, 3)) (ht : (pc : Int) + off = (t : Int)) (kt : a ≤ 0 → zS l G y fr lo bc bs t ls st M Q) (kf : ¬ a ≤ 0 → zS l G y fr lo bc bs (pc + 3) ls st M Q) : zS l G y fr lo bc bs pc ls (.int a :: st) M Q := by
  intro p e R s m args below meth c H locs cells slots X la F hc hs hW hl hE
  exact lv_if_le F.1 F.2.1 hd ht (fun h => kt h p e R s m args below meth c H locs cells slots X la F hc hs hW hl hE) (fun h => kf h p e R s m args below meth c H locs cells slots X la F hc hs hW hl hE)
theorem s_tableIn {d lo' hi : Int} {os : Array Int} {len : Nat} {a : Int32} {off : Int} (t : Nat) (hd : decode (yC y) pc = .ok (.tableswitch d lo' hi os, len)) (h1 : ¬ a.toInt < lo') (h2 : ¬ hi < a.toInt) (ho : os[(a.toInt - lo').toNat]? = some off) (ht : (pc : Int) + off = (t : Int)) (k : zS l G y fr lo bc bs t ls st M Q) : zS l G y fr lo bc bs pc ls (.int a :: st) M Q := by
  intro p e R s m args below meth c H locs cells slots X la F hc hs hW hl hE
  exact lv_tableIn F.1 F.2.1 hd h1 h2 ho ht (k p e R s m args below meth c H locs cells slots X la F hc hs hW hl hE)
theorem s_tableOut {d lo' hi : Int} {os : Array Int} {len : Nat} {a : Int32} (t : Nat) (hd : decode (yC y) pc = .ok (.tableswitch d lo' hi os, len)) (h : a.toInt < lo' ∨ hi < a.toInt) (ht : (pc : Int) + d = (t : Int)) (k : zS l G y fr lo bc bs t ls st M Q) : zS l G y fr lo bc bs pc ls (.int a :: st) M Q := by
  intro p e R s m args below meth c H locs cells slots X la F hc hs hW hl hE
  exact lv_tableOut F.1 F.2.1 hd h ht (k p e R s m args below meth c H locs cells slots X la F hc hs hW hl hE)
theorem s_lookup {d : Int} {ps : Array (Int × Int)} {len : Nat} {a : Int32} {off : Int} (t : Nat) (hd : decode (yC y) pc = .ok (.lookupswitch d ps, len)) (hp : (ps.toList.zip (ps.toList.drop 1)).all (fun (a, next) => a.1 < next.1) = true) (ho : Op.lookupswitch.offset ps.toList d a.toInt = off) (ht : (pc : Int) + off = (t : Int)) (k : zS l G y fr lo bc bs t ls st M Q) : zS l G y fr lo bc bs pc ls (.int a :: st) M Q := by
  intro p e R s m args below meth c H locs cells slots X la F hc hs hW hl hE
  exact lv_lookup F.1 F.2.1 hd hp ho ht (k p e R s m args below meth c H locs cells slots X la F hc hs hW hl hE)
/-- less is asked than there is -/
theorem zS.le {fr' lo' bc' bs' : Nat} (h1 : bc' ≤ bc) (h2 : bs' ≤ bs) (k : zS l G y fr lo bc' bs' pc ls st M Q) : zS l G y fr lo bc bs pc ls st M Q := by
  intro p e R s m args below meth c H locs cells slots X la F hc hs hW hl hE
  exact k p e R s m args below meth c H locs cells slots X la F (by omega) (by omega) hW hl hE
theorem zEx.mono {Q' : zOut → zMem → Prop} {p : Program} {e : Env} {R : Room} {s : State} {m : MethodId} {args : Array Value} {below : List Frame} {meth : Method} {c : Code} {X : State → Prop} (h : zEx l G y fr lo Q p e R s m args below meth c X) (hq : ∀ o M', Q' o M' → Q o M') : zEx l G y fr lo Q' p e R s m args below meth c X :=
  ⟨fun v M' q => h.1 v M' (hq _ _ q), fun x M' q => h.2.1 x M' (hq _ _ q), fun x M' q => h.2.2 x M' (hq _ _ q)⟩
theorem zS.mono {Q' : zOut → zMem → Prop} (k : zS l G y fr lo bc bs pc ls st M Q') (hq : ∀ o M', Q' o M' → Q o M') : zS l G y fr lo bc bs pc ls st M Q := by
  intro p e R s m args below meth c H locs cells slots X la F hc hs hW hl hE
  exact k p e R s m args below meth c H locs cells slots X la F hc hs hW hl (hE.mono hq)
/-- the ends -/
theorem s_ireturn {v : Int32} {ty : FieldType} (hd : decode (yC y) pc = .ok (.ireturn, 1)) (hr : yR y = some ty) (hn : narrow ty (.int v) = .int v) (hq : Q (.inl (some (.int v))) M) : zS l G y fr lo bc bs pc ls [.int v] M Q := by
  intro p e R s m args below meth c H locs cells slots X la F hc hs hW hl hE
  exact hE.1 _ _ hq H locs cells slots pc la (by omega) (by omega) hW ⟨hd, ty, hr, hn⟩
theorem s_lreturn {v : Int64} (hd : decode (yC y) pc = .ok (.lreturn, 1)) (hr : yR y = some .long) (hq : Q (.inl (some (.long v))) M) : zS l G y fr lo bc bs pc ls [.long v] M Q := by
  intro p e R s m args below meth c H locs cells slots X la F hc hs hW hl hE
  exact hE.1 _ _ hq H locs cells slots pc la (by omega) (by omega) hW ⟨hd, hr⟩
theorem s_dreturn {v : UInt64} (hd : decode (yC y) pc = .ok (.dreturn, 1)) (hr : yR y = some .double) (hq : Q (.inl (some (.double v))) M) : zS l G y fr lo bc bs pc ls [.double v] M Q := by
  intro p e R s m args below meth c H locs cells slots X la F hc hs hW hl hE
  exact hE.1 _ _ hq H locs cells slots pc la (by omega) (by omega) hW ⟨hd, hr⟩
theorem s_freturn {v : UInt32} (hd : decode (yC y) pc = .ok (.freturn, 1)) (hr : yR y = some .float) (hq : Q (.inl (some (.float v))) M) : zS l G y fr lo bc bs pc ls [.float v] M Q := by
  intro p e R s m args below meth c H locs cells slots X la F hc hs hW hl hE
  exact hE.1 _ _ hq H locs cells slots pc la (by omega) (by omega) hW ⟨hd, hr⟩
theorem s_return (hd : decode (yC y) pc = .ok (.return_, 1)) (hr : yR y = none) (hq : Q (.inl none) M) : zS l G y fr lo bc bs pc ls [] M Q := by
  intro p e R s m args below meth c H locs cells slots X la F hc hs hW hl hE
  exact hE.1 _ _ hq H locs cells slots pc la (by omega) (by omega) hW ⟨hd, hr⟩
theorem s_throw {x : Nat} (ht : zthr y fr lo x pc st) (hq : Q (.inr x) (zth M)) (hb : 1 ≤ bc ∧ 6 ≤ bs) : zS l G y fr lo bc bs pc ls st M Q := by
  intro p e R s m args below meth c H locs cells slots X la F hc hs hW hl hE
  exact hE.2.2 _ _ hq H locs cells slots pc la st (by omega) (by omega) hW hl.1 ht
end ZR
