section zRows
variable {G : zG} {X : zX} {Q : State → Prop} {own : String} {cc : ByteArray} {nL cells slots pc : Nat} {L S : List Value} {M : zM}
theorem zV_iadd (h : zOk G X own cc nL) {x y : Int32} (d : decode cc pc = .ok (.iadd, 1)) (k : zV G X Q nL cells slots (pc + 1) L (.int (x + y) :: S) M) : zV G X Q nL cells slots pc L (.int y :: .int x :: S) M := fun H locs ls hW hS hl => lv_iadd h.1 h.2.1 d (k H locs ls hW hS hl)
theorem zV_isub (h : zOk G X own cc nL) {x y : Int32} (d : decode cc pc = .ok (.isub, 1)) (k : zV G X Q nL cells slots (pc + 1) L (.int (x - y) :: S) M) : zV G X Q nL cells slots pc L (.int y :: .int x :: S) M := fun H locs ls hW hS hl => lv_isub h.1 h.2.1 d (k H locs ls hW hS hl)
theorem zV_imul (h : zOk G X own cc nL) {x y : Int32} (d : decode cc pc = .ok (.imul, 1)) (k : zV G X Q nL cells slots (pc + 1) L (.int (x * y) :: S) M) : zV G X Q nL cells slots pc L (.int y :: .int x :: S) M := fun H locs ls hW hS hl => lv_imul h.1 h.2.1 d (k H locs ls hW hS hl)
theorem zV_iand (h : zOk G X own cc nL) {x y : Int32} (d : decode cc pc = .ok (.iand, 1)) (k : zV G X Q nL cells slots (pc + 1) L (.int (x &&& y) :: S) M) : zV G X Q nL cells slots pc L (.int y :: .int x :: S) M := fun H locs ls hW hS hl => lv_iand h.1 h.2.1 d (k H locs ls hW hS hl)
theorem zV_ior (h : zOk G X own cc nL) {x y : Int32} (d : decode cc pc = .ok (.ior, 1)) (k : zV G X Q nL cells slots (pc + 1) L (.int (x ||| y) :: S) M) : zV G X Q nL cells slots pc L (.int y :: .int x :: S) M := fun H locs ls hW hS hl => lv_ior h.1 h.2.1 d (k H locs ls hW hS hl)
theorem zV_ishl (h : zOk G X own cc nL) {x y : Int32} (d : decode cc pc = .ok (.ishl, 1)) (k : zV G X Q nL cells slots (pc + 1) L (.int (x <<< (y &&& 31)) :: S) M) : zV G X Q nL cells slots pc L (.int y :: .int x :: S) M := fun H locs ls hW hS hl => lv_ishl h.1 h.2.1 d (k H locs ls hW hS hl)
theorem zV_ishr (h : zOk G X own cc nL) {x y : Int32} (d : decode cc pc = .ok (.ishr, 1)) (k : zV G X Q nL cells slots (pc + 1) L (.int (x >>> (y &&& 31)) :: S) M) : zV G X Q nL cells slots pc L (.int y :: .int x :: S) M := fun H locs ls hW hS hl => lv_ishr h.1 h.2.1 d (k H locs ls hW hS hl)
theorem zV_iushr (h : zOk G X own cc nL) {x y : Int32} (d : decode cc pc = .ok (.iushr, 1)) (k : zV G X Q nL cells slots (pc + 1) L (.int (x.toUInt32 >>> (y.toUInt32 &&& Int32.toUInt32 31)).toInt32 :: S) M) : zV G X Q nL cells slots pc L (.int y :: .int x :: S) M := fun H locs ls hW hS hl => lv_iushr h.1 h.2.1 d rfl (k H locs ls hW hS hl)
theorem zV_idiv (h : zOk G X own cc nL) {x y : Int32} (d : decode cc pc = .ok (.idiv, 1)) (hne : ¬ y = 0) (k : zV G X Q nL cells slots (pc + 1) L (.int (x / y) :: S) M) : zV G X Q nL cells slots pc L (.int y :: .int x :: S) M := fun H locs ls hW hS hl => lv_idiv h.1 h.2.1 d hne (k H locs ls hW hS hl)
theorem zV_irem (h : zOk G X own cc nL) {x y : Int32} (d : decode cc pc = .ok (.irem, 1)) (hne : ¬ y = 0) (k : zV G X Q nL cells slots (pc + 1) L (.int (x - x / y * y) :: S) M) : zV G X Q nL cells slots pc L (.int y :: .int x :: S) M := fun H locs ls hW hS hl => lv_irem h.1 h.2.1 d hne (k H locs ls hW hS hl)
theorem zV_ineg (h : zOk G X own cc nL) {x : Int32} (d : decode cc pc = .ok (.ineg, 1)) (k : zV G X Q nL cells slots (pc + 1) L (.int (-x) :: S) M) : zV G X Q nL cells slots pc L (.int x :: S) M := fun H locs ls hW hS hl => lv_ineg h.1 h.2.1 d (k H locs ls hW hS hl)
theorem zV_i2l (h : zOk G X own cc nL) {x : Int32} (d : decode cc pc = .ok (.i2l, 1)) (k : zV G X Q nL cells slots (pc + 1) L (.long (x.toInt64) :: S) M) : zV G X Q nL cells slots pc L (.int x :: S) M := fun H locs ls hW hS hl => lv_i2l h.1 h.2.1 d rfl (k H locs ls hW hS hl)
theorem zV_l2i (h : zOk G X own cc nL) {x : Int64} (d : decode cc pc = .ok (.l2i, 1)) (k : zV G X Q nL cells slots (pc + 1) L (.int (x.toInt32) :: S) M) : zV G X Q nL cells slots pc L (.long x :: S) M := fun H locs ls hW hS hl => lv_l2i h.1 h.2.1 d rfl (k H locs ls hW hS hl)
theorem zV_i2c (h : zOk G X own cc nL) {x : Int32} (d : decode cc pc = .ok (.i2c, 1)) (k : zV G X Q nL cells slots (pc + 1) L (.int ((x.toUInt32 % 65536).toInt32) :: S) M) : zV G X Q nL cells slots pc L (.int x :: S) M := fun H locs ls hW hS hl => lv_i2c h.1 h.2.1 d rfl (k H locs ls hW hS hl)
theorem zV_i2f (h : zOk G X own cc nL) {x : Int32} (d : decode cc pc = .ok (.i2f, 1)) (k : zV G X Q nL cells slots (pc + 1) L (.float (FP.i2f x) :: S) M) : zV G X Q nL cells slots pc L (.int x :: S) M := fun H locs ls hW hS hl => lv_i2f h.1 h.2.1 d (k H locs ls hW hS hl)
theorem zV_i2d (h : zOk G X own cc nL) {x : Int32} (d : decode cc pc = .ok (.i2d, 1)) (k : zV G X Q nL cells slots (pc + 1) L (.double (FP.i2d x) :: S) M) : zV G X Q nL cells slots pc L (.int x :: S) M := fun H locs ls hW hS hl => lv_i2d h.1 h.2.1 d (k H locs ls hW hS hl)
theorem zV_d2i (h : zOk G X own cc nL) {x : UInt64} (d : decode cc pc = .ok (.d2i, 1)) (k : zV G X Q nL cells slots (pc + 1) L (.int (FP.d2i x) :: S) M) : zV G X Q nL cells slots pc L (.double x :: S) M := fun H locs ls hW hS hl => lv_d2i h.1 h.2.1 d (k H locs ls hW hS hl)
theorem zV_d2l (h : zOk G X own cc nL) {x : UInt64} (d : decode cc pc = .ok (.d2l, 1)) (k : zV G X Q nL cells slots (pc + 1) L (.long (FP.d2l x) :: S) M) : zV G X Q nL cells slots pc L (.double x :: S) M := fun H locs ls hW hS hl => lv_d2l h.1 h.2.1 d (k H locs ls hW hS hl)
theorem zV_f2d (h : zOk G X own cc nL) {x : UInt32} (d : decode cc pc = .ok (.f2d, 1)) (hne : vf_n64 (FP.f2d x)) (k : zV G X Q nL cells slots (pc + 1) L (.double (FP.f2d x) :: S) M) : zV G X Q nL cells slots pc L (.float x :: S) M := fun H locs ls hW hS hl => lv_f2d h.1 h.2.1 d hne (k H locs ls hW hS hl)
theorem zV_d2f (h : zOk G X own cc nL) {x : UInt64} (d : decode cc pc = .ok (.d2f, 1)) (hne : vf_n32 (FP.d2f x)) (k : zV G X Q nL cells slots (pc + 1) L (.float (FP.d2f x) :: S) M) : zV G X Q nL cells slots pc L (.double x :: S) M := fun H locs ls hW hS hl => lv_d2f h.1 h.2.1 d hne (k H locs ls hW hS hl)
theorem zV_fadd (h : zOk G X own cc nL) {x y : UInt32} (d : decode cc pc = .ok (.fadd, 1)) (hne : vf_n32 (FP.fadd x y)) (k : zV G X Q nL cells slots (pc + 1) L (.float (FP.fadd x y) :: S) M) : zV G X Q nL cells slots pc L (.float y :: .float x :: S) M := fun H locs ls hW hS hl => lv_fadd h.1 h.2.1 d hne (k H locs ls hW hS hl)
theorem zV_fsub (h : zOk G X own cc nL) {x y : UInt32} (d : decode cc pc = .ok (.fsub, 1)) (hne : vf_n32 (FP.fsub x y)) (k : zV G X Q nL cells slots (pc + 1) L (.float (FP.fsub x y) :: S) M) : zV G X Q nL cells slots pc L (.float y :: .float x :: S) M := fun H locs ls hW hS hl => lv_fsub h.1 h.2.1 d hne (k H locs ls hW hS hl)
theorem zV_fdiv (h : zOk G X own cc nL) {x y : UInt32} (d : decode cc pc = .ok (.fdiv, 1)) (hne : vf_n32 (FP.fdiv x y)) (k : zV G X Q nL cells slots (pc + 1) L (.float (FP.fdiv x y) :: S) M) : zV G X Q nL cells slots pc L (.float y :: .float x :: S) M := fun H locs ls hW hS hl => lv_fdiv h.1 h.2.1 d hne (k H locs ls hW hS hl)
theorem zV_dadd (h : zOk G X own cc nL) {x y : UInt64} (d : decode cc pc = .ok (.dadd, 1)) (hne : vf_n64 (FP.dadd x y)) (k : zV G X Q nL cells slots (pc + 1) L (.double (FP.dadd x y) :: S) M) : zV G X Q nL cells slots pc L (.double y :: .double x :: S) M := fun H locs ls hW hS hl => lv_dadd h.1 h.2.1 d hne (k H locs ls hW hS hl)
theorem zV_dsub (h : zOk G X own cc nL) {x y : UInt64} (d : decode cc pc = .ok (.dsub, 1)) (hne : vf_n64 (FP.dsub x y)) (k : zV G X Q nL cells slots (pc + 1) L (.double (FP.dsub x y) :: S) M) : zV G X Q nL cells slots pc L (.double y :: .double x :: S) M := fun H locs ls hW hS hl => lv_dsub h.1 h.2.1 d hne (k H locs ls hW hS hl)
theorem zV_dmul (h : zOk G X own cc nL) {x y : UInt64} (d : decode cc pc = .ok (.dmul, 1)) (hne : vf_n64 (FP.dmul x y)) (k : zV G X Q nL cells slots (pc + 1) L (.double (FP.dmul x y) :: S) M) : zV G X Q nL cells slots pc L (.double y :: .double x :: S) M := fun H locs ls hW hS hl => lv_dmul h.1 h.2.1 d hne (k H locs ls hW hS hl)
theorem zV_ddiv (h : zOk G X own cc nL) {x y : UInt64} (d : decode cc pc = .ok (.ddiv, 1)) (hne : vf_n64 (FP.ddiv x y)) (k : zV G X Q nL cells slots (pc + 1) L (.double (FP.ddiv x y) :: S) M) : zV G X Q nL cells slots pc L (.double y :: .double x :: S) M := fun H locs ls hW hS hl => lv_ddiv h.1 h.2.1 d hne (k H locs ls hW hS hl)
theorem zV_fneg (h : zOk G X own cc nL) {x : UInt32} (d : decode cc pc = .ok (.fneg, 1)) (k : zV G X Q nL cells slots (pc + 1) L (.float (FP.fneg x) :: S) M) : zV G X Q nL cells slots pc L (.float x :: S) M := fun H locs ls hW hS hl => lv_fneg h.1 h.2.1 d (k H locs ls hW hS hl)
theorem zV_dneg (h : zOk G X own cc nL) {x : UInt64} (d : decode cc pc = .ok (.dneg, 1)) (k : zV G X Q nL cells slots (pc + 1) L (.double (FP.dneg x) :: S) M) : zV G X Q nL cells slots pc L (.double x :: S) M := fun H locs ls hW hS hl => lv_dneg h.1 h.2.1 d (k H locs ls hW hS hl)
theorem zV_fcmp (h : zOk G X own cc nL) {x y : UInt32} {op : CmpOp} (d : decode cc pc = .ok (.fcmp op, 1)) (k : zV G X Q nL cells slots (pc + 1) L (.int (Op.cmpValue (FP.fcmp x y) op) :: S) M) : zV G X Q nL cells slots pc L (.float y :: .float x :: S) M := fun H locs ls hW hS hl => lv_fcmp h.1 h.2.1 d (k H locs ls hW hS hl)
theorem zV_dcmp (h : zOk G X own cc nL) {x y : UInt64} {op : CmpOp} (d : decode cc pc = .ok (.dcmp op, 1)) (k : zV G X Q nL cells slots (pc + 1) L (.int (Op.cmpValue (FP.dcmp x y) op) :: S) M) : zV G X Q nL cells slots pc L (.double y :: .double x :: S) M := fun H locs ls hW hS hl => lv_dcmp h.1 h.2.1 d (k H locs ls hW hS hl)
theorem zV_lcmp (h : zOk G X own cc nL) {x y : Int64} (d : decode cc pc = .ok (.lcmp, 1)) (k : zV G X Q nL cells slots (pc + 1) L (.int (lg_cmp x y) :: S) M) : zV G X Q nL cells slots pc L (.long y :: .long x :: S) M := fun H locs ls hW hS hl => W.lcmp h.1 h.2.1 d (k H locs ls hW hS hl)
theorem zV_land (h : zOk G X own cc nL) {x y : Int64} (d : decode cc pc = .ok (.land, 1)) (k : zV G X Q nL cells slots (pc + 1) L (.long (x &&& y) :: S) M) : zV G X Q nL cells slots pc L (.long y :: .long x :: S) M := fun H locs ls hW hS hl => lv_land h.1 h.2.1 d (k H locs ls hW hS hl)
theorem zV_lor (h : zOk G X own cc nL) {x y : Int64} (d : decode cc pc = .ok (.lor, 1)) (k : zV G X Q nL cells slots (pc + 1) L (.long (x ||| y) :: S) M) : zV G X Q nL cells slots pc L (.long y :: .long x :: S) M := fun H locs ls hW hS hl => lv_lor h.1 h.2.1 d (k H locs ls hW hS hl)
theorem zV_lshl (h : zOk G X own cc nL) {x : Int64} {y : Int32} (d : decode cc pc = .ok (.lshl, 1)) (k : zV G X Q nL cells slots (pc + 1) L (.long (x <<< (y.toInt64 &&& 63)) :: S) M) : zV G X Q nL cells slots pc L (.int y :: .long x :: S) M := fun H locs ls hW hS hl => lv_lshl h.1 h.2.1 d rfl (k H locs ls hW hS hl)
theorem zV_iconst (h : zOk G X own cc nL) {n : Int} {v : Int32} (d : decode cc pc = .ok (.iconst n, 1)) (hv : Int32.ofInt n = v) (k : zV G X Q nL cells slots (pc + 1) L (.int v :: S) M) : zV G X Q nL cells slots pc L S M := fun H locs ls hW hS hl => lv_iconst h.1 h.2.1 d hv (k H locs ls hW hS hl)
theorem zV_bipush (h : zOk G X own cc nL) {n : Int} {v : Int32} (d : decode cc pc = .ok (.bipush n, 2)) (hv : (Int8.ofInt n).toInt32 = v) (k : zV G X Q nL cells slots (pc + 2) L (.int v :: S) M) : zV G X Q nL cells slots pc L S M := fun H locs ls hW hS hl => lv_bipush h.1 h.2.1 d hv (k H locs ls hW hS hl)
theorem zV_sipush (h : zOk G X own cc nL) {n : Int} {v : Int32} (d : decode cc pc = .ok (.sipush n, 3)) (hv : (Int16.ofInt n).toInt32 = v) (k : zV G X Q nL cells slots (pc + 3) L (.int v :: S) M) : zV G X Q nL cells slots pc L S M := fun H locs ls hW hS hl => lv_sipush h.1 h.2.1 d hv (k H locs ls hW hS hl)
theorem zV_lconst (h : zOk G X own cc nL) {n : Fin 2} {v : Int64} (d : decode cc pc = .ok (.lconst n, 1)) (hv : Int64.ofNat (n : Nat) = v) (k : zV G X Q nL cells slots (pc + 1) L (.long v :: S) M) : zV G X Q nL cells slots pc L S M := fun H locs ls hW hS hl => lv_lconst h.1 h.2.1 d hv (k H locs ls hW hS hl)
theorem zV_fconst0 (h : zOk G X own cc nL)  (d : decode cc pc = .ok (.fconst 0, 1)) (k : zV G X Q nL cells slots (pc + 1) L (.float FP.fconst0 :: S) M) : zV G X Q nL cells slots pc L S M := fun H locs ls hW hS hl => lv_fconst0 h.1 h.2.1 d (k H locs ls hW hS hl)
theorem zV_fconst1 (h : zOk G X own cc nL)  (d : decode cc pc = .ok (.fconst 1, 1)) (k : zV G X Q nL cells slots (pc + 1) L (.float FP.fconst1 :: S) M) : zV G X Q nL cells slots pc L S M := fun H locs ls hW hS hl => lv_fconst1 h.1 h.2.1 d (k H locs ls hW hS hl)
theorem zV_fconst2 (h : zOk G X own cc nL)  (d : decode cc pc = .ok (.fconst 2, 1)) (k : zV G X Q nL cells slots (pc + 1) L (.float FP.fconst2 :: S) M) : zV G X Q nL cells slots pc L S M := fun H locs ls hW hS hl => lv_fconst2 h.1 h.2.1 d (k H locs ls hW hS hl)
theorem zV_dconst0 (h : zOk G X own cc nL)  (d : decode cc pc = .ok (.dconst 0, 1)) (k : zV G X Q nL cells slots (pc + 1) L (.double FP.dconst0 :: S) M) : zV G X Q nL cells slots pc L S M := fun H locs ls hW hS hl => lv_dconst0 h.1 h.2.1 d (k H locs ls hW hS hl)
theorem zV_dconst1 (h : zOk G X own cc nL)  (d : decode cc pc = .ok (.dconst 1, 1)) (k : zV G X Q nL cells slots (pc + 1) L (.double FP.dconst1 :: S) M) : zV G X Q nL cells slots pc L S M := fun H locs ls hW hS hl => lv_dconst1 h.1 h.2.1 d (k H locs ls hW hS hl)
theorem zV_ldc (h : zOk G X own cc nL) {idx : Nat} {v : Int32} (d : decode cc pc = .ok (.ldc idx, 2)) (hw : Cond.constant own idx v ∈ zT) (k : zV G X Q nL cells slots (pc + 2) L (.int v :: S) M) : zV G X Q nL cells slots pc L S M := fun H locs ls hW hS hl => lv_ldc h.1 h.2.1 h.2.2.2.1 (h.2.2.2.2.1 _ hw) d (k H locs ls hW hS hl)
theorem zV_ldcw (h : zOk G X own cc nL) {idx : Nat} {v : Int32} (d : decode cc pc = .ok (.ldc_w idx, 3)) (hw : Cond.constant own idx v ∈ zT) (k : zV G X Q nL cells slots (pc + 3) L (.int v :: S) M) : zV G X Q nL cells slots pc L S M := fun H locs ls hW hS hl => lv_ldcw h.1 h.2.1 h.2.2.2.1 (h.2.2.2.2.1 _ hw) d (k H locs ls hW hS hl)
theorem zV_ldc2 (h : zOk G X own cc nL) {idx : Nat} {v : Int64} (d : decode cc pc = .ok (.ldc2_w idx, 3)) (hw : Cond.constantLong own idx v ∈ zT) (k : zV G X Q nL cells slots (pc + 3) L (.long v :: S) M) : zV G X Q nL cells slots pc L S M := fun H locs ls hW hS hl => lv_ldc2 h.1 h.2.1 h.2.2.2.1 (h.2.2.2.2.1 _ hw) d (k H locs ls hW hS hl)
theorem zV_ldc2d (h : zOk G X own cc nL) {idx : Nat} {v : UInt64} (d : decode cc pc = .ok (.ldc2_w idx, 3)) (hw : Cond.constantDouble own idx v ∈ zT) (k : zV G X Q nL cells slots (pc + 3) L (.double v :: S) M) : zV G X Q nL cells slots pc L S M := fun H locs ls hW hS hl => lv_ldc2d h.1 h.2.1 h.2.2.2.1 (h.2.2.2.2.1 _ hw) d (k H locs ls hW hS hl)
theorem zV_iload_n (h : zOk G X own cc nL) {k9 : Fin 4} {x : Int32} (d : decode cc pc = .ok (.iload_n k9, 1)) (hx : L[(k9 : Nat)]? = some (.int x)) (k : zV G X Q nL cells slots (pc + 1) L (.int x :: S) M) : zV G X Q nL cells slots pc L S M := fun H locs ls hW hS hl => lv_iload_n h.1 h.2.1 d rfl (zL_get hl hx (fun e => by cases e)) (k H locs ls hW hS hl)
theorem zV_iload (h : zOk G X own cc nL) {k9 : Nat} {x : Int32} (d : decode cc pc = .ok (.iload k9, 2)) (hx : L[k9]? = some (.int x)) (k : zV G X Q nL cells slots (pc + 2) L (.int x :: S) M) : zV G X Q nL cells slots pc L S M := fun H locs ls hW hS hl => lv_iload h.1 h.2.1 d (zL_get hl hx (fun e => by cases e)) (k H locs ls hW hS hl)
theorem zV_istore_n (h : zOk G X own cc nL) {k9 : Fin 4} {x : Int32} (d : decode cc pc = .ok (.istore_n k9, 1)) (hn : (k9 : Nat) < nL) (k : zV G X Q nL cells slots (pc + 1) (zst1 L (k9 : Nat) (.int x)) S M) : zV G X Q nL cells slots pc L (.int x :: S) M := fun H locs ls hW hS hl => lv_istore_n h.1 h.2.1 d rfl hl hn rfl (fun ls hl => k H locs ls hW hS (zst1_has (v := .int x) rfl hl))
theorem zV_istore (h : zOk G X own cc nL) {k9 : Nat} {x : Int32} (d : decode cc pc = .ok (.istore k9, 2)) (hn : k9 < nL) (k : zV G X Q nL cells slots (pc + 2) (zst1 L k9 (.int x)) S M) : zV G X Q nL cells slots pc L (.int x :: S) M := fun H locs ls hW hS hl => lv_istore h.1 h.2.1 d hl hn rfl (fun ls hl => k H locs ls hW hS (zst1_has (v := .int x) rfl hl))
theorem zV_lload_n (h : zOk G X own cc nL) {k9 : Fin 4} {x : Int64} (d : decode cc pc = .ok (.lload_n k9, 1)) (hx : L[(k9 : Nat)]? = some (.long x)) (k : zV G X Q nL cells slots (pc + 1) L (.long x :: S) M) : zV G X Q nL cells slots pc L S M := fun H locs ls hW hS hl => lv_lload_n h.1 h.2.1 d rfl (zL_get hl hx (fun e => by cases e)) (k H locs ls hW hS hl)
theorem zV_lload (h : zOk G X own cc nL) {k9 : Nat} {x : Int64} (d : decode cc pc = .ok (.lload k9, 2)) (hx : L[k9]? = some (.long x)) (k : zV G X Q nL cells slots (pc + 2) L (.long x :: S) M) : zV G X Q nL cells slots pc L S M := fun H locs ls hW hS hl => lv_lload h.1 h.2.1 d (zL_get hl hx (fun e => by cases e)) (k H locs ls hW hS hl)
theorem zV_lstore_n (h : zOk G X own cc nL) {k9 : Fin 4} {x : Int64} (d : decode cc pc = .ok (.lstore_n k9, 1)) (hn : (k9 : Nat) + 1 < nL) (k : zV G X Q nL cells slots (pc + 1) (zst2 L (k9 : Nat) (.long x)) S M) : zV G X Q nL cells slots pc L (.long x :: S) M := fun H locs ls hW hS hl => lv_lstore_n h.1 h.2.1 d rfl hl hn rfl (fun ls hl => k H locs ls hW hS (zst2_has (v := .long x) rfl hl))
theorem zV_lstore (h : zOk G X own cc nL) {k9 : Nat} {x : Int64} (d : decode cc pc = .ok (.lstore k9, 2)) (hn : k9 + 1 < nL) (k : zV G X Q nL cells slots (pc + 2) (zst2 L k9 (.long x)) S M) : zV G X Q nL cells slots pc L (.long x :: S) M := fun H locs ls hW hS hl => lv_lstore h.1 h.2.1 d hl hn rfl (fun ls hl => k H locs ls hW hS (zst2_has (v := .long x) rfl hl))
theorem zV_fload_n (h : zOk G X own cc nL) {k9 : Fin 4} {x : UInt32} (d : decode cc pc = .ok (.fload_n k9, 1)) (hx : L[(k9 : Nat)]? = some (.float x)) (k : zV G X Q nL cells slots (pc + 1) L (.float x :: S) M) : zV G X Q nL cells slots pc L S M := fun H locs ls hW hS hl => lv_fload_n h.1 h.2.1 d rfl (zL_get hl hx (fun e => by cases e)) (k H locs ls hW hS hl)
theorem zV_fload (h : zOk G X own cc nL) {k9 : Nat} {x : UInt32} (d : decode cc pc = .ok (.fload k9, 2)) (hx : L[k9]? = some (.float x)) (k : zV G X Q nL cells slots (pc + 2) L (.float x :: S) M) : zV G X Q nL cells slots pc L S M := fun H locs ls hW hS hl => lv_fload h.1 h.2.1 d (zL_get hl hx (fun e => by cases e)) (k H locs ls hW hS hl)
theorem zV_fstore_n (h : zOk G X own cc nL) {k9 : Fin 4} {x : UInt32} (d : decode cc pc = .ok (.fstore_n k9, 1)) (hn : (k9 : Nat) < nL) (k : zV G X Q nL cells slots (pc + 1) (zst1 L (k9 : Nat) (.float x)) S M) : zV G X Q nL cells slots pc L (.float x :: S) M := fun H locs ls hW hS hl => lv_fstore_n h.1 h.2.1 d rfl hl hn rfl (fun ls hl => k H locs ls hW hS (zst1_has (v := .float x) rfl hl))
theorem zV_fstore (h : zOk G X own cc nL) {k9 : Nat} {x : UInt32} (d : decode cc pc = .ok (.fstore k9, 2)) (hn : k9 < nL) (k : zV G X Q nL cells slots (pc + 2) (zst1 L k9 (.float x)) S M) : zV G X Q nL cells slots pc L (.float x :: S) M := fun H locs ls hW hS hl => lv_fstore h.1 h.2.1 d hl hn rfl (fun ls hl => k H locs ls hW hS (zst1_has (v := .float x) rfl hl))
theorem zV_dload_n (h : zOk G X own cc nL) {k9 : Fin 4} {x : UInt64} (d : decode cc pc = .ok (.dload_n k9, 1)) (hx : L[(k9 : Nat)]? = some (.double x)) (k : zV G X Q nL cells slots (pc + 1) L (.double x :: S) M) : zV G X Q nL cells slots pc L S M := fun H locs ls hW hS hl => lv_dload_n h.1 h.2.1 d rfl (zL_get hl hx (fun e => by cases e)) (k H locs ls hW hS hl)
theorem zV_dload (h : zOk G X own cc nL) {k9 : Nat} {x : UInt64} (d : decode cc pc = .ok (.dload k9, 2)) (hx : L[k9]? = some (.double x)) (k : zV G X Q nL cells slots (pc + 2) L (.double x :: S) M) : zV G X Q nL cells slots pc L S M := fun H locs ls hW hS hl => lv_dload h.1 h.2.1 d (zL_get hl hx (fun e => by cases e)) (k H locs ls hW hS hl)
theorem zV_dstore_n (h : zOk G X own cc nL) {k9 : Fin 4} {x : UInt64} (d : decode cc pc = .ok (.dstore_n k9, 1)) (hn : (k9 : Nat) + 1 < nL) (k : zV G X Q nL cells slots (pc + 1) (zst2 L (k9 : Nat) (.double x)) S M) : zV G X Q nL cells slots pc L (.double x :: S) M := fun H locs ls hW hS hl => lv_dstore_n h.1 h.2.1 d rfl hl hn rfl (fun ls hl => k H locs ls hW hS (zst2_has (v := .double x) rfl hl))
theorem zV_dstore (h : zOk G X own cc nL) {k9 : Nat} {x : UInt64} (d : decode cc pc = .ok (.dstore k9, 2)) (hn : k9 + 1 < nL) (k : zV G X Q nL cells slots (pc + 2) (zst2 L k9 (.double x)) S M) : zV G X Q nL cells slots pc L (.double x :: S) M := fun H locs ls hW hS hl => lv_dstore h.1 h.2.1 d hl hn rfl (fun ls hl => k H locs ls hW hS (zst2_has (v := .double x) rfl hl))
theorem zV_aload_n (h : zOk G X own cc nL) {k9 : Fin 4} {x : Nat} (d : decode cc pc = .ok (.aload_n k9, 1)) (hx : L[(k9 : Nat)]? = some (.ref x)) (k : zV G X Q nL cells slots (pc + 1) L (.ref x :: S) M) : zV G X Q nL cells slots pc L S M := fun H locs ls hW hS hl => lv_aload_n h.1 h.2.1 d rfl (zL_get hl hx (fun e => by cases e)) (k H locs ls hW hS hl)
theorem zV_aload (h : zOk G X own cc nL) {k9 : Nat} {x : Nat} (d : decode cc pc = .ok (.aload k9, 2)) (hx : L[k9]? = some (.ref x)) (k : zV G X Q nL cells slots (pc + 2) L (.ref x :: S) M) : zV G X Q nL cells slots pc L S M := fun H locs ls hW hS hl => lv_aload h.1 h.2.1 d (zL_get hl hx (fun e => by cases e)) (k H locs ls hW hS hl)
theorem zV_astore_n (h : zOk G X own cc nL) {k9 : Fin 4} {x : Nat} (d : decode cc pc = .ok (.astore_n k9, 1)) (hn : (k9 : Nat) < nL) (k : zV G X Q nL cells slots (pc + 1) (zst1 L (k9 : Nat) (.ref x)) S M) : zV G X Q nL cells slots pc L (.ref x :: S) M := fun H locs ls hW hS hl => lv_astore_n h.1 h.2.1 d rfl hl hn rfl (fun ls hl => k H locs ls hW hS (zst1_has (v := .ref x) rfl hl))
theorem zV_astore (h : zOk G X own cc nL) {k9 : Nat} {x : Nat} (d : decode cc pc = .ok (.astore k9, 2)) (hn : k9 < nL) (k : zV G X Q nL cells slots (pc + 2) (zst1 L k9 (.ref x)) S M) : zV G X Q nL cells slots pc L (.ref x :: S) M := fun H locs ls hW hS hl => lv_astore h.1 h.2.1 d hl hn rfl (fun ls hl => k H locs ls hW hS (zst1_has (v := .ref x) rfl hl))
theorem zV_iinc (h : zOk G X own cc nL) {k9 : Nat} {n : Int} {x v : Int32} (d : decode cc pc = .ok (.iinc k9 n, 3)) (hx : L[k9]? = some (.int x)) (hv : x + Int32.ofInt n = v) (hn : k9 < nL) (k : zV G X Q nL cells slots (pc + 3) (zst1 L k9 (.int v)) S M) : zV G X Q nL cells slots pc L S M := by
  intro H locs ls hW hS hl
  have h1 := zL_at (G := G) L 0 k9 _ hx (fun e => by cases e)
  rw [Nat.zero_add] at h1
  obtain ⟨j, hj⟩ := List.getElem?_of_mem h1
  exact lv_iinc h.1 h.2.1 d hl hj hv hn rfl (fun ls hl => k H locs ls hW hS (zst1_has (v := .int v) rfl hl))
theorem zV_dup (h : zOk G X own cc nL) {v : Value} (d : decode cc pc = .ok (.dup, 1)) (hc : v.category = 1) (k : zV G X Q nL cells slots (pc + 1) L (v :: v :: S) M) : zV G X Q nL cells slots pc L (v :: S) M := fun H locs ls hW hS hl => lv_dup h.1 h.2.1 d ((zv_cat G v).trans hc) (k H locs ls hW hS hl)
theorem zV_pop (h : zOk G X own cc nL) {v : Value} (d : decode cc pc = .ok (.pop, 1)) (hc : v.category = 1) (k : zV G X Q nL cells slots (pc + 1) L S M) : zV G X Q nL cells slots pc L (v :: S) M := fun H locs ls hW hS hl => lv_pop h.1 h.2.1 d ((zv_cat G v).trans hc) (k H locs ls hW hS hl)
theorem zV_dup2 (h : zOk G X own cc nL) {v w : Value} (d : decode cc pc = .ok (.dup2, 1)) (hc : v.category = 1) (hc2 : w.category = 1) (k : zV G X Q nL cells slots (pc + 1) L (v :: w :: v :: w :: S) M) : zV G X Q nL cells slots pc L (v :: w :: S) M := fun H locs ls hW hS hl => lv_dup2_11 h.1 h.2.1 d ((zv_cat G v).trans hc) ((zv_cat G w).trans hc2) (k H locs ls hW hS hl)
theorem zV_if_eq (h : zOk G X own cc nL) {x : Int32} {off : Int} {tgt : Nat} (d : decode cc pc = .ok (.ifCond .eq off, 3)) (ht : (pc : Int) + off = (tgt : Int)) (kt : x = 0 → zV G X Q nL cells slots tgt L S M) (kf : ¬ x = 0 → zV G X Q nL cells slots (pc + 3) L S M) : zV G X Q nL cells slots pc L (.int x :: S) M := fun H locs ls hW hS hl => lv_if_eq h.1 h.2.1 d ht (fun q => kt q H locs ls hW hS hl) (fun q => kf q H locs ls hW hS hl)
theorem zV_icmp_eq (h : zOk G X own cc nL) {x y : Int32} {off : Int} {tgt : Nat} (d : decode cc pc = .ok (.if_icmp .eq off, 3)) (ht : (pc : Int) + off = (tgt : Int)) (kt : x = y → zV G X Q nL cells slots tgt L S M) (kf : ¬ x = y → zV G X Q nL cells slots (pc + 3) L S M) : zV G X Q nL cells slots pc L (.int y :: .int x :: S) M := fun H locs ls hW hS hl => lv_icmp_eq h.1 h.2.1 d ht (fun q => kt q H locs ls hW hS hl) (fun q => kf q H locs ls hW hS hl)
theorem zV_if_ne (h : zOk G X own cc nL) {x : Int32} {off : Int} {tgt : Nat} (d : decode cc pc = .ok (.ifCond .ne off, 3)) (ht : (pc : Int) + off = (tgt : Int)) (kt : ¬ x = 0 → zV G X Q nL cells slots tgt L S M) (kf : x = 0 → zV G X Q nL cells slots (pc + 3) L S M) : zV G X Q nL cells slots pc L (.int x :: S) M := fun H locs ls hW hS hl => lv_if_ne h.1 h.2.1 d ht (fun q => kt q H locs ls hW hS hl) (fun q => kf q H locs ls hW hS hl)
theorem zV_icmp_ne (h : zOk G X own cc nL) {x y : Int32} {off : Int} {tgt : Nat} (d : decode cc pc = .ok (.if_icmp .ne off, 3)) (ht : (pc : Int) + off = (tgt : Int)) (kt : ¬ x = y → zV G X Q nL cells slots tgt L S M) (kf : x = y → zV G X Q nL cells slots (pc + 3) L S M) : zV G X Q nL cells slots pc L (.int y :: .int x :: S) M := fun H locs ls hW hS hl => lv_icmp_ne h.1 h.2.1 d ht (fun q => kt q H locs ls hW hS hl) (fun q => kf q H locs ls hW hS hl)
theorem zV_if_lt (h : zOk G X own cc nL) {x : Int32} {off : Int} {tgt : Nat} (d : decode cc pc = .ok (.ifCond .lt off, 3)) (ht : (pc : Int) + off = (tgt : Int)) (kt : x < 0 → zV G X Q nL cells slots tgt L S M) (kf : ¬ x < 0 → zV G X Q nL cells slots (pc + 3) L S M) : zV G X Q nL cells slots pc L (.int x :: S) M := fun H locs ls hW hS hl => lv_if_lt h.1 h.2.1 d ht (fun q => kt q H locs ls hW hS hl) (fun q => kf q H locs ls hW hS hl)
theorem zV_icmp_lt (h : zOk G X own cc nL) {x y : Int32} {off : Int} {tgt : Nat} (d : decode cc pc = .ok (.if_icmp .lt off, 3)) (ht : (pc : Int) + off = (tgt : Int)) (kt : x < y → zV G X Q nL cells slots tgt L S M) (kf : ¬ x < y → zV G X Q nL cells slots (pc + 3) L S M) : zV G X Q nL cells slots pc L (.int y :: .int x :: S) M := fun H locs ls hW hS hl => lv_icmp_lt h.1 h.2.1 d ht (fun q => kt q H locs ls hW hS hl) (fun q => kf q H locs ls hW hS hl)
theorem zV_if_ge (h : zOk G X own cc nL) {x : Int32} {off : Int} {tgt : Nat} (d : decode cc pc = .ok (.ifCond .ge off, 3)) (ht : (pc : Int) + off = (tgt : Int)) (kt : 0 ≤ x → zV G X Q nL cells slots tgt L S M) (kf : ¬ 0 ≤ x → zV G X Q nL cells slots (pc + 3) L S M) : zV G X Q nL cells slots pc L (.int x :: S) M := fun H locs ls hW hS hl => lv_if_ge h.1 h.2.1 d ht (fun q => kt q H locs ls hW hS hl) (fun q => kf q H locs ls hW hS hl)
theorem zV_icmp_ge (h : zOk G X own cc nL) {x y : Int32} {off : Int} {tgt : Nat} (d : decode cc pc = .ok (.if_icmp .ge off, 3)) (ht : (pc : Int) + off = (tgt : Int)) (kt : y ≤ x → zV G X Q nL cells slots tgt L S M) (kf : ¬ y ≤ x → zV G X Q nL cells slots (pc + 3) L S M) : zV G X Q nL cells slots pc L (.int y :: .int x :: S) M := fun H locs ls hW hS hl => lv_icmp_ge h.1 h.2.1 d ht (fun q => kt q H locs ls hW hS hl) (fun q => kf q H locs ls hW hS hl)
theorem zV_if_gt (h : zOk G X own cc nL) {x : Int32} {off : Int} {tgt : Nat} (d : decode cc pc = .ok (.ifCond .gt off, 3)) (ht : (pc : Int) + off = (tgt : Int)) (kt : 0 < x → zV G X Q nL cells slots tgt L S M) (kf : ¬ 0 < x → zV G X Q nL cells slots (pc + 3) L S M) : zV G X Q nL cells slots pc L (.int x :: S) M := fun H locs ls hW hS hl => lv_if_gt h.1 h.2.1 d ht (fun q => kt q H locs ls hW hS hl) (fun q => kf q H locs ls hW hS hl)
theorem zV_icmp_gt (h : zOk G X own cc nL) {x y : Int32} {off : Int} {tgt : Nat} (d : decode cc pc = .ok (.if_icmp .gt off, 3)) (ht : (pc : Int) + off = (tgt : Int)) (kt : y < x → zV G X Q nL cells slots tgt L S M) (kf : ¬ y < x → zV G X Q nL cells slots (pc + 3) L S M) : zV G X Q nL cells slots pc L (.int y :: .int x :: S) M := fun H locs ls hW hS hl => lv_icmp_gt h.1 h.2.1 d ht (fun q => kt q H locs ls hW hS hl) (fun q => kf q H locs ls hW hS hl)
theorem zV_if_le (h : zOk G X own cc nL) {x : Int32} {off : Int} {tgt : Nat} (d : decode cc pc = .ok (.ifCond .le off, 3)) (ht : (pc : Int) + off = (tgt : Int)) (kt : x ≤ 0 → zV G X Q nL cells slots tgt L S M) (kf : ¬ x ≤ 0 → zV G X Q nL cells slots (pc + 3) L S M) : zV G X Q nL cells slots pc L (.int x :: S) M := fun H locs ls hW hS hl => lv_if_le h.1 h.2.1 d ht (fun q => kt q H locs ls hW hS hl) (fun q => kf q H locs ls hW hS hl)
theorem zV_icmp_le (h : zOk G X own cc nL) {x y : Int32} {off : Int} {tgt : Nat} (d : decode cc pc = .ok (.if_icmp .le off, 3)) (ht : (pc : Int) + off = (tgt : Int)) (kt : x ≤ y → zV G X Q nL cells slots tgt L S M) (kf : ¬ x ≤ y → zV G X Q nL cells slots (pc + 3) L S M) : zV G X Q nL cells slots pc L (.int y :: .int x :: S) M := fun H locs ls hW hS hl => lv_icmp_le h.1 h.2.1 d ht (fun q => kt q H locs ls hW hS hl) (fun q => kf q H locs ls hW hS hl)
theorem zV_goto (h : zOk G X own cc nL) {off : Int} {tgt : Nat} (d : decode cc pc = .ok (.goto off, 3)) (ht : (pc : Int) + off = (tgt : Int)) (k : zV G X Q nL cells slots tgt L S M) : zV G X Q nL cells slots pc L S M := fun H locs ls hW hS hl => lv_goto h.1 h.2.1 d ht (k H locs ls hW hS hl)
theorem zV_tout (h : zOk G X own cc nL) {dflt lo hi : Int} {offs : Array Int} {len : Nat} {x : Int32} {tgt : Nat} (d : decode cc pc = .ok (.tableswitch dflt lo hi offs, len)) (hx : x.toInt < lo ∨ hi < x.toInt) (ht : (pc : Int) + dflt = (tgt : Int)) (k : zV G X Q nL cells slots tgt L S M) : zV G X Q nL cells slots pc L (.int x :: S) M := fun H locs ls hW hS hl => lv_tableOut h.1 h.2.1 d hx ht (k H locs ls hW hS hl)
theorem zV_tin (h : zOk G X own cc nL) {dflt lo hi : Int} {offs : Array Int} {len : Nat} {x : Int32} {off : Int} {tgt : Nat} (d : decode cc pc = .ok (.tableswitch dflt lo hi offs, len)) (h1 : ¬ x.toInt < lo) (h2 : ¬ hi < x.toInt) (ho : offs[(x.toInt - lo).toNat]? = some off) (ht : (pc : Int) + off = (tgt : Int)) (k : zV G X Q nL cells slots tgt L S M) : zV G X Q nL cells slots pc L (.int x :: S) M := fun H locs ls hW hS hl => lv_tableIn h.1 h.2.1 d h1 h2 ho ht (k H locs ls hW hS hl)
theorem zW_get {c : Nat} {e0 : va_E} {A : Nat → Prop} {H : Heap} (hW : zW G A M H) (hc : (zSh c).1 ≠ 0) (he : zEn G M c = e0) : ∃ q : Nat, (zWl G M)[q]? = some (G.1 c, e0) ∧ ∀ (M' : zM) (e : va_E) (H' : Heap), zEn G M' c = e → (∀ a : Nat, a ≠ c → zEn G M' a = zEn G M a) → va_P G.2.1 vwCl ((zWl G M).set q (G.1 c, e)) H' → va_D A ((zWl G M).set q (G.1 c, e)) → zW G A M' H' := by
  obtain ⟨q, h1, h2⟩ := zWl_at (G := G) (M := M) hc he
  refine ⟨q, h1, fun M' e H' h3 h4 hP hD => ?_⟩
  rw [h2 M' e h3 h4] at hP hD
  exact ⟨hP, hD⟩
theorem zw_oth {c a k : Nat} {x : Int32} (h : a ≠ c) : zEn G (zw M c k x) a = zEn G M a := zEn_same (by simp [zw, h]) rfl
theorem zwL_oth {c a k : Nat} {x : Int64} (h : a ≠ c) : zEn G (zwL M c k x) a = zEn G M a := zEn_same rfl (by simp [zwL, h])
-- arrays
theorem zV_iald (h : zOk G X own cc nL) {i : Int32} {c n j : Nat} {v : Int32} (d : decode cc pc = .ok (.iaload, 1)) (hs : zSh c = (20, n)) (hi : i = nI j) (hj : j < n ∧ n < 2 ^ 31) (hv : M.1 c j = v) (k : zV G X Q nL cells slots (pc + 1) L (.int v :: S) M) : zV G X Q nL cells slots pc L (.int i :: .ref c :: S) M := by
  intro H locs ls hW hS hl
  subst hi; subst hv
  obtain ⟨q, hq, -⟩ := zW_get hW (c := c) (by rw [hs]; exact Nat.succ_ne_zero _) (zEn_i hs)
  have hcl : (nI j).toNatClampNeg = j := nI_clamp (Nat.lt_trans hj.1 hj.2)
  refine va_iald h.1 h.2.1 h.2.2.2.2.2.1 hW.1 q 0 hq rfl (vp_in_nI hj.1 hj.2) d ?_
  rw [hcl]
  exact k H locs ls hW hS hl
theorem zV_zald (h : zOk G X own cc nL) {i : Int32} {c n j : Nat} {v : Int32} (d : decode cc pc = .ok (.baload, 1)) (hs : zSh c = (21, n)) (hi : i = nI j) (hj : j < n ∧ n < 2 ^ 31) (hv : M.1 c j = v) (k : zV G X Q nL cells slots (pc + 1) L (.int v :: S) M) : zV G X Q nL cells slots pc L (.int i :: .ref c :: S) M := by
  intro H locs ls hW hS hl
  subst hi; subst hv
  obtain ⟨q, hq, -⟩ := zW_get hW (c := c) (by rw [hs]; exact Nat.succ_ne_zero _) (zEn_z hs)
  have hcl : (nI j).toNatClampNeg = j := nI_clamp (Nat.lt_trans hj.1 hj.2)
  refine va_zald h.1 h.2.1 h.2.2.2.2.2.1 hW.1 q 1 hq rfl (vp_in_nI hj.1 hj.2) d ?_
  rw [hcl]
  exact k H locs ls hW hS hl
theorem zV_fald (h : zOk G X own cc nL) {i : Int32} {c n j : Nat} {v : UInt32} (d : decode cc pc = .ok (.faload, 1)) (hs : zSh c = (22, n)) (hi : i = nI j) (hj : j < n ∧ n < 2 ^ 31) (hv : (M.1 c j).toUInt32 = v) (k : zV G X Q nL cells slots (pc + 1) L (.float v :: S) M) : zV G X Q nL cells slots pc L (.int i :: .ref c :: S) M := by
  intro H locs ls hW hS hl
  subst hi; subst hv
  obtain ⟨q, hq, -⟩ := zW_get hW (c := c) (by rw [hs]; exact Nat.succ_ne_zero _) (zEn_f hs)
  have hcl : (nI j).toNatClampNeg = j := nI_clamp (Nat.lt_trans hj.1 hj.2)
  refine va_fald h.1 h.2.1 h.2.2.2.2.2.1 hW.1 q 2 hq rfl (vp_in_nI hj.1 hj.2) d ?_
  rw [hcl]
  exact k H locs ls hW hS hl
theorem zV_lald (h : zOk G X own cc nL) {i : Int32} {c n j : Nat} {v : Int64} (d : decode cc pc = .ok (.laload, 1)) (hs : zSh c = (23, n)) (hi : i = nI j) (hj : j < n ∧ n < 2 ^ 31) (hv : M.2 c j = v) (k : zV G X Q nL cells slots (pc + 1) L (.long v :: S) M) : zV G X Q nL cells slots pc L (.int i :: .ref c :: S) M := by
  intro H locs ls hW hS hl
  subst hi; subst hv
  obtain ⟨q, hq, -⟩ := zW_get hW (c := c) (by rw [hs]; exact Nat.succ_ne_zero _) (zEn_l hs)
  have hcl : (nI j).toNatClampNeg = j := nI_clamp (Nat.lt_trans hj.1 hj.2)
  refine va_lald h.1 h.2.1 h.2.2.2.2.2.1 hW.1 q 3 hq rfl (vp_in_nI hj.1 hj.2) d ?_
  rw [hcl]
  exact k H locs ls hW hS hl
theorem zTy_q (j : Nat) (hj : j < 4) : ∃ ty : FieldType, (zTy G)[4 + j]? = some (G.2.2 (4 + j), .array ty) := by
  match j, hj with
  | 0, _ => exact ⟨_, rfl⟩
  | 1, _ => exact ⟨_, rfl⟩
  | 2, _ => exact ⟨_, rfl⟩
  | 3, _ => exact ⟨_, rfl⟩
theorem zV_aald (h : zOk G X own cc nL) {i : Int32} {c n j t a : Nat} (d : decode cc pc = .ok (.aaload, 1)) (hs : zSh c = (24 + t, n)) (ht : t < 4) (hi : i = nI j) (hj : j < n ∧ n < 2 ^ 31) (hv : zCh c j = a) (k : zV G X Q nL cells slots (pc + 1) L (.ref a :: S) M) : zV G X Q nL cells slots pc L (.int i :: .ref c :: S) M := by
  intro H locs ls hW hS hl
  subst hi; subst hv
  obtain ⟨q, hq, -⟩ := zW_get hW (c := c) (by rw [hs]; show 24 + t ≠ 0; omega) (zEn_q hs)
  obtain ⟨ty, hty⟩ := zTy_q (G := G) t ht
  have hcl : (nI j).toNatClampNeg = j := nI_clamp (Nat.lt_trans hj.1 hj.2)
  have hin : vp_in (nI j) n := vp_in_nI hj.1 hj.2
  refine W.aald (v := va_rf ((fun i => some (G.1 (zCh c i))) (nI j).toNatClampNeg)) (ty := .array ty) h.1 h.2.1 (hW.1 q _ hq) ((h.2.2.2.2.2.1.2 (4 + t) _ hty).1 n (fun j => va_rf (some (G.1 (zCh c j))))) rfl (fun q => by cases q) (by show ¬ (nI j < 0 ∨ (arrV _ _ _).slots.size ≤ _); rw [arrV_size]; exact hin) (by show (arrV _ _ _).slots[_]? = _; rw [arrV_read _ _ (by rw [hcl]; exact hj.1)]) rfl rfl d ?_
  rw [hcl]
  exact k H locs ls hW hS hl
theorem zV_alen (h : zOk G X own cc nL) {c n : Nat} {v : Int32} (d : decode cc pc = .ok (.arraylength, 1)) (hs : zSh c = (20, n)) (hv : nI n = v) (k : zV G X Q nL cells slots (pc + 1) L (.int v :: S) M) : zV G X Q nL cells slots pc L (.ref c :: S) M := by
  intro H locs ls hW hS hl
  obtain ⟨q, hq, -⟩ := zW_get hW (c := c) (by rw [hs]; exact Nat.succ_ne_zero _) (zEn_i hs)
  exact va_alen h.1 h.2.1 h.2.2.2.2.2.1 hW.1 q 0 hq rfl hv d (k H locs ls hW hS hl)
theorem zV_iast (h : zOk G X own cc nL) {i x : Int32} {c n j : Nat} (d : decode cc pc = .ok (.iastore, 1)) (hs : zSh c = (20, n)) (hi : i = nI j) (hj : j < n ∧ n < 2 ^ 31) (k : zV G X Q nL cells slots (pc + 1) L S (zw M c j x)) : zV G X Q nL cells slots pc L (.int x :: .int i :: .ref c :: S) M := by
  intro H locs ls hW hS hl
  subst hi
  obtain ⟨q, hq, hset⟩ := zW_get hW (c := c) (by rw [hs]; exact Nat.succ_ne_zero _) (zEn_i hs)
  have hcl : (nI j).toNatClampNeg = j := nI_clamp (Nat.lt_trans hj.1 hj.2)
  refine va_iast h.1 h.2.1 h.2.2.2.2.2.1 hW.1 hW.2 hS q 0 hq rfl (vp_in_nI hj.1 hj.2) d (fun H1 locs1 hP hD hS1 => k H1 locs1 ls (hset _ _ H1 ?_ (fun a ha => zw_oth ha) hP hD) hS1 hl)
  rw [zEn_i hs, hcl]
  simp [zw]
theorem zV_zast (h : zOk G X own cc nL) {i x : Int32} {c n j : Nat} (d : decode cc pc = .ok (.bastore, 1)) (hs : zSh c = (21, n)) (hi : i = nI j) (hj : j < n ∧ n < 2 ^ 31) (hx : x = 0 ∨ x = 1) (k : zV G X Q nL cells slots (pc + 1) L S (zw M c j x)) : zV G X Q nL cells slots pc L (.int x :: .int i :: .ref c :: S) M := by
  intro H locs ls hW hS hl
  subst hi
  obtain ⟨q, hq, hset⟩ := zW_get hW (c := c) (by rw [hs]; exact Nat.succ_ne_zero _) (zEn_z hs)
  have hcl : (nI j).toNatClampNeg = j := nI_clamp (Nat.lt_trans hj.1 hj.2)
  have hx : vp_nar .boolean x = x := by rcases hx with rfl | rfl <;> rfl
  refine va_zast h.1 h.2.1 h.2.2.2.2.2.1 hW.1 hW.2 hS q 1 hq rfl (vp_in_nI hj.1 hj.2) d (fun H1 locs1 hP hD hS1 => k H1 locs1 ls (hset _ _ H1 ?_ (fun a ha => zw_oth ha) hP hD) hS1 hl)
  rw [zEn_z hs, hcl, hx]
  simp [zw]
theorem zV_fast (h : zOk G X own cc nL) {i : Int32} {x : UInt32} {c n j : Nat} (d : decode cc pc = .ok (.fastore, 1)) (hs : zSh c = (22, n)) (hi : i = nI j) (hj : j < n ∧ n < 2 ^ 31) (k : zV G X Q nL cells slots (pc + 1) L S (zw M c j x.toInt32)) : zV G X Q nL cells slots pc L (.float x :: .int i :: .ref c :: S) M := by
  intro H locs ls hW hS hl
  subst hi
  obtain ⟨q, hq, hset⟩ := zW_get hW (c := c) (by rw [hs]; exact Nat.succ_ne_zero _) (zEn_f hs)
  have hcl : (nI j).toNatClampNeg = j := nI_clamp (Nat.lt_trans hj.1 hj.2)
  refine va_fast h.1 h.2.1 h.2.2.2.2.2.1 hW.1 hW.2 hS q 2 hq rfl (vp_in_nI hj.1 hj.2) d (fun H1 locs1 hP hD hS1 => k H1 locs1 ls (hset _ _ H1 ?_ (fun a ha => zw_oth ha) hP hD) hS1 hl)
  have e9 : (fun i => ((zw M c j x.toInt32).1 c i).toUInt32) = vf_upd (fun i => (M.1 c i).toUInt32) j x := by
    funext a
    by_cases e : a = j
    · subst e
      rw [zw_same]
      simp [vf_upd]
    · rw [zw_ne (Or.inr e)]
      simp [vf_upd, e]
  rw [zEn_f hs, hcl, e9]
theorem zV_last (h : zOk G X own cc nL) {i : Int32} {x : Int64} {c n j : Nat} (d : decode cc pc = .ok (.lastore, 1)) (hs : zSh c = (23, n)) (hi : i = nI j) (hj : j < n ∧ n < 2 ^ 31) (k : zV G X Q nL cells slots (pc + 1) L S (zwL M c j x)) : zV G X Q nL cells slots pc L (.long x :: .int i :: .ref c :: S) M := by
  intro H locs ls hW hS hl
  subst hi
  obtain ⟨q, hq, hset⟩ := zW_get hW (c := c) (by rw [hs]; exact Nat.succ_ne_zero _) (zEn_l hs)
  have hcl : (nI j).toNatClampNeg = j := nI_clamp (Nat.lt_trans hj.1 hj.2)
  refine va_last h.1 h.2.1 h.2.2.2.2.2.1 hW.1 hW.2 hS q 3 hq rfl (vp_in_nI hj.1 hj.2) d (fun H1 locs1 hP hD hS1 => k H1 locs1 ls (hset _ _ H1 ?_ (fun a ha => zwL_oth ha) hP hD) hS1 hl)
  rw [zEn_l hs, hcl]
  simp [zwL]
/-- an object of class ci stands at o, its own arrays behind it -/
def zOb (ci o : Nat) : Prop := zSh o = (ci + 1, 0) ∧ ∀ k kd n : Nat, (zArL.getD ci [])[k]? = some (kd + 1, n) → zSh (o + 1 + k) = (kd + 1, n)
theorem zOb.a {ci o : Nat} (h : zOb ci o) (k : Nat) {kd n : Nat} (hk : (zArL.getD ci [])[k]? = some (kd + 1, n)) : zSh (o + 1 + k) = (kd + 1, n) := h.2 k kd n hk
-- fields
/-- a field link of class own to slot k of class ci -/
def zF (own : String) (idx ci k : Nat) : Prop := ∃ (C : String) (T : u_T) (N : Nat), vwCl[ci]? = some (C, T, N) ∧ k < N ∧ N = (zFkL.getD ci []).length ∧ ci < 19 ∧ Cond.fieldLink own idx (T k).1 (T k).2.1 (T k).2.2.1 ∈ zT
theorem zF_of {own : String} {idx ci k : Nat} (C : String) (T : u_T) (N : Nat) (h1 : vwCl[ci]? = some (C, T, N)) (h2 : k < N ∧ N = (zFkL.getD ci []).length ∧ ci < 19) (h3 : Cond.fieldLink own idx (T k).1 (T k).2.1 (T k).2.2.1 ∈ zT) : zF own idx ci k := ⟨C, T, N, h1, h2.1, h2.2.1, h2.2.2, h3⟩
theorem zFs_at {o ci k code : Nat} (hk : (zFkL.getD ci [])[k]? = some code) : (zFs G M o ci)[k]? = some (zFv G M o k code) := by
  unfold zFs
  rw [List.getElem?_mapIdx, hk]
  rfl
theorem zV_get (h : zOk G X own cc nL) {idx ci k o code : Nat} {v : Value} (d : decode cc pc = .ok (.getfield idx, 3)) (hF : zF own idx ci k) (hs : zSh o = (ci + 1, 0)) (hk : (zFkL.getD ci [])[k]? = some code) (hv : zFv G M o k code = zv G v) (kk : zV G X Q nL cells slots (pc + 3) L (v :: S) M) : zV G X Q nL cells slots pc L (.ref o :: S) M := by
  intro H locs ls hW hS hl
  obtain ⟨C, T, N, h1, h2, h3, h4, h5⟩ := hF
  obtain ⟨q, hq, -⟩ := zW_get hW (c := o) (by rw [hs]; exact Nat.succ_ne_zero ci) (zEn_o hs h4)
  refine va_get (cl := vwCl) (ref := (T k).1) h.1 h.2.1 h.2.2.2.2.1 (fun w hw => zUin _ (List.mem_of_getElem? h1) w hw) h.2.2.2.1 h.2.2.2.2.2.1 hW.1 q hq h1 k h2 (h.2.2.2.2.1 _ h5) (fun x hx => hx) (v := zv G v) ?_ d (kk H locs ls hW hS hl)
  rw [zFs_at hk, hv]
theorem zV_geti (h : zOk G X own cc nL) {idx ci k o : Nat} {x : Int32} (d : decode cc pc = .ok (.getfield idx, 3)) (hF : zF own idx ci k) (hs : zSh o = (ci + 1, 0)) (hk : (zFkL.getD ci [])[k]? = some 0) (hv : M.1 o k = x) (kk : zV G X Q nL cells slots (pc + 3) L (.int x :: S) M) : zV G X Q nL cells slots pc L (.ref o :: S) M := zV_get h d hF hs hk (v := .int x) (by show Value.int (M.1 o k) = _; rw [hv]; rfl) kk
theorem zV_geta (h : zOk G X own cc nL) {idx ci k o : Nat} (d : decode cc pc = .ok (.getfield idx, 3)) (hF : zF own idx ci k) (hs : zSh o = (ci + 1, 0)) (hk : (zFkL.getD ci [])[k]? = some 1) (kk : zV G X Q nL cells slots (pc + 3) L (.ref (o + 1 + k) :: S) M) : zV G X Q nL cells slots pc L (.ref o :: S) M := zV_get h d hF hs hk (v := .ref (o + 1 + k)) rfl kk
theorem zV_getp (h : zOk G X own cc nL) {idx ci k o a : Nat} (d : decode cc pc = .ok (.getfield idx, 3)) (hF : zF own idx ci k) (hs : zSh o = (ci + 1, 0)) (hk : (zFkL.getD ci [])[k]? = some 2) (hv : M.1 o k = nI a) (ha : a < 2 ^ 31) (kk : zV G X Q nL cells slots (pc + 3) L (.ref a :: S) M) : zV G X Q nL cells slots pc L (.ref o :: S) M := zV_get h d hF hs hk (v := .ref a) (by show Value.ref (G.1 (M.1 o k).toNatClampNeg) = _; rw [hv, nI_clamp ha]; rfl) kk
theorem zV_getc (h : zOk G X own cc nL) {idx ci k o a : Nat} (d : decode cc pc = .ok (.getfield idx, 3)) (hF : zF own idx ci k) (hs : zSh o = (ci + 1, 0)) (hk : (zFkL.getD ci [])[k]? = some (a + 3)) (kk : zV G X Q nL cells slots (pc + 3) L (.ref a :: S) M) : zV G X Q nL cells slots pc L (.ref o :: S) M := zV_get h d hF hs hk (v := .ref a) rfl kk
theorem zFs_set {o ci k code : Nat} {x : Int32} {v : Value} (hk : (zFkL.getD ci [])[k]? = some code) (hv : zFv G (zw M o k x) o k code = v) : (zFs G M o ci).set k v = zFs G (zw M o k x) o ci := by
  apply List.ext_getElem?
  intro j
  by_cases hj : j = k
  · subst hj
    rw [zFs_at hk, hv, List.getElem?_set_self]
    unfold zFs
    rw [List.length_mapIdx]
    exact (List.getElem?_eq_some_iff.mp hk).1
  · rw [List.getElem?_set_ne (Ne.symm hj)]
    unfold zFs
    rw [List.getElem?_mapIdx, List.getElem?_mapIdx]
    congr 1
    funext cd
    have hz : (zw M o k x).1 o j = M.1 o j := zw_ne (Or.inr hj)
    match cd with
    | 0 => show Value.int _ = Value.int _; rw [hz]
    | 1 => rfl
    | 2 => show Value.ref (G.1 _) = Value.ref (G.1 _); rw [hz]
    | _ + 3 => rfl
theorem zV_put (h : zOk G X own cc nL) {idx ci k o code : Nat} {x : Int32} {v : Value} {ty : FieldType} (d : decode cc pc = .ok (.putfield idx, 3)) (hF : zF own idx ci k) (hs : zSh o = (ci + 1, 0)) (hk : (zFkL.getD ci [])[k]? = some code) (hv : zFv G (zw M o k x) o k code = zv G v) (hty : ∀ q : vw_C, vwCl[ci]? = some q → (∀ a, a < q.2.2 → ∃ t, parseFieldDescriptor (q.2.1 a).2.2.1 = some t) ∧ (∀ a, a < q.2.2 → ∀ b, b < q.2.2 → a ≠ b → (q.2.1 a).2.1 ≠ (q.2.1 b).2.1) ∧ (q.2.1 k).2.2.2 = false ∧ parseFieldDescriptor (q.2.1 k).2.2.1 = some ty) (hn : narrow ty (zv G v) = zv G v) (hfit : fits ty (zv G v) = true) (kk : zV G X Q nL cells slots (pc + 3) L S (zw M o k x)) : zV G X Q nL cells slots pc L (v :: .ref o :: S) M := by
  intro H locs ls hW hS hl
  obtain ⟨C, T, N, h1, h2, h3, h4, h5⟩ := hF
  obtain ⟨q, hq, hset⟩ := zW_get hW (c := o) (by rw [hs]; exact Nat.succ_ne_zero ci) (zEn_o hs h4)
  obtain ⟨t1, t2, t3, t4⟩ := hty _ h1
  have hex : ∃ f : Nat → FieldType, ∀ a, a < N → parseFieldDescriptor (T a).2.2.1 = some (f a) := by
    refine ⟨fun a => ((parseFieldDescriptor (T a).2.2.1).getD .int), fun a ha => ?_⟩
    obtain ⟨t, ht⟩ := t1 a ha
    have ht : parseFieldDescriptor (T a).2.2.1 = some t := ht
    show parseFieldDescriptor (T a).2.2.1 = some ((parseFieldDescriptor (T a).2.2.1).getD .int)
    rw [ht]; rfl
  obtain ⟨f, hf⟩ := hex
  refine va_put (cl := vwCl) (ref := (T k).1) h.1 h.2.1 h.2.2.2.2.1 (fun w hw => zUin _ (List.mem_of_getElem? h1) w hw) f hf t2 h.2.2.2.1 h.2.2.2.2.2.1 hW.1 hW.2 hS q hq h1 k h2 (h.2.2.2.2.1 _ h5) (fun x hx => hx) t3 t4 hn hfit ?_ d (fun H1 locs1 hP hD hS1 => kk H1 locs1 ls (hset _ _ H1 ?_ (fun a ha => zw_oth ha) hP hD) hS1 hl)
  · unfold zFs
    rw [List.length_mapIdx]
    exact (List.getElem?_eq_some_iff.mp hk).1
  · rw [zEn_o hs h4, zFs_set hk hv]
/-- what a putfield of an int needs of the class's table -/
def zFp (ci k : Nat) (ty : FieldType) : Prop := ∀ q : vw_C, vwCl[ci]? = some q → (∀ a, a < q.2.2 → ∃ t, parseFieldDescriptor (q.2.1 a).2.2.1 = some t) ∧ (∀ a, a < q.2.2 → ∀ b, b < q.2.2 → a ≠ b → (q.2.1 a).2.1 ≠ (q.2.1 b).2.1) ∧ (q.2.1 k).2.2.2 = false ∧ parseFieldDescriptor (q.2.1 k).2.2.1 = some ty
theorem zFp_of {ci k : Nat} {ty : FieldType} (C : String) (T : u_T) (N : Nat) (tyN : Nat → FieldType) (h : vwCl[ci]? = some (C, T, N)) (h1 : ∀ a, a < N → parseFieldDescriptor (T a).2.2.1 = some (tyN a)) (h2 : ∀ a, a < N → ∀ b, b < N → a ≠ b → (T a).2.1 ≠ (T b).2.1) (h3 : (T k).2.2.2 = false ∧ parseFieldDescriptor (T k).2.2.1 = some ty) : zFp ci k ty := by
  intro q hq
  have e : q = (C, T, N) := Option.some.inj (hq.symm.trans h)
  subst e
  exact ⟨fun a ha => ⟨_, h1 a ha⟩, h2, h3.1, h3.2⟩
theorem zV_puti (h : zOk G X own cc nL) {idx ci k o : Nat} {x : Int32} (d : decode cc pc = .ok (.putfield idx, 3)) (hF : zF own idx ci k) (hp : zFp ci k .int) (hs : zSh o = (ci + 1, 0)) (hk : (zFkL.getD ci [])[k]? = some 0) (kk : zV G X Q nL cells slots (pc + 3) L S (zw M o k x)) : zV G X Q nL cells slots pc L (.int x :: .ref o :: S) M := zV_put h d hF hs hk (v := .int x) (ty := .int) (by show Value.int ((zw M o k x).1 o k) = _; rw [zw_same]; rfl) hp rfl rfl kk
theorem zV_putp (h : zOk G X own cc nL) {idx ci k o a : Nat} {nm : String} (d : decode cc pc = .ok (.putfield idx, 3)) (hF : zF own idx ci k) (hp : zFp ci k (.object nm)) (hs : zSh o = (ci + 1, 0)) (hk : (zFkL.getD ci [])[k]? = some 2) (ha : a < 2 ^ 31) (kk : zV G X Q nL cells slots (pc + 3) L S (zw M o k (nI a))) : zV G X Q nL cells slots pc L (.ref a :: .ref o :: S) M := zV_put h d hF hs hk (v := .ref a) (ty := .object nm) (by show Value.ref (G.1 ((zw M o k (nI a)).1 o k).toNatClampNeg) = _; rw [zw_same, nI_clamp ha]; rfl) hp rfl rfl kk
theorem zV_from (h : zOk G X own cc nL) {idx : Nat} (d : decode cc pc = .ok (.getstatic idx, 3)) (hw : Cond.fieldLink own idx "OralOrders$Oral" "FROM" "[I" ∈ zT) (kk : zV G X Q nL cells slots (pc + 3) L (.ref 4001 :: S) M) : zV G X Q nL cells slots pc L S M := fun H locs ls hW hS hl => va_gets h.1 h.2.1 h.2.2.2.2.2.2.1.1 hS h.2.2.2.1 (h.2.2.2.2.1 _ hw) (fun x hx => hx) d (kk H locs ls hW hS hl)
theorem zV_ifrom (h : zOk G X own cc nL) {i v : Int32} {j : Nat} (d : decode cc pc = .ok (.iaload, 1)) (hi : i = nI j) (hj : j < 5) (hv : zFROM.getD j 0 = v) (kk : zV G X Q nL cells slots (pc + 1) L (.int v :: S) M) : zV G X Q nL cells slots pc L (.int i :: .ref 4001 :: S) M := by
  intro H locs ls hW hS hl
  subst hi
  have hcl : (nI j).toNatClampNeg = j := nI_clamp (by omega)
  exact va_ti h.1 h.2.1 h.2.2.2.2.2.2.1.2.1 hS (vp_in_nI hj (by decide)) (v := .int v) (by rw [hcl, hv]) d (kk H locs ls hW hS hl)
-- names for what stands on the stack, in the memory, among the locals
theorem zV_topi {x : Int32} (y : Int32) (e : x = y) (k : zV G X Q nL cells slots pc L (.int y :: S) M) : zV G X Q nL cells slots pc L (.int x :: S) M := e ▸ k
theorem zV_mem {M' : zM} (e : M = M') (k : zV G X Q nL cells slots pc L S M') : zV G X Q nL cells slots pc L S M := e ▸ k
theorem zV_gen (k : ∀ M1 : zM, M1 = M → zV G X Q nL cells slots pc L S M1) : zV G X Q nL cells slots pc L S M := k M rfl
theorem zV_loc {L' : List Value} (e : L = L') (k : zV G X Q nL cells slots pc L' S M) : zV G X Q nL cells slots pc L S M := e ▸ k
-- contracts
def zRm (d : Nat) : Room := { frames := d + 1, cells := 0, slots := 0, locals := 100 * d + 100 }
def zPc (G : zG) (av : List Value) (M : zM) (sz : Nat) : Array Value → State → Prop := va_Pc (av.map (zv G)) (fun U => U.heap.size = sz ∧ zW G (zA G sz) M U.heap ∧ va_K G.2.1 vwCl (zTy G) U ∧ zSt G (zA G sz) U U.heap)
def zQc (G : zG) (post : Option Value → zM → Prop) (sz : Nat) : Array Value → State → Outcome → State → Prop := fun _ st oc t => (∃ (v : Option Value) (M' : zM), oc = .returned (v.map (zv G)) ∧ post v M' ∧ zW G (zA G sz) M' t.heap) ∧ va_F (zA G sz) st t
theorem zPc_blind {av : List Value} {sz : Nat} : FrameBlind (zPc G av M sz) := by
  intro a U g mk hp
  obtain ⟨h1, h2, h3, h4, h5⟩ := hp
  exact ⟨h1, h2, h3, va_K.moved (u := U) (U := U.calling g mk a) (Vm.Alike.refl U.vm) h4, h5.next (State.WarmedH.refl U) (fun _ _ _ => rfl) (fun _ h => h)⟩
/-- the contract of a method that draws nothing, makes nothing, throws nothing: from the arguments av and the memory M it comes to 'post' -/
def zC (l : Launch) (G : zG) (d : Nat) (y : MethodName) (cc : ByteArray) (nL : Nat) (ret : Option FieldType) (av : List Value) (M : zM) (post : Option Value → zM → Prop) : Prop :=
  ∀ sz : Nat, Met l y (.code y cc nL ret :: zT) (zRm d) (zPc G av M sz) (zQc G post sz) 0 0 (zA G sz)
def zE : List Value → List Value
  | [] => []
  | v :: r => if v.category = 2 then v :: .null :: zE r else v :: zE r
theorem zE_in : ∀ (av : List Value) (i : Nat) (q : Nat × Value), q ∈ zL G i (zE av) → q ∈ lv_args i (av.map (zv G))
  | [], _, _, h => by simp [zE, zL] at h
  | v :: r, i, q, h => by
    show q ∈ (i, zv G v) :: lv_args (if (zv G v).category = 2 then i + 2 else i + 1) (r.map (zv G))
    rw [zv_cat]
    unfold zE at h
    by_cases hc : v.category = 2
    · rw [if_pos hc] at h ⊢
      rw [zL_cons, zL_cons, if_pos (rfl : Value.null = Value.null)] at h
      split at h
      · exact List.mem_cons_of_mem _ (zE_in r (i + 2) q h)
      · rcases List.mem_cons.mp h with h | h
        · rw [h]; exact List.mem_cons_self
        · exact List.mem_cons_of_mem _ (zE_in r (i + 2) q h)
    · rw [if_neg hc] at h ⊢
      rw [zL_cons] at h
      split at h
      · exact List.mem_cons_of_mem _ (zE_in r (i + 1) q h)
      · rcases List.mem_cons.mp h with h | h
        · rw [h]; exact List.mem_cons_self
        · exact List.mem_cons_of_mem _ (zE_in r (i + 1) q h)
theorem zL_pad : ∀ (L : List Value) (n i : Nat) (q : Nat × Value), q ∈ zL G i (L ++ List.replicate n .null) → q ∈ zL G i L
  | [], 0, _, _, h => by simpa using h
  | [], n + 1, i, q, h => by
    rw [List.nil_append, List.replicate_succ, zL_cons, if_pos rfl] at h
    have := zL_pad [] n (i + 1) q (by simpa using h)
    simp [zL] at this
  | v :: r, n, i, q, h => by
    rw [List.cons_append, zL_cons] at h
    rw [zL_cons]
    split at h
    · rename_i hv
      rw [if_pos hv]
      exact zL_pad r n (i + 1) q h
    · rename_i hv
      rw [if_neg hv]
      rcases List.mem_cons.mp h with h | h
      · rw [h]; exact List.mem_cons_self
      · exact List.mem_cons_of_mem _ (zL_pad r n (i + 1) q h)
/-- what a body must reach -/
abbrev zQ (G : zG) (X : zX) (post : Option Value → zM → Prop) : State → Prop := MQ X.2.2.2.2.2.2.2.1 (zQc G post X.2.2.2.2.1.heap.size) X.2.2.2.2.2.2.1 X.2.2.2.2.1 0 0 (zA G X.2.2.2.2.1.heap.size)
theorem zC_of {l : Launch} {d : Nat} {y : MethodName} {cc : ByteArray} {nL : Nat} {ret : Option FieldType} {av : List Value} {post : Option Value → zM → Prop} (hy : plainName y.cls = true) (hn : (lg_sl (av.map (zv G))).length ≤ nL)
    (body : ∀ (X : zX) (Q : State → Prop), zQ G X post = Q → zOk G X y.cls cc nL → X.2.1 = l → X.2.2.2.1 = zRm d → X.2.2.2.2.2.2.2.2.1.sig.returnType = ret → zV G X Q nL 0 0 0 (zE av ++ List.replicate (nL - (zE av).length) .null) [] M) : zC l G d y cc nL ret av M post := by
  intro sz
  refine Met.ofW (cc := cc) (maxL := nL) (ret := ret) hy rfl ?_
  intro p e s m args below meth c s₁ B hml hv
  obtain ⟨rfl, hsz, hW, hK, hSt⟩ := hv
  subst hsz
  have hts := atoms_spec (ws := .code y cc nL ret :: zT) B.pre
  have hl := lv_entry (av.map (zv G)) (n := nL) hn
  have hb := body (p, l, e, zRm d, s, m, (av.map (zv G)).toArray, below, meth, c) _ rfl ⟨B.exec, B.bytes, hml, findClass_of_methodNamed B.named, fun w hw => hts w (List.mem_cons_of_mem _ hw), hK, hSt, B.notSynchronized⟩ rfl rfl B.returns
  rw [lg_entry_eq]
  exact hb s.heap [] _ hW va_S.rf ⟨hl.1, hl.2.1, fun q hq => hl.2.2 q (zE_in av 0 q (zL_pad _ _ _ q hq))⟩
-- ends
theorem zV_reti {post : Option Value → zM → Prop} (h : zOk G X own cc nL) (hQ : zQ G X post = Q) (hr : X.2.2.2.2.2.2.2.2.1.sig.returnType = some .int) {x : Int32} (hp : post (some (.int x)) M) (d : decode cc pc = .ok (.ireturn, 1)) : zV G X Q nL 0 0 pc L [.int x] M := hQ ▸ fun H locs ls hW hS hl => W.iret h.1 h.2.1 hr (fun t ht hWm => ⟨⟨some (.int x), M, rfl, hp, by rw [ht]; exact hW⟩, hS.F ht⟩) hS.2.2 d (hlocks := h.2.2.2.2.2.2.2)
theorem zV_retz {post : Option Value → zM → Prop} {ty : FieldType} (h : zOk G X own cc nL) (hQ : zQ G X post = Q) (hr : X.2.2.2.2.2.2.2.2.1.sig.returnType = some ty) {x : Int32} (hn : narrow ty (.int x) = .int x) (hp : post (some (.int x)) M) (d : decode cc pc = .ok (.ireturn, 1)) : zV G X Q nL 0 0 pc L [.int x] M := hQ ▸ fun H locs ls hW hS hl => W.zret h.1 h.2.1 hr hn (fun t ht hWm => ⟨⟨some (.int x), M, rfl, hp, by rw [ht]; exact hW⟩, hS.F ht⟩) hS.2.2 d (hlocks := h.2.2.2.2.2.2.2)
theorem zV_retl {post : Option Value → zM → Prop} (h : zOk G X own cc nL) (hQ : zQ G X post = Q) (hr : X.2.2.2.2.2.2.2.2.1.sig.returnType = some .long) {x : Int64} (hp : post (some (.long x)) M) (d : decode cc pc = .ok (.lreturn, 1)) : zV G X Q nL 0 0 pc L [.long x] M := hQ ▸ fun H locs ls hW hS hl => W.lret h.1 h.2.1 hr (fun t ht hWm => ⟨⟨some (.long x), M, rfl, hp, by rw [ht]; exact hW⟩, hS.F ht⟩) hS.2.2 d (hlocks := h.2.2.2.2.2.2.2)
theorem zV_retf {post : Option Value → zM → Prop} (h : zOk G X own cc nL) (hQ : zQ G X post = Q) (hr : X.2.2.2.2.2.2.2.2.1.sig.returnType = some .float) {x : UInt32} (hp : post (some (.float x)) M) (d : decode cc pc = .ok (.freturn, 1)) : zV G X Q nL 0 0 pc L [.float x] M := hQ ▸ fun H locs ls hW hS hl => W.fret h.1 h.2.1 hr (fun t ht hWm => ⟨⟨some (.float x), M, rfl, hp, by rw [ht]; exact hW⟩, hS.F ht⟩) hS.2.2 d (hlocks := h.2.2.2.2.2.2.2)
theorem zV_retd {post : Option Value → zM → Prop} (h : zOk G X own cc nL) (hQ : zQ G X post = Q) (hr : X.2.2.2.2.2.2.2.2.1.sig.returnType = some .double) {x : UInt64} (hp : post (some (.double x)) M) (d : decode cc pc = .ok (.dreturn, 1)) : zV G X Q nL 0 0 pc L [.double x] M := hQ ▸ fun H locs ls hW hS hl => W.dret h.1 h.2.1 hr (fun t ht hWm => ⟨⟨some (.double x), M, rfl, hp, by rw [ht]; exact hW⟩, hS.F ht⟩) hS.2.2 d (hlocks := h.2.2.2.2.2.2.2)
theorem zV_retv {post : Option Value → zM → Prop} (h : zOk G X own cc nL) (hQ : zQ G X post = Q) (hr : X.2.2.2.2.2.2.2.2.1.sig.returnType = none) (hp : post none M) (d : decode cc pc = .ok (.return_, 1)) : zV G X Q nL 0 0 pc L [] M := hQ ▸ fun H locs ls hW hS hl => W.vret h.1 h.2.1 hr (fun t ht hWm => ⟨⟨none, M, rfl, hp, by rw [ht]; exact hW⟩, hS.F ht⟩) hS.2.2 d (hlocks := h.2.2.2.2.2.2.2)
-- calls
def zTg1 (y : MethodName) (cc : ByteArray) (nL : Nat) (ret : Option FieldType) (n : Nat) : Prop :=
  Cond.code y cc nL ret ∈ zT ∧ Cond.initialized y.cls ∈ zT ∧ nL ≤ 80 ∧ (y.cls ≠ "java/lang/invoke/MethodHandle" ∧ y.cls ≠ "java/lang/invoke/VarHandle" ∧ (parseMethodDescriptor y.desc).map (fun d => d.parameters.length) = some n)
def zTgV (y : MethodName) (cc : ByteArray) (nL : Nat) (ret : Option FieldType) (n ci : Nat) : Prop := zTg1 y cc nL ret n ∧ Cond.instanceMethod y ∈ zT ∧ Cond.selects y.cls y y ∈ zT ∧ ∃ (T : u_T) (N : Nat), vwCl[ci]? = some (y.cls, T, N)
def zTgS (y : MethodName) (cc : ByteArray) (nL : Nat) (ret : Option FieldType) (n : Nat) : Prop := zTg1 y cc nL ret n ∧ Cond.static y ∈ zT
theorem zGood {y : MethodName} {cc : ByteArray} {nL : Nat} {ret : Option FieldType} (h : Cond.code y cc nL ret ∈ zT) : GoodIn zT (.code y cc nL ret :: zT) := by
  intro w hw
  have hm : w ∈ zT := (List.mem_cons.mp hw).elim (fun e => e ▸ h) id
  exact ⟨hm, good_of_word (zTg w hm)⟩
theorem zCat (S : List Value) : ((S.map (zv G)).map fun v => v.category).sum = (S.map fun v => v.category).sum := by
  rw [List.map_map]
  congr 1
  apply List.map_congr_left
  intro v _
  exact zv_cat G v
theorem zV_go {D d mc : Nat} {y : MethodName} {cc2 : ByteArray} {nL2 : Nat} {ret : Option FieldType} {As : List Value} {post : Option Value → zM → Prop} {st0 : List Value} (kk : ∀ (r : Option Value) (M' : zM), post r M' → zV G X Q nL cells slots (pc + 3) L (r.toList ++ S) M')
    {H : Heap} {locs : List Loc} {ls : Array Slot} {a : Array Value} (hS : va_S (zA G X.2.2.2.2.1.heap.size) X.2.2.2.2.1.heap H locs) (hl : lv_has ls nL (zL G 0 L))
    (hr : va_Run X.1 X.2.1 X.2.2.1 X.2.2.2.1 X.2.2.2.2.1 X.2.2.2.2.2.1 X.2.2.2.2.2.2.1 X.2.2.2.2.2.2.2.1 X.2.2.2.2.2.2.2.2.1 X.2.2.2.2.2.2.2.2.2 H locs cells slots 0 0 (F0 X.2.2.2.2.2.1 pc ls st0) (S.map (zv G)) (zQc G post H.size a) (zA G H.size)) :
    W X.1 X.2.1 X.2.2.1 X.2.2.2.1 X.2.2.2.2.1 X.2.2.2.2.2.1 X.2.2.2.2.2.2.1 X.2.2.2.2.2.2.2.1 X.2.2.2.2.2.2.2.2.1 X.2.2.2.2.2.2.2.2.2 H locs cells slots Q (F0 X.2.2.2.2.2.1 pc ls st0) := by
  intro T hT Xs
  obtain ⟨v, st₀, t, T', L', h0, X', hL, e1, e2, ⟨⟨r, M', hv, hp', hw'⟩, hF⟩, st⟩ := hr T hT Xs
  cases hv
  obtain ⟨k1, k2, k3⟩ := vx_keep h0 e1 hS (fun q _ hq => zA_sub hS.1 hq) (fun q hq => zA_sub hS.1 hq) hL hF
  have hz : zW G (zA G X.2.2.2.2.1.heap.size) M' T'.heap := by rw [e1]; exact zW_A hw' (fun q hq => zA_sub (Nat.le_refl _) hq)
  obtain ⟨t2, a1, b1⟩ := kk r M' hp' T'.heap (locs ++ L') ls hz k3 hl T' rfl X'
  refine ⟨t2, st t2 ?_, b1⟩
  have e : ((r.toList ++ S).map (zv G)) = (r.map (zv G)).toList ++ S.map (zv G) := by cases r <;> simp
  rw [← e]
  exact a1
theorem zPre {As : List Value} {H : Heap} {own2 : String} {cc2 : ByteArray} {locs : List Loc} (h : zOk G X own cc nL) (hW : zW G (zA G X.2.2.2.2.1.heap.size) M H) (hS : va_S (zA G X.2.2.2.2.1.heap.size) X.2.2.2.2.1.heap H locs) : ∀ U : State, U.heap = H → X.2.2.2.2.1.WarmedH U.vm → zPc G As M H.size (As.map (zv G)).toArray U := by
  intro U hU hWm
  refine ⟨rfl, by rw [hU], by rw [hU]; exact zW_A (sz := H.size) hW (fun q hq => hq), va_K.moved hWm.alike h.2.2.2.2.2.1, h.2.2.2.2.2.2.1.next hWm (fun a ha hA => by rw [hU]; exact hS.2.1 a ha hA) (fun q hq => zA_sub hS.1 hq)⟩
theorem zV_callV (h : zOk G X own cc nL) {D d : Nat} (hR : X.2.2.2.1 = zRm D) (hd : d < D) {l : Launch} (hlc : X.2.1 = l) {y : MethodName} {cc2 : ByteArray} {nL2 n ci idx o : Nat} {ret : Option FieldType} {As : List Value} {post : Option Value → zM → Prop} (hC : zC l G d y cc2 nL2 ret (.ref o :: As) M post) (hT : zTgV y cc2 nL2 ret n ci) (hm : Cond.methodLink own idx y ∈ zT) (hs : zSh o = (ci + 1, 0)) (hci : ci < 19) (hn : As.length = n) (hroom : (S.map fun v => v.category).sum ≤ 8) (hdg : decode cc pc = .ok (.invokevirtual idx, 3))
    (kk : ∀ (r : Option Value) (M' : zM), post r M' → zV G X Q nL cells slots (pc + 3) L (r.toList ++ S) M') (hcs : cells ≤ 0 ∧ slots ≤ 0) : zV G X Q nL cells slots pc L (As.reverse ++ .ref o :: S) M := by
  intro H locs ls hW hS hl
  subst hlc
  obtain ⟨⟨t1, t2, t3, t4⟩, t5, t6, T, N, t7⟩ := hT
  obtain ⟨q, hq, -⟩ := zW_get hW (c := o) (by rw [hs]; exact Nat.succ_ne_zero ci) (zEn_o hs hci)
  have hgood : GoodIn zT (wsV own idx y.cls y (.code y cc2 nL2 ret :: zT)) := by
    intro w hw
    have hm : w ∈ zT := by
      unfold wsV at hw
      simp only [List.cons_append, List.nil_append, List.mem_cons] at hw
      rcases hw with rfl | rfl | rfl | rfl | rfl | hw
      · exact hm
      · exact t5
      · exact t6
      · exact t2
      · exact t1
      · exact hw
    exact ⟨hm, good_of_word (zTg w hm)⟩
  have e : ((As.reverse ++ .ref o :: S).map (zv G)) = (As.map (zv G)).reverse ++ .ref (G.1 o) :: S.map (zv G) := by simp [zv]
  rw [e]
  refine zV_go (D := D) (d := d) (mc := 0) (y := y) (cc2 := cc2) (nL2 := nL2) (ret := ret) (As := As) kk hS hl (va_runV (Ts := zT) (As := As.map (zv G)) (n := n) ⟨h.1, h.2.1, h.2.2.1, h.2.2.2.1, h.2.2.2.2.1⟩ (hC H.size) (cwV n h.2.2.2.2.1 hgood rfl rfl rfl ⟨rfl, t4⟩ ⟨?_, ?_⟩) ⟨zPc_blind, va_recv h.2.2.2.2.2.1 hW.1 t7 hq, zPre (As := .ref o :: As) (own2 := own) (cc2 := cc) h hW hS⟩ rfl (by rw [List.length_map]; exact hn) hl.1 rfl (lv_room (by rw [zCat]; exact hroom)) hdg ⟨?_, ?_⟩)
  · rw [hR]; show d + 1 + 1 ≤ D + 1; omega
  · rw [hR]; show 8 + (nL2 + 11) + (100 * d + 100) ≤ 100 * D + 100; omega
  · have := hcs.1; omega
  · have := hcs.2; omega
theorem zV_callS (h : zOk G X own cc nL) {D d : Nat} (hR : X.2.2.2.1 = zRm D) (hd : d < D) {l : Launch} (hlc : X.2.1 = l) {y : MethodName} {cc2 : ByteArray} {nL2 n idx : Nat} {ret : Option FieldType} {As : List Value} {post : Option Value → zM → Prop} (hC : zC l G d y cc2 nL2 ret As M post) (hT : zTgS y cc2 nL2 ret n) (hm : Cond.methodLink own idx y ∈ zT) (hn : As.length = n) (hroom : (S.map fun v => v.category).sum ≤ 8) (hdg : decode cc pc = .ok (.invokestatic idx, 3))
    (kk : ∀ (r : Option Value) (M' : zM), post r M' → zV G X Q nL cells slots (pc + 3) L (r.toList ++ S) M') (hcs : cells ≤ 0 ∧ slots ≤ 0) : zV G X Q nL cells slots pc L (As.reverse ++ S) M := by
  intro H locs ls hW hS hl
  subst hlc
  obtain ⟨⟨t1, t2, t3, t4⟩, t5⟩ := hT
  have hgood : GoodIn zT (va_wsS own idx y (.code y cc2 nL2 ret :: zT)) := by
    intro w hw
    have hm : w ∈ zT := by
      unfold va_wsS at hw
      simp only [List.cons_append, List.nil_append, List.mem_cons] at hw
      rcases hw with rfl | rfl | rfl | rfl | hw
      · exact hm
      · exact t5
      · exact t2
      · exact t1
      · exact hw
    exact ⟨hm, good_of_word (zTg w hm)⟩
  have e : ((As.reverse ++ S).map (zv G)) = (As.map (zv G)).reverse ++ S.map (zv G) := by simp
  rw [e]
  refine zV_go (D := D) (d := d) (mc := 0) (y := y) (cc2 := cc2) (nL2 := nL2) (ret := ret) (As := As) kk hS hl (va_runS (Ts := zT) (As := As.map (zv G)) (n := n) ⟨h.1, h.2.1, h.2.2.1, h.2.2.2.1, h.2.2.2.2.1⟩ (hC H.size) (va_cwS n h.2.2.2.2.1 hgood rfl rfl rfl t4 ⟨?_, ?_⟩) ⟨zPc_blind, zPre (As := As) (own2 := own) (cc2 := cc) h hW hS⟩ rfl (by rw [List.length_map]; exact hn) hl.1 rfl (lv_room (by rw [zCat]; exact hroom)) hdg ⟨?_, ?_⟩)
  · rw [hR]; show d + 1 + 1 ≤ D + 1; omega
  · rw [hR]; show 8 + (nL2 + 11) + (100 * d + 100) ≤ 100 * D + 100; omega
  · have := hcs.1; omega
  · have := hcs.2; omega

def zP (v : Option Value) (M : zM) : Option Value → zM → Prop := fun r M1 => r = v ∧ M1 = M
theorem zV_iaddN (h : zOk G X own cc nL) {a b : Nat} (d : decode cc pc = .ok (.iadd, 1)) (k : zV G X Q nL cells slots (pc + 1) L (.int (nI (a + b)) :: S) M) : zV G X Q nL cells slots pc L (.int (nI b) :: .int (nI a) :: S) M := zV_iadd h d (zV_topi _ (nI_add a b) k)
theorem zV_imulN (h : zOk G X own cc nL) {a b : Nat} (d : decode cc pc = .ok (.imul, 1)) (k : zV G X Q nL cells slots (pc + 1) L (.int (nI (a * b)) :: S) M) : zV G X Q nL cells slots pc L (.int (nI b) :: .int (nI a) :: S) M := zV_imul h d (zV_topi _ (pk_mul a b) k)
theorem zV_isubN (h : zOk G X own cc nL) {a b : Nat} (d : decode cc pc = .ok (.isub, 1)) (hb : b ≤ a) (k : zV G X Q nL cells slots (pc + 1) L (.int (nI (a - b)) :: S) M) : zV G X Q nL cells slots pc L (.int (nI b) :: .int (nI a) :: S) M := zV_isub h d (zV_topi _ (pk_sub hb) k)
theorem nI_nz {b : Nat} (h0 : 0 < b) (hb : b < 2 ^ 31) : ¬ nI b = 0 := nI_ne0 h0 hb
theorem zV_idivN (h : zOk G X own cc nL) {a b : Nat} (d : decode cc pc = .ok (.idiv, 1)) (hb : a < 2 ^ 31 ∧ 0 < b ∧ b < 2 ^ 31) (k : zV G X Q nL cells slots (pc + 1) L (.int (nI (a / b)) :: S) M) : zV G X Q nL cells slots pc L (.int (nI b) :: .int (nI a) :: S) M := zV_idiv h d (nI_nz hb.2.1 hb.2.2) (zV_topi _ (pk_div hb.1 hb.2.1 hb.2.2) k)
theorem zV_iremN (h : zOk G X own cc nL) {a b : Nat} (d : decode cc pc = .ok (.irem, 1)) (hb : a < 2 ^ 31 ∧ 0 < b ∧ b < 2 ^ 31) (k : zV G X Q nL cells slots (pc + 1) L (.int (nI (a % b)) :: S) M) : zV G X Q nL cells slots pc L (.int (nI b) :: .int (nI a) :: S) M := zV_irem h d (nI_nz hb.2.1 hb.2.2) (zV_topi _ (pk_rem hb.1 hb.2.1 hb.2.2) k)
theorem nI_inc (a k : Nat) : nI a + Int32.ofInt (k : Int) = nI (a + k) := by
  rw [show Int32.ofInt (k : Int) = nI k from (by simp [nI, Int32.ofInt, Int32.ofNat, Int32.ofBitVec])]
  exact nI_add a k
theorem zV_iincN (h : zOk G X own cc nL) {k9 a b : Nat} (d : decode cc pc = .ok (.iinc k9 (b : Int), 3)) (hx : L[k9]? = some (.int (nI a))) (hn : k9 < nL) (k : zV G X Q nL cells slots (pc + 3) (zst1 L k9 (.int (nI (a + b)))) S M) : zV G X Q nL cells slots pc L S M := zV_iinc h d hx (nI_inc a b) hn k
theorem nI_z {a : Nat} (ha : a < 2 ^ 31) : nI a = 0 ↔ a = 0 := nI_eq ha (by decide)
theorem nI_0lt {a : Nat} (ha : a < 2 ^ 31) : 0 < nI a ↔ 0 < a := nI_ltI (a := 0) (by decide) ha
theorem nI_le0 {a : Nat} (ha : a < 2 ^ 31) : nI a ≤ 0 ↔ a = 0 := (nI_leI (b := 0) ha (by decide)).trans Nat.le_zero
theorem zV_if_eqN (h : zOk G X own cc nL) {a : Nat} {off : Int} {tgt : Nat} (d : decode cc pc = .ok (.ifCond .eq off, 3)) (ht : (pc : Int) + off = (tgt : Int)) (ha : a < 2 ^ 31) (kt : a = 0 → zV G X Q nL cells slots tgt L S M) (kf : 0 < a → zV G X Q nL cells slots (pc + 3) L S M) : zV G X Q nL cells slots pc L (.int (nI a) :: S) M := zV_if_eq h d ht (fun q => kt ((nI_z ha).mp q)) (fun q => kf (Nat.pos_of_ne_zero (fun e => q ((nI_z ha).mpr e))))
theorem zV_if_neN (h : zOk G X own cc nL) {a : Nat} {off : Int} {tgt : Nat} (d : decode cc pc = .ok (.ifCond .ne off, 3)) (ht : (pc : Int) + off = (tgt : Int)) (ha : a < 2 ^ 31) (kt : 0 < a → zV G X Q nL cells slots tgt L S M) (kf : a = 0 → zV G X Q nL cells slots (pc + 3) L S M) : zV G X Q nL cells slots pc L (.int (nI a) :: S) M := zV_if_ne h d ht (fun q => kt (Nat.pos_of_ne_zero (fun e => q ((nI_z ha).mpr e)))) (fun q => kf ((nI_z ha).mp q))
theorem zV_if_ltN (h : zOk G X own cc nL) {a : Nat} {off : Int} {tgt : Nat} (d : decode cc pc = .ok (.ifCond .lt off, 3)) (ht : (pc : Int) + off = (tgt : Int)) (ha : a < 2 ^ 31) (kf : True → zV G X Q nL cells slots (pc + 3) L S M) : zV G X Q nL cells slots pc L (.int (nI a) :: S) M := zV_if_lt h d ht (fun q => absurd q (nI_pos ha)) (fun q => kf trivial)
theorem zV_if_geN (h : zOk G X own cc nL) {a : Nat} {off : Int} {tgt : Nat} (d : decode cc pc = .ok (.ifCond .ge off, 3)) (ht : (pc : Int) + off = (tgt : Int)) (ha : a < 2 ^ 31) (kt : True → zV G X Q nL cells slots tgt L S M) : zV G X Q nL cells slots pc L (.int (nI a) :: S) M := zV_if_ge h d ht (fun q => kt trivial) (fun q => absurd (nI_pos' ha) q)
theorem zV_if_gtN (h : zOk G X own cc nL) {a : Nat} {off : Int} {tgt : Nat} (d : decode cc pc = .ok (.ifCond .gt off, 3)) (ht : (pc : Int) + off = (tgt : Int)) (ha : a < 2 ^ 31) (kt : 0 < a → zV G X Q nL cells slots tgt L S M) (kf : a = 0 → zV G X Q nL cells slots (pc + 3) L S M) : zV G X Q nL cells slots pc L (.int (nI a) :: S) M := zV_if_gt h d ht (fun q => kt ((nI_0lt ha).mp q)) (fun q => kf (Nat.eq_zero_of_not_pos (fun e => q ((nI_0lt ha).mpr e))))
theorem zV_if_leN (h : zOk G X own cc nL) {a : Nat} {off : Int} {tgt : Nat} (d : decode cc pc = .ok (.ifCond .le off, 3)) (ht : (pc : Int) + off = (tgt : Int)) (ha : a < 2 ^ 31) (kt : a = 0 → zV G X Q nL cells slots tgt L S M) (kf : 0 < a → zV G X Q nL cells slots (pc + 3) L S M) : zV G X Q nL cells slots pc L (.int (nI a) :: S) M := zV_if_le h d ht (fun q => kt ((nI_le0 ha).mp q)) (fun q => kf (Nat.pos_of_ne_zero (fun e => q ((nI_le0 ha).mpr e))))
theorem zV_icmp_eqN (h : zOk G X own cc nL) {a b : Nat} {off : Int} {tgt : Nat} (d : decode cc pc = .ok (.if_icmp .eq off, 3)) (ht : (pc : Int) + off = (tgt : Int)) (ha : a < 2 ^ 31 ∧ b < 2 ^ 31) (kt : a = b → zV G X Q nL cells slots tgt L S M) (kf : a ≠ b → zV G X Q nL cells slots (pc + 3) L S M) : zV G X Q nL cells slots pc L (.int (nI b) :: .int (nI a) :: S) M := zV_icmp_eq h d ht (fun q => kt ((nI_eq ha.1 ha.2).mp q)) (fun q => kf (fun e => q ((nI_eq ha.1 ha.2).mpr e)))
theorem zV_icmp_neN (h : zOk G X own cc nL) {a b : Nat} {off : Int} {tgt : Nat} (d : decode cc pc = .ok (.if_icmp .ne off, 3)) (ht : (pc : Int) + off = (tgt : Int)) (ha : a < 2 ^ 31 ∧ b < 2 ^ 31) (kt : a ≠ b → zV G X Q nL cells slots tgt L S M) (kf : a = b → zV G X Q nL cells slots (pc + 3) L S M) : zV G X Q nL cells slots pc L (.int (nI b) :: .int (nI a) :: S) M := zV_icmp_ne h d ht (fun q => kt (fun e => q ((nI_eq ha.1 ha.2).mpr e))) (fun q => kf ((nI_eq ha.1 ha.2).mp q))
theorem zV_icmp_ltN (h : zOk G X own cc nL) {a b : Nat} {off : Int} {tgt : Nat} (d : decode cc pc = .ok (.if_icmp .lt off, 3)) (ht : (pc : Int) + off = (tgt : Int)) (ha : a < 2 ^ 31 ∧ b < 2 ^ 31) (kt : a < b → zV G X Q nL cells slots tgt L S M) (kf : b ≤ a → zV G X Q nL cells slots (pc + 3) L S M) : zV G X Q nL cells slots pc L (.int (nI b) :: .int (nI a) :: S) M := zV_icmp_lt h d ht (fun q => kt ((nI_ltI ha.1 ha.2).mp q)) (fun q => kf (Nat.le_of_not_lt (fun e => q ((nI_ltI ha.1 ha.2).mpr e))))
theorem zV_icmp_geN (h : zOk G X own cc nL) {a b : Nat} {off : Int} {tgt : Nat} (d : decode cc pc = .ok (.if_icmp .ge off, 3)) (ht : (pc : Int) + off = (tgt : Int)) (ha : a < 2 ^ 31 ∧ b < 2 ^ 31) (kt : b ≤ a → zV G X Q nL cells slots tgt L S M) (kf : a < b → zV G X Q nL cells slots (pc + 3) L S M) : zV G X Q nL cells slots pc L (.int (nI b) :: .int (nI a) :: S) M := zV_icmp_ge h d ht (fun q => kt ((nI_leI ha.2 ha.1).mp q)) (fun q => kf (Nat.lt_of_not_le (fun e => q ((nI_leI ha.2 ha.1).mpr e))))
theorem zV_icmp_gtN (h : zOk G X own cc nL) {a b : Nat} {off : Int} {tgt : Nat} (d : decode cc pc = .ok (.if_icmp .gt off, 3)) (ht : (pc : Int) + off = (tgt : Int)) (ha : a < 2 ^ 31 ∧ b < 2 ^ 31) (kt : b < a → zV G X Q nL cells slots tgt L S M) (kf : a ≤ b → zV G X Q nL cells slots (pc + 3) L S M) : zV G X Q nL cells slots pc L (.int (nI b) :: .int (nI a) :: S) M := zV_icmp_gt h d ht (fun q => kt ((nI_ltI ha.2 ha.1).mp q)) (fun q => kf (Nat.le_of_not_lt (fun e => q ((nI_ltI ha.2 ha.1).mpr e))))
theorem zV_icmp_leN (h : zOk G X own cc nL) {a b : Nat} {off : Int} {tgt : Nat} (d : decode cc pc = .ok (.if_icmp .le off, 3)) (ht : (pc : Int) + off = (tgt : Int)) (ha : a < 2 ^ 31 ∧ b < 2 ^ 31) (kt : a ≤ b → zV G X Q nL cells slots tgt L S M) (kf : b < a → zV G X Q nL cells slots (pc + 3) L S M) : zV G X Q nL cells slots pc L (.int (nI b) :: .int (nI a) :: S) M := zV_icmp_le h d ht (fun q => kt ((nI_leI ha.1 ha.2).mp q)) (fun q => kf (Nat.lt_of_not_le (fun e => q ((nI_leI ha.1 ha.2).mpr e))))
theorem zV_case (j : Nat) {x : Int32} (kt : x = nI j → zV G X Q nL cells slots pc L (.int (nI j) :: S) M) (kf : x ≠ nI j → zV G X Q nL cells slots pc L (.int x :: S) M) : zV G X Q nL cells slots pc L (.int x :: S) M := by
  by_cases e : x = nI j
  · exact zV_topi (nI j) e (kt e)
  · exact kf e
theorem zsw_out {x : Int32} (n : Nat) (hn : n < 2 ^ 31) (h : ∀ j : Nat, j ≤ n → x ≠ nI j) : x.toInt < 0 ∨ (n : Int) < x.toInt := by
  rcases Int.lt_or_le x.toInt 0 with q | q
  · exact Or.inl q
  · refine Or.inr (Int.lt_of_not_ge fun q2 => ?_)
    have h0 : ¬ x < 0 := fun z => by
      have := Int32.lt_iff_toInt_lt.mp z
      simp at this
      omega
    obtain ⟨j, hj, rfl⟩ := nI_of h0
    rw [nI_toInt hj] at q2
    exact h j (by omega) rfl
theorem zV_cV0 (h : zOk G X own cc nL) {D d0 : Nat} (hR : X.2.2.2.1 = zRm D) {l : Launch} (hlc : X.2.1 = l) {y : MethodName} {cc2 : ByteArray} {nL2 n ci idx o : Nat} {ret : Option FieldType} {post : Option Value → zM → Prop} (hdg : decode cc pc = .ok (.invokevirtual idx, 3)) (hC : zC l G d0 y cc2 nL2 ret (.ref o :: []) M post) (hT : zTgV y cc2 nL2 ret n ci) (hn : 0 = n) (hm : Cond.methodLink own idx y ∈ zT) (hs : zSh o = (ci + 1, 0)) (hci : ci < 19 ∧ d0 < D) (hroom : (S.map fun v => v.category).sum ≤ 8) (kk : ∀ (r : Option Value) (M' : zM), post r M' → zV G X Q nL 0 0 (pc + 3) L (r.toList ++ S) M') : zV G X Q nL 0 0 pc L (.ref o :: S) M := zV_callV (As := []) h hR hci.2 hlc hC hT hm hs hci.1 hn hroom hdg kk ⟨Nat.le_refl 0, Nat.le_refl 0⟩
theorem zV_cV0p (h : zOk G X own cc nL) {D d0 : Nat} (hR : X.2.2.2.1 = zRm D) {l : Launch} (hlc : X.2.1 = l) {y : MethodName} {cc2 : ByteArray} {nL2 n ci idx o : Nat} {ret : Option FieldType} {w : Option Value} {M2 : zM} (hdg : decode cc pc = .ok (.invokevirtual idx, 3)) (hC : zC l G d0 y cc2 nL2 ret (.ref o :: []) M (zP w M2)) (hT : zTgV y cc2 nL2 ret n ci) (hn : 0 = n) (hm : Cond.methodLink own idx y ∈ zT) (hs : zSh o = (ci + 1, 0)) (hci : ci < 19 ∧ d0 < D) (hroom : (S.map fun v => v.category).sum ≤ 8) (kk : zV G X Q nL 0 0 (pc + 3) L (w.toList ++ S) M2) : zV G X Q nL 0 0 pc L (.ref o :: S) M := zV_callV (As := []) h hR hci.2 hlc hC hT hm hs hci.1 hn hroom hdg (fun r M' hp => by obtain ⟨rfl, rfl⟩ := hp; exact kk) ⟨Nat.le_refl 0, Nat.le_refl 0⟩
theorem zV_cS0 (h : zOk G X own cc nL) {D d0 : Nat} (hR : X.2.2.2.1 = zRm D) {l : Launch} (hlc : X.2.1 = l) {y : MethodName} {cc2 : ByteArray} {nL2 n idx : Nat} {ret : Option FieldType} {post : Option Value → zM → Prop} (hdg : decode cc pc = .ok (.invokestatic idx, 3)) (hC : zC l G d0 y cc2 nL2 ret [] M post) (hT : zTgS y cc2 nL2 ret n) (hn : 0 = n) (hm : Cond.methodLink own idx y ∈ zT) (hd : d0 < D) (hroom : (S.map fun v => v.category).sum ≤ 8) (kk : ∀ (r : Option Value) (M' : zM), post r M' → zV G X Q nL 0 0 (pc + 3) L (r.toList ++ S) M') : zV G X Q nL 0 0 pc L (S) M := zV_callS (As := []) h hR hd hlc hC hT hm hn hroom hdg kk ⟨Nat.le_refl 0, Nat.le_refl 0⟩
theorem zV_cS0p (h : zOk G X own cc nL) {D d0 : Nat} (hR : X.2.2.2.1 = zRm D) {l : Launch} (hlc : X.2.1 = l) {y : MethodName} {cc2 : ByteArray} {nL2 n idx : Nat} {ret : Option FieldType} {w : Option Value} {M2 : zM} (hdg : decode cc pc = .ok (.invokestatic idx, 3)) (hC : zC l G d0 y cc2 nL2 ret [] M (zP w M2)) (hT : zTgS y cc2 nL2 ret n) (hn : 0 = n) (hm : Cond.methodLink own idx y ∈ zT) (hd : d0 < D) (hroom : (S.map fun v => v.category).sum ≤ 8) (kk : zV G X Q nL 0 0 (pc + 3) L (w.toList ++ S) M2) : zV G X Q nL 0 0 pc L (S) M := zV_callS (As := []) h hR hd hlc hC hT hm hn hroom hdg (fun r M' hp => by obtain ⟨rfl, rfl⟩ := hp; exact kk) ⟨Nat.le_refl 0, Nat.le_refl 0⟩
theorem zV_cV1 (h : zOk G X own cc nL) {D d0 : Nat} (hR : X.2.2.2.1 = zRm D) {l : Launch} (hlc : X.2.1 = l) {y : MethodName} {cc2 : ByteArray} {nL2 n ci idx o : Nat} {ret : Option FieldType} {v1 : Value} {post : Option Value → zM → Prop} (hdg : decode cc pc = .ok (.invokevirtual idx, 3)) (hC : zC l G d0 y cc2 nL2 ret (.ref o :: [v1]) M post) (hT : zTgV y cc2 nL2 ret n ci) (hn : 1 = n) (hm : Cond.methodLink own idx y ∈ zT) (hs : zSh o = (ci + 1, 0)) (hci : ci < 19 ∧ d0 < D) (hroom : (S.map fun v => v.category).sum ≤ 8) (kk : ∀ (r : Option Value) (M' : zM), post r M' → zV G X Q nL 0 0 (pc + 3) L (r.toList ++ S) M') : zV G X Q nL 0 0 pc L (v1 :: .ref o :: S) M := zV_callV (As := [v1]) h hR hci.2 hlc hC hT hm hs hci.1 hn hroom hdg kk ⟨Nat.le_refl 0, Nat.le_refl 0⟩
theorem zV_cV1p (h : zOk G X own cc nL) {D d0 : Nat} (hR : X.2.2.2.1 = zRm D) {l : Launch} (hlc : X.2.1 = l) {y : MethodName} {cc2 : ByteArray} {nL2 n ci idx o : Nat} {ret : Option FieldType} {v1 : Value} {w : Option Value} {M2 : zM} (hdg : decode cc pc = .ok (.invokevirtual idx, 3)) (hC : zC l G d0 y cc2 nL2 ret (.ref o :: [v1]) M (zP w M2)) (hT : zTgV y cc2 nL2 ret n ci) (hn : 1 = n) (hm : Cond.methodLink own idx y ∈ zT) (hs : zSh o = (ci + 1, 0)) (hci : ci < 19 ∧ d0 < D) (hroom : (S.map fun v => v.category).sum ≤ 8) (kk : zV G X Q nL 0 0 (pc + 3) L (w.toList ++ S) M2) : zV G X Q nL 0 0 pc L (v1 :: .ref o :: S) M := zV_callV (As := [v1]) h hR hci.2 hlc hC hT hm hs hci.1 hn hroom hdg (fun r M' hp => by obtain ⟨rfl, rfl⟩ := hp; exact kk) ⟨Nat.le_refl 0, Nat.le_refl 0⟩
theorem zV_cS1 (h : zOk G X own cc nL) {D d0 : Nat} (hR : X.2.2.2.1 = zRm D) {l : Launch} (hlc : X.2.1 = l) {y : MethodName} {cc2 : ByteArray} {nL2 n idx : Nat} {ret : Option FieldType} {v1 : Value} {post : Option Value → zM → Prop} (hdg : decode cc pc = .ok (.invokestatic idx, 3)) (hC : zC l G d0 y cc2 nL2 ret [v1] M post) (hT : zTgS y cc2 nL2 ret n) (hn : 1 = n) (hm : Cond.methodLink own idx y ∈ zT) (hd : d0 < D) (hroom : (S.map fun v => v.category).sum ≤ 8) (kk : ∀ (r : Option Value) (M' : zM), post r M' → zV G X Q nL 0 0 (pc + 3) L (r.toList ++ S) M') : zV G X Q nL 0 0 pc L (v1 :: S) M := zV_callS (As := [v1]) h hR hd hlc hC hT hm hn hroom hdg kk ⟨Nat.le_refl 0, Nat.le_refl 0⟩
theorem zV_cS1p (h : zOk G X own cc nL) {D d0 : Nat} (hR : X.2.2.2.1 = zRm D) {l : Launch} (hlc : X.2.1 = l) {y : MethodName} {cc2 : ByteArray} {nL2 n idx : Nat} {ret : Option FieldType} {v1 : Value} {w : Option Value} {M2 : zM} (hdg : decode cc pc = .ok (.invokestatic idx, 3)) (hC : zC l G d0 y cc2 nL2 ret [v1] M (zP w M2)) (hT : zTgS y cc2 nL2 ret n) (hn : 1 = n) (hm : Cond.methodLink own idx y ∈ zT) (hd : d0 < D) (hroom : (S.map fun v => v.category).sum ≤ 8) (kk : zV G X Q nL 0 0 (pc + 3) L (w.toList ++ S) M2) : zV G X Q nL 0 0 pc L (v1 :: S) M := zV_callS (As := [v1]) h hR hd hlc hC hT hm hn hroom hdg (fun r M' hp => by obtain ⟨rfl, rfl⟩ := hp; exact kk) ⟨Nat.le_refl 0, Nat.le_refl 0⟩
theorem zV_cV2 (h : zOk G X own cc nL) {D d0 : Nat} (hR : X.2.2.2.1 = zRm D) {l : Launch} (hlc : X.2.1 = l) {y : MethodName} {cc2 : ByteArray} {nL2 n ci idx o : Nat} {ret : Option FieldType} {v1 v2 : Value} {post : Option Value → zM → Prop} (hdg : decode cc pc = .ok (.invokevirtual idx, 3)) (hC : zC l G d0 y cc2 nL2 ret (.ref o :: [v1, v2]) M post) (hT : zTgV y cc2 nL2 ret n ci) (hn : 2 = n) (hm : Cond.methodLink own idx y ∈ zT) (hs : zSh o = (ci + 1, 0)) (hci : ci < 19 ∧ d0 < D) (hroom : (S.map fun v => v.category).sum ≤ 8) (kk : ∀ (r : Option Value) (M' : zM), post r M' → zV G X Q nL 0 0 (pc + 3) L (r.toList ++ S) M') : zV G X Q nL 0 0 pc L (v2 :: v1 :: .ref o :: S) M := zV_callV (As := [v1, v2]) h hR hci.2 hlc hC hT hm hs hci.1 hn hroom hdg kk ⟨Nat.le_refl 0, Nat.le_refl 0⟩
theorem zV_cV2p (h : zOk G X own cc nL) {D d0 : Nat} (hR : X.2.2.2.1 = zRm D) {l : Launch} (hlc : X.2.1 = l) {y : MethodName} {cc2 : ByteArray} {nL2 n ci idx o : Nat} {ret : Option FieldType} {v1 v2 : Value} {w : Option Value} {M2 : zM} (hdg : decode cc pc = .ok (.invokevirtual idx, 3)) (hC : zC l G d0 y cc2 nL2 ret (.ref o :: [v1, v2]) M (zP w M2)) (hT : zTgV y cc2 nL2 ret n ci) (hn : 2 = n) (hm : Cond.methodLink own idx y ∈ zT) (hs : zSh o = (ci + 1, 0)) (hci : ci < 19 ∧ d0 < D) (hroom : (S.map fun v => v.category).sum ≤ 8) (kk : zV G X Q nL 0 0 (pc + 3) L (w.toList ++ S) M2) : zV G X Q nL 0 0 pc L (v2 :: v1 :: .ref o :: S) M := zV_callV (As := [v1, v2]) h hR hci.2 hlc hC hT hm hs hci.1 hn hroom hdg (fun r M' hp => by obtain ⟨rfl, rfl⟩ := hp; exact kk) ⟨Nat.le_refl 0, Nat.le_refl 0⟩
theorem zV_cS2 (h : zOk G X own cc nL) {D d0 : Nat} (hR : X.2.2.2.1 = zRm D) {l : Launch} (hlc : X.2.1 = l) {y : MethodName} {cc2 : ByteArray} {nL2 n idx : Nat} {ret : Option FieldType} {v1 v2 : Value} {post : Option Value → zM → Prop} (hdg : decode cc pc = .ok (.invokestatic idx, 3)) (hC : zC l G d0 y cc2 nL2 ret [v1, v2] M post) (hT : zTgS y cc2 nL2 ret n) (hn : 2 = n) (hm : Cond.methodLink own idx y ∈ zT) (hd : d0 < D) (hroom : (S.map fun v => v.category).sum ≤ 8) (kk : ∀ (r : Option Value) (M' : zM), post r M' → zV G X Q nL 0 0 (pc + 3) L (r.toList ++ S) M') : zV G X Q nL 0 0 pc L (v2 :: v1 :: S) M := zV_callS (As := [v1, v2]) h hR hd hlc hC hT hm hn hroom hdg kk ⟨Nat.le_refl 0, Nat.le_refl 0⟩
theorem zV_cS2p (h : zOk G X own cc nL) {D d0 : Nat} (hR : X.2.2.2.1 = zRm D) {l : Launch} (hlc : X.2.1 = l) {y : MethodName} {cc2 : ByteArray} {nL2 n idx : Nat} {ret : Option FieldType} {v1 v2 : Value} {w : Option Value} {M2 : zM} (hdg : decode cc pc = .ok (.invokestatic idx, 3)) (hC : zC l G d0 y cc2 nL2 ret [v1, v2] M (zP w M2)) (hT : zTgS y cc2 nL2 ret n) (hn : 2 = n) (hm : Cond.methodLink own idx y ∈ zT) (hd : d0 < D) (hroom : (S.map fun v => v.category).sum ≤ 8) (kk : zV G X Q nL 0 0 (pc + 3) L (w.toList ++ S) M2) : zV G X Q nL 0 0 pc L (v2 :: v1 :: S) M := zV_callS (As := [v1, v2]) h hR hd hlc hC hT hm hn hroom hdg (fun r M' hp => by obtain ⟨rfl, rfl⟩ := hp; exact kk) ⟨Nat.le_refl 0, Nat.le_refl 0⟩
theorem zV_cV3 (h : zOk G X own cc nL) {D d0 : Nat} (hR : X.2.2.2.1 = zRm D) {l : Launch} (hlc : X.2.1 = l) {y : MethodName} {cc2 : ByteArray} {nL2 n ci idx o : Nat} {ret : Option FieldType} {v1 v2 v3 : Value} {post : Option Value → zM → Prop} (hdg : decode cc pc = .ok (.invokevirtual idx, 3)) (hC : zC l G d0 y cc2 nL2 ret (.ref o :: [v1, v2, v3]) M post) (hT : zTgV y cc2 nL2 ret n ci) (hn : 3 = n) (hm : Cond.methodLink own idx y ∈ zT) (hs : zSh o = (ci + 1, 0)) (hci : ci < 19 ∧ d0 < D) (hroom : (S.map fun v => v.category).sum ≤ 8) (kk : ∀ (r : Option Value) (M' : zM), post r M' → zV G X Q nL 0 0 (pc + 3) L (r.toList ++ S) M') : zV G X Q nL 0 0 pc L (v3 :: v2 :: v1 :: .ref o :: S) M := zV_callV (As := [v1, v2, v3]) h hR hci.2 hlc hC hT hm hs hci.1 hn hroom hdg kk ⟨Nat.le_refl 0, Nat.le_refl 0⟩
theorem zV_cV3p (h : zOk G X own cc nL) {D d0 : Nat} (hR : X.2.2.2.1 = zRm D) {l : Launch} (hlc : X.2.1 = l) {y : MethodName} {cc2 : ByteArray} {nL2 n ci idx o : Nat} {ret : Option FieldType} {v1 v2 v3 : Value} {w : Option Value} {M2 : zM} (hdg : decode cc pc = .ok (.invokevirtual idx, 3)) (hC : zC l G d0 y cc2 nL2 ret (.ref o :: [v1, v2, v3]) M (zP w M2)) (hT : zTgV y cc2 nL2 ret n ci) (hn : 3 = n) (hm : Cond.methodLink own idx y ∈ zT) (hs : zSh o = (ci + 1, 0)) (hci : ci < 19 ∧ d0 < D) (hroom : (S.map fun v => v.category).sum ≤ 8) (kk : zV G X Q nL 0 0 (pc + 3) L (w.toList ++ S) M2) : zV G X Q nL 0 0 pc L (v3 :: v2 :: v1 :: .ref o :: S) M := zV_callV (As := [v1, v2, v3]) h hR hci.2 hlc hC hT hm hs hci.1 hn hroom hdg (fun r M' hp => by obtain ⟨rfl, rfl⟩ := hp; exact kk) ⟨Nat.le_refl 0, Nat.le_refl 0⟩
theorem zV_cS3 (h : zOk G X own cc nL) {D d0 : Nat} (hR : X.2.2.2.1 = zRm D) {l : Launch} (hlc : X.2.1 = l) {y : MethodName} {cc2 : ByteArray} {nL2 n idx : Nat} {ret : Option FieldType} {v1 v2 v3 : Value} {post : Option Value → zM → Prop} (hdg : decode cc pc = .ok (.invokestatic idx, 3)) (hC : zC l G d0 y cc2 nL2 ret [v1, v2, v3] M post) (hT : zTgS y cc2 nL2 ret n) (hn : 3 = n) (hm : Cond.methodLink own idx y ∈ zT) (hd : d0 < D) (hroom : (S.map fun v => v.category).sum ≤ 8) (kk : ∀ (r : Option Value) (M' : zM), post r M' → zV G X Q nL 0 0 (pc + 3) L (r.toList ++ S) M') : zV G X Q nL 0 0 pc L (v3 :: v2 :: v1 :: S) M := zV_callS (As := [v1, v2, v3]) h hR hd hlc hC hT hm hn hroom hdg kk ⟨Nat.le_refl 0, Nat.le_refl 0⟩
theorem zV_cS3p (h : zOk G X own cc nL) {D d0 : Nat} (hR : X.2.2.2.1 = zRm D) {l : Launch} (hlc : X.2.1 = l) {y : MethodName} {cc2 : ByteArray} {nL2 n idx : Nat} {ret : Option FieldType} {v1 v2 v3 : Value} {w : Option Value} {M2 : zM} (hdg : decode cc pc = .ok (.invokestatic idx, 3)) (hC : zC l G d0 y cc2 nL2 ret [v1, v2, v3] M (zP w M2)) (hT : zTgS y cc2 nL2 ret n) (hn : 3 = n) (hm : Cond.methodLink own idx y ∈ zT) (hd : d0 < D) (hroom : (S.map fun v => v.category).sum ≤ 8) (kk : zV G X Q nL 0 0 (pc + 3) L (w.toList ++ S) M2) : zV G X Q nL 0 0 pc L (v3 :: v2 :: v1 :: S) M := zV_callS (As := [v1, v2, v3]) h hR hd hlc hC hT hm hn hroom hdg (fun r M' hp => by obtain ⟨rfl, rfl⟩ := hp; exact kk) ⟨Nat.le_refl 0, Nat.le_refl 0⟩
theorem zV_cV4 (h : zOk G X own cc nL) {D d0 : Nat} (hR : X.2.2.2.1 = zRm D) {l : Launch} (hlc : X.2.1 = l) {y : MethodName} {cc2 : ByteArray} {nL2 n ci idx o : Nat} {ret : Option FieldType} {v1 v2 v3 v4 : Value} {post : Option Value → zM → Prop} (hdg : decode cc pc = .ok (.invokevirtual idx, 3)) (hC : zC l G d0 y cc2 nL2 ret (.ref o :: [v1, v2, v3, v4]) M post) (hT : zTgV y cc2 nL2 ret n ci) (hn : 4 = n) (hm : Cond.methodLink own idx y ∈ zT) (hs : zSh o = (ci + 1, 0)) (hci : ci < 19 ∧ d0 < D) (hroom : (S.map fun v => v.category).sum ≤ 8) (kk : ∀ (r : Option Value) (M' : zM), post r M' → zV G X Q nL 0 0 (pc + 3) L (r.toList ++ S) M') : zV G X Q nL 0 0 pc L (v4 :: v3 :: v2 :: v1 :: .ref o :: S) M := zV_callV (As := [v1, v2, v3, v4]) h hR hci.2 hlc hC hT hm hs hci.1 hn hroom hdg kk ⟨Nat.le_refl 0, Nat.le_refl 0⟩
theorem zV_cV4p (h : zOk G X own cc nL) {D d0 : Nat} (hR : X.2.2.2.1 = zRm D) {l : Launch} (hlc : X.2.1 = l) {y : MethodName} {cc2 : ByteArray} {nL2 n ci idx o : Nat} {ret : Option FieldType} {v1 v2 v3 v4 : Value} {w : Option Value} {M2 : zM} (hdg : decode cc pc = .ok (.invokevirtual idx, 3)) (hC : zC l G d0 y cc2 nL2 ret (.ref o :: [v1, v2, v3, v4]) M (zP w M2)) (hT : zTgV y cc2 nL2 ret n ci) (hn : 4 = n) (hm : Cond.methodLink own idx y ∈ zT) (hs : zSh o = (ci + 1, 0)) (hci : ci < 19 ∧ d0 < D) (hroom : (S.map fun v => v.category).sum ≤ 8) (kk : zV G X Q nL 0 0 (pc + 3) L (w.toList ++ S) M2) : zV G X Q nL 0 0 pc L (v4 :: v3 :: v2 :: v1 :: .ref o :: S) M := zV_callV (As := [v1, v2, v3, v4]) h hR hci.2 hlc hC hT hm hs hci.1 hn hroom hdg (fun r M' hp => by obtain ⟨rfl, rfl⟩ := hp; exact kk) ⟨Nat.le_refl 0, Nat.le_refl 0⟩
theorem zV_cS4 (h : zOk G X own cc nL) {D d0 : Nat} (hR : X.2.2.2.1 = zRm D) {l : Launch} (hlc : X.2.1 = l) {y : MethodName} {cc2 : ByteArray} {nL2 n idx : Nat} {ret : Option FieldType} {v1 v2 v3 v4 : Value} {post : Option Value → zM → Prop} (hdg : decode cc pc = .ok (.invokestatic idx, 3)) (hC : zC l G d0 y cc2 nL2 ret [v1, v2, v3, v4] M post) (hT : zTgS y cc2 nL2 ret n) (hn : 4 = n) (hm : Cond.methodLink own idx y ∈ zT) (hd : d0 < D) (hroom : (S.map fun v => v.category).sum ≤ 8) (kk : ∀ (r : Option Value) (M' : zM), post r M' → zV G X Q nL 0 0 (pc + 3) L (r.toList ++ S) M') : zV G X Q nL 0 0 pc L (v4 :: v3 :: v2 :: v1 :: S) M := zV_callS (As := [v1, v2, v3, v4]) h hR hd hlc hC hT hm hn hroom hdg kk ⟨Nat.le_refl 0, Nat.le_refl 0⟩
theorem zV_cS4p (h : zOk G X own cc nL) {D d0 : Nat} (hR : X.2.2.2.1 = zRm D) {l : Launch} (hlc : X.2.1 = l) {y : MethodName} {cc2 : ByteArray} {nL2 n idx : Nat} {ret : Option FieldType} {v1 v2 v3 v4 : Value} {w : Option Value} {M2 : zM} (hdg : decode cc pc = .ok (.invokestatic idx, 3)) (hC : zC l G d0 y cc2 nL2 ret [v1, v2, v3, v4] M (zP w M2)) (hT : zTgS y cc2 nL2 ret n) (hn : 4 = n) (hm : Cond.methodLink own idx y ∈ zT) (hd : d0 < D) (hroom : (S.map fun v => v.category).sum ≤ 8) (kk : zV G X Q nL 0 0 (pc + 3) L (w.toList ++ S) M2) : zV G X Q nL 0 0 pc L (v4 :: v3 :: v2 :: v1 :: S) M := zV_callS (As := [v1, v2, v3, v4]) h hR hd hlc hC hT hm hn hroom hdg (fun r M' hp => by obtain ⟨rfl, rfl⟩ := hp; exact kk) ⟨Nat.le_refl 0, Nat.le_refl 0⟩
theorem zV_cV5 (h : zOk G X own cc nL) {D d0 : Nat} (hR : X.2.2.2.1 = zRm D) {l : Launch} (hlc : X.2.1 = l) {y : MethodName} {cc2 : ByteArray} {nL2 n ci idx o : Nat} {ret : Option FieldType} {v1 v2 v3 v4 v5 : Value} {post : Option Value → zM → Prop} (hdg : decode cc pc = .ok (.invokevirtual idx, 3)) (hC : zC l G d0 y cc2 nL2 ret (.ref o :: [v1, v2, v3, v4, v5]) M post) (hT : zTgV y cc2 nL2 ret n ci) (hn : 5 = n) (hm : Cond.methodLink own idx y ∈ zT) (hs : zSh o = (ci + 1, 0)) (hci : ci < 19 ∧ d0 < D) (hroom : (S.map fun v => v.category).sum ≤ 8) (kk : ∀ (r : Option Value) (M' : zM), post r M' → zV G X Q nL 0 0 (pc + 3) L (r.toList ++ S) M') : zV G X Q nL 0 0 pc L (v5 :: v4 :: v3 :: v2 :: v1 :: .ref o :: S) M := zV_callV (As := [v1, v2, v3, v4, v5]) h hR hci.2 hlc hC hT hm hs hci.1 hn hroom hdg kk ⟨Nat.le_refl 0, Nat.le_refl 0⟩
theorem zV_cV5p (h : zOk G X own cc nL) {D d0 : Nat} (hR : X.2.2.2.1 = zRm D) {l : Launch} (hlc : X.2.1 = l) {y : MethodName} {cc2 : ByteArray} {nL2 n ci idx o : Nat} {ret : Option FieldType} {v1 v2 v3 v4 v5 : Value} {w : Option Value} {M2 : zM} (hdg : decode cc pc = .ok (.invokevirtual idx, 3)) (hC : zC l G d0 y cc2 nL2 ret (.ref o :: [v1, v2, v3, v4, v5]) M (zP w M2)) (hT : zTgV y cc2 nL2 ret n ci) (hn : 5 = n) (hm : Cond.methodLink own idx y ∈ zT) (hs : zSh o = (ci + 1, 0)) (hci : ci < 19 ∧ d0 < D) (hroom : (S.map fun v => v.category).sum ≤ 8) (kk : zV G X Q nL 0 0 (pc + 3) L (w.toList ++ S) M2) : zV G X Q nL 0 0 pc L (v5 :: v4 :: v3 :: v2 :: v1 :: .ref o :: S) M := zV_callV (As := [v1, v2, v3, v4, v5]) h hR hci.2 hlc hC hT hm hs hci.1 hn hroom hdg (fun r M' hp => by obtain ⟨rfl, rfl⟩ := hp; exact kk) ⟨Nat.le_refl 0, Nat.le_refl 0⟩
theorem zV_cS5 (h : zOk G X own cc nL) {D d0 : Nat} (hR : X.2.2.2.1 = zRm D) {l : Launch} (hlc : X.2.1 = l) {y : MethodName} {cc2 : ByteArray} {nL2 n idx : Nat} {ret : Option FieldType} {v1 v2 v3 v4 v5 : Value} {post : Option Value → zM → Prop} (hdg : decode cc pc = .ok (.invokestatic idx, 3)) (hC : zC l G d0 y cc2 nL2 ret [v1, v2, v3, v4, v5] M post) (hT : zTgS y cc2 nL2 ret n) (hn : 5 = n) (hm : Cond.methodLink own idx y ∈ zT) (hd : d0 < D) (hroom : (S.map fun v => v.category).sum ≤ 8) (kk : ∀ (r : Option Value) (M' : zM), post r M' → zV G X Q nL 0 0 (pc + 3) L (r.toList ++ S) M') : zV G X Q nL 0 0 pc L (v5 :: v4 :: v3 :: v2 :: v1 :: S) M := zV_callS (As := [v1, v2, v3, v4, v5]) h hR hd hlc hC hT hm hn hroom hdg kk ⟨Nat.le_refl 0, Nat.le_refl 0⟩
theorem zV_cS5p (h : zOk G X own cc nL) {D d0 : Nat} (hR : X.2.2.2.1 = zRm D) {l : Launch} (hlc : X.2.1 = l) {y : MethodName} {cc2 : ByteArray} {nL2 n idx : Nat} {ret : Option FieldType} {v1 v2 v3 v4 v5 : Value} {w : Option Value} {M2 : zM} (hdg : decode cc pc = .ok (.invokestatic idx, 3)) (hC : zC l G d0 y cc2 nL2 ret [v1, v2, v3, v4, v5] M (zP w M2)) (hT : zTgS y cc2 nL2 ret n) (hn : 5 = n) (hm : Cond.methodLink own idx y ∈ zT) (hd : d0 < D) (hroom : (S.map fun v => v.category).sum ≤ 8) (kk : zV G X Q nL 0 0 (pc + 3) L (w.toList ++ S) M2) : zV G X Q nL 0 0 pc L (v5 :: v4 :: v3 :: v2 :: v1 :: S) M := zV_callS (As := [v1, v2, v3, v4, v5]) h hR hd hlc hC hT hm hn hroom hdg (fun r M' hp => by obtain ⟨rfl, rfl⟩ := hp; exact kk) ⟨Nat.le_refl 0, Nat.le_refl 0⟩
theorem zV_cV6 (h : zOk G X own cc nL) {D d0 : Nat} (hR : X.2.2.2.1 = zRm D) {l : Launch} (hlc : X.2.1 = l) {y : MethodName} {cc2 : ByteArray} {nL2 n ci idx o : Nat} {ret : Option FieldType} {v1 v2 v3 v4 v5 v6 : Value} {post : Option Value → zM → Prop} (hdg : decode cc pc = .ok (.invokevirtual idx, 3)) (hC : zC l G d0 y cc2 nL2 ret (.ref o :: [v1, v2, v3, v4, v5, v6]) M post) (hT : zTgV y cc2 nL2 ret n ci) (hn : 6 = n) (hm : Cond.methodLink own idx y ∈ zT) (hs : zSh o = (ci + 1, 0)) (hci : ci < 19 ∧ d0 < D) (hroom : (S.map fun v => v.category).sum ≤ 8) (kk : ∀ (r : Option Value) (M' : zM), post r M' → zV G X Q nL 0 0 (pc + 3) L (r.toList ++ S) M') : zV G X Q nL 0 0 pc L (v6 :: v5 :: v4 :: v3 :: v2 :: v1 :: .ref o :: S) M := zV_callV (As := [v1, v2, v3, v4, v5, v6]) h hR hci.2 hlc hC hT hm hs hci.1 hn hroom hdg kk ⟨Nat.le_refl 0, Nat.le_refl 0⟩
theorem zV_cV6p (h : zOk G X own cc nL) {D d0 : Nat} (hR : X.2.2.2.1 = zRm D) {l : Launch} (hlc : X.2.1 = l) {y : MethodName} {cc2 : ByteArray} {nL2 n ci idx o : Nat} {ret : Option FieldType} {v1 v2 v3 v4 v5 v6 : Value} {w : Option Value} {M2 : zM} (hdg : decode cc pc = .ok (.invokevirtual idx, 3)) (hC : zC l G d0 y cc2 nL2 ret (.ref o :: [v1, v2, v3, v4, v5, v6]) M (zP w M2)) (hT : zTgV y cc2 nL2 ret n ci) (hn : 6 = n) (hm : Cond.methodLink own idx y ∈ zT) (hs : zSh o = (ci + 1, 0)) (hci : ci < 19 ∧ d0 < D) (hroom : (S.map fun v => v.category).sum ≤ 8) (kk : zV G X Q nL 0 0 (pc + 3) L (w.toList ++ S) M2) : zV G X Q nL 0 0 pc L (v6 :: v5 :: v4 :: v3 :: v2 :: v1 :: .ref o :: S) M := zV_callV (As := [v1, v2, v3, v4, v5, v6]) h hR hci.2 hlc hC hT hm hs hci.1 hn hroom hdg (fun r M' hp => by obtain ⟨rfl, rfl⟩ := hp; exact kk) ⟨Nat.le_refl 0, Nat.le_refl 0⟩
theorem zV_cS6 (h : zOk G X own cc nL) {D d0 : Nat} (hR : X.2.2.2.1 = zRm D) {l : Launch} (hlc : X.2.1 = l) {y : MethodName} {cc2 : ByteArray} {nL2 n idx : Nat} {ret : Option FieldType} {v1 v2 v3 v4 v5 v6 : Value} {post : Option Value → zM → Prop} (hdg : decode cc pc = .ok (.invokestatic idx, 3)) (hC : zC l G d0 y cc2 nL2 ret [v1, v2, v3, v4, v5, v6] M post) (hT : zTgS y cc2 nL2 ret n) (hn : 6 = n) (hm : Cond.methodLink own idx y ∈ zT) (hd : d0 < D) (hroom : (S.map fun v => v.category).sum ≤ 8) (kk : ∀ (r : Option Value) (M' : zM), post r M' → zV G X Q nL 0 0 (pc + 3) L (r.toList ++ S) M') : zV G X Q nL 0 0 pc L (v6 :: v5 :: v4 :: v3 :: v2 :: v1 :: S) M := zV_callS (As := [v1, v2, v3, v4, v5, v6]) h hR hd hlc hC hT hm hn hroom hdg kk ⟨Nat.le_refl 0, Nat.le_refl 0⟩
theorem zV_cS6p (h : zOk G X own cc nL) {D d0 : Nat} (hR : X.2.2.2.1 = zRm D) {l : Launch} (hlc : X.2.1 = l) {y : MethodName} {cc2 : ByteArray} {nL2 n idx : Nat} {ret : Option FieldType} {v1 v2 v3 v4 v5 v6 : Value} {w : Option Value} {M2 : zM} (hdg : decode cc pc = .ok (.invokestatic idx, 3)) (hC : zC l G d0 y cc2 nL2 ret [v1, v2, v3, v4, v5, v6] M (zP w M2)) (hT : zTgS y cc2 nL2 ret n) (hn : 6 = n) (hm : Cond.methodLink own idx y ∈ zT) (hd : d0 < D) (hroom : (S.map fun v => v.category).sum ≤ 8) (kk : zV G X Q nL 0 0 (pc + 3) L (w.toList ++ S) M2) : zV G X Q nL 0 0 pc L (v6 :: v5 :: v4 :: v3 :: v2 :: v1 :: S) M := zV_callS (As := [v1, v2, v3, v4, v5, v6]) h hR hd hlc hC hT hm hn hroom hdg (fun r M' hp => by obtain ⟨rfl, rfl⟩ := hp; exact kk) ⟨Nat.le_refl 0, Nat.le_refl 0⟩
theorem zV_cS7 (h : zOk G X own cc nL) {D d0 : Nat} (hR : X.2.2.2.1 = zRm D) {l : Launch} (hlc : X.2.1 = l) {y : MethodName} {cc2 : ByteArray} {nL2 n idx : Nat} {ret : Option FieldType} {v1 v2 v3 v4 v5 v6 v7 : Value} {post : Option Value → zM → Prop} (hdg : decode cc pc = .ok (.invokestatic idx, 3)) (hC : zC l G d0 y cc2 nL2 ret [v1, v2, v3, v4, v5, v6, v7] M post) (hT : zTgS y cc2 nL2 ret n) (hn : 7 = n) (hm : Cond.methodLink own idx y ∈ zT) (hd : d0 < D) (hroom : (S.map fun v => v.category).sum ≤ 8) (kk : ∀ (r : Option Value) (M' : zM), post r M' → zV G X Q nL 0 0 (pc + 3) L (r.toList ++ S) M') : zV G X Q nL 0 0 pc L (v7 :: v6 :: v5 :: v4 :: v3 :: v2 :: v1 :: S) M := zV_callS (As := [v1, v2, v3, v4, v5, v6, v7]) h hR hd hlc hC hT hm hn hroom hdg kk ⟨Nat.le_refl 0, Nat.le_refl 0⟩
theorem zV_cS7p (h : zOk G X own cc nL) {D d0 : Nat} (hR : X.2.2.2.1 = zRm D) {l : Launch} (hlc : X.2.1 = l) {y : MethodName} {cc2 : ByteArray} {nL2 n idx : Nat} {ret : Option FieldType} {v1 v2 v3 v4 v5 v6 v7 : Value} {w : Option Value} {M2 : zM} (hdg : decode cc pc = .ok (.invokestatic idx, 3)) (hC : zC l G d0 y cc2 nL2 ret [v1, v2, v3, v4, v5, v6, v7] M (zP w M2)) (hT : zTgS y cc2 nL2 ret n) (hn : 7 = n) (hm : Cond.methodLink own idx y ∈ zT) (hd : d0 < D) (hroom : (S.map fun v => v.category).sum ≤ 8) (kk : zV G X Q nL 0 0 (pc + 3) L (w.toList ++ S) M2) : zV G X Q nL 0 0 pc L (v7 :: v6 :: v5 :: v4 :: v3 :: v2 :: v1 :: S) M := zV_callS (As := [v1, v2, v3, v4, v5, v6, v7]) h hR hd hlc hC hT hm hn hroom hdg (fun r M' hp => by obtain ⟨rfl, rfl⟩ := hp; exact kk) ⟨Nat.le_refl 0, Nat.le_refl 0⟩
end zRows
