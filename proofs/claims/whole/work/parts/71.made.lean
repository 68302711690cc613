/-! objects come to be: a machine for constructors; the world is a list of cells -/
def ax_O (g : ax_G) (U : State) : Prop := ∃ kA : Class, U.vm.classes[g.cR]? = some kA ∧ kA.kind = .array g.cI (.array .int)
theorem ax_O.to {g : ax_G} {s U : State} (hvm : s.vm.Alike U.vm) (h : ax_O g s) : ax_O g U := by
  obtain ⟨k, h1, h2⟩ := h
  obtain ⟨k', h3, h4⟩ := hvm.2.2 _ _ h1
  exact ⟨k', h3, by rw [h4]; exact h2⟩
def ga (g : ax_G) (a : Nat → Nat) : ax_G := (g.1, a, g.2.2)
def wl (g : ax_G) (M : ax_M) (ks : List Nat) : va_W := ks.map fun k => (g.ad k, ax_cell g M k)
def tr0 (j : Int) : Int := if 0 ≤ j ∧ j < 32 then (if j % 4 = 1 then 8 else if j % 4 = 2 then 1 else if j % 4 = 3 then 16 else 0) else 0
def se0 (j : Int) : Int := if j = 0 then 9 else if j = 2 then 999 else if j = 3 then 6 else 0
/-- the memory behind both constructors -/
def M0 : ax_M := fun k j => match k with
  | 0 => if j = 7 then -1 else if j = 10 then -1 else 0
  | 5 => if j = 2 then -1 else if j = 9 then -1 else 0
  | 8 => if j = 9 then 1 else if j = 10 then 1 else 0
  | 15 => tr0 j
  | 17 => se0 j
  | 38 => if 0 ≤ j ∧ j < 4 then -1 else 0
  | 56 => if 0 ≤ j ∧ j < 8 then 8 else 0
  | 57 => if 0 ≤ j ∧ j < 8 then 1 else 0
  | 58 => if 0 ≤ j ∧ j < 8 then 16 else 0
  | 60 => se0 j
  | _ => 0
def kb (X : ax_X) (cc : ByteArray) (own : String) (n mc msl : Nat) (A : Nat → Prop) : Prop :=
  X.p.tables.exec = Jvm.exec ∧ X.c.code = cc ∧ X.c.maxLocals = X.nL ∧ X.s.vm.findClass own = some X.m.cls ∧ (∀ w ∈ ax_big, w.before X.args X.s = true) ∧ (ax_K X.g X.s ∧ ax_O X.g X.s) ∧ (∀ q, X.s.heap.size ≤ q → A q) ∧ (n ≤ X.R.frames ∧ 30 * n ≤ X.R.locals) ∧ (mc ≤ X.R.cells ∧ msl ≤ X.R.slots)
def KW (X : ax_X) (A : Nat → Prop) (cs sl pc : Nat) (lv : List (Nat × Value)) (st : List Value) (ws : va_W) : Prop :=
  ∀ (H : Heap) (locs : List Loc) (ls : Array Slot), va_P X.g.D vwCl ws H → va_D A ws → va_S A X.s.heap H locs → lv_has ls X.nL lv → W X.p X.g.l X.e X.R X.s X.m X.args X.below X.meth X.c H locs cs sl X.Q (F0 X.m pc ls st)
theorem ac_I : Cond.arrayClass .int ∈ ax_big := ax_in 153 (by decide +kernel) rfl
theorem ac_Z : Cond.arrayClass .boolean ∈ ax_big := ax_in 194 (by decide +kernel) rfl
theorem ac_J : Cond.arrayClass .long ∈ ax_big := ax_in 278 (by decide +kernel) rfl
theorem cl_RR : Cond.classLink RX6 11 "[[I" ∈ ax_big := ax_in 331 (by decide +kernel) rfl
theorem oi_in : Cond.instanceMethod Lib.objectInit ∈ ax_big := ax_in 84 (by decide +kernel) rfl
theorem oi_co : Cond.code Lib.objectInit ⟨#[0xb1]⟩ 1 none ∈ ax_big := ax_in 85 (by decide +kernel) rfl
section KR
variable {X : ax_X} {cc : ByteArray} {own : String} {n mc msl pc cs sl : Nat} {A : Nat → Prop} {lv : List (Nat × Value)} {st : List Value} {ws : va_W}
theorem kr_aload0 {a : Nat} (B : kb X cc own n mc msl A) (hd : decode cc pc = .ok (.aload_n 0, 1)) (k : KW X A cs sl (pc + 1) ((0, .ref a) :: lv) (.ref a :: st) ws) : KW X A cs sl pc ((0, .ref a) :: lv) st ws :=
  fun H locs ls hP hD hS hl => lv_aload_n B.1 B.2.1 hd rfl (lv_at hl 0 rfl) (k H locs ls hP hD hS hl)
theorem kr_iconst {z : Int} (B : kb X cc own n mc msl A) (hd : decode cc pc = .ok (.iconst z, 1)) (k : KW X A cs sl (pc + 1) lv (.int (ax_i z) :: st) ws) : KW X A cs sl pc lv st ws :=
  fun H locs ls hP hD hS hl => lv_iconst B.1 B.2.1 hd rfl (k H locs ls hP hD hS hl)
theorem kr_bipush {z : Int} (B : kb X cc own n mc msl A) (hd : decode cc pc = .ok (.bipush z, 2)) (hz : (Int8.ofInt z).toInt32 = ax_i z) (k : KW X A cs sl (pc + 2) lv (.int (ax_i z) :: st) ws) : KW X A cs sl pc lv st ws :=
  fun H locs ls hP hD hS hl => lv_bipush B.1 B.2.1 hd hz (k H locs ls hP hD hS hl)
theorem kr_sipush {z : Int} (B : kb X cc own n mc msl A) (hd : decode cc pc = .ok (.sipush z, 3)) (hz : (Int16.ofInt z).toInt32 = ax_i z) (k : KW X A cs sl (pc + 3) lv (.int (ax_i z) :: st) ws) : KW X A cs sl pc lv st ws :=
  fun H locs ls hP hD hS hl => lv_sipush B.1 B.2.1 hd hz (k H locs ls hP hD hS hl)
theorem kr_dup {a : Nat} (B : kb X cc own n mc msl A) (hd : decode cc pc = .ok (.dup, 1)) (k : KW X A cs sl (pc + 1) lv (.ref a :: .ref a :: st) ws) : KW X A cs sl pc lv (.ref a :: st) ws :=
  fun H locs ls hP hD hS hl => lv_dup B.1 B.2.1 hd rfl (k H locs ls hP hD hS hl)
theorem kr_obj {idx a : Nat} (B : kb X cc own n mc msl A) (hd : decode cc pc = .ok (.invokespecial idx, 3)) (hl : Cond.methodLink own idx Lib.objectInit ∈ ax_big) (hn : 1 ≤ n) (k : KW X A cs sl (pc + 3) lv [] ws) : KW X A cs sl pc lv [.ref a] ws := by
  intro H locs ls hP hD hS hl0
  have hr := B.2.2.2.2.2.2.2.1
  have hm : 2 * (F0 X.m pc ls [.ref a]).monitorRoom + (([] : List Value).map fun v => v.category).sum ≤ 8 := lv_room (Nat.zero_le 8)
  exact W.objInit B.1 B.2.1 B.2.2.2.1 (B.2.2.2.2.1 _ hl) (B.2.2.2.2.1 _ oi_in) (B.2.2.2.2.1 _ oi_co) rfl (by rw [B.2.2.1]; exact hl0.1) rfl hd (by omega) (by omega) (W.eq (g2 := F0 X.m (pc + 3) ls []) rfl (k H locs ls hP hD hS hl0))
theorem kr_newI {z : Int} {N : Nat} (B : kb X cc own n mc msl A) (hd : decode cc pc = .ok (.newarray .int, 2)) (hz : ¬ ax_i z < 0) (hN : (ax_i z).toNatClampNeg = N) (hb : N ≤ 100000) (h1 : cs + 1 ≤ mc) (h2 : sl + N ≤ msl)
    (k : ∀ q, KW X A (cs + 1) (sl + N) (pc + 2) lv (.ref q :: st) (ws ++ [(q, .inl (X.g.cI, N, .inl fun _ => 0))])) : KW X A cs sl pc lv (.int (ax_i z) :: st) ws := by
  intro H locs ls hP hD hS hl
  have hK := B.2.2.2.2.2.1.1.1
  have hR := B.2.2.2.2.2.2.2.2
  refine va_newa (atype := .int) (ty := .int) (a0 := (N, .inl fun _ => 0)) B.1 B.2.1 (B.2.2.2.2.1 _ ac_I) rfl hK hP hD hS B.2.2.2.2.2.2.1 (fun _ => rfl) hz hN (by show N * 4 ≤ 536870912; omega) (by omega) (by omega) hd (fun q cA H1 hK1 hP1 hD1 hS1 => ?_)
  have e1 : X.s.vm.findClass ("[" ++ FieldType.int.toString) = some cA := (hK1.2 4 _ rfl).2
  have e2 : X.s.vm.findClass ("[" ++ FieldType.int.toString) = some X.g.cI := (hK.2 0 _ rfl).2
  obtain rfl : cA = X.g.cI := Option.some.inj (e1.symm.trans e2)
  exact k q H1 locs ls hP1 hD1 hS1 hl
theorem kr_newZ {z : Int} {N : Nat} (B : kb X cc own n mc msl A) (hd : decode cc pc = .ok (.newarray .boolean, 2)) (hz : ¬ ax_i z < 0) (hN : (ax_i z).toNatClampNeg = N) (hb : N ≤ 100000) (h1 : cs + 1 ≤ mc) (h2 : sl + N ≤ msl)
    (k : ∀ q, KW X A (cs + 1) (sl + N) (pc + 2) lv (.ref q :: st) (ws ++ [(q, .inl (X.g.cZ, N, .inl fun _ => 0))])) : KW X A cs sl pc lv (.int (ax_i z) :: st) ws := by
  intro H locs ls hP hD hS hl
  have hK := B.2.2.2.2.2.1.1.1
  have hR := B.2.2.2.2.2.2.2.2
  refine va_newa (atype := .boolean) (ty := .boolean) (a0 := (N, .inl fun _ => 0)) B.1 B.2.1 (B.2.2.2.2.1 _ ac_Z) rfl hK hP hD hS B.2.2.2.2.2.2.1 (fun _ => rfl) hz hN (by show N * 1 ≤ 536870912; omega) (by omega) (by omega) hd (fun q cA H1 hK1 hP1 hD1 hS1 => ?_)
  have e1 : X.s.vm.findClass ("[" ++ FieldType.boolean.toString) = some cA := (hK1.2 4 _ rfl).2
  have e2 : X.s.vm.findClass ("[" ++ FieldType.boolean.toString) = some X.g.cZ := (hK.2 1 _ rfl).2
  obtain rfl : cA = X.g.cZ := Option.some.inj (e1.symm.trans e2)
  exact k q H1 locs ls hP1 hD1 hS1 hl
theorem kr_newJ {z : Int} {N : Nat} (B : kb X cc own n mc msl A) (hd : decode cc pc = .ok (.newarray .long, 2)) (hz : ¬ ax_i z < 0) (hN : (ax_i z).toNatClampNeg = N) (hb : N ≤ 100000) (h1 : cs + 1 ≤ mc) (h2 : sl + N ≤ msl)
    (k : ∀ q, KW X A (cs + 1) (sl + N) (pc + 2) lv (.ref q :: st) (ws ++ [(q, .inl (X.g.cJ, N, .inr (.inl fun _ => 0)))])) : KW X A cs sl pc lv (.int (ax_i z) :: st) ws := by
  intro H locs ls hP hD hS hl
  have hK := B.2.2.2.2.2.1.1.1
  have hR := B.2.2.2.2.2.2.2.2
  refine va_newa (atype := .long) (ty := .long) (a0 := (N, .inr (.inl fun _ => 0))) B.1 B.2.1 (B.2.2.2.2.1 _ ac_J) rfl hK hP hD hS B.2.2.2.2.2.2.1 (fun _ => rfl) hz hN (by show N * 8 ≤ 536870912; omega) (by omega) (by omega) hd (fun q cA H1 hK1 hP1 hD1 hS1 => ?_)
  have e1 : X.s.vm.findClass ("[" ++ FieldType.long.toString) = some cA := (hK1.2 4 _ rfl).2
  have e2 : X.s.vm.findClass ("[" ++ FieldType.long.toString) = some X.g.cJ := (hK.2 2 _ rfl).2
  obtain rfl : cA = X.g.cJ := Option.some.inj (e1.symm.trans e2)
  exact k q H1 locs ls hP1 hD1 hS1 hl
theorem kr_new {idx ci : Nat} {C : String} {T : u_T} {N : Nat} {ty : Nat → FieldType} {fs : List Value} (B : kb X cc own n mc msl A) (hd : decode cc pc = .ok (.new idx, 3)) (hu : ∀ w ∈ u_ws C T N, w ∈ ax_big) (hty : ∀ k, k < N → parseFieldDescriptor (T k).2.2.1 = some (ty k)) (hc : Cond.classLink own idx C ∈ ax_big) (hi : Cond.instantiable C N ∈ ax_big) (hini : Cond.initialized C ∈ ax_big) (hci : vwCl[ci]? = some (C, T, N)) (hfs : ∀ j, j < N → defaultValue (ty j) = vp_V fs j) (h1 : cs + 1 ≤ mc) (h2 : sl + N ≤ msl)
    (k : ∀ q, KW X A (cs + 1) (sl + N) (pc + 3) lv (.ref q :: st) (ws ++ [(q, .inr (ci, fs))])) : KW X A cs sl pc lv st ws := by
  intro H locs ls hP hD hS hl
  have hR := B.2.2.2.2.2.2.2.2
  exact va_new (ci := ci) (fs := fs) B.1 B.2.1 B.2.2.2.2.1 hu ty hty B.2.2.2.1 (B.2.2.2.2.1 _ hc) (B.2.2.2.2.1 _ hi) (B.2.2.2.2.1 _ hini) B.2.2.2.2.2.1.1.1 hP hD hS B.2.2.2.2.2.2.1 hci hfs (by omega) (by omega) hd (fun q H1 hP1 hD1 hS1 => k q H1 locs ls hP1 hD1 hS1 hl)
theorem kr_get {idx ci j q0 a : Nat} {fs : List Value} {v : Value} (B : kb X cc own n mc msl A) (hd : decode cc pc = .ok (.getfield idx, 3)) (hf : ax_fl own idx ci j) (he : ws[q0]? = some (a, .inr (ci, fs))) (hv : fs[j]? = some v) (k : KW X A cs sl (pc + 3) lv (v :: st) ws) : KW X A cs sl pc lv (.ref a :: st) ws := by
  intro H locs ls hP hD hS hl
  obtain ⟨C, T, N, ty, h1, h2, h3, h4, -, -, -⟩ := hf
  exact va_get (D := X.g.D) (ci := ci) (v := v) B.1 B.2.1 B.2.2.2.2.1 h1 B.2.2.2.1 B.2.2.2.2.2.1.1.1 hP q0 he h2 j h3 (B.2.2.2.2.1 _ h4) (fun _ h => h) hv hd (k H locs ls hP hD hS hl)
def kf (own : String) (ci j : Nat) (b : Bool) (t : FieldType) : Prop := ∀ (T : u_T) (C : String) (N : Nat), vwCl[ci]? = some (C, T, N) → (T j).2.2.2 = b ∧ (T j).1 = own ∧ parseFieldDescriptor (T j).2.2.1 = some t
theorem kr_putF {idx ci j a : Nat} {fs : List Value} {v : Value} {t : FieldType} (B : kb X cc own n mc msl A) (hin : X.meth.name = "<init>") (hd : decode cc pc = .ok (.putfield idx, 3)) (hf : ax_fl own idx ci j) (ht : kf own ci j true t) (hn : narrow t v = v) (hfit : fits t v = true) (hlen : j < fs.length) (k : KW X A cs sl (pc + 3) lv st ((a, .inr (ci, fs.set j v)) :: ws)) : KW X A cs sl pc lv (v :: .ref a :: st) ((a, .inr (ci, fs)) :: ws) := by
  intro H locs ls hP hD hS hl
  obtain ⟨C, T, N, ty, h1, h2, h3, h4, h5, h6, -⟩ := hf
  obtain ⟨t1, t2, t3⟩ := ht T C N h2
  exact va_putF (D := X.g.D) (ci := ci) (v := v) (ty := t) B.1 B.2.1 B.2.2.2.2.1 h1 ty h5 h6 B.2.2.2.1 B.2.2.2.2.2.1.1.1 hP hD hS 0 rfl h2 j h3 (B.2.2.2.2.1 _ h4) (fun _ h => h) t1 hin t2 t3 hn hfit hlen hd (fun H1 locs1 hP1 hD1 hS1 => k H1 locs1 ls hP1 hD1 hS1 hl)
theorem kr_put {idx ci j a : Nat} {fs : List Value} {v : Value} {t : FieldType} (B : kb X cc own n mc msl A) (hd : decode cc pc = .ok (.putfield idx, 3)) (hf : ax_fl own idx ci j) (ht : kf own ci j false t) (hn : narrow t v = v) (hfit : fits t v = true) (hlen : j < fs.length) (k : KW X A cs sl (pc + 3) lv st ((a, .inr (ci, fs.set j v)) :: ws)) : KW X A cs sl pc lv (v :: .ref a :: st) ((a, .inr (ci, fs)) :: ws) := by
  intro H locs ls hP hD hS hl
  obtain ⟨C, T, N, ty, h1, h2, h3, h4, h5, h6, -⟩ := hf
  obtain ⟨t1, -, t3⟩ := ht T C N h2
  exact va_put (D := X.g.D) (ci := ci) (v := v) (ty := t) B.1 B.2.1 B.2.2.2.2.1 h1 ty h5 h6 B.2.2.2.1 B.2.2.2.2.2.1.1.1 hP hD hS 0 rfl h2 j h3 (B.2.2.2.2.1 _ h4) (fun _ h => h) t1 t3 hn hfit hlen hd (fun H1 locs1 hP1 hD1 hS1 => k H1 locs1 ls hP1 hD1 hS1 hl)
theorem kr_iast {q0 a N : Nat} {f : Nat → Int32} {i z : Int} (B : kb X cc own n mc msl A) (hd : decode cc pc = .ok (.iastore, 1)) (he : ws[q0]? = some (a, .inl (X.g.cI, N, .inl f))) (hN : N ≤ 100000) (hi : 0 ≤ i ∧ i < N) (k : KW X A cs sl (pc + 1) lv st (ws.set q0 (a, .inl (X.g.cI, N, .inl (upd f i.toNat (ax_i z)))))) : KW X A cs sl pc lv (.int (ax_i z) :: .int (ax_i i) :: .ref a :: st) ws := by
  intro H locs ls hP hD hS hl
  obtain ⟨e1, e2, -⟩ := ax_nat (i := i) (n := N) hi.1 hi.2 (by omega)
  refine va_iast B.1 B.2.1 B.2.2.2.2.2.1.1.1 hP hD hS q0 0 he rfl e1 hd (fun H1 locs1 hP1 hD1 hS1 => ?_)
  rw [e2] at hP1 hD1
  exact k H1 locs1 ls hP1 hD1 hS1 hl
theorem kr_istore1 {a : Nat} {z : Int} (B : kb X cc own n mc msl A) (h1 : X.nL = 2) (hd : decode cc pc = .ok (.istore_n 1, 1)) (k : KW X A cs sl (pc + 1) [(0, .ref a), (1, .int (ax_i z))] st ws) : KW X A cs sl pc [(0, .ref a)] (.int (ax_i z) :: st) ws :=
  fun H locs ls hP hD hS hl => lv_istore_n (lv' := [(1, .int (ax_i z)), (0, .ref a)]) B.1 B.2.1 hd rfl hl (by omega) rfl (fun ls1 hl1 => k H locs ls1 hP hD hS (lv_sub hl1 [1, 0] rfl))
theorem kr_iload1 {a : Nat} {z : Int} (B : kb X cc own n mc msl A) (hd : decode cc pc = .ok (.iload_n 1, 1)) (k : KW X A cs sl (pc + 1) [(0, .ref a), (1, .int (ax_i z))] (.int (ax_i z) :: st) ws) : KW X A cs sl pc [(0, .ref a), (1, .int (ax_i z))] st ws :=
  fun H locs ls hP hD hS hl => lv_iload_n B.1 B.2.1 hd rfl (lv_at hl 1 rfl) (k H locs ls hP hD hS hl)
theorem kr_iinc1 {a : Nat} {z y : Int} (B : kb X cc own n mc msl A) (h1 : X.nL = 2) (hd : decode cc pc = .ok (.iinc 1 y, 3)) (k : KW X A cs sl (pc + 3) [(0, .ref a), (1, .int (ax_i (z + y)))] st ws) : KW X A cs sl pc [(0, .ref a), (1, .int (ax_i z))] st ws :=
  fun H locs ls hP hD hS hl => lv_iinc (v := ax_i (z + y)) (lv' := [(1, .int (ax_i (z + y))), (0, .ref a)]) B.1 B.2.1 hd hl (k := 1) rfl (Int32.ofInt_add z y).symm (by omega) rfl (fun ls1 hl1 => k H locs ls1 hP hD hS (lv_sub hl1 [1, 0] rfl))
theorem kr_icmpge {x y off : Int} (tgt : Nat) (B : kb X cc own n mc msl A) (hd : decode cc pc = .ok (.if_icmp .ge off, 3)) (ht : (pc : Int) + off = (tgt : Int)) (h : -2147483648 ≤ x ∧ x ≤ 2147483647 ∧ -2147483648 ≤ y ∧ y ≤ 2147483647) (kt : y ≤ x → KW X A cs sl tgt lv st ws) (kf : x < y → KW X A cs sl (pc + 3) lv st ws) : KW X A cs sl pc lv (.int (ax_i y) :: .int (ax_i x) :: st) ws := by
  intro H locs ls hP hD hS hl
  refine lv_icmp_ge (tgt := tgt) B.1 B.2.1 hd ht (fun q => ?_) (fun q => ?_)
  · exact kt ((ax_i_le ⟨h.2.2.1, h.2.2.2, h.1, h.2.1⟩).mp q) H locs ls hP hD hS hl
  · refine kf ?_ H locs ls hP hD hS hl
    rcases Int.lt_or_le x y with z | z
    · exact z
    · exact absurd ((ax_i_le ⟨h.2.2.1, h.2.2.2, h.1, h.2.1⟩).mpr z) q
theorem kr_goto {off : Int} (tgt : Nat) (B : kb X cc own n mc msl A) (hd : decode cc pc = .ok (.goto off, 3)) (ht : (pc : Int) + off = (tgt : Int)) (k : KW X A cs sl tgt lv st ws) : KW X A cs sl pc lv st ws :=
  fun H locs ls hP hD hS hl => lv_goto (tgt := tgt) B.1 B.2.1 hd ht (k H locs ls hP hD hS hl)
theorem kr_imul {x y : Int} (B : kb X cc own n mc msl A) (hd : decode cc pc = .ok (.imul, 1)) (k : KW X A cs sl (pc + 1) lv (.int (ax_i (x * y)) :: st) ws) : KW X A cs sl pc lv (.int (ax_i y) :: .int (ax_i x) :: st) ws := by
  intro H locs ls hP hD hS hl
  refine lv_imul B.1 B.2.1 hd ?_
  refine lv_topi (fun v hv => ?_)
  obtain rfl := hv.trans (Int32.ofInt_mul x y).symm
  exact k H locs ls hP hD hS hl
theorem kr_iadd {x y : Int} (B : kb X cc own n mc msl A) (hd : decode cc pc = .ok (.iadd, 1)) (k : KW X A cs sl (pc + 1) lv (.int (ax_i (x + y)) :: st) ws) : KW X A cs sl pc lv (.int (ax_i y) :: .int (ax_i x) :: st) ws := by
  intro H locs ls hP hD hS hl
  refine lv_iadd B.1 B.2.1 hd ?_
  refine lv_topi (fun v hv => ?_)
  obtain rfl := hv.trans (Int32.ofInt_add x y).symm
  exact k H locs ls hP hD hS hl
end KR
