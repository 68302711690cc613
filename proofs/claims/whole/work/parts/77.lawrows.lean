/-! THE CLAIM OUT OF ONE WALK OF THE LAW'S BODY. Your part is whole_start (and what it stands on); all else here is the same for every law, but numbers. -/
def R_law : String := "SecondChancesLaw"
def lw_P (b : Addr) (xs : List Int32) (args : Array Value) (s : State) : Prop := args = #[.ref b] ∧ s.IntsAt b xs ∧ xs.length ≤ 3072 ∧ (Jvm.Cond.and given_1 narrow_1).before args s = true
def lw_Q (_ : Array Value) (s : State) (o : Outcome) (t : State) : Prop := o = .returned (some (.int 1)) ∧ Framed s o t [] 600000 7302250
def lw_Z (below : List Frame) (a : Array Value) (s : State) : State → Prop := fun t => ∃ o, t.status = .running ∧ Ended t below o ∧ lw_Q a s o t
/-- the law's own end, with 1 on the stack, nothing written that was there before, its room as the claim has it -/
theorem lw_ret {p : Program} {l : Launch} {e : Env} {s : State} {m : MethodId} {below : List Frame} {meth : Method} {c : Code} {b : Nat} (hx : p.tables.exec = Jvm.exec) (hb : c.code = code) (hr : meth.sig.returnType = ret) (hlocks : meth.locks = false) {pc : Nat} {H : Heap} {ls : Array Slot} (hdg : decode code pc = .ok (.ireturn, 1)) : W p l e room_1 s m #[Value.ref b] below meth c H [] 600000 7302250 (lw_Z below #[Value.ref b] s) (F0 m pc ls [.int 1]) := by
  intro T hT X
  obtain ⟨fs, hret, hrun, hended, hW, hframe⟩ := X.leave (v := some (.int 1)) (hlocks := hlocks) (fun h => by rw [hr] at h; cases h)
  have hmeth' : T.vm.method? m = some meth := X.method'
  refine ⟨T.setFrames fs, ?_, .returned (some (.int 1)), hrun, hended, rfl, ⟨_, rfl⟩, hW, hframe⟩
  jvm_step X.here [X.here.top, hx, hb, hdg, hmeth', hr, ret, narrow_b1]
  (try refine ⟨rfl, ?_⟩); (try refine ⟨rfl, ?_⟩)
  first | (intro acts; rw [hret _ acts rfl rfl rfl]) | rw [hret _ _ rfl rfl rfl]
  exact Steps.refl _
/-- what holds at the law's entry: the machine, the code, the tables' words (any of lw_tbl by 'hts w (by decide +kernel)'), the script of L ints xs at the cell b, what the Statement gives of the start (any of its parts by flat_of_before) -/
def lw_At (p : Program) (s : State) (m : MethodId) (meth : Method) (c : Code) (b L : Nat) (xs : Nat → Int32) : Prop :=
  p.tables.exec = Jvm.exec ∧ c.code = code ∧ meth.sig.returnType = ret ∧ c.maxLocals = 4 ∧ s.vm.findClass R_law = some m.cls ∧ (∀ w ∈ lw_tbl, w.before #[Value.ref b] s = true) ∧ va_X b L xs s s.heap ∧ b < s.heap.size ∧ meth.locks = false ∧ (Jvm.Cond.and given_1 narrow_1).before #[Value.ref b] s = true
def sc (X : ax_X) (L : Nat) (xs : Nat → Int32) : Prop := va_X (X.g.ad 103) L xs X.s X.s.heap ∧ X.g.ad 103 < X.s.heap.size ∧ ¬ ax_A X.g (X.g.ad 103) ∧ L ≤ 3072
theorem tx (x : Int32) : -2147483648 ≤ x.toInt ∧ x.toInt ≤ 2147483647 := by
  have h1 := Int32.le_toInt x
  have h2 := Int32.toInt_lt x
  constructor <;> omega
theorem ax_and_r (a b : Int) : -2147483648 ≤ ax_and a b ∧ ax_and a b ≤ 2147483647 := tx _
section LR
variable {X : ax_X} {cc : ByteArray} {own : String} {n pc : Nat} {lv : List (Option ax_V)} {rest : List ax_V} {M : ax_M} {L : Nat} {xs : Nat → Int32}
theorem rr_sld {i : Int} (B : ax_b X cc own n) (C : sc X L xs) (hd : decode cc pc = .ok (.iaload, 1)) (hi : 0 ≤ i ∧ i < L) (k : AW X (pc + 1) lv (aI (xs i.toNat).toInt :: rest) M) : AW X pc lv (aI i :: aR 103 :: rest) M := by
  intro hG H locs ls hP hS hl hn
  have hL := C.2.2.2
  obtain ⟨e1, e2, -⟩ := ax_nat (i := i) (n := L) hi.1 hi.2 (by omega)
  refine va_sld (b := X.g.ad 103) B.1 B.2.1 C.1 C.2.1 C.2.2.1 hS e1 hd ?_
  have z := k hG H locs ls hP hS hl hn
  rw [e2]
  have e : cv X.g (aI (xs i.toNat).toInt) = .int (xs i.toNat) := congrArg Value.int (Int32.ofInt_toInt _)
  rw [List.map_cons, e] at z
  exact z
theorem rr_slen (B : ax_b X cc own n) (C : sc X L xs) (hd : decode cc pc = .ok (.arraylength, 1)) (k : AW X (pc + 1) lv (aI (L : Int) :: rest) M) : AW X pc lv (aR 103 :: rest) M := by
  intro hG H locs ls hP hS hl hn
  refine va_slen (b := X.g.ad 103) B.1 B.2.1 C.1 C.2.1 C.2.2.1 hS hd ?_
  have z := k hG H locs ls hP hS hl hn
  have e : cv X.g (aI (L : Int)) = .int (Int32.ofNat L) := congrArg Value.int (show Int32.ofInt (L : Int) = Int32.ofNat L from by first | rfl | simp | exact Int32.ofInt_eq_ofNat)
  rw [List.map_cons, e] at z
  exact z
theorem rr_eqS {v off : Int} (tgt : Nat) (B : ax_b X cc own n) (hd : decode cc pc = .ok (.if_icmp .eq off, 3)) (ht : (pc : Int) + off = (tgt : Int)) (k : AW X tgt lv rest M) : AW X pc lv (aI v :: aI v :: rest) M :=
  fun hG H locs ls hP hS hl hn => lv_icmp_eq (tgt := tgt) B.1 B.2.1 hd ht (fun _ => k hG H locs ls hP hS hl hn) (fun c => absurd rfl c)
theorem rr_leqS {v off : Int} (tgt : Nat) (B : ax_b X cc own n) (hd : decode cc pc = .ok (.lcmp, 1)) (hd2 : decode cc (pc + 1) = .ok (.ifCond .eq off, 3)) (ht : ((pc + 1 : Nat) : Int) + off = (tgt : Int)) (k : AW X tgt lv rest M) : AW X pc lv (aL v :: aL v :: rest) M := by
  intro hG H locs ls hP hS hl hn
  refine W.lcmp B.1 B.2.1 hd ?_
  exact lv_if_eq B.1 B.2.1 hd2 ht (fun _ => k hG H locs ls hP hS hl hn) (fun q => absurd ((lg_cmp_eq _ _).mpr rfl) q)
theorem rr_lawret {b : Nat} (B : ax_b X code own n) (hR : X.R = room_1) (hA : X.args = #[Value.ref b]) (hQ : X.Q = lw_Z X.below #[Value.ref b] X.s) (hr : X.meth.sig.returnType = ret) (hc : X.cells ≤ 600000) (hs : X.slots ≤ 7302250) (ho : ∀ q, ax_A X.g q → X.s.heap.size ≤ q) (hd : decode code pc = .ok (.ireturn, 1)) : AW X pc lv [aI 1] M := by
  intro hG H locs ls hP hS hl hn
  show W X.p X.g.l X.e X.R X.s X.m X.args X.below X.meth X.c H locs X.cells X.slots X.Q (F0 X.m pc ls [.int 1])
  rw [hR, hA, hQ]
  refine va_forget (fun q hq => ho _ (hS.2.2 q hq)) ?_
  refine W.widen (k := 600000) (n := 7302250) hc hs ?_
  exact lw_ret B.1 B.2.1 hr B.2.2.2.2.2.2.2.2.1 hd
end LR
