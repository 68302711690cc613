/-! constructors: calls, ends, contracts -/
theorem kj {A0 : Nat → Prop} {D : va_G} {cl : List vw_C} {wr w1 : va_W} {x : Nat × va_E} {H H1 : Heap} (hP : va_P D cl (wr ++ [x]) H) (hD : va_D A0 (wr ++ [x])) (hk : ∀ q : Nat, q < H.size → ¬ va_A [x] H.size q → H1[q]? = H[q]?) (hF : ∀ q, va_A [x] H.size q → A0 q) (hP1 : va_P D cl w1 H1) (hD1 : va_D (va_A [x] H.size) w1) : va_P D cl (wr ++ w1) H1 ∧ va_D A0 (wr ++ w1) := by
  have up : ∀ (k : Nat) (q : Nat × va_E), wr[k]? = some q → (wr ++ [x])[k]? = some q ∧ k < wr.length := by
    intro k q hq
    have hl : k < wr.length := (List.getElem?_eq_some_iff.mp hq).1
    exact ⟨by rw [List.getElem?_append_left hl]; exact hq, hl⟩
  have last : (wr ++ [x])[wr.length]? = some x := by
    rw [List.getElem?_append_right (Nat.le_refl _), Nat.sub_self]
    rfl
  have apart : ∀ (k : Nat) (q : Nat × va_E), wr[k]? = some q → q.1 < H.size ∧ ¬ va_A [x] H.size q.1 := by
    intro k q hq
    obtain ⟨h2, hl⟩ := up k q hq
    have hlt := (hP k q h2).lt
    refine ⟨hlt, fun h => ?_⟩
    rcases h with ⟨k2, e, h⟩ | h
    · have hz : k2 < 1 := (List.getElem?_eq_some_iff.mp h).1
      rw [show k2 = 0 by omega] at h
      have hx : x = (q.1, e) := Option.some.inj h
      have := hD.1 k wr.length q x h2 last (by rw [hx])
      omega
    · omega
  refine ⟨va_P.app (fun k q hq => ?_) hP1, va_D.app ⟨fun i j p q hi hj h => hD.1 i j p q (up i p hi).1 (up j q hj).1 h, fun k q hq => hD.2 k q (up k q hq).1⟩ (hD1.weaken (fun k q _ h => hF q.1 h)) (fun i j x' y hx hy hxy => ?_)⟩
  · obtain ⟨g1, g2⟩ := apart k q hq
    exact (hP k q (up k q hq).1).kept (hk q.1 g1 g2)
  · exact (apart i x' hx).2 (by rw [hxy]; exact hD1.2 j y hy)
def itQ (g : ax_G) (ci h0 : Nat) (ks : List Nat) (A : Nat → Prop) : Array Value → State → Outcome → State → Prop := va_Qv (fun a : Nat → Nat => a ci = h0) (fun a t => va_P g.D vwCl (wl (ga g a) M0 ks) t.heap ∧ va_D A (wl (ga g a) M0 ks)) A
def itP (g : ax_G) (ci h0 sz : Nat) (fs : List Value) (U : State) : Prop := U.heap.size = sz ∧ va_P g.D vwCl [(h0, .inr (ci, fs))] U.heap ∧ (ax_K g U ∧ ax_O g U) ∧ va_D (fun _ => True) [(h0, .inr (ci, fs))]
/-- the contract of the constructor of class ci, whose object is cell ci: the cells ks come to be -/
def IT (g : ax_G) (md : ax_Md) (n mc msl ci : Nat) (fs : List Value) (ks : List Nat) : Prop := ∀ h0 sz : Nat, Met g.l md.1 (.code md.1 md.2.1 md.2.2.1 md.2.2.2 :: ax_big) ({ frames := n, cells := mc, slots := msl, locals := 30 * n } : Room) (va_Pc [.ref h0] (itP g ci h0 sz fs)) (itQ g ci h0 ks (va_A [(h0, .inr (ci, fs))] sz)) mc msl (va_A [(h0, .inr (ci, fs))] sz)
def kq (X : ax_X) (A : Nat → Prop) (mc msl ci h0 : Nat) (ks : List Nat) : Prop := X.meth.sig.returnType = none ∧ X.meth.locks = false ∧ X.Q = MQ X.below (itQ X.g ci h0 ks A) X.args X.s mc msl A
theorem it_intro {g : ax_G} {y : MethodName} {cc : ByteArray} {nL n mc msl ci : Nat} {fs : List Value} {ks : List Nat} (hy : plainName y.cls = true) (hname : y.name = "<init>") (hnL : 1 ≤ nL)
    (body : ∀ (X : ax_X) (A : Nat → Prop) (h0 : Nat), X.g = g → X.nL = nL → kb X cc y.cls n mc msl A → X.meth.name = "<init>" → kq X A mc msl ci h0 ks → KW X A 0 0 0 [(0, .ref h0)] [] [(h0, .inr (ci, fs))]) : IT g (y, cc, nL, none) n mc msl ci fs ks := by
  intro h0 sz
  refine Met.ofW (cc := cc) (maxL := nL) (ret := none) hy rfl ?_
  intro p e s m args below meth c s₁ B hml hv
  obtain ⟨rfl, hsz, hP, ⟨hK, hO⟩, hD0⟩ := hv
  have hts := atoms_spec (ws := Cond.code y cc nL none :: ax_big) B.pre
  have hin : meth.name = "<init>" := (name_of_methodNamed B.named B.method).1.trans hname
  subst hsz
  have hD := hD0.self (sz := s.heap.size)
  have hl := lv_entry ([.ref h0]) (n := nL) hnL
  rw [lg_entry_eq]
  generalize (lg_sl ([.ref h0]) ++ List.replicate (nL - (lg_sl ([.ref h0])).length) Slot.unset).toArray = ls at hl ⊢
  exact body (g, p, e, ({ frames := n, cells := mc, slots := msl, locals := 30 * n } : Room), s, m, ([Value.ref h0] : List Value).toArray, below, meth, c, nL, 0, 0, MQ below (itQ g ci h0 ks (va_A [(h0, .inr (ci, fs))] s.heap.size)) ([Value.ref h0] : List Value).toArray s mc msl (va_A [(h0, .inr (ci, fs))] s.heap.size)) (va_A [(h0, .inr (ci, fs))] s.heap.size) h0 rfl rfl
    ⟨B.exec, B.bytes, hml, findClass_of_methodNamed B.named, fun w hw => hts w (List.mem_cons_of_mem _ hw), ⟨hK, hO⟩, fun q h => Or.inr h, ⟨Nat.le_refl _, Nat.le_refl _⟩, ⟨Nat.le_refl _, Nat.le_refl _⟩⟩ hin ⟨B.returns, B.notSynchronized, rfl⟩ s.heap [] ls hP hD va_S.rf hl
def ax_ci (md : ax_Md) : Prop := ax_cok md 0 ∧ Cond.instanceMethod md.1 ∈ ax_big ∧ md.1.name = "<init>"
section KC
variable {X : ax_X} {cc : ByteArray} {own : String} {n mc msl pc cs sl : Nat} {A : Nat → Prop} {lv : List (Nat × Value)} {st : List Value} {ws : va_W}
theorem kr_ret {ci h0 : Nat} {ks : List Nat} (a : Nat → Nat) (B : kb X cc own n mc msl A) (hd : decode cc pc = .ok (.return_, 1)) (hq : kq X A cs sl ci h0 ks) (ha : a ci = h0) (hw : ws = wl (ga X.g a) M0 ks) : KW X A cs sl pc lv [] ws := by
  intro H locs ls hP hD hS hl
  subst hw
  rw [hq.2.2]
  exact W.vret B.1 B.2.1 hq.1 (fun t ht hW => ⟨⟨a, rfl, ha, by rw [ht]; exact hP, hD⟩, hS.F ht⟩) hS.2.2 hd hq.2.1
theorem it_pre {g : ax_G} {s : State} {H : Heap} {ci h0 : Nat} {fs : List Value} (hK : ax_K g s ∧ ax_O g s) (hP : va_P g.D vwCl [(h0, .inr (ci, fs))] H) : PreS s H (va_Pc [.ref h0] (itP g ci h0 H.size fs)) (.ref h0 :: []) := by
  have hD : va_D (fun _ => True) [((h0, .inr (ci, fs)) : Nat × va_E)] := by
    refine ⟨fun i j p q hi hj _ => ?_, fun _ _ _ => trivial⟩
    have h1 : i < 1 := (List.getElem?_eq_some_iff.mp hi).1
    have h2 : j < 1 := (List.getElem?_eq_some_iff.mp hj).1
    omega
  refine ⟨fun a U gg mk q => ?_, fun U hU hW => ⟨rfl, by rw [hU], by rw [hU]; exact hP, ⟨ax_K.warm hW hK.1, ax_O.to hW.alike hK.2⟩, hD⟩⟩
  obtain ⟨q0, q1, qP, ⟨qK, qO⟩, qD⟩ := q
  exact ⟨q0, q1, qP, ⟨⟨va_K.moved (u := U) (U := U.calling gg mk a) (Vm.Alike.refl U.vm) qK.1, fun w hw => va_Nw.same (u := U) (U := U.calling gg mk a) (by
      have hn := (List.mem_filter.mp hw).2
      cases w <;> first | rfl | cases hn) rfl (qK.2 w hw)⟩, ax_O.to (s := U) (U := U.calling gg mk a) (Vm.Alike.refl U.vm) qO⟩, qD⟩
theorem kr_last {D : va_G} {cl : List vw_C} {wr : va_W} {x : Nat × va_E} {H : Heap} (hP : va_P D cl (wr ++ [x]) H) : va_P D cl [x] H := by
  intro k q hq
  have hz : k < 1 := (List.getElem?_eq_some_iff.mp hq).1
  rw [show k = 0 by omega] at hq
  refine hP wr.length q ?_
  rw [List.getElem?_append_right (Nat.le_refl _), Nat.sub_self]
  exact hq
theorem kr_fr {wr : va_W} {x : Nat × va_E} {H0 H : Heap} {locs : List Loc} (hD : va_D A (wr ++ [x])) (hS : va_S A H0 H locs) (hA : ∀ q, H0.size ≤ q → A q) : ∀ q, va_A [x] H.size q → A q := by
  refine va_free (wc := [x]) hD hS hA [wr.length] ?_
  show [(wr ++ [x])[wr.length]?] = [some x]
  rw [List.getElem?_append_right (Nat.le_refl _), Nat.sub_self]
  rfl
theorem kr_callI {md : ax_Md} {idx ci q n' mc' ms' : Nat} {fs : List Value} {ks : List Nat} {wr : va_W} (B : kb X cc own n mc msl A) (hd : decode cc pc = .ok (.invokespecial idx, 3)) (hv : ax_ci md) (hret : md.2.2.2 = none) (hl : Cond.methodLink own idx md.1 ∈ ax_big) (hc : IT X.g md n' mc' ms' ci fs ks) (hdn : n' + 1 ≤ n) (hrs : (st.map fun v => v.category).sum ≤ 8) (h1 : cs + mc' ≤ mc) (h2 : sl + ms' ≤ msl)
    (k : ∀ a : Nat → Nat, a ci = q → KW X A (cs + mc') (sl + ms') (pc + 3) lv st (wr ++ wl (ga X.g a) M0 ks)) : KW X A cs sl pc lv (.ref q :: st) (wr ++ [(q, .inr (ci, fs))]) := by
  intro H locs ls hP hD hS hl0
  obtain ⟨y, bytes, maxL, ret⟩ := md
  have hret : ret = none := hret
  subst hret
  obtain ⟨⟨w1, w2, w3, w4, w5⟩, hin, hnm⟩ := hv
  have hr := B.2.2.2.2.2.2.2.1
  have hR := B.2.2.2.2.2.2.2.2
  have hF := kr_fr hD hS B.2.2.2.2.2.2.1
  have w5 : maxL ≤ 11 := w5
  have cw : CallB X.R X.s X.args own idx y bytes maxL none (.code y bytes maxL none :: ax_big) ({ frames := n', cells := mc', slots := ms', locals := 30 * n' } : Room) mc' ms' 0 := callB_of 0 B.2.2.2.2.1 (ax_good w1) rfl rfl rfl (B.2.2.2.2.1 _ w2) (B.2.2.2.2.1 _ hl) ⟨w3.1, w3.2, w4⟩ ⟨by show n' + 1 ≤ _; omega, by show 8 + (maxL + 11) + 30 * n' ≤ X.R.locals; omega⟩
  refine va_callv (va_runI (As := []) (rest := st) (b := q) ⟨B.1, B.2.1, B.2.2.1, B.2.2.2.1, B.2.2.2.2.1⟩ (hc q H.size) ⟨cw, hnm, B.2.2.2.2.1 _ hin⟩ (it_pre B.2.2.2.2.2.1 (kr_last hP)) rfl rfl hl0.1 rfl (lv_room hrs) hd ⟨by omega, by omega⟩) hS (fun q _ h => hF q h) hF (fun a t H1 locs1 ht hvm hw hB hz1 hk1 hS1 => ?_)
  obtain ⟨hP1, hD1⟩ := hB
  rw [ht] at hP1
  obtain ⟨hP2, hD2⟩ := kj hP hD hk1 hF hP1 hD1
  exact k a hw H1 locs1 ls hP2 hD2 hS1 hl0
theorem kr_callN {md : ax_Md} {idx ci q n' mc' ms' : Nat} {host : String} {fs : List Value} {ks : List Nat} {wr : va_W} (B : kb X cc own n mc msl A) (hd : decode cc pc = .ok (.invokespecial idx, 3)) (hv : ax_ci md) (hret : md.2.2.2 = none) (hl : Cond.methodLinkNest own idx md.1 host ∈ ax_nw) (hc : IT X.g md n' mc' ms' ci fs ks) (hdn : n' + 1 ≤ n) (hrs : (st.map fun v => v.category).sum ≤ 8) (h1 : cs + mc' ≤ mc) (h2 : sl + ms' ≤ msl)
    (k : ∀ a : Nat → Nat, a ci = q → KW X A (cs + mc') (sl + ms') (pc + 3) lv st (wr ++ wl (ga X.g a) M0 ks)) : KW X A cs sl pc lv (.ref q :: st) (wr ++ [(q, .inr (ci, fs))]) := by
  intro H locs ls hP hD hS hl0
  obtain ⟨y, bytes, maxL, ret⟩ := md
  have hret : ret = none := hret
  subst hret
  obtain ⟨⟨w1, w2, w3, w4, w5⟩, hin, hnm⟩ := hv
  have hr := B.2.2.2.2.2.2.2.1
  have hR := B.2.2.2.2.2.2.2.2
  have hF := kr_fr hD hS B.2.2.2.2.2.2.1
  have w5 : maxL ≤ 11 := w5
  have cw : va_CN X.R X.s X.args own idx y host bytes maxL none (.code y bytes maxL none :: ax_big) ({ frames := n', cells := mc', slots := ms', locals := 30 * n' } : Room) mc' ms' 0 := va_cnB 0 B.2.2.2.2.1 (ax_good w1) rfl rfl rfl (B.2.2.2.2.2.1.1.2 _ hl) (B.2.2.2.2.1 _ w2) ⟨w3.1, w3.2, w4⟩ ⟨by show n' + 1 ≤ _; omega, by show 8 + (maxL + 11) + 30 * n' ≤ X.R.locals; omega⟩
  refine va_callv (va_runIN (As := []) (rest := st) (b := q) ⟨B.1, B.2.1, B.2.2.1, B.2.2.2.1, B.2.2.2.2.1⟩ (hc q H.size) ⟨cw, hnm, B.2.2.2.2.1 _ hin⟩ (it_pre B.2.2.2.2.2.1 (kr_last hP)) rfl rfl hl0.1 rfl (lv_room hrs) hd ⟨by omega, by omega⟩) hS (fun q _ h => hF q h) hF (fun a t H1 locs1 ht hvm hw hB hz1 hk1 hS1 => ?_)
  obtain ⟨hP1, hD1⟩ := hB
  rw [ht] at hP1
  obtain ⟨hP2, hD2⟩ := kj hP hD hk1 hF hP1 hD1
  exact k a hw H1 locs1 ls hP2 hD2 hS1 hl0
def rw4 (a b c d : Nat) : Nat → Option Nat := fun j => (([some a, some b, some c, some d] : List (Option Nat))[j]?).getD none
theorem kr_mna {idx : Nat} (B : kb X cc own n mc msl A) (hd : decode cc pc = .ok (.multianewarray idx 2, 4)) (hlk : Cond.classLink own idx "[[I" ∈ ax_big) (h1 : cs + 5 ≤ mc) (h2 : sl + 244 ≤ msl)
    (k : ∀ q q1 q2 q3 q4, KW X A (cs + 5) (sl + 244) (pc + 4) lv (.ref q :: st) (ws ++ [(q, .inl (X.g.cR, 4, .inr (.inr (.inr (.inr (rw4 q1 q2 q3 q4)))))), (q1, .inl (X.g.cI, 60, .inl fun _ => 0)), (q2, .inl (X.g.cI, 60, .inl fun _ => 0)), (q3, .inl (X.g.cI, 60, .inl fun _ => 0)), (q4, .inl (X.g.cI, 60, .inl fun _ => 0))])) : KW X A cs sl pc lv (.int (ax_i 60) :: .int (ax_i 4) :: st) ws := by
  intro H locs ls hP hD hS hl
  have hK := B.2.2.2.2.2.1.1.1
  have hA := B.2.2.2.2.2.2.1
  have hR := B.2.2.2.2.2.2.2.2
  obtain ⟨kR, r1, r2⟩ := B.2.2.2.2.2.1.2
  have hfR : X.s.vm.findClass "[[I" = some X.g.cR := by
    have e : "[" ++ (FieldType.array .int).toString = "[[I" := by decide +kernel
    rw [← e]
    exact (hK.2 3 _ rfl).2
  obtain ⟨-, kI, i1, x, i2⟩ := (hK.2 0 _ rfl).1 0 (fun _ => .null)
  refine mn_W B.1 B.2.1 B.2.2.2.1 (B.2.2.2.2.1 _ hlk) hfR r1 r2 i1 i2 rfl hd rfl (by omega) (by omega) (fun H1 z1 o1 eR eI => ?_)
  have e0 := eI 0 (by decide)
  have e1 := eI 1 (by decide)
  have e2 := eI 2 (by decide)
  have e3 := eI 3 (by decide)
  have hk : ∀ (k : Nat) (x : Nat × va_E), ws[k]? = some x → H1[x.1]? = H[x.1]? := fun k x hx => o1 x.1 ((hP k x hx).lt)
  have h0 := hS.1
  refine k H.size (H.size + 1 + 0) (H.size + 1 + 1) (H.size + 1 + 2) (H.size + 1 + 3) H1 _ ls ((hP.kept hk).app (fun k x hx => ?_)) (va_D.app hD ⟨fun i j p q hi hj h => ?_, fun k q hq => ?_⟩ (fun i j x y hx hy hxy => ?_)) ⟨by omega, fun x a b => (o1 x (by omega)).trans (hS.2.1 x a b), fun lc hlc => ?_⟩ hl
  · rcases k with _ | _ | _ | _ | _ | k
    · cases hx
      show H1[H.size]? = some (vp_cell _ _)
      rw [eR, vp_cell_q]
      unfold mnC
      congr 2
      funext j
      match j with
      | 0 => rfl
      | 1 => rfl
      | 2 => rfl
      | 3 => rfl
      | j + 4 => rfl
    · cases hx; exact e0
    · cases hx; exact e1
    · cases hx; exact e2
    · cases hx; exact e3
    · cases hx
  · rcases i with _ | _ | _ | _ | _ | i <;> rcases j with _ | _ | _ | _ | _ | j <;> first | (cases hi; done) | (cases hj; done) | rfl | (cases hi; cases hj; exact absurd h (by simp only []; omega))
  · rcases k with _ | _ | _ | _ | _ | k <;> first | (cases hq; done) | (cases hq; exact hA _ (by simp only []; omega))
  · have hlt := (hP i x hx).lt
    rcases j with _ | _ | _ | _ | _ | j <;> first | (cases hy; done) | (cases hy; simp only [] at hxy; omega)
  · rcases List.mem_append.mp hlc with h | h
    · exact hS.2.2 lc h
    · obtain ⟨j, -, rfl⟩ := List.mem_map.mp h
      exact hA _ h0
end KC
