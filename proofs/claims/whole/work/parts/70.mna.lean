/-! new int[4][60]: the rows of the sheets, in one instruction -/
def mnC (c : ClassId) (h0 i : Nat) : Cell := arrV c 4 (fun j => if j < i then .ref (h0 + 1 + j) else .null)
def mnR (c : ClassId) : Cell := arrV c 60 (fun _ => .int 0)
def mnS (t : State) (cR cI : ClassId) : Nat → State
  | 0 => t.pushCell (mnC cR t.heap.size 0)
  | i + 1 => ((mnS t cR cI i).pushCell (mnR cI)).setCell t.heap.size (mnC cR t.heap.size (i + 1))
theorem mnC_s (c : ClassId) (h0 i : Nat) : (mnC c h0 i).setSlot i (.ref (h0 + 1 + i)) = mnC c h0 (i + 1) := by
  unfold mnC
  rw [arrV_store]
  congr 1
  funext j
  unfold updV
  by_cases h : j = i
  · subst h
    rw [if_pos rfl, if_pos (by omega)]
  · rw [if_neg h]
    show (if j < i then Value.ref (h0 + 1 + j) else Value.null) = _
    by_cases h2 : j < i
    · rw [if_pos h2, if_pos (by omega)]
    · rw [if_neg h2, if_neg (by omega)]
theorem mnS_f (t : State) (cR cI : ClassId) : ∀ i, (mnS t cR cI i).heap.size = t.heap.size + 1 + i ∧ (mnS t cR cI i).heap[t.heap.size]? = some (mnC cR t.heap.size i) ∧ (mnS t cR cI i).vm = t.vm ∧ (mnS t cR cI i).slotsUsed = t.slotsUsed + 4 + i * 60
  | 0 => ⟨by simp [mnS], by simp [mnS], rfl, by simp [mnS, mnC, arrV_size]⟩
  | i + 1 => by
    obtain ⟨a, b, d, u⟩ := mnS_f t cR cI i
    have hlt : t.heap.size < (mnS t cR cI i).heap.size := by omega
    have hb' : ((mnS t cR cI i).pushCell (mnR cI)).heap[t.heap.size]? = some (mnC cR t.heap.size i) := by rw [State.heap_pushCell_of_lt (h := hlt)]; exact b
    refine ⟨?_, State.heap_setCell_self hb', by simp [mnS, d], ?_⟩
    · simp [mnS, State.setCell, a]; omega
    · simp [mnS, u, mnR, arrV_size]; omega
theorem mnS_top (t : State) (f : JFrame) (cR cI : ClassId) : ∀ i, mnS (t.setTop f) cR cI i = (mnS t cR cI i).setTop f
  | 0 => rfl
  | i + 1 => by simp only [mnS, mnS_top t f cR cI i, State.heap_setTop, State.pushCell_setTop, State.setCell_setTop]
theorem mnS_old (t : State) (cR cI : ClassId) {a : Nat} (ha : a < t.heap.size) : ∀ i, (mnS t cR cI i).heap[a]? = t.heap[a]?
  | 0 => State.heap_pushCell_of_lt _ _ ha
  | i + 1 => by
    have f1 := (mnS_f t cR cI i).1
    have hlt : a < (mnS t cR cI i).heap.size := by omega
    show (((mnS t cR cI i).pushCell (mnR cI)).setCell t.heap.size _).heap[a]? = _
    rw [State.heap_setCell_other (Nat.ne_of_gt ha), State.heap_pushCell_of_lt (h := hlt)]
    exact mnS_old t cR cI ha i
theorem mnS_row (t : State) (cR cI : ClassId) : ∀ i j, j < i → (mnS t cR cI i).heap[t.heap.size + 1 + j]? = some (mnR cI)
  | 0, _, h => absurd h (Nat.not_lt_zero _)
  | i + 1, j, h => by
    have f1 := (mnS_f t cR cI i).1
    show (((mnS t cR cI i).pushCell (mnR cI)).setCell t.heap.size _).heap[t.heap.size + 1 + j]? = _
    rw [State.heap_setCell_other (show t.heap.size ≠ t.heap.size + 1 + j by omega)]
    rcases Nat.lt_or_ge j i with hj | hj
    · have hl : t.heap.size + 1 + j < (mnS t cR cI i).heap.size := by rw [f1]; omega
      rw [State.heap_pushCell_of_lt (h := hl)]
      exact mnS_row t cR cI i j hj
    · obtain rfl : j = i := by omega
      rw [← f1]
      exact State.heap_pushCell_size _ _
section MN
variable {E : CtlPost} {e : Env} {d : Bool} {acts : List Action} {s : State}
theorem mn_new {c comp : ClassId} {k : Class} {type : FieldType} {len : Nat} {init : Value} (hk : s.vm.classes[c]? = some k) (hkind : k.kind = .array comp type)
    (hlimit : ¬ len > e.platform.arrayLengthLimit) (hheap : ¬ len * componentBytes type > e.platform.maxHeapBytes) (hfit : fits type init = true) (hdef : init.isDefault = true) {Q : Addr → Pre}
    (h1 : s.heap.size < e.platform.maxCells) (h2 : s.slotsUsed + len ≤ e.platform.maxSlots)
    (hq : Q s.heap.size d acts (s.pushCell (arrV c len (fun _ => init)))) :
    wp (Jvm.newArray c len init) Q E e d acts s := by
  rw [← arrV_new] at hq
  have hfits : ∀ i v, (Array.replicate len init)[i]? = some v → s.fitsSlot c .none i v = true := by
    intro i v hv
    simp only [Array.getElem?_replicate] at hv
    split at hv
    · cases hv; simp [State.fitsSlot, State.slotType?, hk, hkind, hfit]
    · cases hv
  have hda : allocActs (Array.replicate len init) s.heap.size acts = acts := by
    have hall : ((Array.replicate len init).all (·.isDefault)) = true := by
      rw [Array.all_replicate]; split <;> simp [hdef]
    unfold allocActs; rw [if_pos hall]
  simp only [Jvm.newArray, Jvm.arrayFits, wp_bind', W.ask, W.ite, hlimit, if_false, wp_pure', W.theClass, hk, hkind, hheap, W.alloc, W.stop, Option.some.injEq, exists_eq_left', Array.size_replicate, hda]
  rw [if_neg (by omega)]
  exact ⟨h1, h2, hfits, hq⟩
theorem mn_row {cI x : ClassId} {kI : Class} (hkI : s.vm.classes[cI]? = some kI) (hkindI : kI.kind = .array x .int) (hl : ¬ 60 > e.platform.arrayLengthLimit) (hh : ¬ 60 * 4 > e.platform.maxHeapBytes)
    (h1 : s.heap.size < e.platform.maxCells) (h2 : s.slotsUsed + 60 ≤ e.platform.maxSlots) {Q : Addr → Pre} (hq : Q s.heap.size d acts (s.pushCell (mnR cI))) : wp (multianewarray.make cI [60]) Q E e d acts s := by
  rw [multianewarray.make]
  simp only [wp_bind', W.ite, show ¬ (60 : Int32) < 0 by decide, if_false, wp_pure', W.theClass, hkI, hkindI, Option.some.injEq, exists_eq_left']
  exact mn_new (len := 60) hkI hkindI hl hh rfl rfl h1 h2 hq
theorem mn_all {cR cI x : ClassId} {kR kI : Class} (hkR : s.vm.classes[cR]? = some kR) (hkindR : kR.kind = .array cI (.array .int)) (hkI : s.vm.classes[cI]? = some kI) (hkindI : kI.kind = .array x .int)
    (hl : ¬ 60 > e.platform.arrayLengthLimit) (hh : ¬ 60 * 4 > e.platform.maxHeapBytes) (hc : s.heap.size + 5 ≤ e.platform.maxCells) (hs : s.slotsUsed + 244 ≤ e.platform.maxSlots)
    {Q : Addr → Pre} (hq : ∀ d' acts', Q s.heap.size d' acts' (mnS s cR cI 4)) : wp (multianewarray.make cR [4, 60]) Q E e d acts s := by
  have hfind : (([60] : List Int32).find? (· < 0)) = none := by decide
  rw [multianewarray.make]
  simp only [wp_bind', W.ite, show ¬ (4 : Int32) < 0 by decide, if_false, wp_pure', W.theClass, hkR, hkindR, Option.some.injEq, exists_eq_left']
  refine mn_new (len := 4) hkR hkindR (by omega) (by show ¬ 4 * 4 > _; omega) rfl rfl (by omega) (by omega) ?_
  simp only [hfind]
  rw [ite_self, wp_bind', Std.Legacy.Range.forIn_eq_forIn_range']
  show wp (forIn (List.range' 0 4 1) PUnit.unit _) _ E e d acts _
  refine wp_forIn_inv (fun rest s' => ∃ i, i ≤ 4 ∧ rest = List.range' i (4 - i) ∧ s' = mnS s cR cI i) _ _ ⟨0, Nat.zero_le _, rfl, ?_⟩ ?_ ?_
  · show _ = s.pushCell (mnC cR s.heap.size 0)
    congr 1
  · rintro y rest s' d' acts' Q' ⟨i, hi, hr, rfl⟩ hnext
    have hlt : i < 4 := by
      rcases Nat.lt_or_ge i 4 with h | h
      · exact h
      · rw [show 4 - i = 0 by omega] at hr; simp at hr
    obtain ⟨rfl, hrest⟩ : y = i ∧ rest = List.range' (i + 1) (4 - (i + 1)) := by
      rw [show 4 - i = (4 - (i + 1)) + 1 by omega, List.range'_succ] at hr
      exact ⟨(List.cons.inj hr).1, (List.cons.inj hr).2⟩
    obtain ⟨f1, f2, f3, f4⟩ := mnS_f s cR cI y
    simp only [wp_bind']
    refine mn_row (by rw [f3]; exact hkI) hkindI hl hh (by rw [f1]; omega) (by rw [f4]; omega) ?_
    have hlt0 : s.heap.size < (mnS s cR cI y).heap.size := by rw [f1]; omega
    simp only [wp_bind', W.writeLoc, wp_pure']
    refine ⟨mnC cR s.heap.size y, by rw [State.heap_pushCell_of_lt (h := hlt0)]; exact f2, by simp [mnC, arrV], by unfold mnC; rw [arrV_size]; exact hlt, ?_, hnext _ _ _ ⟨y + 1, hlt, hrest, ?_⟩⟩
    · simp [mnC, arrV, State.fitsSlot, State.slotType?, f3, hkR, hkindR]
      rfl
    · rw [f1]
      show _ = ((mnS s cR cI y).pushCell (mnR cI)).setCell s.heap.size (mnC cR s.heap.size (y + 1))
      rw [mnC_s]
  · rintro s' d' acts' ⟨i, hi, hr, rfl⟩
    obtain rfl : i = 4 := by
      rcases Nat.lt_or_ge i 4 with h | h
      · rw [show 4 - i = (4 - (i + 1)) + 1 by omega, List.range'_succ] at hr; cases hr
      · omega
    simp only [wp_pure']
    exact hq _ _
end MN
section MNW
variable {p : Program} {l : Launch} {e : Env} {R : Room} {s : State} {m : MethodId} {args : Array Value} {below : List Frame} {meth : Method} {c : Code} {H : Heap} {locs : List Loc} {cells slots : Nat} {Q : State → Prop}
theorem mn_stand {T : State} (X : Stand p l e R s m args below meth c T locs cells slots) (cR cI : ClassId) : ∀ i, Stand p l e R s m args below meth c (mnS T cR cI i) (locs ++ (List.range i).map fun j => ⟨T.heap.size, j⟩) (cells + 1 + i) (slots + 4 + i * 60)
  | 0 => by
    have h := X.pushed (mnC cR T.heap.size 0)
    rw [show (mnC cR T.heap.size 0).slots.size = 4 from arrV_size _ _ _] at h
    simpa [mnS] using h
  | i + 1 => by
    have Xi := mn_stand X cR cI i
    obtain ⟨f1, f2, f3, f4⟩ := mnS_f T cR cI i
    have hlt0 : T.heap.size < (mnS T cR cI i).heap.size := by rw [f1]; omega
    have hcell : ((mnS T cR cI i).pushCell (mnR cI)).heap[T.heap.size]? = some (mnC cR T.heap.size i) := by rw [State.heap_pushCell_of_lt (h := hlt0)]; exact f2
    have h := (Xi.pushed (mnR cI)).stored hcell i (.ref (T.heap.size + 1 + i))
    rw [show (mnR cI).slots.size = 60 from arrV_size _ _ _, mnC_s] at h
    rw [show (locs ++ (List.range (i + 1)).map fun j => (⟨T.heap.size, j⟩ : Loc)) = (locs ++ (List.range i).map fun j => (⟨T.heap.size, j⟩ : Loc)) ++ [⟨T.heap.size, i⟩] by simp [List.range_succ, List.append_assoc], show slots + 4 + (i + 1) * 60 = slots + 4 + i * 60 + 60 by omega]
    exact h
theorem mn_W {cc : ByteArray} (hexec : p.tables.exec = Jvm.exec) (hb : c.code = cc) {own : String} {index : Nat} (hown : s.vm.findClass own = some m.cls) (hclink : (Cond.classLink own index "[[I").before args s = true) {cR cI x : ClassId} {kR kI : Class} (hfR : s.vm.findClass "[[I" = some cR)
    (hkR : s.vm.classes[cR]? = some kR) (hkindR : kR.kind = .array cI (.array .int)) (hkI : s.vm.classes[cI]? = some kI) (hkindI : kI.kind = .array x .int)
    {g : JFrame} (hg : g.method = m) (hdg : decode cc g.pc = .ok (.multianewarray index 2, 4)) {rest : List Value} (hstack : g.stack = .int 60 :: .int 4 :: rest) (hcells : cells + 5 ≤ R.cells) (hslots : slots + 244 ≤ R.slots)
    (kk : ∀ H1 : Heap, H1.size = H.size + 5 → (∀ q, q < H.size → H1[q]? = H[q]?) → H1[H.size]? = some (mnC cR H.size 4) → (∀ j, j < 4 → H1[H.size + 1 + j]? = some (mnR cI)) →
      W p l e R s m args below meth c H1 (locs ++ (List.range 4).map fun j => ⟨H.size, j⟩) (cells + 5) (slots + 244) Q { g with pc := g.pc + 4, stack := .ref H.size :: rest }) : W p l e R s m args below meth c H locs cells slots Q g := by
  intro T hT X
  subst hT; subst hb; subst hg
  have hpl : e.platform.magicAccessors = ({} : Platform).magicAccessors := by rw [X.admits.platform]
  obtain ⟨c0, hfc0, hcl⟩ := Cond.classLink_spec hown hclink e.platform hpl
  cases hfR.symm.trans hfc0
  obtain ⟨hg₁, hwarm₁, hready₁⟩ := State.classEntry (e := e) X.warmed hcl
  generalize T.vm.noted g.method.cls index (.cls cR) = vm₁ at hg₁ hwarm₁ hready₁
  have hal : s.vm.Alike vm₁ := hwarm₁.alike
  obtain ⟨kR₁, hkR₁, heR⟩ := hal.2.2 _ _ hkR
  obtain ⟨kI₁, hkI₁, heI⟩ := hal.2.2 _ _ hkI
  have hkindR₁ : kR₁.kind = .array cI (.array .int) := by rw [heR]; exact hkindR
  have hkindI₁ : kI₁.kind = .array x .int := by rw [heI]; exact hkindI
  have X₁ := X.noted hwarm₁
  obtain ⟨hr1, hr2⟩ := X.roomAbove hcells hslots
  have XF := mn_stand X₁ cR cI 4
  obtain ⟨f1, f2, f3, f4⟩ := mnS_f (T.setVm vm₁) cR cI 4
  obtain ⟨t', a1, b1⟩ := kk (mnS (T.setVm vm₁) cR cI 4).heap f1 (fun q hq => mnS_old (T.setVm vm₁) cR cI hq 4) f2 (fun j hj => mnS_row (T.setVm vm₁) cR cI 4 j hj) (mnS (T.setVm vm₁) cR cI 4) rfl XF
  refine ⟨t', ?_, b1⟩
  have hl : ¬ 60 > e.platform.arrayLengthLimit := by rw [Launch.admits_arrayLengthLimit X.admits]; omega
  have hh : ¬ 60 * 4 > e.platform.maxHeapBytes := by rw [Launch.admits_maxHeapBytes X.admits]; omega
  jvm_step X.here [hexec, hdg]
  simp only [multianewarray.sem, wp_bind', W.resolveClassAt_links (State.method?_setTop g X.here.top) hg₁]
  rw [W.popN, if_neg (by decide)]
  refine ⟨g, State.topJava?_setTop' (s := T.setVm vm₁) g X.here.top, [.int 4, .int 60], rest, rfl, hstack, ?_⟩
  simp only [List.mapM_cons, List.mapM_nil, wp_bind', wp_pure']
  refine mn_all hkR₁ hkindR₁ hkI₁ hkindI₁ hl hh (by show T.heap.size + _ ≤ _; omega) (by show T.slotsUsed + _ ≤ _; omega) (fun d' acts' => ?_)
  have eS : ((T.setTop g).setVm vm₁).setTop { g with stack := rest } = (T.setVm vm₁).setTop { g with stack := rest } := by
    show ((T.setVm vm₁).setTop g).setTop _ = _
    rw [State.setTop_setTop]
  rw [eS, mnS_top]
  simp only [wp_bind', W.mark, W.pushRef, State.topJava?_setTop' _ XF.here.top, Option.some.injEq, exists_eq_left', State.setTop_setTop, State.heap_setTop]
  intro acts
  simp [jvm, XF.here.top]
  exact a1
end MNW
