/-! the tables' good words, the nest words -/
def ax_big : List Cond := lw_tbl.filter goodWord
theorem ax_in {w : Cond} (i : Nat) (h : lw_tbl[i]? = some w) (g : goodWord w = true) : w ∈ ax_big := List.mem_filter.mpr ⟨List.mem_of_getElem? h, g⟩
theorem ax_good {z : MethodName} {cz : ByteArray} {nz : Nat} {rz : Option FieldType} (h : Cond.code z cz nz rz ∈ ax_big) : GoodIn ax_big (.code z cz nz rz :: ax_big) := by
  intro w hw
  have hm : w ∈ ax_big := (List.mem_cons.mp hw).elim (fun e => e ▸ h) id
  exact ⟨hm, good_of_word (List.mem_filter.mp hm).2⟩
def ax_isN : Cond → Bool
  | .methodLinkNest _ _ _ _ => true
  | _ => false
def ax_nw : List Cond := lw_tbl.filter ax_isN
theorem ax_inN {w : Cond} (i : Nat) (h : lw_tbl[i]? = some w) (g : ax_isN w = true) : w ∈ ax_nw := List.mem_filter.mpr ⟨List.mem_of_getElem? h, g⟩
/-! values, memory -/
def ax_i (z : Int) : Int32 := Int32.ofInt z
def ax_l (z : Int) : Int64 := Int64.ofInt z
abbrev ax_V : Type := Int ⊕ (Int ⊕ Nat)
def aI (z : Int) : ax_V := .inl z
def aL (z : Int) : ax_V := .inr (.inl z)
def aR (k : Nat) : ax_V := .inr (.inr k)
abbrev ax_M : Type := Nat → Int → Int
abbrev ax_G : Type := Launch × (Nat → Nat) × va_G × (ClassId × ClassId × ClassId × ClassId)
abbrev ax_G.l (g : ax_G) : Launch := g.1
abbrev ax_G.ad (g : ax_G) : Nat → Nat := g.2.1
abbrev ax_G.D (g : ax_G) : va_G := g.2.2.1
abbrev ax_G.cI (g : ax_G) : ClassId := g.2.2.2.1
abbrev ax_G.cZ (g : ax_G) : ClassId := g.2.2.2.2.1
abbrev ax_G.cJ (g : ax_G) : ClassId := g.2.2.2.2.2.1
abbrev ax_G.cR (g : ax_G) : ClassId := g.2.2.2.2.2.2
def cv (g : ax_G) : ax_V → Value
  | .inl z => .int (ax_i z)
  | .inr (.inl z) => .long (ax_l z)
  | .inr (.inr k) => .ref (g.ad k)
/-! the cells: 0 .. 9 the objects, then their arrays -/
def ax_shpL : List (Nat × Nat × List (Option Nat)) := [(4, 0, [some 10, some 11, some 12, some 13, some 14, none, none, none, none, none, none]), (4, 1, [some 15, some 16, some 17]), (4, 2, [some 0, some 5, some 1, some 18, some 19, some 20, some 21, some 22, some 23]), (4, 3, [none, some 24, some 25]), (4, 4, [some 26, none, none, some 2, some 27, some 28, some 29, none]), (4, 5, [none, none, none, some 30, some 31, some 32, none, none, none, none]), (4, 6, [some 33, some 38, some 39, none]), (4, 7, [none, some 40, some 41, some 42, some 43, none, none]), (4, 8, [some 4, some 2, some 0, some 5, some 1, some 7, some 3, some 6, some 44, none, none]), (4, 9, [some 45, some 46, none, some 47, some 48, some 49, some 50, some 51, none, some 52, some 53, some 54, some 55, some 56, some 57, some 58, some 59, some 60, some 61, some 62, some 63, some 64, none, none, none, none, none, some 65, some 66, some 67, none, some 68, some 69, some 70, some 71, some 72, some 73, some 74, none]), (0, 8, []), (0, 8, []), (0, 8, []), (0, 8, []), (0, 8, []), (0, 32, []), (0, 8, []), (0, 4, []), (0, 8, []), (1, 8, []), (1, 8, []), (0, 64, []), (0, 64, []), (0, 8, []), (0, 10, []), (0, 10, []), (0, 8, []), (2, 256, []), (2, 256, []), (2, 256, []), (0, 4, []), (1, 4, []), (1, 4, []), (3, 4, [some 34, some 35, some 36, some 37]), (0, 60, []), (0, 60, []), (0, 60, []), (0, 60, []), (0, 4, []), (0, 4, []), (0, 10, []), (0, 10, []), (0, 10, []), (0, 10, []), (0, 8, []), (0, 2, []), (0, 160, []), (0, 9, []), (0, 9, []), (0, 9, []), (0, 9, []), (0, 9, []), (0, 4, []), (0, 4, []), (0, 4, []), (0, 8, []), (0, 8, []), (0, 8, []), (0, 8, []), (0, 8, []), (0, 4, []), (0, 2048, []), (0, 256, []), (0, 256, []), (0, 8, []), (0, 10, []), (0, 10, []), (0, 10, []), (0, 10, []), (0, 10, []), (1, 4, []), (0, 4, []), (0, 4, []), (0, 240, []), (0, 60, [])]
def ax_NC : Nat := 75
theorem ax_shpL_len : ax_shpL.length = ax_NC := by decide +kernel

def ax_shp (k : Nat) : Nat × Nat × List (Option Nat) := (ax_shpL[k]?).getD (9, 0, [])
theorem ax_shp_lt {k t n : Nat} {x : List (Option Nat)} (h : ax_shp k = (t, n, x)) (ht : t < 9) : k < ax_NC := by
  rcases Nat.lt_or_ge k ax_NC with h1 | h1
  · exact h1
  · unfold ax_shp at h
    rw [List.getElem?_eq_none (by rw [ax_shpL_len]; exact h1)] at h
    have : (9, 0, ([] : List (Option Nat))) = (t, n, x) := h
    cases this
    exact absurd ht (by decide)
def ax_fld (g : ax_G) (M : ax_M) (k : Nat) (q : Option Nat × Nat) : Value := match q.1 with
  | none => .int (ax_i (M k q.2))
  | some k' => .ref (g.ad k')
def ax_cellS (g : ax_G) (M : ax_M) (k : Nat) : Nat × Nat × List (Option Nat) → va_E
  | (0, n, _) => .inl (g.cI, n, .inl fun j => ax_i (M k j))
  | (1, n, _) => .inl (g.cZ, n, .inl fun j => ax_i (M k j))
  | (2, n, _) => .inl (g.cJ, n, .inr (.inl fun j => ax_l (M k j)))
  | (3, n, fs) => .inl (g.cR, n, .inr (.inr (.inr (.inr fun j => ((fs[j]?).getD none).map g.ad))))
  | (_, n, fs) => .inr (n, fs.zipIdx.map (ax_fld g M k))
def ax_cell (g : ax_G) (M : ax_M) (k : Nat) : va_E := ax_cellS g M k (ax_shp k)
def wd (g : ax_G) (M : ax_M) : va_W := (List.range ax_NC).map fun k => (g.ad k, ax_cell g M k)
theorem wd_at {g : ax_G} {M : ax_M} {k : Nat} (h : k < ax_NC) : (wd g M)[k]? = some (g.ad k, ax_cell g M k) := by
  unfold wd
  rw [List.getElem?_map, List.getElem?_range h]
  rfl
theorem wd_inv {g : ax_G} {M : ax_M} {k : Nat} {q : Nat × va_E} (h : (wd g M)[k]? = some q) : k < ax_NC ∧ q = (g.ad k, ax_cell g M k) := by
  have hl : k < ax_NC := by
    have := (List.getElem?_eq_some_iff.mp h).1
    simpa [wd] using this
  rw [wd_at hl] at h
  exact ⟨hl, (Option.some.inj h).symm⟩
theorem wd_set {g : ax_G} {M M' : ax_M} {k : Nat} {e : va_E} (hM : ∀ j, j ≠ k → ax_cell g M' j = ax_cell g M j) (he : ax_cell g M' k = e) : (wd g M).set k (g.ad k, e) = wd g M' := by
  apply List.ext_getElem?
  intro j
  rcases Nat.lt_or_ge j ax_NC with hj | hj
  · by_cases hjk : j = k
    · subst hjk
      rw [List.getElem?_set_self (by simpa [wd] using hj), wd_at hj, he]
    · rw [List.getElem?_set_ne (Ne.symm hjk), wd_at hj, wd_at hj, hM j hjk]
  · rw [List.getElem?_eq_none (by simpa [wd] using hj), List.getElem?_eq_none (by simpa [wd] using hj)]
def ms (M : ax_M) (k : Nat) (i v : Int) : ax_M := fun k' i' => if k' = k ∧ i' = i then v else M k' i'
theorem ms_ne {M : ax_M} {k k' : Nat} {i v : Int} (h : k' ≠ k) : ms M k i v k' = M k' := by
  funext j
  simp [ms, h]
theorem ms_at (M : ax_M) (k : Nat) (i v : Int) : ms M k i v k i = v := by simp [ms]
theorem ms_off {M : ax_M} {k : Nat} {i j v : Int} (h : j ≠ i) : ms M k i v k j = M k j := by simp [ms, h]
/-! bounds of all that the cells hold -/
def bd : Nat → Int → Int × Int := fun k i => match k with
  | 0 => if i = 5 then (0, 80) else if i = 6 then (0, 8) else if i = 7 then ((-1), 80) else if i = 8 then (0, 8) else if i = 9 then (0, 4) else if i = 10 then ((-1), 80) else (0, 0)
  | 1 => (0, 0)
  | 2 => (0, 0)
  | 3 => if i = 0 then (0, 10) else (0, 0)
  | 4 => if i = 1 then (0, 72) else if i = 2 then (0, 1000) else if i = 7 then (0, 255) else (0, 0)
  | 5 => if i = 0 then (0, 40) else if i = 1 then (0, 40) else if i = 2 then ((-1), 40) else if i = 6 then (0, 40) else if i = 7 then (0, 3) else if i = 8 then (0, 4) else if i = 9 then ((-1), 40) else (0, 0)
  | 6 => if i = 3 then (0, 5) else (0, 0)
  | 7 => if i = 0 then (0, 10) else if i = 5 then (0, 1023) else if i = 6 then (0, 1) else (0, 0)
  | 8 => if i = 9 then (0, 1) else if i = 10 then (0, 1) else (0, 0)
  | 9 => if i = 2 then (0, 8) else if i = 8 then (0, 40) else if i = 22 then ((-1), 72) else if i = 23 then (0, 1000000) else if i = 24 then ((-1), 72) else if i = 25 then (0, 1000000) else if i = 26 then (0, 10) else if i = 30 then (0, 10) else if i = 38 then (0, 5) else (0, 0)
  | 10 => (0, 3)
  | 11 => (0, 5)
  | 12 => (0, 1)
  | 13 => (0, 9)
  | 14 => (0, 255)
  | 15 => (0, 99)
  | 16 => (0, 1)
  | 17 => (0, 999)
  | 18 => (0, 8)
  | 19 => (0, 1)
  | 20 => (0, 1)
  | 21 => ((-1), 255)
  | 22 => (0, 792)
  | 23 => (0, 7)
  | 24 => (0, 7)
  | 25 => (0, 7)
  | 26 => ((-1), 7)
  | 27 => (0, 1152921504606846976)
  | 28 => (0, 1152921504606846976)
  | 29 => (0, 1152921504606846976)
  | 30 => (0, 4)
  | 31 => (0, 1)
  | 32 => (0, 1)
  | 33 => (0, 0)
  | 34 => ((-2147483648), 2147483647)
  | 35 => ((-2147483648), 2147483647)
  | 36 => ((-2147483648), 2147483647)
  | 37 => ((-2147483648), 2147483647)
  | 38 => ((-1), 2)
  | 39 => (0, 60)
  | 40 => (0, 7)
  | 41 => (0, 5)
  | 42 => (0, 7)
  | 43 => (0, 1023)
  | 44 => ((-2147483648), 2147483647)
  | 45 => (0, 80)
  | 46 => (0, 255)
  | 47 => (0, 3)
  | 48 => (0, 5)
  | 49 => (0, 1)
  | 50 => (0, 9)
  | 51 => (0, 255)
  | 52 => (0, 4)
  | 53 => (0, 1)
  | 54 => (0, 1)
  | 55 => (0, 7)
  | 56 => (0, 8)
  | 57 => (0, 99)
  | 58 => (0, 16)
  | 59 => (0, 1)
  | 60 => (0, 999)
  | 61 => (0, 1000000)
  | 62 => (0, 1000000)
  | 63 => (0, 1000000)
  | 64 => ((-1), 8)
  | 65 => (0, 7)
  | 66 => (0, 5)
  | 67 => (0, 7)
  | 68 => (0, 7)
  | 69 => (0, 7)
  | 70 => (0, 1)
  | 71 => (0, 2)
  | 72 => (0, 60)
  | 73 => ((-2147483648), 2147483647)
  | 74 => ((-2147483648), 2147483647)
  | _ => (0, 0)

def RG (M : ax_M) : Prop := ∀ (k : Nat) (i : Int), (bd k i).1 ≤ M k i ∧ M k i ≤ (bd k i).2
theorem RG.at {M : ax_M} (h : RG M) {k : Nat} {i lo up : Int} (e : bd k i = (lo, up)) : lo ≤ M k i ∧ M k i ≤ up := by
  have := h k i
  rw [e] at this
  exact this
theorem RG.ms {M : ax_M} (h : RG M) {k : Nat} {i v lo up : Int} (e : bd k i = (lo, up)) (hv : lo ≤ v ∧ v ≤ up) : RG (ms M k i v) := by
  intro k' i'
  show _ ≤ (if _ then _ else _) ∧ (if _ then _ else _) ≤ _
  split
  · next q =>
    obtain ⟨rfl, rfl⟩ := q
    rw [e]
    exact hv
  · exact h k' i'
/-- an int (0), boolean (1), long (2) array: its length, its bounds -/
def ax_arr (t k N : Nat) (lo hi : Int) : Prop := (∃ x, ax_shp k = (t, N, x)) ∧ N ≤ 2147483647 ∧ ∀ i, bd k i = (lo, hi)
/-- object k of class ci has an int or boolean at field j -/
def ax_ob (k ci j : Nat) (z lo up : Int) : Prop := (∃ fs, ax_shp k = (4, ci, fs) ∧ fs[j]? = some none) ∧ bd k z = (lo, up) ∧ (j : Int) = z
def ax_fi (ci j : Nat) : Prop := ∀ (T : u_T) (C : String) (N : Nat), vwCl[ci]? = some (C, T, N) → (T j).2.2.2 = false ∧ parseFieldDescriptor (T j).2.2.1 = some .int
def ax_fz (ci j : Nat) : Prop := ∀ (T : u_T) (C : String) (N : Nat), vwCl[ci]? = some (C, T, N) → (T j).2.2.2 = false ∧ parseFieldDescriptor (T j).2.2.1 = some .boolean
def ax_or1 (k ci j k2 : Nat) : Prop := ∃ fs, ax_shp k = (4, ci, fs) ∧ fs[j]? = some (some k2)
theorem ax_cell_off {g : ax_G} {M M' : ax_M} {k : Nat} (h : M' k = M k) : ax_cell g M' k = ax_cell g M k := by
  unfold ax_cell
  have : ∀ s, ax_cellS g M' k s = ax_cellS g M k s := by
    intro s
    have hf : ax_fld g M' k = ax_fld g M k := by funext q; simp [ax_fld, h]
    unfold ax_cellS
    split <;> simp [h, hf]
  exact this _
/-- which cells may change -/
def ax_A (g : ax_G) : Nat → Prop := fun q => ∃ k, k < ax_NC ∧ q = g.ad k
def ax_D (g : ax_G) : Prop := ∀ i j, i < ax_NC → j < ax_NC → g.ad i = g.ad j → i = j
theorem ax_vaD {g : ax_G} {M : ax_M} (h : ax_D g) : va_D (ax_A g) (wd g M) := by
  refine ⟨fun i j p q hi hj hpq => ?_, fun k q hk => ?_⟩
  · obtain ⟨h1, rfl⟩ := wd_inv hi
    obtain ⟨h2, rfl⟩ := wd_inv hj
    exact h i j h1 h2 hpq
  · obtain ⟨h1, rfl⟩ := wd_inv hk
    exact ⟨k, h1, rfl⟩
/-! tables' facts of a state -/
def ax_tys (g : ax_G) : List (ClassId × FieldType) := [(g.cI, .int), (g.cZ, .boolean), (g.cJ, .long), (g.cR, .array .int)]
def ax_K (g : ax_G) (U : State) : Prop := va_K g.D vwCl (ax_tys g) U ∧ ∀ w ∈ ax_nw, va_Nw w U
theorem ax_K.warm {g : ax_G} {s U : State} (hW : s.WarmedH U.vm) (h : ax_K g s) : ax_K g U := by
  refine ⟨va_K.moved hW.alike h.1, fun w hw => ?_⟩
  have hz := h.2 w hw
  have hn := (List.mem_filter.mp hw).2
  cases w <;> first | exact va_Nw.warmM hW hz | cases hn
def ax_S1 (g : ax_G) (C n d : String) (k : Nat) (ty : FieldType) (N : Nat) (f : Nat → Value) (U : State) (H : Heap) : Prop := va_Z C n d (.ref (g.ad k)) (ax_A g) U H ∧ va_T ty (g.ad k) N f (ax_A g) U H
theorem ax_S1.to {g : ax_G} {C n d : String} {k : Nat} {ty : FieldType} {N : Nat} {f : Nat → Value} {s U : State} {H H1 : Heap} (hvm : s.vm.Alike U.vm) (hq : ∀ a : Nat, a < H.size → ¬ ax_A g a → H1[a]? = H[a]?) (h : ax_S1 g C n d k ty N f s H) : ax_S1 g C n d k ty N f U H1 := ⟨va_Z.moved hvm (h.1.kept hq), va_T.moved hvm (h.2.kept hq)⟩
def ax_tm : Nat → Int := fun j => match j with | 0 => 7 | 1 => 8 | 2 => 99 | _ => 16
def ax_sm : Nat → Int := fun j => match j with | 0 => 99 | 1 => 1 | 2 => 999 | _ => 10
def ax_wt : Nat → Int := fun j => match j with | 0 => 4782969 | 1 => 531441 | 2 => 59049 | 3 => 6561 | 4 => 729 | 5 => 81 | 6 => 9 | _ => 1
def ax_S (g : ax_G) (U : State) (H : Heap) : Prop :=
  ax_S1 g "SecondChances$Night" "TRAIT_MOST" "[I" 100 .int 4 (fun j => .int (ax_i (ax_tm j))) U H ∧
  ax_S1 g "SecondChances$Night" "SETTING_MOST" "[I" 101 .int 4 (fun j => .int (ax_i (ax_sm j))) U H ∧
  ax_S1 g "SecondChances$Planner" "WEIGHT" "[J" 102 .long 8 (fun j => .long (ax_l (ax_wt j))) U H
theorem ax_S.to {g : ax_G} {s U : State} {H H1 : Heap} (hvm : s.vm.Alike U.vm) (hq : ∀ a : Nat, a < H.size → ¬ ax_A g a → H1[a]? = H[a]?) (h : ax_S g s H) : ax_S g U H1 := ⟨h.1.to hvm hq, h.2.1.to hvm hq, h.2.2.to hvm hq⟩
/-! frames -/
def ax_lvL (g : ax_G) (lv : List (Option ax_V)) : List (Nat × Value) := lv.zipIdx.filterMap (fun q => q.1.map (fun v => (q.2, cv g v)))
theorem ax_lvL_mem {g : ax_G} {lv : List (Option ax_V)} {i : Nat} {w : Value} : (i, w) ∈ ax_lvL g lv ↔ ∃ v, lv[i]? = some (some v) ∧ w = cv g v := by
  unfold ax_lvL
  rw [List.mem_filterMap]
  constructor
  · rintro ⟨⟨a, j⟩, h1, h2⟩
    rw [List.mem_zipIdx_iff_getElem?] at h1
    cases a with
    | none => simp at h2
    | some v =>
      simp only [Option.map_some, Option.some.injEq, Prod.mk.injEq] at h2
      obtain ⟨rfl, rfl⟩ := h2
      exact ⟨v, h1, rfl⟩
  · rintro ⟨v, h1, rfl⟩
    exact ⟨(some v, i), List.mem_zipIdx_iff_getElem?.mpr h1, rfl⟩
def ax_notL : Option ax_V → Bool
  | some (.inr (.inl _)) => false
  | _ => true
theorem ax_notL_cat {g : ax_G} {v : ax_V} (h : ax_notL (some v) = true) : (cv g v).category = 1 := by
  rcases v with z | z | z
  · rfl
  · cases h
  · rfl
theorem ax_lv_get {g : ax_G} {ls : Array Slot} {nL : Nat} {lv : List (Option ax_V)} (h : lv_has ls nL (ax_lvL g lv)) (i : Nat) {v : ax_V} (hi : lv[i]? = some (some v)) : ls[i]? = some (.val (cv g v)) := h.2.2 (i, cv g v) (ax_lvL_mem.mpr ⟨v, hi, rfl⟩)
theorem ax_hx {lv : List (Option ax_V)} {i : Nat} {x : Option ax_V} (h : lv[i]? = some x) (hx : ax_notL x = true) : ∀ j, j + 1 = i + 1 → ∀ w, lv[j]? = some (some w) → ax_notL (some w) = true := by
  intro j hj w hw
  obtain rfl : j = i := by omega
  rw [h] at hw
  cases hw
  exact hx
theorem ax_h0 {lv : List (Option ax_V)} : ∀ j, j + 1 = 0 → ∀ w, lv[j]? = some (some w) → ax_notL (some w) = true := by
  intro j hj
  omega
theorem ax_lv_st1 {g : ax_G} {ls' : Array Slot} {nL i : Nat} {lv lv' : List (Option ax_V)} {v : ax_V} (h : lv_has ls' nL ((i, cv g v) :: (ax_lvL g lv).filter (fun q => !(q.1 == i) && !(q.1 + 1 == i && q.2.category == 2)))) (e : lv' = lv.set i (some v)) (hn : ∀ j, j + 1 = i → ∀ w, lv[j]? = some (some w) → ax_notL (some w) = true) : lv_has ls' nL (ax_lvL g lv') := by
  refine ⟨h.1, h.2.1, fun q hq => ?_⟩
  obtain ⟨j, w⟩ := q
  obtain ⟨v', h1, rfl⟩ := ax_lvL_mem.mp hq
  rw [e] at h1
  by_cases hj : j = i
  · subst hj
    have hl : j < lv.length := by
      have := (List.getElem?_eq_some_iff.mp h1).1
      simpa using this
    rw [List.getElem?_set_self hl] at h1
    cases h1
    exact h.2.2 _ List.mem_cons_self
  · rw [List.getElem?_set_ne (Ne.symm hj)] at h1
    refine h.2.2 _ (List.mem_cons_of_mem _ (List.mem_filter.mpr ⟨ax_lvL_mem.mpr ⟨v', h1, rfl⟩, ?_⟩))
    by_cases hj1 : j + 1 = i
    · have := ax_notL_cat (g := g) (hn j hj1 v' h1)
      simp [hj, this]
    · simp [hj, hj1]
theorem ax_lv_st2 {g : ax_G} {ls' : Array Slot} {nL i : Nat} {lv lv' : List (Option ax_V)} {v : ax_V} (h : lv_has ls' nL ((i, cv g v) :: (ax_lvL g lv).filter (fun q => !(q.1 == i) && (!(q.1 == i + 1) && !(q.1 + 1 == i && q.2.category == 2))))) (e : lv' = (lv.set i (some v)).set (i + 1) none) (hn : ∀ j, j + 1 = i → ∀ w, lv[j]? = some (some w) → ax_notL (some w) = true) : lv_has ls' nL (ax_lvL g lv') := by
  refine ⟨h.1, h.2.1, fun q hq => ?_⟩
  obtain ⟨j, w⟩ := q
  obtain ⟨v', h1, rfl⟩ := ax_lvL_mem.mp hq
  rw [e] at h1
  by_cases hj2 : j = i + 1
  · subst hj2
    have hl : i + 1 < lv.length := by
      have := (List.getElem?_eq_some_iff.mp h1).1
      simpa using this
    rw [List.getElem?_set_self (by simpa using hl)] at h1
    cases h1
  · rw [List.getElem?_set_ne (Ne.symm hj2)] at h1
    by_cases hj : j = i
    · subst hj
      have hl : j < lv.length := by
        have := (List.getElem?_eq_some_iff.mp h1).1
        simpa using this
      rw [List.getElem?_set_self hl] at h1
      cases h1
      exact h.2.2 _ List.mem_cons_self
    · rw [List.getElem?_set_ne (Ne.symm hj)] at h1
      refine h.2.2 _ (List.mem_cons_of_mem _ (List.mem_filter.mpr ⟨ax_lvL_mem.mpr ⟨v', h1, rfl⟩, ?_⟩))
      by_cases hj1 : j + 1 = i
      · have := ax_notL_cat (g := g) (hn j hj1 v' h1)
        simp [hj, hj2, this]
      · simp [hj, hj1, hj2]
/-! a body's fixed things -/
abbrev ax_X : Type := ax_G × Program × Env × Room × State × MethodId × Array Value × List Frame × Method × Code × Nat × Nat × Nat × (State → Prop)
abbrev ax_X.g (X : ax_X) : ax_G := X.1
abbrev ax_X.p (X : ax_X) : Program := X.2.1
abbrev ax_X.e (X : ax_X) : Env := X.2.2.1
abbrev ax_X.R (X : ax_X) : Room := X.2.2.2.1
abbrev ax_X.s (X : ax_X) : State := X.2.2.2.2.1
abbrev ax_X.m (X : ax_X) : MethodId := X.2.2.2.2.2.1
abbrev ax_X.args (X : ax_X) : Array Value := X.2.2.2.2.2.2.1
abbrev ax_X.below (X : ax_X) : List Frame := X.2.2.2.2.2.2.2.1
abbrev ax_X.meth (X : ax_X) : Method := X.2.2.2.2.2.2.2.2.1
abbrev ax_X.c (X : ax_X) : Code := X.2.2.2.2.2.2.2.2.2.1
abbrev ax_X.nL (X : ax_X) : Nat := X.2.2.2.2.2.2.2.2.2.2.1
abbrev ax_X.cells (X : ax_X) : Nat := X.2.2.2.2.2.2.2.2.2.2.2.1
abbrev ax_X.slots (X : ax_X) : Nat := X.2.2.2.2.2.2.2.2.2.2.2.2.1
abbrev ax_X.Q (X : ax_X) : State → Prop := X.2.2.2.2.2.2.2.2.2.2.2.2.2
abbrev ax_W (X : ax_X) (H : Heap) (locs : List Loc) (g : JFrame) : Prop := W X.p X.g.l X.e X.R X.s X.m X.args X.below X.meth X.c H locs X.cells X.slots X.Q g
def AW (X : ax_X) (pc : Nat) (lv : List (Option ax_V)) (st : List ax_V) (M : ax_M) : Prop :=
  RG M → ∀ (H : Heap) (locs : List Loc) (ls : Array Slot), va_P X.g.D vwCl (wd X.g M) H → va_S (ax_A X.g) X.s.heap H locs → lv_has ls X.nL (ax_lvL X.g lv) → lv.length = X.nL → ax_W X H locs (F0 X.m pc ls (st.map (cv X.g)))
def ax_b (X : ax_X) (cc : ByteArray) (own : String) (n : Nat) : Prop :=
  X.p.tables.exec = Jvm.exec ∧ X.c.code = cc ∧ X.c.maxLocals = X.nL ∧ X.s.vm.findClass own = some X.m.cls ∧ (∀ w ∈ ax_big, w.before X.args X.s = true) ∧ ax_K X.g X.s ∧ ax_S X.g X.s X.s.heap ∧ ax_D X.g ∧ X.meth.locks = false ∧ (n ≤ X.R.frames ∧ 30 * n ≤ X.R.locals) ∧ (X.cells ≤ X.R.cells ∧ X.slots ≤ X.R.slots)
def ax_PQ (g : ax_G) (P : Option ax_V → ax_M → Prop) : Array Value → State → Outcome → State → Prop := fun _ st oc t =>
  (∃ (r : Option ax_V) (M' : ax_M), oc = .returned (r.map (cv g)) ∧ (P r M' ∧ RG M') ∧ va_P g.D vwCl (wd g M') t.heap) ∧ va_F (ax_A g) st t
def ax_r (X : ax_X) (ret : Option FieldType) (P : Option ax_V → ax_M → Prop) : Prop := X.meth.sig.returnType = ret ∧ X.Q = MQ X.below (ax_PQ X.g P) X.args X.s X.cells X.slots (ax_A X.g)
abbrev ax_Md : Type := MethodName × ByteArray × Nat × Option FieldType
def ax_rm (d : Nat) : Room := { frames := d, cells := 0, slots := 0, locals := 30 * d }
def ax_Pre (g : ax_G) (M : ax_M) (U : State) : Prop := va_P g.D vwCl (wd g M) U.heap ∧ ax_K g U ∧ ax_S g U U.heap ∧ ax_D g ∧ RG M
/-- a method's contract over the abstract machine -/
def CT (g : ax_G) (md : ax_Md) (d : Nat) (As : List ax_V) (M : ax_M) (P : Option ax_V → ax_M → Prop) : Prop :=
  Met g.l md.1 (.code md.1 md.2.1 md.2.2.1 md.2.2.2 :: ax_big) (ax_rm d) (va_Pc (As.map (cv g)) (ax_Pre g M)) (ax_PQ g P) 0 0 (ax_A g)
def ax_args : List ax_V → List (Option ax_V)
  | [] => []
  | .inr (.inl z) :: r => some (.inr (.inl z)) :: none :: ax_args r
  | v :: r => some v :: ax_args r
theorem ax_args_lv (g : ax_G) : ∀ (As : List ax_V) (i : Nat) (j : Nat) (v : ax_V), (ax_args As)[j]? = some (some v) → (i + j, cv g v) ∈ lv_args i (As.map (cv g))
  | [], i, j, v, h => by simp [ax_args] at h
  | .inr (.inl z) :: r, i, j, v, h => by
    show _ ∈ (i, cv g _) :: lv_args (i + 2) (r.map (cv g))
    cases j with
    | zero =>
      have : some (some (Sum.inr (Sum.inl z) : ax_V)) = some (some v) := h
      cases this
      exact List.mem_cons_self
    | succ j =>
      cases j with
      | zero =>
        have : some (none : Option ax_V) = some (some v) := h
        cases this
      | succ j =>
        have := ax_args_lv g r (i + 2) j v h
        rw [show i + (j + 1 + 1) = i + 2 + j by omega]
        exact List.mem_cons_of_mem _ this
  | .inl z :: r, i, j, v, h => by
    show _ ∈ (i, cv g _) :: lv_args (i + 1) (r.map (cv g))
    cases j with
    | zero =>
      have : some (some (Sum.inl z : ax_V)) = some (some v) := h
      cases this
      exact List.mem_cons_self
    | succ j =>
      have := ax_args_lv g r (i + 1) j v h
      rw [show i + (j + 1) = i + 1 + j by omega]
      exact List.mem_cons_of_mem _ this
  | .inr (.inr z) :: r, i, j, v, h => by
    show _ ∈ (i, cv g _) :: lv_args (i + 1) (r.map (cv g))
    cases j with
    | zero =>
      have : some (some (Sum.inr (Sum.inr z) : ax_V)) = some (some v) := h
      cases this
      exact List.mem_cons_self
    | succ j =>
      have := ax_args_lv g r (i + 1) j v h
      rw [show i + (j + 1) = i + 1 + j by omega]
      exact List.mem_cons_of_mem _ this
theorem ax_args_len (g : ax_G) : ∀ As : List ax_V, (lg_sl (As.map (cv g))).length = (ax_args As).length
  | [] => rfl
  | .inr (.inl z) :: r => by
    have := ax_args_len g r
    simp only [List.map_cons, lg_sl, List.flatMap_cons, List.length_append] at this ⊢
    rw [this]
    simp [ax_args, cv, Value.category]
    omega
  | .inl z :: r => by
    have := ax_args_len g r
    simp only [List.map_cons, lg_sl, List.flatMap_cons, List.length_append] at this ⊢
    rw [this]
    simp [ax_args, cv, Value.category]
    omega
  | .inr (.inr z) :: r => by
    have := ax_args_len g r
    simp only [List.map_cons, lg_sl, List.flatMap_cons, List.length_append] at this ⊢
    rw [this]
    simp [ax_args, cv, Value.category]
    omega
/-- a contract out of its body's walk -/
theorem ct_intro {g : ax_G} {y : MethodName} {cc : ByteArray} {nL : Nat} {ret : Option FieldType} {d : Nat} {As : List ax_V} {M : ax_M} {P : Option ax_V → ax_M → Prop} (k : Nat) (hk : (ax_args As).length + k = nL) (hy : plainName y.cls = true)
    (body : ∀ X : ax_X, X.g = g → ax_b X cc y.cls d → ax_r X ret P → AW X 0 (ax_args As ++ List.replicate k none) [] M) : CT g (y, cc, nL, ret) d As M P := by
  refine Met.ofW (cc := cc) (maxL := nL) (ret := ret) hy rfl ?_
  intro p e s m args below meth c s₁ B hml hv
  obtain ⟨rfl, hP, hK, hS, hD, hG⟩ := hv
  have hts := atoms_spec (ws := Cond.code y cc nL ret :: ax_big) B.pre
  have hl := lv_entry (As.map (cv g)) (n := nL) (by rw [ax_args_len]; omega)
  rw [lg_entry_eq]
  generalize (lg_sl (As.map (cv g)) ++ List.replicate (nL - (lg_sl (As.map (cv g))).length) Slot.unset).toArray = ls at hl ⊢
  refine body (g, p, e, ax_rm d, s, m, (As.map (cv g)).toArray, below, meth, c, nL, 0, 0, MQ below (ax_PQ g P) (As.map (cv g)).toArray s 0 0 (ax_A g)) rfl ⟨B.exec, B.bytes, hml, findClass_of_methodNamed B.named, fun w hw => hts w (List.mem_cons_of_mem _ hw), hK, hS, hD, B.notSynchronized, ⟨Nat.le_refl _, Nat.le_refl _⟩, ⟨Nat.le_refl _, Nat.le_refl _⟩⟩ ⟨B.returns, rfl⟩ hG s.heap [] ls hP va_S.rf ⟨hl.1, hl.2.1, ?_⟩ (by simp; omega)
  intro q hq
  obtain ⟨j, w⟩ := q
  obtain ⟨v, h1, rfl⟩ := ax_lvL_mem.mp hq
  have h2 : (ax_args As)[j]? = some (some v) := by
    rcases Nat.lt_or_ge j (ax_args As).length with h | h
    · rwa [List.getElem?_append_left h] at h1
    · rw [List.getElem?_append_right h] at h1
      have := List.mem_of_getElem? h1
      rw [List.mem_replicate] at this
      cases this.2
  have := ax_args_lv g As 0 j v h2
  rw [Nat.zero_add] at this
  exact hl.2.2 _ this
theorem CT.mono {g : ax_G} {md : ax_Md} {d : Nat} {As : List ax_V} {M : ax_M} {P P' : Option ax_V → ax_M → Prop} (h : CT g md d As M P) (hp : ∀ r M', P r M' → P' r M') : CT g md d As M P' := by
  intro p e ha hc hk s m args below hf happ hpre htr
  obtain ⟨k, o, h1, h2, h3, ⟨⟨⟨r, M', e1, ⟨e2, e5⟩, e3⟩, e4⟩, hL⟩⟩ := h p e ha hc hk s m args below hf happ hpre htr
  exact ⟨k, o, h1, h2, h3, ⟨⟨r, M', e1, ⟨hp r M' e2, e5⟩, e3⟩, e4⟩, hL⟩
section AXR
variable {X : ax_X} {cc : ByteArray} {own : String} {n pc : Nat} {lv : List (Option ax_V)} {rest st : List ax_V} {M : ax_M}
theorem ax_i_of {z : Int} (h : -2147483648 ≤ z ∧ z ≤ 2147483647) : (ax_i z).toInt = z := Int32.toInt_ofInt_of_le (by omega) (by omega)
theorem ax_l_of {z : Int} (h : -9223372036854775808 ≤ z ∧ z ≤ 9223372036854775807) : (ax_l z).toInt = z := Int64.toInt_ofInt_of_le (by omega) (by omega)
theorem ax_i_eq {a b : Int} (h : -2147483648 ≤ a ∧ a ≤ 2147483647 ∧ -2147483648 ≤ b ∧ b ≤ 2147483647) : ax_i a = ax_i b ↔ a = b := by
  constructor
  · intro e
    have := congrArg Int32.toInt e
    rwa [ax_i_of ⟨h.1, h.2.1⟩, ax_i_of h.2.2] at this
  · rintro rfl; rfl
theorem ax_i_lt {a b : Int} (h : -2147483648 ≤ a ∧ a ≤ 2147483647 ∧ -2147483648 ≤ b ∧ b ≤ 2147483647) : ax_i a < ax_i b ↔ a < b := by
  rw [Int32.lt_iff_toInt_lt, ax_i_of ⟨h.1, h.2.1⟩, ax_i_of h.2.2]
theorem ax_i_le {a b : Int} (h : -2147483648 ≤ a ∧ a ≤ 2147483647 ∧ -2147483648 ≤ b ∧ b ≤ 2147483647) : ax_i a ≤ ax_i b ↔ a ≤ b := by
  rw [Int32.le_iff_toInt_le, ax_i_of ⟨h.1, h.2.1⟩, ax_i_of h.2.2]
theorem ax_i_0 : ax_i 0 = 0 := rfl
theorem ax_nat {i : Int} {n : Nat} (h0 : 0 ≤ i) (h1 : i < n) (hn : n ≤ 2147483647) : vp_in (ax_i i) n ∧ (ax_i i).toNatClampNeg = i.toNat ∧ ((ax_i i).toNatClampNeg : Int) = i := by
  have e := ax_i_of (z := i) (by omega)
  have e2 : (ax_i i).toNatClampNeg = i.toNat := by rw [← Int32.toNat_toInt, e]
  exact ⟨vp_in_iff.mpr ⟨by omega, by omega⟩, e2, by omega⟩
theorem rr_iconst {z : Int} (B : ax_b X cc own n) (hd : decode cc pc = .ok (.iconst z, 1)) (k : AW X (pc + 1) lv (aI z :: rest) M) : AW X pc lv rest M := fun hG H locs ls hP hS hl hn => lv_iconst B.1 B.2.1 hd rfl (k hG H locs ls hP hS hl hn)
theorem rr_bipush {z : Int} (B : ax_b X cc own n) (hd : decode cc pc = .ok (.bipush z, 2)) (hz : (Int8.ofInt z).toInt32 = ax_i z) (k : AW X (pc + 2) lv (aI z :: rest) M) : AW X pc lv rest M := fun hG H locs ls hP hS hl hn => lv_bipush B.1 B.2.1 hd hz (k hG H locs ls hP hS hl hn)
theorem rr_sipush {z : Int} (B : ax_b X cc own n) (hd : decode cc pc = .ok (.sipush z, 3)) (hz : (Int16.ofInt z).toInt32 = ax_i z) (k : AW X (pc + 3) lv (aI z :: rest) M) : AW X pc lv rest M := fun hG H locs ls hP hS hl hn => lv_sipush B.1 B.2.1 hd hz (k hG H locs ls hP hS hl hn)
theorem rr_lconst0 (B : ax_b X cc own n) (hd : decode cc pc = .ok (.lconst 0, 1)) (k : AW X (pc + 1) lv (aL 0 :: rest) M) : AW X pc lv rest M := fun hG H locs ls hP hS hl hn => lv_lconst B.1 B.2.1 hd rfl (k hG H locs ls hP hS hl hn)
theorem rr_lconst1 (B : ax_b X cc own n) (hd : decode cc pc = .ok (.lconst 1, 1)) (k : AW X (pc + 1) lv (aL 1 :: rest) M) : AW X pc lv rest M := fun hG H locs ls hP hS hl hn => lv_lconst B.1 B.2.1 hd rfl (k hG H locs ls hP hS hl hn)
theorem rr_ldc {idx : Nat} {z : Int} {v : Int32} (B : ax_b X cc own n) (hd : decode cc pc = .ok (.ldc idx, 2)) (hw : Cond.constant own idx v ∈ ax_big) (hz : v = ax_i z) (k : AW X (pc + 2) lv (aI z :: rest) M) : AW X pc lv rest M := fun hG H locs ls hP hS hl hn => lv_ldc B.1 B.2.1 B.2.2.2.1 (hz ▸ B.2.2.2.2.1 _ hw) hd (k hG H locs ls hP hS hl hn)
theorem rr_ldc2 {idx : Nat} {z : Int} {v : Int64} (B : ax_b X cc own n) (hd : decode cc pc = .ok (.ldc2_w idx, 3)) (hw : Cond.constantLong own idx v ∈ ax_big) (hz : v = ax_l z) (k : AW X (pc + 3) lv (aL z :: rest) M) : AW X pc lv rest M := fun hG H locs ls hP hS hl hn => lv_ldc2 B.1 B.2.1 B.2.2.2.1 (hz ▸ B.2.2.2.2.1 _ hw) hd (k hG H locs ls hP hS hl hn)
theorem rr_iload0 {a : Int} {r : List (Option ax_V)} (B : ax_b X cc own n) (hd : decode cc pc = .ok (.iload_n 0, 1)) (k : AW X (pc + 1) (some (aI a) :: r) (aI a :: rest) M) : AW X pc (some (aI a) :: r) rest M := fun hG H locs ls hP hS hl hn => lv_iload_n B.1 B.2.1 hd rfl (ax_lv_get hl 0 rfl) (k hG H locs ls hP hS hl hn)
theorem rr_lload0 {a : Int} {r : List (Option ax_V)} (B : ax_b X cc own n) (hd : decode cc pc = .ok (.lload_n 0, 1)) (k : AW X (pc + 1) (some (aL a) :: r) (aL a :: rest) M) : AW X pc (some (aL a) :: r) rest M := fun hG H locs ls hP hS hl hn => lv_lload_n B.1 B.2.1 hd rfl (ax_lv_get hl 0 rfl) (k hG H locs ls hP hS hl hn)
theorem rr_aload0 {a : Nat} {r : List (Option ax_V)} (B : ax_b X cc own n) (hd : decode cc pc = .ok (.aload_n 0, 1)) (k : AW X (pc + 1) (some (aR a) :: r) (aR a :: rest) M) : AW X pc (some (aR a) :: r) rest M := fun hG H locs ls hP hS hl hn => lv_aload_n B.1 B.2.1 hd rfl (ax_lv_get hl 0 rfl) (k hG H locs ls hP hS hl hn)
theorem rr_istore0 {a : Int} {old : Option ax_V} {r : List (Option ax_V)} (B : ax_b X cc own n) (hd : decode cc pc = .ok (.istore_n 0, 1)) (k : AW X (pc + 1) (some (aI a) :: r) rest M) : AW X pc (old :: r) (aI a :: rest) M := fun hG H locs ls hP hS hl hn => lv_istore_n B.1 B.2.1 hd rfl hl (by rw [← hn]; simp only [List.length_cons]; show 0 < _; omega) rfl (fun ls1 h1 => k hG H locs ls1 hP hS (ax_lv_st1 (v := aI a) h1 rfl ax_h0) (by rw [← hn]; rfl))
theorem rr_astore0 {a : Nat} {old : Option ax_V} {r : List (Option ax_V)} (B : ax_b X cc own n) (hd : decode cc pc = .ok (.astore_n 0, 1)) (k : AW X (pc + 1) (some (aR a) :: r) rest M) : AW X pc (old :: r) (aR a :: rest) M := fun hG H locs ls hP hS hl hn => lv_astore_n B.1 B.2.1 hd rfl hl (by rw [← hn]; simp only [List.length_cons]; show 0 < _; omega) rfl (fun ls1 h1 => k hG H locs ls1 hP hS (ax_lv_st1 (v := aR a) h1 rfl ax_h0) (by rw [← hn]; rfl))
theorem rr_lstore0 {a : Int} {old old2 : Option ax_V} {r : List (Option ax_V)} (B : ax_b X cc own n) (hd : decode cc pc = .ok (.lstore_n 0, 1)) (k : AW X (pc + 1) (some (aL a) :: none :: r) rest M) : AW X pc (old :: old2 :: r) (aL a :: rest) M := fun hG H locs ls hP hS hl hn => lv_lstore_n B.1 B.2.1 hd rfl hl (by rw [← hn]; simp only [List.length_cons]; show 0 + 1 < _; omega) rfl (fun ls1 h1 => k hG H locs ls1 hP hS (ax_lv_st2 (v := aL a) h1 rfl ax_h0) (by rw [← hn]; rfl))
theorem rr_iinc0 {a z : Int} {r : List (Option ax_V)} (B : ax_b X cc own n) (hd : decode cc pc = .ok (.iinc 0 z, 3)) (k : AW X (pc + 3) (some (aI (a + z)) :: r) rest M) : AW X pc (some (aI a) :: r) rest M := by
  intro hG H locs ls hP hS hl hn
  obtain ⟨kk, hkk⟩ := List.getElem?_of_mem (ax_lvL_mem.mpr ⟨aI a, (rfl : (some (aI a) :: r)[0]? = some (some (aI a))), (rfl : cv X.g (aI a) = cv X.g (aI a))⟩)
  exact lv_iinc B.1 B.2.1 hd hl hkk (Int32.ofInt_add a z).symm (by rw [← hn]; simp) rfl (fun ls1 h1 => k hG H locs ls1 hP hS (ax_lv_st1 (v := aI (a + z)) h1 rfl ax_h0) (by rw [← hn]; rfl))
theorem rr_iload1 {a : Int} {x0 : Option ax_V} {r : List (Option ax_V)} (B : ax_b X cc own n) (hd : decode cc pc = .ok (.iload_n 1, 1)) (k : AW X (pc + 1) (x0 :: some (aI a) :: r) (aI a :: rest) M) : AW X pc (x0 :: some (aI a) :: r) rest M := fun hG H locs ls hP hS hl hn => lv_iload_n B.1 B.2.1 hd rfl (ax_lv_get hl 1 rfl) (k hG H locs ls hP hS hl hn)
theorem rr_lload1 {a : Int} {x0 : Option ax_V} {r : List (Option ax_V)} (B : ax_b X cc own n) (hd : decode cc pc = .ok (.lload_n 1, 1)) (k : AW X (pc + 1) (x0 :: some (aL a) :: r) (aL a :: rest) M) : AW X pc (x0 :: some (aL a) :: r) rest M := fun hG H locs ls hP hS hl hn => lv_lload_n B.1 B.2.1 hd rfl (ax_lv_get hl 1 rfl) (k hG H locs ls hP hS hl hn)
theorem rr_aload1 {a : Nat} {x0 : Option ax_V} {r : List (Option ax_V)} (B : ax_b X cc own n) (hd : decode cc pc = .ok (.aload_n 1, 1)) (k : AW X (pc + 1) (x0 :: some (aR a) :: r) (aR a :: rest) M) : AW X pc (x0 :: some (aR a) :: r) rest M := fun hG H locs ls hP hS hl hn => lv_aload_n B.1 B.2.1 hd rfl (ax_lv_get hl 1 rfl) (k hG H locs ls hP hS hl hn)
theorem rr_istore1 {a : Int} {old : Option ax_V} {x0 : Option ax_V} {r : List (Option ax_V)} (B : ax_b X cc own n) (hd : decode cc pc = .ok (.istore_n 1, 1)) (hx : ax_notL x0 = true) (k : AW X (pc + 1) (x0 :: some (aI a) :: r) rest M) : AW X pc (x0 :: old :: r) (aI a :: rest) M := fun hG H locs ls hP hS hl hn => lv_istore_n B.1 B.2.1 hd rfl hl (by rw [← hn]; simp only [List.length_cons]; show 1 < _; omega) rfl (fun ls1 h1 => k hG H locs ls1 hP hS (ax_lv_st1 (v := aI a) h1 rfl (ax_hx (i := 0) rfl hx)) (by rw [← hn]; rfl))
theorem rr_astore1 {a : Nat} {old : Option ax_V} {x0 : Option ax_V} {r : List (Option ax_V)} (B : ax_b X cc own n) (hd : decode cc pc = .ok (.astore_n 1, 1)) (hx : ax_notL x0 = true) (k : AW X (pc + 1) (x0 :: some (aR a) :: r) rest M) : AW X pc (x0 :: old :: r) (aR a :: rest) M := fun hG H locs ls hP hS hl hn => lv_astore_n B.1 B.2.1 hd rfl hl (by rw [← hn]; simp only [List.length_cons]; show 1 < _; omega) rfl (fun ls1 h1 => k hG H locs ls1 hP hS (ax_lv_st1 (v := aR a) h1 rfl (ax_hx (i := 0) rfl hx)) (by rw [← hn]; rfl))
theorem rr_lstore1 {a : Int} {old old2 : Option ax_V} {x0 : Option ax_V} {r : List (Option ax_V)} (B : ax_b X cc own n) (hd : decode cc pc = .ok (.lstore_n 1, 1)) (hx : ax_notL x0 = true) (k : AW X (pc + 1) (x0 :: some (aL a) :: none :: r) rest M) : AW X pc (x0 :: old :: old2 :: r) (aL a :: rest) M := fun hG H locs ls hP hS hl hn => lv_lstore_n B.1 B.2.1 hd rfl hl (by rw [← hn]; simp only [List.length_cons]; show 1 + 1 < _; omega) rfl (fun ls1 h1 => k hG H locs ls1 hP hS (ax_lv_st2 (v := aL a) h1 rfl (ax_hx (i := 0) rfl hx)) (by rw [← hn]; rfl))
theorem rr_iinc1 {a z : Int} {x0 : Option ax_V} {r : List (Option ax_V)} (B : ax_b X cc own n) (hd : decode cc pc = .ok (.iinc 1 z, 3)) (hx : ax_notL x0 = true) (k : AW X (pc + 3) (x0 :: some (aI (a + z)) :: r) rest M) : AW X pc (x0 :: some (aI a) :: r) rest M := by
  intro hG H locs ls hP hS hl hn
  obtain ⟨kk, hkk⟩ := List.getElem?_of_mem (ax_lvL_mem.mpr ⟨aI a, (rfl : (x0 :: some (aI a) :: r)[1]? = some (some (aI a))), (rfl : cv X.g (aI a) = cv X.g (aI a))⟩)
  exact lv_iinc B.1 B.2.1 hd hl hkk (Int32.ofInt_add a z).symm (by rw [← hn]; simp) rfl (fun ls1 h1 => k hG H locs ls1 hP hS (ax_lv_st1 (v := aI (a + z)) h1 rfl (ax_hx (i := 0) rfl hx)) (by rw [← hn]; rfl))
theorem rr_iload2 {a : Int} {x0 x1 : Option ax_V} {r : List (Option ax_V)} (B : ax_b X cc own n) (hd : decode cc pc = .ok (.iload_n 2, 1)) (k : AW X (pc + 1) (x0 :: x1 :: some (aI a) :: r) (aI a :: rest) M) : AW X pc (x0 :: x1 :: some (aI a) :: r) rest M := fun hG H locs ls hP hS hl hn => lv_iload_n B.1 B.2.1 hd rfl (ax_lv_get hl 2 rfl) (k hG H locs ls hP hS hl hn)
theorem rr_lload2 {a : Int} {x0 x1 : Option ax_V} {r : List (Option ax_V)} (B : ax_b X cc own n) (hd : decode cc pc = .ok (.lload_n 2, 1)) (k : AW X (pc + 1) (x0 :: x1 :: some (aL a) :: r) (aL a :: rest) M) : AW X pc (x0 :: x1 :: some (aL a) :: r) rest M := fun hG H locs ls hP hS hl hn => lv_lload_n B.1 B.2.1 hd rfl (ax_lv_get hl 2 rfl) (k hG H locs ls hP hS hl hn)
theorem rr_aload2 {a : Nat} {x0 x1 : Option ax_V} {r : List (Option ax_V)} (B : ax_b X cc own n) (hd : decode cc pc = .ok (.aload_n 2, 1)) (k : AW X (pc + 1) (x0 :: x1 :: some (aR a) :: r) (aR a :: rest) M) : AW X pc (x0 :: x1 :: some (aR a) :: r) rest M := fun hG H locs ls hP hS hl hn => lv_aload_n B.1 B.2.1 hd rfl (ax_lv_get hl 2 rfl) (k hG H locs ls hP hS hl hn)
theorem rr_istore2 {a : Int} {old : Option ax_V} {x0 x1 : Option ax_V} {r : List (Option ax_V)} (B : ax_b X cc own n) (hd : decode cc pc = .ok (.istore_n 2, 1)) (hx : ax_notL x1 = true) (k : AW X (pc + 1) (x0 :: x1 :: some (aI a) :: r) rest M) : AW X pc (x0 :: x1 :: old :: r) (aI a :: rest) M := fun hG H locs ls hP hS hl hn => lv_istore_n B.1 B.2.1 hd rfl hl (by rw [← hn]; simp only [List.length_cons]; show 2 < _; omega) rfl (fun ls1 h1 => k hG H locs ls1 hP hS (ax_lv_st1 (v := aI a) h1 rfl (ax_hx (i := 1) rfl hx)) (by rw [← hn]; rfl))
theorem rr_astore2 {a : Nat} {old : Option ax_V} {x0 x1 : Option ax_V} {r : List (Option ax_V)} (B : ax_b X cc own n) (hd : decode cc pc = .ok (.astore_n 2, 1)) (hx : ax_notL x1 = true) (k : AW X (pc + 1) (x0 :: x1 :: some (aR a) :: r) rest M) : AW X pc (x0 :: x1 :: old :: r) (aR a :: rest) M := fun hG H locs ls hP hS hl hn => lv_astore_n B.1 B.2.1 hd rfl hl (by rw [← hn]; simp only [List.length_cons]; show 2 < _; omega) rfl (fun ls1 h1 => k hG H locs ls1 hP hS (ax_lv_st1 (v := aR a) h1 rfl (ax_hx (i := 1) rfl hx)) (by rw [← hn]; rfl))
theorem rr_lstore2 {a : Int} {old old2 : Option ax_V} {x0 x1 : Option ax_V} {r : List (Option ax_V)} (B : ax_b X cc own n) (hd : decode cc pc = .ok (.lstore_n 2, 1)) (hx : ax_notL x1 = true) (k : AW X (pc + 1) (x0 :: x1 :: some (aL a) :: none :: r) rest M) : AW X pc (x0 :: x1 :: old :: old2 :: r) (aL a :: rest) M := fun hG H locs ls hP hS hl hn => lv_lstore_n B.1 B.2.1 hd rfl hl (by rw [← hn]; simp only [List.length_cons]; show 2 + 1 < _; omega) rfl (fun ls1 h1 => k hG H locs ls1 hP hS (ax_lv_st2 (v := aL a) h1 rfl (ax_hx (i := 1) rfl hx)) (by rw [← hn]; rfl))
theorem rr_iinc2 {a z : Int} {x0 x1 : Option ax_V} {r : List (Option ax_V)} (B : ax_b X cc own n) (hd : decode cc pc = .ok (.iinc 2 z, 3)) (hx : ax_notL x1 = true) (k : AW X (pc + 3) (x0 :: x1 :: some (aI (a + z)) :: r) rest M) : AW X pc (x0 :: x1 :: some (aI a) :: r) rest M := by
  intro hG H locs ls hP hS hl hn
  obtain ⟨kk, hkk⟩ := List.getElem?_of_mem (ax_lvL_mem.mpr ⟨aI a, (rfl : (x0 :: x1 :: some (aI a) :: r)[2]? = some (some (aI a))), (rfl : cv X.g (aI a) = cv X.g (aI a))⟩)
  exact lv_iinc B.1 B.2.1 hd hl hkk (Int32.ofInt_add a z).symm (by rw [← hn]; simp) rfl (fun ls1 h1 => k hG H locs ls1 hP hS (ax_lv_st1 (v := aI (a + z)) h1 rfl (ax_hx (i := 1) rfl hx)) (by rw [← hn]; rfl))
theorem rr_iload3 {a : Int} {x0 x1 x2 : Option ax_V} {r : List (Option ax_V)} (B : ax_b X cc own n) (hd : decode cc pc = .ok (.iload_n 3, 1)) (k : AW X (pc + 1) (x0 :: x1 :: x2 :: some (aI a) :: r) (aI a :: rest) M) : AW X pc (x0 :: x1 :: x2 :: some (aI a) :: r) rest M := fun hG H locs ls hP hS hl hn => lv_iload_n B.1 B.2.1 hd rfl (ax_lv_get hl 3 rfl) (k hG H locs ls hP hS hl hn)
theorem rr_lload3 {a : Int} {x0 x1 x2 : Option ax_V} {r : List (Option ax_V)} (B : ax_b X cc own n) (hd : decode cc pc = .ok (.lload_n 3, 1)) (k : AW X (pc + 1) (x0 :: x1 :: x2 :: some (aL a) :: r) (aL a :: rest) M) : AW X pc (x0 :: x1 :: x2 :: some (aL a) :: r) rest M := fun hG H locs ls hP hS hl hn => lv_lload_n B.1 B.2.1 hd rfl (ax_lv_get hl 3 rfl) (k hG H locs ls hP hS hl hn)
theorem rr_aload3 {a : Nat} {x0 x1 x2 : Option ax_V} {r : List (Option ax_V)} (B : ax_b X cc own n) (hd : decode cc pc = .ok (.aload_n 3, 1)) (k : AW X (pc + 1) (x0 :: x1 :: x2 :: some (aR a) :: r) (aR a :: rest) M) : AW X pc (x0 :: x1 :: x2 :: some (aR a) :: r) rest M := fun hG H locs ls hP hS hl hn => lv_aload_n B.1 B.2.1 hd rfl (ax_lv_get hl 3 rfl) (k hG H locs ls hP hS hl hn)
theorem rr_istore3 {a : Int} {old : Option ax_V} {x0 x1 x2 : Option ax_V} {r : List (Option ax_V)} (B : ax_b X cc own n) (hd : decode cc pc = .ok (.istore_n 3, 1)) (hx : ax_notL x2 = true) (k : AW X (pc + 1) (x0 :: x1 :: x2 :: some (aI a) :: r) rest M) : AW X pc (x0 :: x1 :: x2 :: old :: r) (aI a :: rest) M := fun hG H locs ls hP hS hl hn => lv_istore_n B.1 B.2.1 hd rfl hl (by rw [← hn]; simp only [List.length_cons]; show 3 < _; omega) rfl (fun ls1 h1 => k hG H locs ls1 hP hS (ax_lv_st1 (v := aI a) h1 rfl (ax_hx (i := 2) rfl hx)) (by rw [← hn]; rfl))
theorem rr_astore3 {a : Nat} {old : Option ax_V} {x0 x1 x2 : Option ax_V} {r : List (Option ax_V)} (B : ax_b X cc own n) (hd : decode cc pc = .ok (.astore_n 3, 1)) (hx : ax_notL x2 = true) (k : AW X (pc + 1) (x0 :: x1 :: x2 :: some (aR a) :: r) rest M) : AW X pc (x0 :: x1 :: x2 :: old :: r) (aR a :: rest) M := fun hG H locs ls hP hS hl hn => lv_astore_n B.1 B.2.1 hd rfl hl (by rw [← hn]; simp only [List.length_cons]; show 3 < _; omega) rfl (fun ls1 h1 => k hG H locs ls1 hP hS (ax_lv_st1 (v := aR a) h1 rfl (ax_hx (i := 2) rfl hx)) (by rw [← hn]; rfl))
theorem rr_lstore3 {a : Int} {old old2 : Option ax_V} {x0 x1 x2 : Option ax_V} {r : List (Option ax_V)} (B : ax_b X cc own n) (hd : decode cc pc = .ok (.lstore_n 3, 1)) (hx : ax_notL x2 = true) (k : AW X (pc + 1) (x0 :: x1 :: x2 :: some (aL a) :: none :: r) rest M) : AW X pc (x0 :: x1 :: x2 :: old :: old2 :: r) (aL a :: rest) M := fun hG H locs ls hP hS hl hn => lv_lstore_n B.1 B.2.1 hd rfl hl (by rw [← hn]; simp only [List.length_cons]; show 3 + 1 < _; omega) rfl (fun ls1 h1 => k hG H locs ls1 hP hS (ax_lv_st2 (v := aL a) h1 rfl (ax_hx (i := 2) rfl hx)) (by rw [← hn]; rfl))
theorem rr_iinc3 {a z : Int} {x0 x1 x2 : Option ax_V} {r : List (Option ax_V)} (B : ax_b X cc own n) (hd : decode cc pc = .ok (.iinc 3 z, 3)) (hx : ax_notL x2 = true) (k : AW X (pc + 3) (x0 :: x1 :: x2 :: some (aI (a + z)) :: r) rest M) : AW X pc (x0 :: x1 :: x2 :: some (aI a) :: r) rest M := by
  intro hG H locs ls hP hS hl hn
  obtain ⟨kk, hkk⟩ := List.getElem?_of_mem (ax_lvL_mem.mpr ⟨aI a, (rfl : (x0 :: x1 :: x2 :: some (aI a) :: r)[3]? = some (some (aI a))), (rfl : cv X.g (aI a) = cv X.g (aI a))⟩)
  exact lv_iinc B.1 B.2.1 hd hl hkk (Int32.ofInt_add a z).symm (by rw [← hn]; simp) rfl (fun ls1 h1 => k hG H locs ls1 hP hS (ax_lv_st1 (v := aI (a + z)) h1 rfl (ax_hx (i := 2) rfl hx)) (by rw [← hn]; rfl))
theorem rr_iload4 {a : Int} {x0 x1 x2 x3 : Option ax_V} {r : List (Option ax_V)} (B : ax_b X cc own n) (hd : decode cc pc = .ok (.iload 4, 2)) (k : AW X (pc + 2) (x0 :: x1 :: x2 :: x3 :: some (aI a) :: r) (aI a :: rest) M) : AW X pc (x0 :: x1 :: x2 :: x3 :: some (aI a) :: r) rest M := fun hG H locs ls hP hS hl hn => lv_iload B.1 B.2.1 hd (ax_lv_get hl 4 rfl) (k hG H locs ls hP hS hl hn)
theorem rr_lload4 {a : Int} {x0 x1 x2 x3 : Option ax_V} {r : List (Option ax_V)} (B : ax_b X cc own n) (hd : decode cc pc = .ok (.lload 4, 2)) (k : AW X (pc + 2) (x0 :: x1 :: x2 :: x3 :: some (aL a) :: r) (aL a :: rest) M) : AW X pc (x0 :: x1 :: x2 :: x3 :: some (aL a) :: r) rest M := fun hG H locs ls hP hS hl hn => lv_lload B.1 B.2.1 hd (ax_lv_get hl 4 rfl) (k hG H locs ls hP hS hl hn)
theorem rr_istore4 {a : Int} {old : Option ax_V} {x0 x1 x2 x3 : Option ax_V} {r : List (Option ax_V)} (B : ax_b X cc own n) (hd : decode cc pc = .ok (.istore 4, 2)) (hx : ax_notL x3 = true) (k : AW X (pc + 2) (x0 :: x1 :: x2 :: x3 :: some (aI a) :: r) rest M) : AW X pc (x0 :: x1 :: x2 :: x3 :: old :: r) (aI a :: rest) M := fun hG H locs ls hP hS hl hn => lv_istore B.1 B.2.1 hd hl (by rw [← hn]; simp only [List.length_cons]; show 4 < _; omega) rfl (fun ls1 h1 => k hG H locs ls1 hP hS (ax_lv_st1 (v := aI a) h1 rfl (ax_hx (i := 3) rfl hx)) (by rw [← hn]; rfl))
theorem rr_lstore4 {a : Int} {old old2 : Option ax_V} {x0 x1 x2 x3 : Option ax_V} {r : List (Option ax_V)} (B : ax_b X cc own n) (hd : decode cc pc = .ok (.lstore 4, 2)) (hx : ax_notL x3 = true) (k : AW X (pc + 2) (x0 :: x1 :: x2 :: x3 :: some (aL a) :: none :: r) rest M) : AW X pc (x0 :: x1 :: x2 :: x3 :: old :: old2 :: r) (aL a :: rest) M := fun hG H locs ls hP hS hl hn => lv_lstore B.1 B.2.1 hd hl (by rw [← hn]; simp only [List.length_cons]; show 4 + 1 < _; omega) rfl (fun ls1 h1 => k hG H locs ls1 hP hS (ax_lv_st2 (v := aL a) h1 rfl (ax_hx (i := 3) rfl hx)) (by rw [← hn]; rfl))
theorem rr_iinc4 {a z : Int} {x0 x1 x2 x3 : Option ax_V} {r : List (Option ax_V)} (B : ax_b X cc own n) (hd : decode cc pc = .ok (.iinc 4 z, 3)) (hx : ax_notL x3 = true) (k : AW X (pc + 3) (x0 :: x1 :: x2 :: x3 :: some (aI (a + z)) :: r) rest M) : AW X pc (x0 :: x1 :: x2 :: x3 :: some (aI a) :: r) rest M := by
  intro hG H locs ls hP hS hl hn
  obtain ⟨kk, hkk⟩ := List.getElem?_of_mem (ax_lvL_mem.mpr ⟨aI a, (rfl : (x0 :: x1 :: x2 :: x3 :: some (aI a) :: r)[4]? = some (some (aI a))), (rfl : cv X.g (aI a) = cv X.g (aI a))⟩)
  exact lv_iinc B.1 B.2.1 hd hl hkk (Int32.ofInt_add a z).symm (by rw [← hn]; simp) rfl (fun ls1 h1 => k hG H locs ls1 hP hS (ax_lv_st1 (v := aI (a + z)) h1 rfl (ax_hx (i := 3) rfl hx)) (by rw [← hn]; rfl))
theorem rr_iload5 {a : Int} {x0 x1 x2 x3 x4 : Option ax_V} {r : List (Option ax_V)} (B : ax_b X cc own n) (hd : decode cc pc = .ok (.iload 5, 2)) (k : AW X (pc + 2) (x0 :: x1 :: x2 :: x3 :: x4 :: some (aI a) :: r) (aI a :: rest) M) : AW X pc (x0 :: x1 :: x2 :: x3 :: x4 :: some (aI a) :: r) rest M := fun hG H locs ls hP hS hl hn => lv_iload B.1 B.2.1 hd (ax_lv_get hl 5 rfl) (k hG H locs ls hP hS hl hn)
theorem rr_lload5 {a : Int} {x0 x1 x2 x3 x4 : Option ax_V} {r : List (Option ax_V)} (B : ax_b X cc own n) (hd : decode cc pc = .ok (.lload 5, 2)) (k : AW X (pc + 2) (x0 :: x1 :: x2 :: x3 :: x4 :: some (aL a) :: r) (aL a :: rest) M) : AW X pc (x0 :: x1 :: x2 :: x3 :: x4 :: some (aL a) :: r) rest M := fun hG H locs ls hP hS hl hn => lv_lload B.1 B.2.1 hd (ax_lv_get hl 5 rfl) (k hG H locs ls hP hS hl hn)
theorem rr_istore5 {a : Int} {old : Option ax_V} {x0 x1 x2 x3 x4 : Option ax_V} {r : List (Option ax_V)} (B : ax_b X cc own n) (hd : decode cc pc = .ok (.istore 5, 2)) (hx : ax_notL x4 = true) (k : AW X (pc + 2) (x0 :: x1 :: x2 :: x3 :: x4 :: some (aI a) :: r) rest M) : AW X pc (x0 :: x1 :: x2 :: x3 :: x4 :: old :: r) (aI a :: rest) M := fun hG H locs ls hP hS hl hn => lv_istore B.1 B.2.1 hd hl (by rw [← hn]; simp only [List.length_cons]; show 5 < _; omega) rfl (fun ls1 h1 => k hG H locs ls1 hP hS (ax_lv_st1 (v := aI a) h1 rfl (ax_hx (i := 4) rfl hx)) (by rw [← hn]; rfl))
theorem rr_lstore5 {a : Int} {old old2 : Option ax_V} {x0 x1 x2 x3 x4 : Option ax_V} {r : List (Option ax_V)} (B : ax_b X cc own n) (hd : decode cc pc = .ok (.lstore 5, 2)) (hx : ax_notL x4 = true) (k : AW X (pc + 2) (x0 :: x1 :: x2 :: x3 :: x4 :: some (aL a) :: none :: r) rest M) : AW X pc (x0 :: x1 :: x2 :: x3 :: x4 :: old :: old2 :: r) (aL a :: rest) M := fun hG H locs ls hP hS hl hn => lv_lstore B.1 B.2.1 hd hl (by rw [← hn]; simp only [List.length_cons]; show 5 + 1 < _; omega) rfl (fun ls1 h1 => k hG H locs ls1 hP hS (ax_lv_st2 (v := aL a) h1 rfl (ax_hx (i := 4) rfl hx)) (by rw [← hn]; rfl))
theorem rr_iinc5 {a z : Int} {x0 x1 x2 x3 x4 : Option ax_V} {r : List (Option ax_V)} (B : ax_b X cc own n) (hd : decode cc pc = .ok (.iinc 5 z, 3)) (hx : ax_notL x4 = true) (k : AW X (pc + 3) (x0 :: x1 :: x2 :: x3 :: x4 :: some (aI (a + z)) :: r) rest M) : AW X pc (x0 :: x1 :: x2 :: x3 :: x4 :: some (aI a) :: r) rest M := by
  intro hG H locs ls hP hS hl hn
  obtain ⟨kk, hkk⟩ := List.getElem?_of_mem (ax_lvL_mem.mpr ⟨aI a, (rfl : (x0 :: x1 :: x2 :: x3 :: x4 :: some (aI a) :: r)[5]? = some (some (aI a))), (rfl : cv X.g (aI a) = cv X.g (aI a))⟩)
  exact lv_iinc B.1 B.2.1 hd hl hkk (Int32.ofInt_add a z).symm (by rw [← hn]; simp) rfl (fun ls1 h1 => k hG H locs ls1 hP hS (ax_lv_st1 (v := aI (a + z)) h1 rfl (ax_hx (i := 4) rfl hx)) (by rw [← hn]; rfl))
theorem rr_iload6 {a : Int} {x0 x1 x2 x3 x4 x5 : Option ax_V} {r : List (Option ax_V)} (B : ax_b X cc own n) (hd : decode cc pc = .ok (.iload 6, 2)) (k : AW X (pc + 2) (x0 :: x1 :: x2 :: x3 :: x4 :: x5 :: some (aI a) :: r) (aI a :: rest) M) : AW X pc (x0 :: x1 :: x2 :: x3 :: x4 :: x5 :: some (aI a) :: r) rest M := fun hG H locs ls hP hS hl hn => lv_iload B.1 B.2.1 hd (ax_lv_get hl 6 rfl) (k hG H locs ls hP hS hl hn)
theorem rr_lload6 {a : Int} {x0 x1 x2 x3 x4 x5 : Option ax_V} {r : List (Option ax_V)} (B : ax_b X cc own n) (hd : decode cc pc = .ok (.lload 6, 2)) (k : AW X (pc + 2) (x0 :: x1 :: x2 :: x3 :: x4 :: x5 :: some (aL a) :: r) (aL a :: rest) M) : AW X pc (x0 :: x1 :: x2 :: x3 :: x4 :: x5 :: some (aL a) :: r) rest M := fun hG H locs ls hP hS hl hn => lv_lload B.1 B.2.1 hd (ax_lv_get hl 6 rfl) (k hG H locs ls hP hS hl hn)
theorem rr_istore6 {a : Int} {old : Option ax_V} {x0 x1 x2 x3 x4 x5 : Option ax_V} {r : List (Option ax_V)} (B : ax_b X cc own n) (hd : decode cc pc = .ok (.istore 6, 2)) (hx : ax_notL x5 = true) (k : AW X (pc + 2) (x0 :: x1 :: x2 :: x3 :: x4 :: x5 :: some (aI a) :: r) rest M) : AW X pc (x0 :: x1 :: x2 :: x3 :: x4 :: x5 :: old :: r) (aI a :: rest) M := fun hG H locs ls hP hS hl hn => lv_istore B.1 B.2.1 hd hl (by rw [← hn]; simp only [List.length_cons]; show 6 < _; omega) rfl (fun ls1 h1 => k hG H locs ls1 hP hS (ax_lv_st1 (v := aI a) h1 rfl (ax_hx (i := 5) rfl hx)) (by rw [← hn]; rfl))
theorem rr_lstore6 {a : Int} {old old2 : Option ax_V} {x0 x1 x2 x3 x4 x5 : Option ax_V} {r : List (Option ax_V)} (B : ax_b X cc own n) (hd : decode cc pc = .ok (.lstore 6, 2)) (hx : ax_notL x5 = true) (k : AW X (pc + 2) (x0 :: x1 :: x2 :: x3 :: x4 :: x5 :: some (aL a) :: none :: r) rest M) : AW X pc (x0 :: x1 :: x2 :: x3 :: x4 :: x5 :: old :: old2 :: r) (aL a :: rest) M := fun hG H locs ls hP hS hl hn => lv_lstore B.1 B.2.1 hd hl (by rw [← hn]; simp only [List.length_cons]; show 6 + 1 < _; omega) rfl (fun ls1 h1 => k hG H locs ls1 hP hS (ax_lv_st2 (v := aL a) h1 rfl (ax_hx (i := 5) rfl hx)) (by rw [← hn]; rfl))
theorem rr_iinc6 {a z : Int} {x0 x1 x2 x3 x4 x5 : Option ax_V} {r : List (Option ax_V)} (B : ax_b X cc own n) (hd : decode cc pc = .ok (.iinc 6 z, 3)) (hx : ax_notL x5 = true) (k : AW X (pc + 3) (x0 :: x1 :: x2 :: x3 :: x4 :: x5 :: some (aI (a + z)) :: r) rest M) : AW X pc (x0 :: x1 :: x2 :: x3 :: x4 :: x5 :: some (aI a) :: r) rest M := by
  intro hG H locs ls hP hS hl hn
  obtain ⟨kk, hkk⟩ := List.getElem?_of_mem (ax_lvL_mem.mpr ⟨aI a, (rfl : (x0 :: x1 :: x2 :: x3 :: x4 :: x5 :: some (aI a) :: r)[6]? = some (some (aI a))), (rfl : cv X.g (aI a) = cv X.g (aI a))⟩)
  exact lv_iinc B.1 B.2.1 hd hl hkk (Int32.ofInt_add a z).symm (by rw [← hn]; simp) rfl (fun ls1 h1 => k hG H locs ls1 hP hS (ax_lv_st1 (v := aI (a + z)) h1 rfl (ax_hx (i := 5) rfl hx)) (by rw [← hn]; rfl))
theorem rr_iload7 {a : Int} {x0 x1 x2 x3 x4 x5 x6 : Option ax_V} {r : List (Option ax_V)} (B : ax_b X cc own n) (hd : decode cc pc = .ok (.iload 7, 2)) (k : AW X (pc + 2) (x0 :: x1 :: x2 :: x3 :: x4 :: x5 :: x6 :: some (aI a) :: r) (aI a :: rest) M) : AW X pc (x0 :: x1 :: x2 :: x3 :: x4 :: x5 :: x6 :: some (aI a) :: r) rest M := fun hG H locs ls hP hS hl hn => lv_iload B.1 B.2.1 hd (ax_lv_get hl 7 rfl) (k hG H locs ls hP hS hl hn)
theorem rr_lload7 {a : Int} {x0 x1 x2 x3 x4 x5 x6 : Option ax_V} {r : List (Option ax_V)} (B : ax_b X cc own n) (hd : decode cc pc = .ok (.lload 7, 2)) (k : AW X (pc + 2) (x0 :: x1 :: x2 :: x3 :: x4 :: x5 :: x6 :: some (aL a) :: r) (aL a :: rest) M) : AW X pc (x0 :: x1 :: x2 :: x3 :: x4 :: x5 :: x6 :: some (aL a) :: r) rest M := fun hG H locs ls hP hS hl hn => lv_lload B.1 B.2.1 hd (ax_lv_get hl 7 rfl) (k hG H locs ls hP hS hl hn)
theorem rr_istore7 {a : Int} {old : Option ax_V} {x0 x1 x2 x3 x4 x5 x6 : Option ax_V} {r : List (Option ax_V)} (B : ax_b X cc own n) (hd : decode cc pc = .ok (.istore 7, 2)) (hx : ax_notL x6 = true) (k : AW X (pc + 2) (x0 :: x1 :: x2 :: x3 :: x4 :: x5 :: x6 :: some (aI a) :: r) rest M) : AW X pc (x0 :: x1 :: x2 :: x3 :: x4 :: x5 :: x6 :: old :: r) (aI a :: rest) M := fun hG H locs ls hP hS hl hn => lv_istore B.1 B.2.1 hd hl (by rw [← hn]; simp only [List.length_cons]; show 7 < _; omega) rfl (fun ls1 h1 => k hG H locs ls1 hP hS (ax_lv_st1 (v := aI a) h1 rfl (ax_hx (i := 6) rfl hx)) (by rw [← hn]; rfl))
theorem rr_lstore7 {a : Int} {old old2 : Option ax_V} {x0 x1 x2 x3 x4 x5 x6 : Option ax_V} {r : List (Option ax_V)} (B : ax_b X cc own n) (hd : decode cc pc = .ok (.lstore 7, 2)) (hx : ax_notL x6 = true) (k : AW X (pc + 2) (x0 :: x1 :: x2 :: x3 :: x4 :: x5 :: x6 :: some (aL a) :: none :: r) rest M) : AW X pc (x0 :: x1 :: x2 :: x3 :: x4 :: x5 :: x6 :: old :: old2 :: r) (aL a :: rest) M := fun hG H locs ls hP hS hl hn => lv_lstore B.1 B.2.1 hd hl (by rw [← hn]; simp only [List.length_cons]; show 7 + 1 < _; omega) rfl (fun ls1 h1 => k hG H locs ls1 hP hS (ax_lv_st2 (v := aL a) h1 rfl (ax_hx (i := 6) rfl hx)) (by rw [← hn]; rfl))
theorem rr_iinc7 {a z : Int} {x0 x1 x2 x3 x4 x5 x6 : Option ax_V} {r : List (Option ax_V)} (B : ax_b X cc own n) (hd : decode cc pc = .ok (.iinc 7 z, 3)) (hx : ax_notL x6 = true) (k : AW X (pc + 3) (x0 :: x1 :: x2 :: x3 :: x4 :: x5 :: x6 :: some (aI (a + z)) :: r) rest M) : AW X pc (x0 :: x1 :: x2 :: x3 :: x4 :: x5 :: x6 :: some (aI a) :: r) rest M := by
  intro hG H locs ls hP hS hl hn
  obtain ⟨kk, hkk⟩ := List.getElem?_of_mem (ax_lvL_mem.mpr ⟨aI a, (rfl : (x0 :: x1 :: x2 :: x3 :: x4 :: x5 :: x6 :: some (aI a) :: r)[7]? = some (some (aI a))), (rfl : cv X.g (aI a) = cv X.g (aI a))⟩)
  exact lv_iinc B.1 B.2.1 hd hl hkk (Int32.ofInt_add a z).symm (by rw [← hn]; simp) rfl (fun ls1 h1 => k hG H locs ls1 hP hS (ax_lv_st1 (v := aI (a + z)) h1 rfl (ax_hx (i := 6) rfl hx)) (by rw [← hn]; rfl))
theorem rr_iload8 {a : Int} {x0 x1 x2 x3 x4 x5 x6 x7 : Option ax_V} {r : List (Option ax_V)} (B : ax_b X cc own n) (hd : decode cc pc = .ok (.iload 8, 2)) (k : AW X (pc + 2) (x0 :: x1 :: x2 :: x3 :: x4 :: x5 :: x6 :: x7 :: some (aI a) :: r) (aI a :: rest) M) : AW X pc (x0 :: x1 :: x2 :: x3 :: x4 :: x5 :: x6 :: x7 :: some (aI a) :: r) rest M := fun hG H locs ls hP hS hl hn => lv_iload B.1 B.2.1 hd (ax_lv_get hl 8 rfl) (k hG H locs ls hP hS hl hn)
theorem rr_lload8 {a : Int} {x0 x1 x2 x3 x4 x5 x6 x7 : Option ax_V} {r : List (Option ax_V)} (B : ax_b X cc own n) (hd : decode cc pc = .ok (.lload 8, 2)) (k : AW X (pc + 2) (x0 :: x1 :: x2 :: x3 :: x4 :: x5 :: x6 :: x7 :: some (aL a) :: r) (aL a :: rest) M) : AW X pc (x0 :: x1 :: x2 :: x3 :: x4 :: x5 :: x6 :: x7 :: some (aL a) :: r) rest M := fun hG H locs ls hP hS hl hn => lv_lload B.1 B.2.1 hd (ax_lv_get hl 8 rfl) (k hG H locs ls hP hS hl hn)
theorem rr_istore8 {a : Int} {old : Option ax_V} {x0 x1 x2 x3 x4 x5 x6 x7 : Option ax_V} {r : List (Option ax_V)} (B : ax_b X cc own n) (hd : decode cc pc = .ok (.istore 8, 2)) (hx : ax_notL x7 = true) (k : AW X (pc + 2) (x0 :: x1 :: x2 :: x3 :: x4 :: x5 :: x6 :: x7 :: some (aI a) :: r) rest M) : AW X pc (x0 :: x1 :: x2 :: x3 :: x4 :: x5 :: x6 :: x7 :: old :: r) (aI a :: rest) M := fun hG H locs ls hP hS hl hn => lv_istore B.1 B.2.1 hd hl (by rw [← hn]; simp only [List.length_cons]; show 8 < _; omega) rfl (fun ls1 h1 => k hG H locs ls1 hP hS (ax_lv_st1 (v := aI a) h1 rfl (ax_hx (i := 7) rfl hx)) (by rw [← hn]; rfl))
theorem rr_lstore8 {a : Int} {old old2 : Option ax_V} {x0 x1 x2 x3 x4 x5 x6 x7 : Option ax_V} {r : List (Option ax_V)} (B : ax_b X cc own n) (hd : decode cc pc = .ok (.lstore 8, 2)) (hx : ax_notL x7 = true) (k : AW X (pc + 2) (x0 :: x1 :: x2 :: x3 :: x4 :: x5 :: x6 :: x7 :: some (aL a) :: none :: r) rest M) : AW X pc (x0 :: x1 :: x2 :: x3 :: x4 :: x5 :: x6 :: x7 :: old :: old2 :: r) (aL a :: rest) M := fun hG H locs ls hP hS hl hn => lv_lstore B.1 B.2.1 hd hl (by rw [← hn]; simp only [List.length_cons]; show 8 + 1 < _; omega) rfl (fun ls1 h1 => k hG H locs ls1 hP hS (ax_lv_st2 (v := aL a) h1 rfl (ax_hx (i := 7) rfl hx)) (by rw [← hn]; rfl))
theorem rr_iinc8 {a z : Int} {x0 x1 x2 x3 x4 x5 x6 x7 : Option ax_V} {r : List (Option ax_V)} (B : ax_b X cc own n) (hd : decode cc pc = .ok (.iinc 8 z, 3)) (hx : ax_notL x7 = true) (k : AW X (pc + 3) (x0 :: x1 :: x2 :: x3 :: x4 :: x5 :: x6 :: x7 :: some (aI (a + z)) :: r) rest M) : AW X pc (x0 :: x1 :: x2 :: x3 :: x4 :: x5 :: x6 :: x7 :: some (aI a) :: r) rest M := by
  intro hG H locs ls hP hS hl hn
  obtain ⟨kk, hkk⟩ := List.getElem?_of_mem (ax_lvL_mem.mpr ⟨aI a, (rfl : (x0 :: x1 :: x2 :: x3 :: x4 :: x5 :: x6 :: x7 :: some (aI a) :: r)[8]? = some (some (aI a))), (rfl : cv X.g (aI a) = cv X.g (aI a))⟩)
  exact lv_iinc B.1 B.2.1 hd hl hkk (Int32.ofInt_add a z).symm (by rw [← hn]; simp) rfl (fun ls1 h1 => k hG H locs ls1 hP hS (ax_lv_st1 (v := aI (a + z)) h1 rfl (ax_hx (i := 7) rfl hx)) (by rw [← hn]; rfl))
theorem rr_iload9 {a : Int} {x0 x1 x2 x3 x4 x5 x6 x7 x8 : Option ax_V} {r : List (Option ax_V)} (B : ax_b X cc own n) (hd : decode cc pc = .ok (.iload 9, 2)) (k : AW X (pc + 2) (x0 :: x1 :: x2 :: x3 :: x4 :: x5 :: x6 :: x7 :: x8 :: some (aI a) :: r) (aI a :: rest) M) : AW X pc (x0 :: x1 :: x2 :: x3 :: x4 :: x5 :: x6 :: x7 :: x8 :: some (aI a) :: r) rest M := fun hG H locs ls hP hS hl hn => lv_iload B.1 B.2.1 hd (ax_lv_get hl 9 rfl) (k hG H locs ls hP hS hl hn)
theorem rr_lload9 {a : Int} {x0 x1 x2 x3 x4 x5 x6 x7 x8 : Option ax_V} {r : List (Option ax_V)} (B : ax_b X cc own n) (hd : decode cc pc = .ok (.lload 9, 2)) (k : AW X (pc + 2) (x0 :: x1 :: x2 :: x3 :: x4 :: x5 :: x6 :: x7 :: x8 :: some (aL a) :: r) (aL a :: rest) M) : AW X pc (x0 :: x1 :: x2 :: x3 :: x4 :: x5 :: x6 :: x7 :: x8 :: some (aL a) :: r) rest M := fun hG H locs ls hP hS hl hn => lv_lload B.1 B.2.1 hd (ax_lv_get hl 9 rfl) (k hG H locs ls hP hS hl hn)
theorem rr_istore9 {a : Int} {old : Option ax_V} {x0 x1 x2 x3 x4 x5 x6 x7 x8 : Option ax_V} {r : List (Option ax_V)} (B : ax_b X cc own n) (hd : decode cc pc = .ok (.istore 9, 2)) (hx : ax_notL x8 = true) (k : AW X (pc + 2) (x0 :: x1 :: x2 :: x3 :: x4 :: x5 :: x6 :: x7 :: x8 :: some (aI a) :: r) rest M) : AW X pc (x0 :: x1 :: x2 :: x3 :: x4 :: x5 :: x6 :: x7 :: x8 :: old :: r) (aI a :: rest) M := fun hG H locs ls hP hS hl hn => lv_istore B.1 B.2.1 hd hl (by rw [← hn]; simp only [List.length_cons]; show 9 < _; omega) rfl (fun ls1 h1 => k hG H locs ls1 hP hS (ax_lv_st1 (v := aI a) h1 rfl (ax_hx (i := 8) rfl hx)) (by rw [← hn]; rfl))
theorem rr_lstore9 {a : Int} {old old2 : Option ax_V} {x0 x1 x2 x3 x4 x5 x6 x7 x8 : Option ax_V} {r : List (Option ax_V)} (B : ax_b X cc own n) (hd : decode cc pc = .ok (.lstore 9, 2)) (hx : ax_notL x8 = true) (k : AW X (pc + 2) (x0 :: x1 :: x2 :: x3 :: x4 :: x5 :: x6 :: x7 :: x8 :: some (aL a) :: none :: r) rest M) : AW X pc (x0 :: x1 :: x2 :: x3 :: x4 :: x5 :: x6 :: x7 :: x8 :: old :: old2 :: r) (aL a :: rest) M := fun hG H locs ls hP hS hl hn => lv_lstore B.1 B.2.1 hd hl (by rw [← hn]; simp only [List.length_cons]; show 9 + 1 < _; omega) rfl (fun ls1 h1 => k hG H locs ls1 hP hS (ax_lv_st2 (v := aL a) h1 rfl (ax_hx (i := 8) rfl hx)) (by rw [← hn]; rfl))
theorem rr_iinc9 {a z : Int} {x0 x1 x2 x3 x4 x5 x6 x7 x8 : Option ax_V} {r : List (Option ax_V)} (B : ax_b X cc own n) (hd : decode cc pc = .ok (.iinc 9 z, 3)) (hx : ax_notL x8 = true) (k : AW X (pc + 3) (x0 :: x1 :: x2 :: x3 :: x4 :: x5 :: x6 :: x7 :: x8 :: some (aI (a + z)) :: r) rest M) : AW X pc (x0 :: x1 :: x2 :: x3 :: x4 :: x5 :: x6 :: x7 :: x8 :: some (aI a) :: r) rest M := by
  intro hG H locs ls hP hS hl hn
  obtain ⟨kk, hkk⟩ := List.getElem?_of_mem (ax_lvL_mem.mpr ⟨aI a, (rfl : (x0 :: x1 :: x2 :: x3 :: x4 :: x5 :: x6 :: x7 :: x8 :: some (aI a) :: r)[9]? = some (some (aI a))), (rfl : cv X.g (aI a) = cv X.g (aI a))⟩)
  exact lv_iinc B.1 B.2.1 hd hl hkk (Int32.ofInt_add a z).symm (by rw [← hn]; simp) rfl (fun ls1 h1 => k hG H locs ls1 hP hS (ax_lv_st1 (v := aI (a + z)) h1 rfl (ax_hx (i := 8) rfl hx)) (by rw [← hn]; rfl))
theorem rr_iload10 {a : Int} {x0 x1 x2 x3 x4 x5 x6 x7 x8 x9 : Option ax_V} {r : List (Option ax_V)} (B : ax_b X cc own n) (hd : decode cc pc = .ok (.iload 10, 2)) (k : AW X (pc + 2) (x0 :: x1 :: x2 :: x3 :: x4 :: x5 :: x6 :: x7 :: x8 :: x9 :: some (aI a) :: r) (aI a :: rest) M) : AW X pc (x0 :: x1 :: x2 :: x3 :: x4 :: x5 :: x6 :: x7 :: x8 :: x9 :: some (aI a) :: r) rest M := fun hG H locs ls hP hS hl hn => lv_iload B.1 B.2.1 hd (ax_lv_get hl 10 rfl) (k hG H locs ls hP hS hl hn)
theorem rr_lload10 {a : Int} {x0 x1 x2 x3 x4 x5 x6 x7 x8 x9 : Option ax_V} {r : List (Option ax_V)} (B : ax_b X cc own n) (hd : decode cc pc = .ok (.lload 10, 2)) (k : AW X (pc + 2) (x0 :: x1 :: x2 :: x3 :: x4 :: x5 :: x6 :: x7 :: x8 :: x9 :: some (aL a) :: r) (aL a :: rest) M) : AW X pc (x0 :: x1 :: x2 :: x3 :: x4 :: x5 :: x6 :: x7 :: x8 :: x9 :: some (aL a) :: r) rest M := fun hG H locs ls hP hS hl hn => lv_lload B.1 B.2.1 hd (ax_lv_get hl 10 rfl) (k hG H locs ls hP hS hl hn)
theorem rr_istore10 {a : Int} {old : Option ax_V} {x0 x1 x2 x3 x4 x5 x6 x7 x8 x9 : Option ax_V} {r : List (Option ax_V)} (B : ax_b X cc own n) (hd : decode cc pc = .ok (.istore 10, 2)) (hx : ax_notL x9 = true) (k : AW X (pc + 2) (x0 :: x1 :: x2 :: x3 :: x4 :: x5 :: x6 :: x7 :: x8 :: x9 :: some (aI a) :: r) rest M) : AW X pc (x0 :: x1 :: x2 :: x3 :: x4 :: x5 :: x6 :: x7 :: x8 :: x9 :: old :: r) (aI a :: rest) M := fun hG H locs ls hP hS hl hn => lv_istore B.1 B.2.1 hd hl (by rw [← hn]; simp only [List.length_cons]; show 10 < _; omega) rfl (fun ls1 h1 => k hG H locs ls1 hP hS (ax_lv_st1 (v := aI a) h1 rfl (ax_hx (i := 9) rfl hx)) (by rw [← hn]; rfl))
theorem rr_lstore10 {a : Int} {old old2 : Option ax_V} {x0 x1 x2 x3 x4 x5 x6 x7 x8 x9 : Option ax_V} {r : List (Option ax_V)} (B : ax_b X cc own n) (hd : decode cc pc = .ok (.lstore 10, 2)) (hx : ax_notL x9 = true) (k : AW X (pc + 2) (x0 :: x1 :: x2 :: x3 :: x4 :: x5 :: x6 :: x7 :: x8 :: x9 :: some (aL a) :: none :: r) rest M) : AW X pc (x0 :: x1 :: x2 :: x3 :: x4 :: x5 :: x6 :: x7 :: x8 :: x9 :: old :: old2 :: r) (aL a :: rest) M := fun hG H locs ls hP hS hl hn => lv_lstore B.1 B.2.1 hd hl (by rw [← hn]; simp only [List.length_cons]; show 10 + 1 < _; omega) rfl (fun ls1 h1 => k hG H locs ls1 hP hS (ax_lv_st2 (v := aL a) h1 rfl (ax_hx (i := 9) rfl hx)) (by rw [← hn]; rfl))
theorem rr_iinc10 {a z : Int} {x0 x1 x2 x3 x4 x5 x6 x7 x8 x9 : Option ax_V} {r : List (Option ax_V)} (B : ax_b X cc own n) (hd : decode cc pc = .ok (.iinc 10 z, 3)) (hx : ax_notL x9 = true) (k : AW X (pc + 3) (x0 :: x1 :: x2 :: x3 :: x4 :: x5 :: x6 :: x7 :: x8 :: x9 :: some (aI (a + z)) :: r) rest M) : AW X pc (x0 :: x1 :: x2 :: x3 :: x4 :: x5 :: x6 :: x7 :: x8 :: x9 :: some (aI a) :: r) rest M := by
  intro hG H locs ls hP hS hl hn
  obtain ⟨kk, hkk⟩ := List.getElem?_of_mem (ax_lvL_mem.mpr ⟨aI a, (rfl : (x0 :: x1 :: x2 :: x3 :: x4 :: x5 :: x6 :: x7 :: x8 :: x9 :: some (aI a) :: r)[10]? = some (some (aI a))), (rfl : cv X.g (aI a) = cv X.g (aI a))⟩)
  exact lv_iinc B.1 B.2.1 hd hl hkk (Int32.ofInt_add a z).symm (by rw [← hn]; simp) rfl (fun ls1 h1 => k hG H locs ls1 hP hS (ax_lv_st1 (v := aI (a + z)) h1 rfl (ax_hx (i := 9) rfl hx)) (by rw [← hn]; rfl))
theorem rr_iload11 {a : Int} {x0 x1 x2 x3 x4 x5 x6 x7 x8 x9 x10 : Option ax_V} {r : List (Option ax_V)} (B : ax_b X cc own n) (hd : decode cc pc = .ok (.iload 11, 2)) (k : AW X (pc + 2) (x0 :: x1 :: x2 :: x3 :: x4 :: x5 :: x6 :: x7 :: x8 :: x9 :: x10 :: some (aI a) :: r) (aI a :: rest) M) : AW X pc (x0 :: x1 :: x2 :: x3 :: x4 :: x5 :: x6 :: x7 :: x8 :: x9 :: x10 :: some (aI a) :: r) rest M := fun hG H locs ls hP hS hl hn => lv_iload B.1 B.2.1 hd (ax_lv_get hl 11 rfl) (k hG H locs ls hP hS hl hn)
theorem rr_lload11 {a : Int} {x0 x1 x2 x3 x4 x5 x6 x7 x8 x9 x10 : Option ax_V} {r : List (Option ax_V)} (B : ax_b X cc own n) (hd : decode cc pc = .ok (.lload 11, 2)) (k : AW X (pc + 2) (x0 :: x1 :: x2 :: x3 :: x4 :: x5 :: x6 :: x7 :: x8 :: x9 :: x10 :: some (aL a) :: r) (aL a :: rest) M) : AW X pc (x0 :: x1 :: x2 :: x3 :: x4 :: x5 :: x6 :: x7 :: x8 :: x9 :: x10 :: some (aL a) :: r) rest M := fun hG H locs ls hP hS hl hn => lv_lload B.1 B.2.1 hd (ax_lv_get hl 11 rfl) (k hG H locs ls hP hS hl hn)
theorem rr_istore11 {a : Int} {old : Option ax_V} {x0 x1 x2 x3 x4 x5 x6 x7 x8 x9 x10 : Option ax_V} {r : List (Option ax_V)} (B : ax_b X cc own n) (hd : decode cc pc = .ok (.istore 11, 2)) (hx : ax_notL x10 = true) (k : AW X (pc + 2) (x0 :: x1 :: x2 :: x3 :: x4 :: x5 :: x6 :: x7 :: x8 :: x9 :: x10 :: some (aI a) :: r) rest M) : AW X pc (x0 :: x1 :: x2 :: x3 :: x4 :: x5 :: x6 :: x7 :: x8 :: x9 :: x10 :: old :: r) (aI a :: rest) M := fun hG H locs ls hP hS hl hn => lv_istore B.1 B.2.1 hd hl (by rw [← hn]; simp only [List.length_cons]; show 11 < _; omega) rfl (fun ls1 h1 => k hG H locs ls1 hP hS (ax_lv_st1 (v := aI a) h1 rfl (ax_hx (i := 10) rfl hx)) (by rw [← hn]; rfl))
theorem rr_iinc11 {a z : Int} {x0 x1 x2 x3 x4 x5 x6 x7 x8 x9 x10 : Option ax_V} {r : List (Option ax_V)} (B : ax_b X cc own n) (hd : decode cc pc = .ok (.iinc 11 z, 3)) (hx : ax_notL x10 = true) (k : AW X (pc + 3) (x0 :: x1 :: x2 :: x3 :: x4 :: x5 :: x6 :: x7 :: x8 :: x9 :: x10 :: some (aI (a + z)) :: r) rest M) : AW X pc (x0 :: x1 :: x2 :: x3 :: x4 :: x5 :: x6 :: x7 :: x8 :: x9 :: x10 :: some (aI a) :: r) rest M := by
  intro hG H locs ls hP hS hl hn
  obtain ⟨kk, hkk⟩ := List.getElem?_of_mem (ax_lvL_mem.mpr ⟨aI a, (rfl : (x0 :: x1 :: x2 :: x3 :: x4 :: x5 :: x6 :: x7 :: x8 :: x9 :: x10 :: some (aI a) :: r)[11]? = some (some (aI a))), (rfl : cv X.g (aI a) = cv X.g (aI a))⟩)
  exact lv_iinc B.1 B.2.1 hd hl hkk (Int32.ofInt_add a z).symm (by rw [← hn]; simp) rfl (fun ls1 h1 => k hG H locs ls1 hP hS (ax_lv_st1 (v := aI (a + z)) h1 rfl (ax_hx (i := 10) rfl hx)) (by rw [← hn]; rfl))
def ax_and (a b : Int) : Int := (ax_i a &&& ax_i b).toInt
def ax_or (a b : Int) : Int := (ax_i a ||| ax_i b).toInt
def ax_xor (a b : Int) : Int := (ax_i a ^^^ ax_i b).toInt
def ax_shl (a b : Int) : Int := (ax_i a <<< (ax_i b &&& 31)).toInt
def ax_shr (a b : Int) : Int := (ax_i a >>> (ax_i b &&& 31)).toInt
def ax_ushr (a b : Int) : Int := ((ax_i a).toUInt32 >>> ((ax_i b).toUInt32 &&& Int32.toUInt32 31)).toInt32.toInt
theorem ax_tdiv {a b : Int} (h : 0 ≤ a ∧ a ≤ 2147483647 ∧ 0 < b ∧ b ≤ 2147483647) : ax_i a / ax_i b = ax_i (a / b) := by
  rw [← Int.tdiv_eq_ediv_of_nonneg h.1]
  exact (Int32.ofInt_tdiv (by show (-2147483648 : Int) ≤ a; omega) (by show a ≤ (2147483647 : Int); omega) (by show (-2147483648 : Int) ≤ b; omega) (by show b ≤ (2147483647 : Int); omega)).symm
theorem ax_ltdiv {a b : Int} (h : 0 ≤ a ∧ a ≤ 9223372036854775807 ∧ 0 < b ∧ b ≤ 9223372036854775807) : ax_l a / ax_l b = ax_l (a / b) := by
  rw [← Int.tdiv_eq_ediv_of_nonneg h.1]
  exact (Int64.ofInt_tdiv (by show (-9223372036854775808 : Int) ≤ a; omega) (by show a ≤ (9223372036854775807 : Int); omega) (by show (-9223372036854775808 : Int) ≤ b; omega) (by show b ≤ (9223372036854775807 : Int); omega)).symm
theorem ax_ne0 {b : Int} (h : 0 < b ∧ b ≤ 2147483647) : ¬ ax_i b = 0 := by
  rw [← ax_i_0, ax_i_eq (by omega)]; omega
theorem ax_lne0 {b : Int} (h : 0 < b ∧ b ≤ 9223372036854775807) : ¬ ax_l b = 0 := by
  intro e
  have := congrArg Int64.toInt e
  rw [ax_l_of (by omega)] at this
  have h0 : (0 : Int64).toInt = 0 := rfl
  omega
theorem ax_rem {a b : Int} (h : 0 ≤ a ∧ a ≤ 2147483647 ∧ 0 < b ∧ b ≤ 2147483647) : ax_i a - ax_i a / ax_i b * ax_i b = ax_i (a % b) := by
  rw [ax_tdiv h]
  have e : a % b = a - a / b * b := by
    have := Int.emod_def a b
    rw [this, Int.mul_comm]
  rw [e]
  unfold ax_i
  rw [Int32.ofInt_sub, Int32.ofInt_mul]
theorem ax_lrem {a b : Int} (h : 0 ≤ a ∧ a ≤ 9223372036854775807 ∧ 0 < b ∧ b ≤ 9223372036854775807) : ax_l a - ax_l a / ax_l b * ax_l b = ax_l (a % b) := by
  rw [ax_ltdiv h]
  have e : a % b = a - a / b * b := by
    have := Int.emod_def a b
    rw [this, Int.mul_comm]
  rw [e]
  unfold ax_l
  rw [Int64.ofInt_sub, Int64.ofInt_mul]
theorem ax_not (a : Int) : ax_i a ^^^ ax_i (-1) = ax_i (-1 - a) := by
  unfold ax_i
  rw [Int32.ofInt_sub]
  apply Int32.toBitVec_inj.mp
  simp only [Int32.toBitVec_xor, Int32.toBitVec_sub, Int32.toBitVec_ofInt]
  generalize BitVec.ofInt 32 a = v
  have h1 : BitVec.ofInt 32 (-1) = BitVec.allOnes 32 := by decide
  rw [h1, BitVec.xor_allOnes]
  apply BitVec.eq_of_toNat_eq
  rw [BitVec.toNat_not, BitVec.toNat_sub, BitVec.toNat_allOnes]
  have := v.isLt
  omega
theorem rr_iadd {a b : Int} (B : ax_b X cc own n) (hd : decode cc pc = .ok (.iadd, 1)) (k : AW X (pc + 1) lv (aI (a + b) :: rest) M) : AW X pc lv (aI b :: aI a :: rest) M := by
  intro hG H locs ls hP hS hl hn
  refine lv_iadd B.1 B.2.1 hd ?_
  refine lv_topi (fun y hy => ?_)
  obtain rfl := hy.trans (Int32.ofInt_add a b).symm
  exact k hG H locs ls hP hS hl hn
theorem rr_isub {a b : Int} (B : ax_b X cc own n) (hd : decode cc pc = .ok (.isub, 1)) (k : AW X (pc + 1) lv (aI (a - b) :: rest) M) : AW X pc lv (aI b :: aI a :: rest) M := by
  intro hG H locs ls hP hS hl hn
  refine lv_isub B.1 B.2.1 hd ?_
  refine lv_topi (fun y hy => ?_)
  obtain rfl := hy.trans (Int32.ofInt_sub a b).symm
  exact k hG H locs ls hP hS hl hn
theorem rr_imul {a b : Int} (B : ax_b X cc own n) (hd : decode cc pc = .ok (.imul, 1)) (k : AW X (pc + 1) lv (aI (a * b) :: rest) M) : AW X pc lv (aI b :: aI a :: rest) M := by
  intro hG H locs ls hP hS hl hn
  refine lv_imul B.1 B.2.1 hd ?_
  refine lv_topi (fun y hy => ?_)
  obtain rfl := hy.trans (Int32.ofInt_mul a b).symm
  exact k hG H locs ls hP hS hl hn
theorem rr_iand {a b : Int} (B : ax_b X cc own n) (hd : decode cc pc = .ok (.iand, 1)) (k : AW X (pc + 1) lv (aI (ax_and a b) :: rest) M) : AW X pc lv (aI b :: aI a :: rest) M := by
  intro hG H locs ls hP hS hl hn
  refine lv_iand B.1 B.2.1 hd ?_
  refine lv_topi (fun y hy => ?_)
  obtain rfl := hy.trans (Int32.ofInt_toInt _).symm
  exact k hG H locs ls hP hS hl hn
theorem rr_ior {a b : Int} (B : ax_b X cc own n) (hd : decode cc pc = .ok (.ior, 1)) (k : AW X (pc + 1) lv (aI (ax_or a b) :: rest) M) : AW X pc lv (aI b :: aI a :: rest) M := by
  intro hG H locs ls hP hS hl hn
  refine lv_ior B.1 B.2.1 hd ?_
  refine lv_topi (fun y hy => ?_)
  obtain rfl := hy.trans (Int32.ofInt_toInt _).symm
  exact k hG H locs ls hP hS hl hn
theorem rr_ishl {a b : Int} (B : ax_b X cc own n) (hd : decode cc pc = .ok (.ishl, 1)) (k : AW X (pc + 1) lv (aI (ax_shl a b) :: rest) M) : AW X pc lv (aI b :: aI a :: rest) M := by
  intro hG H locs ls hP hS hl hn
  refine lv_ishl B.1 B.2.1 hd ?_
  refine lv_topi (fun y hy => ?_)
  obtain rfl := hy.trans (Int32.ofInt_toInt _).symm
  exact k hG H locs ls hP hS hl hn
theorem rr_ishr {a b : Int} (B : ax_b X cc own n) (hd : decode cc pc = .ok (.ishr, 1)) (k : AW X (pc + 1) lv (aI (ax_shr a b) :: rest) M) : AW X pc lv (aI b :: aI a :: rest) M := by
  intro hG H locs ls hP hS hl hn
  refine lv_ishr B.1 B.2.1 hd ?_
  refine lv_topi (fun y hy => ?_)
  obtain rfl := hy.trans (Int32.ofInt_toInt _).symm
  exact k hG H locs ls hP hS hl hn
theorem rr_inot {a : Int} (B : ax_b X cc own n) (hd : decode cc pc = .ok (.ixor, 1)) (k : AW X (pc + 1) lv (aI (-1 - a) :: rest) M) : AW X pc lv (aI (-1) :: aI a :: rest) M := by
  intro hG H locs ls hP hS hl hn
  refine lv_ixor B.1 B.2.1 hd ?_
  refine lv_topi (fun y hy => ?_)
  obtain rfl := hy.trans (ax_not a)
  exact k hG H locs ls hP hS hl hn
theorem rr_iushr {a b : Int} (B : ax_b X cc own n) (hd : decode cc pc = .ok (.iushr, 1)) (k : AW X (pc + 1) lv (aI (ax_ushr a b) :: rest) M) : AW X pc lv (aI b :: aI a :: rest) M := by
  intro hG H locs ls hP hS hl hn
  refine lv_iushr (v := ax_i (ax_ushr a b)) B.1 B.2.1 hd (Int32.ofInt_toInt _).symm ?_
  exact k hG H locs ls hP hS hl hn
theorem rr_idiv {a b : Int} (B : ax_b X cc own n) (hd : decode cc pc = .ok (.idiv, 1)) (h : 0 ≤ a ∧ a ≤ 2147483647 ∧ 0 < b ∧ b ≤ 2147483647) (k : AW X (pc + 1) lv (aI (a / b) :: rest) M) : AW X pc lv (aI b :: aI a :: rest) M := by
  intro hG H locs ls hP hS hl hn
  refine lv_idiv B.1 B.2.1 hd (ax_ne0 h.2.2) ?_
  refine lv_topi (fun y hy => ?_)
  obtain rfl := hy.trans (ax_tdiv h)
  exact k hG H locs ls hP hS hl hn
theorem rr_irem {a b : Int} (B : ax_b X cc own n) (hd : decode cc pc = .ok (.irem, 1)) (h : 0 ≤ a ∧ a ≤ 2147483647 ∧ 0 < b ∧ b ≤ 2147483647) (k : AW X (pc + 1) lv (aI (a % b) :: rest) M) : AW X pc lv (aI b :: aI a :: rest) M := by
  intro hG H locs ls hP hS hl hn
  refine lv_irem B.1 B.2.1 hd (ax_ne0 h.2.2) ?_
  refine lv_topi (fun y hy => ?_)
  obtain rfl := hy.trans (ax_rem h)
  exact k hG H locs ls hP hS hl hn
theorem rr_ladd {a b : Int} (B : ax_b X cc own n) (hd : decode cc pc = .ok (.ladd, 1)) (k : AW X (pc + 1) lv (aL (a + b) :: rest) M) : AW X pc lv (aL b :: aL a :: rest) M := by
  intro hG H locs ls hP hS hl hn
  refine lv_ladd B.1 B.2.1 hd ?_
  refine lv_topl (fun y hy => ?_)
  obtain rfl := hy.trans (Int64.ofInt_add a b).symm
  exact k hG H locs ls hP hS hl hn
theorem rr_lsub {a b : Int} (B : ax_b X cc own n) (hd : decode cc pc = .ok (.lsub, 1)) (k : AW X (pc + 1) lv (aL (a - b) :: rest) M) : AW X pc lv (aL b :: aL a :: rest) M := by
  intro hG H locs ls hP hS hl hn
  refine lv_lsub B.1 B.2.1 hd ?_
  refine lv_topl (fun y hy => ?_)
  obtain rfl := hy.trans (Int64.ofInt_sub a b).symm
  exact k hG H locs ls hP hS hl hn
theorem rr_lmul {a b : Int} (B : ax_b X cc own n) (hd : decode cc pc = .ok (.lmul, 1)) (k : AW X (pc + 1) lv (aL (a * b) :: rest) M) : AW X pc lv (aL b :: aL a :: rest) M := by
  intro hG H locs ls hP hS hl hn
  refine lv_lmul B.1 B.2.1 hd ?_
  refine lv_topl (fun y hy => ?_)
  obtain rfl := hy.trans (Int64.ofInt_mul a b).symm
  exact k hG H locs ls hP hS hl hn
theorem rr_ldiv {a b : Int} (B : ax_b X cc own n) (hd : decode cc pc = .ok (.ldiv, 1)) (h : 0 ≤ a ∧ a ≤ 9223372036854775807 ∧ 0 < b ∧ b ≤ 9223372036854775807) (k : AW X (pc + 1) lv (aL (a / b) :: rest) M) : AW X pc lv (aL b :: aL a :: rest) M := by
  intro hG H locs ls hP hS hl hn
  refine lv_ldiv B.1 B.2.1 hd (ax_lne0 h.2.2) ?_
  refine lv_topl (fun y hy => ?_)
  obtain rfl := hy.trans (ax_ltdiv h)
  exact k hG H locs ls hP hS hl hn
theorem rr_lrem {a b : Int} (B : ax_b X cc own n) (hd : decode cc pc = .ok (.lrem, 1)) (h : 0 ≤ a ∧ a ≤ 9223372036854775807 ∧ 0 < b ∧ b ≤ 9223372036854775807) (k : AW X (pc + 1) lv (aL (a % b) :: rest) M) : AW X pc lv (aL b :: aL a :: rest) M := by
  intro hG H locs ls hP hS hl hn
  refine lv_lrem B.1 B.2.1 hd (ax_lne0 h.2.2) ?_
  refine lv_topl (fun y hy => ?_)
  obtain rfl := hy.trans (ax_lrem h)
  exact k hG H locs ls hP hS hl hn
theorem rr_i2l {a : Int} (B : ax_b X cc own n) (hd : decode cc pc = .ok (.i2l, 1)) (h : -2147483648 ≤ a ∧ a ≤ 2147483647) (k : AW X (pc + 1) lv (aL a :: rest) M) : AW X pc lv (aI a :: rest) M := by
  intro hG H locs ls hP hS hl hn
  refine lv_i2l (v := ax_l a) B.1 B.2.1 hd ?_ (k hG H locs ls hP hS hl hn)
  rw [← Int64.ofInt_int32ToInt, ax_i_of h]; rfl
theorem rr_l2i {a : Int} (B : ax_b X cc own n) (hd : decode cc pc = .ok (.l2i, 1)) (h : -2147483648 ≤ a ∧ a ≤ 2147483647) (k : AW X (pc + 1) lv (aI a :: rest) M) : AW X pc lv (aL a :: rest) M := by
  intro hG H locs ls hP hS hl hn
  refine lv_l2i (v := ax_i a) B.1 B.2.1 hd ?_ (k hG H locs ls hP hS hl hn)
  rw [← Int32.ofInt_int64ToInt, ax_l_of (by omega)]; rfl
def ax_b8 (a : Int) : Int := (ax_i a).toInt8.toInt32.toInt
def ax_s16 (a : Int) : Int := (ax_i a).toInt16.toInt32.toInt
theorem rr_i2b {a : Int} (B : ax_b X cc own n) (hd : decode cc pc = .ok (.i2b, 1)) (k : AW X (pc + 1) lv (aI (ax_b8 a) :: rest) M) : AW X pc lv (aI a :: rest) M := fun hG H locs ls hP hS hl hn => lv_i2b (v := ax_i (ax_b8 a)) B.1 B.2.1 hd (Int32.ofInt_toInt _).symm (k hG H locs ls hP hS hl hn)
theorem rr_i2s {a : Int} (B : ax_b X cc own n) (hd : decode cc pc = .ok (.i2s, 1)) (k : AW X (pc + 1) lv (aI (ax_s16 a) :: rest) M) : AW X pc lv (aI a :: rest) M := fun hG H locs ls hP hS hl hn => lv_i2s (v := ax_i (ax_s16 a)) B.1 B.2.1 hd (Int32.ofInt_toInt _).symm (k hG H locs ls hP hS hl hn)
theorem rr_dup {a : ax_V} (B : ax_b X cc own n) (hd : decode cc pc = .ok (.dup, 1)) (ha : ax_notL (some a) = true) (k : AW X (pc + 1) lv (a :: a :: rest) M) : AW X pc lv (a :: rest) M := fun hG H locs ls hP hS hl hn => lv_dup B.1 B.2.1 hd (ax_notL_cat ha) (k hG H locs ls hP hS hl hn)
theorem rr_dup2 {a b : ax_V} (B : ax_b X cc own n) (hd : decode cc pc = .ok (.dup2, 1)) (ha : ax_notL (some a) = true) (hb : ax_notL (some b) = true) (k : AW X (pc + 1) lv (a :: b :: a :: b :: rest) M) : AW X pc lv (a :: b :: rest) M := fun hG H locs ls hP hS hl hn => lv_dup2_11 B.1 B.2.1 hd (ax_notL_cat ha) (ax_notL_cat hb) (k hG H locs ls hP hS hl hn)
theorem rr_pop {a : ax_V} (B : ax_b X cc own n) (hd : decode cc pc = .ok (.pop, 1)) (ha : ax_notL (some a) = true) (k : AW X (pc + 1) lv rest M) : AW X pc lv (a :: rest) M := fun hG H locs ls hP hS hl hn => lv_pop B.1 B.2.1 hd (ax_notL_cat ha) (k hG H locs ls hP hS hl hn)
theorem rr_goto {off : Int} (tgt : Nat) (B : ax_b X cc own n) (hd : decode cc pc = .ok (.goto off, 3)) (ht : (pc : Int) + off = (tgt : Int)) (k : AW X tgt lv rest M) : AW X pc lv rest M := fun hG H locs ls hP hS hl hn => lv_goto B.1 B.2.1 hd ht (k hG H locs ls hP hS hl hn)
def bi (b : Bool) : Int := if b then 1 else 0
theorem ax_i_ne {a b : Int} (h : -2147483648 ≤ a ∧ a ≤ 2147483647 ∧ -2147483648 ≤ b ∧ b ≤ 2147483647) (e : a ≠ b) : ¬ ax_i a = ax_i b := fun q => e ((ax_i_eq h).mp q)
theorem rr_icmp_eq {a b off : Int} (tgt : Nat) (B : ax_b X cc own n) (hd : decode cc pc = .ok (.if_icmp .eq off, 3)) (ht : (pc : Int) + off = (tgt : Int)) (h : -2147483648 ≤ a ∧ a ≤ 2147483647 ∧ -2147483648 ≤ b ∧ b ≤ 2147483647) (kt : a = b → AW X tgt lv rest M) (kf : a ≠ b → AW X (pc + 3) lv rest M) : AW X pc lv (aI b :: aI a :: rest) M := by
  intro hG H locs ls hP hS hl hn
  have e1 := ax_i_eq h
  have e2 := ax_i_lt h
  have e3 := ax_i_le h
  have h' : -2147483648 ≤ b ∧ b ≤ 2147483647 ∧ -2147483648 ≤ a ∧ a ≤ 2147483647 := ⟨h.2.2.1, h.2.2.2, h.1, h.2.1⟩
  have e4 := ax_i_lt h'
  have e5 := ax_i_le h'
  refine lv_icmp_eq B.1 B.2.1 hd ht (fun q => ?_) (fun q => ?_)
  · refine kt ?_ hG H locs ls hP hS hl hn
    simp only [gt_iff_lt, ge_iff_le, ne_eq, e1, e2, e3, e4, e5] at q
    omega
  · refine kf ?_ hG H locs ls hP hS hl hn
    simp only [gt_iff_lt, ge_iff_le, ne_eq, e1, e2, e3, e4, e5] at q
    omega
theorem rr_if_eq {a off : Int} (tgt : Nat) (B : ax_b X cc own n) (hd : decode cc pc = .ok (.ifCond .eq off, 3)) (ht : (pc : Int) + off = (tgt : Int)) (h : -2147483648 ≤ a ∧ a ≤ 2147483647) (kt : a = 0 → AW X tgt lv rest M) (kf : a ≠ 0 → AW X (pc + 3) lv rest M) : AW X pc lv (aI a :: rest) M := by
  intro hG H locs ls hP hS hl hn
  have h1 : -2147483648 ≤ a ∧ a ≤ 2147483647 ∧ -2147483648 ≤ (0 : Int) ∧ (0 : Int) ≤ 2147483647 := by omega
  have h2 : -2147483648 ≤ (0 : Int) ∧ (0 : Int) ≤ 2147483647 ∧ -2147483648 ≤ a ∧ a ≤ 2147483647 := by omega
  have e1 := ax_i_eq h1
  have e2 := ax_i_lt h1
  have e3 := ax_i_le h1
  have e4 := ax_i_lt h2
  have e5 := ax_i_le h2
  rw [ax_i_0] at e1 e2 e3 e4 e5
  refine lv_if_eq B.1 B.2.1 hd ht (fun q => ?_) (fun q => ?_)
  · refine kt ?_ hG H locs ls hP hS hl hn
    simp only [gt_iff_lt, ge_iff_le, ne_eq, e1, e2, e3, e4, e5] at q
    omega
  · refine kf ?_ hG H locs ls hP hS hl hn
    simp only [gt_iff_lt, ge_iff_le, ne_eq, e1, e2, e3, e4, e5] at q
    omega
theorem rr_lcmp_eq {a b off : Int} (tgt : Nat) (B : ax_b X cc own n) (hd : decode cc pc = .ok (.lcmp, 1)) (hd2 : decode cc (pc + 1) = .ok (.ifCond .eq off, 3)) (ht : ((pc + 1 : Nat) : Int) + off = (tgt : Int)) (h : -9223372036854775808 ≤ a ∧ a ≤ 9223372036854775807 ∧ -9223372036854775808 ≤ b ∧ b ≤ 9223372036854775807) (kt : a = b → AW X tgt lv rest M) (kf : a ≠ b → AW X (pc + 1 + 3) lv rest M) : AW X pc lv (aL b :: aL a :: rest) M := by
  intro hG H locs ls hP hS hl hn
  have ea := ax_l_of (z := a) ⟨h.1, h.2.1⟩
  have eb := ax_l_of (z := b) h.2.2
  refine W.lcmp B.1 B.2.1 hd ?_
  refine lv_if_eq B.1 B.2.1 hd2 ht (fun q => ?_) (fun q => ?_)
  · refine kt ?_ hG H locs ls hP hS hl hn
    simp only [gt_iff_lt, ge_iff_le, ne_eq, lg_cmp_ge, lg_cmp_le, lg_cmp_gt, lg_cmp_lt, lg_cmp_eq, Int64.lt_iff_toInt_lt, Int64.le_iff_toInt_le, ← Int64.toInt_inj, ea, eb] at q
    omega
  · refine kf ?_ hG H locs ls hP hS hl hn
    simp only [gt_iff_lt, ge_iff_le, ne_eq, lg_cmp_ge, lg_cmp_le, lg_cmp_gt, lg_cmp_lt, lg_cmp_eq, Int64.lt_iff_toInt_lt, Int64.le_iff_toInt_le, ← Int64.toInt_inj, ea, eb] at q
    omega
theorem rr_icmp_ne {a b off : Int} (tgt : Nat) (B : ax_b X cc own n) (hd : decode cc pc = .ok (.if_icmp .ne off, 3)) (ht : (pc : Int) + off = (tgt : Int)) (h : -2147483648 ≤ a ∧ a ≤ 2147483647 ∧ -2147483648 ≤ b ∧ b ≤ 2147483647) (kt : a ≠ b → AW X tgt lv rest M) (kf : a = b → AW X (pc + 3) lv rest M) : AW X pc lv (aI b :: aI a :: rest) M := by
  intro hG H locs ls hP hS hl hn
  have e1 := ax_i_eq h
  have e2 := ax_i_lt h
  have e3 := ax_i_le h
  have h' : -2147483648 ≤ b ∧ b ≤ 2147483647 ∧ -2147483648 ≤ a ∧ a ≤ 2147483647 := ⟨h.2.2.1, h.2.2.2, h.1, h.2.1⟩
  have e4 := ax_i_lt h'
  have e5 := ax_i_le h'
  refine lv_icmp_ne B.1 B.2.1 hd ht (fun q => ?_) (fun q => ?_)
  · refine kt ?_ hG H locs ls hP hS hl hn
    simp only [gt_iff_lt, ge_iff_le, ne_eq, e1, e2, e3, e4, e5] at q
    omega
  · refine kf ?_ hG H locs ls hP hS hl hn
    simp only [gt_iff_lt, ge_iff_le, ne_eq, e1, e2, e3, e4, e5] at q
    omega
theorem rr_if_ne {a off : Int} (tgt : Nat) (B : ax_b X cc own n) (hd : decode cc pc = .ok (.ifCond .ne off, 3)) (ht : (pc : Int) + off = (tgt : Int)) (h : -2147483648 ≤ a ∧ a ≤ 2147483647) (kt : a ≠ 0 → AW X tgt lv rest M) (kf : a = 0 → AW X (pc + 3) lv rest M) : AW X pc lv (aI a :: rest) M := by
  intro hG H locs ls hP hS hl hn
  have h1 : -2147483648 ≤ a ∧ a ≤ 2147483647 ∧ -2147483648 ≤ (0 : Int) ∧ (0 : Int) ≤ 2147483647 := by omega
  have h2 : -2147483648 ≤ (0 : Int) ∧ (0 : Int) ≤ 2147483647 ∧ -2147483648 ≤ a ∧ a ≤ 2147483647 := by omega
  have e1 := ax_i_eq h1
  have e2 := ax_i_lt h1
  have e3 := ax_i_le h1
  have e4 := ax_i_lt h2
  have e5 := ax_i_le h2
  rw [ax_i_0] at e1 e2 e3 e4 e5
  refine lv_if_ne B.1 B.2.1 hd ht (fun q => ?_) (fun q => ?_)
  · refine kt ?_ hG H locs ls hP hS hl hn
    simp only [gt_iff_lt, ge_iff_le, ne_eq, e1, e2, e3, e4, e5] at q
    omega
  · refine kf ?_ hG H locs ls hP hS hl hn
    simp only [gt_iff_lt, ge_iff_le, ne_eq, e1, e2, e3, e4, e5] at q
    omega
theorem rr_lcmp_ne {a b off : Int} (tgt : Nat) (B : ax_b X cc own n) (hd : decode cc pc = .ok (.lcmp, 1)) (hd2 : decode cc (pc + 1) = .ok (.ifCond .ne off, 3)) (ht : ((pc + 1 : Nat) : Int) + off = (tgt : Int)) (h : -9223372036854775808 ≤ a ∧ a ≤ 9223372036854775807 ∧ -9223372036854775808 ≤ b ∧ b ≤ 9223372036854775807) (kt : a ≠ b → AW X tgt lv rest M) (kf : a = b → AW X (pc + 1 + 3) lv rest M) : AW X pc lv (aL b :: aL a :: rest) M := by
  intro hG H locs ls hP hS hl hn
  have ea := ax_l_of (z := a) ⟨h.1, h.2.1⟩
  have eb := ax_l_of (z := b) h.2.2
  refine W.lcmp B.1 B.2.1 hd ?_
  refine lv_if_ne B.1 B.2.1 hd2 ht (fun q => ?_) (fun q => ?_)
  · refine kt ?_ hG H locs ls hP hS hl hn
    simp only [gt_iff_lt, ge_iff_le, ne_eq, lg_cmp_ge, lg_cmp_le, lg_cmp_gt, lg_cmp_lt, lg_cmp_eq, Int64.lt_iff_toInt_lt, Int64.le_iff_toInt_le, ← Int64.toInt_inj, ea, eb] at q
    omega
  · refine kf ?_ hG H locs ls hP hS hl hn
    simp only [gt_iff_lt, ge_iff_le, ne_eq, lg_cmp_ge, lg_cmp_le, lg_cmp_gt, lg_cmp_lt, lg_cmp_eq, Int64.lt_iff_toInt_lt, Int64.le_iff_toInt_le, ← Int64.toInt_inj, ea, eb] at q
    omega
theorem rr_icmp_lt {a b off : Int} (tgt : Nat) (B : ax_b X cc own n) (hd : decode cc pc = .ok (.if_icmp .lt off, 3)) (ht : (pc : Int) + off = (tgt : Int)) (h : -2147483648 ≤ a ∧ a ≤ 2147483647 ∧ -2147483648 ≤ b ∧ b ≤ 2147483647) (kt : a < b → AW X tgt lv rest M) (kf : b ≤ a → AW X (pc + 3) lv rest M) : AW X pc lv (aI b :: aI a :: rest) M := by
  intro hG H locs ls hP hS hl hn
  have e1 := ax_i_eq h
  have e2 := ax_i_lt h
  have e3 := ax_i_le h
  have h' : -2147483648 ≤ b ∧ b ≤ 2147483647 ∧ -2147483648 ≤ a ∧ a ≤ 2147483647 := ⟨h.2.2.1, h.2.2.2, h.1, h.2.1⟩
  have e4 := ax_i_lt h'
  have e5 := ax_i_le h'
  refine lv_icmp_lt B.1 B.2.1 hd ht (fun q => ?_) (fun q => ?_)
  · refine kt ?_ hG H locs ls hP hS hl hn
    simp only [gt_iff_lt, ge_iff_le, ne_eq, e1, e2, e3, e4, e5] at q
    omega
  · refine kf ?_ hG H locs ls hP hS hl hn
    simp only [gt_iff_lt, ge_iff_le, ne_eq, e1, e2, e3, e4, e5] at q
    omega
theorem rr_if_lt {a off : Int} (tgt : Nat) (B : ax_b X cc own n) (hd : decode cc pc = .ok (.ifCond .lt off, 3)) (ht : (pc : Int) + off = (tgt : Int)) (h : -2147483648 ≤ a ∧ a ≤ 2147483647) (kt : a < 0 → AW X tgt lv rest M) (kf : 0 ≤ a → AW X (pc + 3) lv rest M) : AW X pc lv (aI a :: rest) M := by
  intro hG H locs ls hP hS hl hn
  have h1 : -2147483648 ≤ a ∧ a ≤ 2147483647 ∧ -2147483648 ≤ (0 : Int) ∧ (0 : Int) ≤ 2147483647 := by omega
  have h2 : -2147483648 ≤ (0 : Int) ∧ (0 : Int) ≤ 2147483647 ∧ -2147483648 ≤ a ∧ a ≤ 2147483647 := by omega
  have e1 := ax_i_eq h1
  have e2 := ax_i_lt h1
  have e3 := ax_i_le h1
  have e4 := ax_i_lt h2
  have e5 := ax_i_le h2
  rw [ax_i_0] at e1 e2 e3 e4 e5
  refine lv_if_lt B.1 B.2.1 hd ht (fun q => ?_) (fun q => ?_)
  · refine kt ?_ hG H locs ls hP hS hl hn
    simp only [gt_iff_lt, ge_iff_le, ne_eq, e1, e2, e3, e4, e5] at q
    omega
  · refine kf ?_ hG H locs ls hP hS hl hn
    simp only [gt_iff_lt, ge_iff_le, ne_eq, e1, e2, e3, e4, e5] at q
    omega
theorem rr_lcmp_lt {a b off : Int} (tgt : Nat) (B : ax_b X cc own n) (hd : decode cc pc = .ok (.lcmp, 1)) (hd2 : decode cc (pc + 1) = .ok (.ifCond .lt off, 3)) (ht : ((pc + 1 : Nat) : Int) + off = (tgt : Int)) (h : -9223372036854775808 ≤ a ∧ a ≤ 9223372036854775807 ∧ -9223372036854775808 ≤ b ∧ b ≤ 9223372036854775807) (kt : a < b → AW X tgt lv rest M) (kf : b ≤ a → AW X (pc + 1 + 3) lv rest M) : AW X pc lv (aL b :: aL a :: rest) M := by
  intro hG H locs ls hP hS hl hn
  have ea := ax_l_of (z := a) ⟨h.1, h.2.1⟩
  have eb := ax_l_of (z := b) h.2.2
  refine W.lcmp B.1 B.2.1 hd ?_
  refine lv_if_lt B.1 B.2.1 hd2 ht (fun q => ?_) (fun q => ?_)
  · refine kt ?_ hG H locs ls hP hS hl hn
    simp only [gt_iff_lt, ge_iff_le, ne_eq, lg_cmp_ge, lg_cmp_le, lg_cmp_gt, lg_cmp_lt, lg_cmp_eq, Int64.lt_iff_toInt_lt, Int64.le_iff_toInt_le, ← Int64.toInt_inj, ea, eb] at q
    omega
  · refine kf ?_ hG H locs ls hP hS hl hn
    simp only [gt_iff_lt, ge_iff_le, ne_eq, lg_cmp_ge, lg_cmp_le, lg_cmp_gt, lg_cmp_lt, lg_cmp_eq, Int64.lt_iff_toInt_lt, Int64.le_iff_toInt_le, ← Int64.toInt_inj, ea, eb] at q
    omega
theorem rr_icmp_ge {a b off : Int} (tgt : Nat) (B : ax_b X cc own n) (hd : decode cc pc = .ok (.if_icmp .ge off, 3)) (ht : (pc : Int) + off = (tgt : Int)) (h : -2147483648 ≤ a ∧ a ≤ 2147483647 ∧ -2147483648 ≤ b ∧ b ≤ 2147483647) (kt : b ≤ a → AW X tgt lv rest M) (kf : a < b → AW X (pc + 3) lv rest M) : AW X pc lv (aI b :: aI a :: rest) M := by
  intro hG H locs ls hP hS hl hn
  have e1 := ax_i_eq h
  have e2 := ax_i_lt h
  have e3 := ax_i_le h
  have h' : -2147483648 ≤ b ∧ b ≤ 2147483647 ∧ -2147483648 ≤ a ∧ a ≤ 2147483647 := ⟨h.2.2.1, h.2.2.2, h.1, h.2.1⟩
  have e4 := ax_i_lt h'
  have e5 := ax_i_le h'
  refine lv_icmp_ge B.1 B.2.1 hd ht (fun q => ?_) (fun q => ?_)
  · refine kt ?_ hG H locs ls hP hS hl hn
    simp only [gt_iff_lt, ge_iff_le, ne_eq, e1, e2, e3, e4, e5] at q
    omega
  · refine kf ?_ hG H locs ls hP hS hl hn
    simp only [gt_iff_lt, ge_iff_le, ne_eq, e1, e2, e3, e4, e5] at q
    omega
theorem rr_if_ge {a off : Int} (tgt : Nat) (B : ax_b X cc own n) (hd : decode cc pc = .ok (.ifCond .ge off, 3)) (ht : (pc : Int) + off = (tgt : Int)) (h : -2147483648 ≤ a ∧ a ≤ 2147483647) (kt : 0 ≤ a → AW X tgt lv rest M) (kf : a < 0 → AW X (pc + 3) lv rest M) : AW X pc lv (aI a :: rest) M := by
  intro hG H locs ls hP hS hl hn
  have h1 : -2147483648 ≤ a ∧ a ≤ 2147483647 ∧ -2147483648 ≤ (0 : Int) ∧ (0 : Int) ≤ 2147483647 := by omega
  have h2 : -2147483648 ≤ (0 : Int) ∧ (0 : Int) ≤ 2147483647 ∧ -2147483648 ≤ a ∧ a ≤ 2147483647 := by omega
  have e1 := ax_i_eq h1
  have e2 := ax_i_lt h1
  have e3 := ax_i_le h1
  have e4 := ax_i_lt h2
  have e5 := ax_i_le h2
  rw [ax_i_0] at e1 e2 e3 e4 e5
  refine lv_if_ge B.1 B.2.1 hd ht (fun q => ?_) (fun q => ?_)
  · refine kt ?_ hG H locs ls hP hS hl hn
    simp only [gt_iff_lt, ge_iff_le, ne_eq, e1, e2, e3, e4, e5] at q
    omega
  · refine kf ?_ hG H locs ls hP hS hl hn
    simp only [gt_iff_lt, ge_iff_le, ne_eq, e1, e2, e3, e4, e5] at q
    omega
theorem rr_lcmp_ge {a b off : Int} (tgt : Nat) (B : ax_b X cc own n) (hd : decode cc pc = .ok (.lcmp, 1)) (hd2 : decode cc (pc + 1) = .ok (.ifCond .ge off, 3)) (ht : ((pc + 1 : Nat) : Int) + off = (tgt : Int)) (h : -9223372036854775808 ≤ a ∧ a ≤ 9223372036854775807 ∧ -9223372036854775808 ≤ b ∧ b ≤ 9223372036854775807) (kt : b ≤ a → AW X tgt lv rest M) (kf : a < b → AW X (pc + 1 + 3) lv rest M) : AW X pc lv (aL b :: aL a :: rest) M := by
  intro hG H locs ls hP hS hl hn
  have ea := ax_l_of (z := a) ⟨h.1, h.2.1⟩
  have eb := ax_l_of (z := b) h.2.2
  refine W.lcmp B.1 B.2.1 hd ?_
  refine lv_if_ge B.1 B.2.1 hd2 ht (fun q => ?_) (fun q => ?_)
  · refine kt ?_ hG H locs ls hP hS hl hn
    simp only [gt_iff_lt, ge_iff_le, ne_eq, lg_cmp_ge, lg_cmp_le, lg_cmp_gt, lg_cmp_lt, lg_cmp_eq, Int64.lt_iff_toInt_lt, Int64.le_iff_toInt_le, ← Int64.toInt_inj, ea, eb] at q
    omega
  · refine kf ?_ hG H locs ls hP hS hl hn
    simp only [gt_iff_lt, ge_iff_le, ne_eq, lg_cmp_ge, lg_cmp_le, lg_cmp_gt, lg_cmp_lt, lg_cmp_eq, Int64.lt_iff_toInt_lt, Int64.le_iff_toInt_le, ← Int64.toInt_inj, ea, eb] at q
    omega
theorem rr_icmp_gt {a b off : Int} (tgt : Nat) (B : ax_b X cc own n) (hd : decode cc pc = .ok (.if_icmp .gt off, 3)) (ht : (pc : Int) + off = (tgt : Int)) (h : -2147483648 ≤ a ∧ a ≤ 2147483647 ∧ -2147483648 ≤ b ∧ b ≤ 2147483647) (kt : b < a → AW X tgt lv rest M) (kf : a ≤ b → AW X (pc + 3) lv rest M) : AW X pc lv (aI b :: aI a :: rest) M := by
  intro hG H locs ls hP hS hl hn
  have e1 := ax_i_eq h
  have e2 := ax_i_lt h
  have e3 := ax_i_le h
  have h' : -2147483648 ≤ b ∧ b ≤ 2147483647 ∧ -2147483648 ≤ a ∧ a ≤ 2147483647 := ⟨h.2.2.1, h.2.2.2, h.1, h.2.1⟩
  have e4 := ax_i_lt h'
  have e5 := ax_i_le h'
  refine lv_icmp_gt B.1 B.2.1 hd ht (fun q => ?_) (fun q => ?_)
  · refine kt ?_ hG H locs ls hP hS hl hn
    simp only [gt_iff_lt, ge_iff_le, ne_eq, e1, e2, e3, e4, e5] at q
    omega
  · refine kf ?_ hG H locs ls hP hS hl hn
    simp only [gt_iff_lt, ge_iff_le, ne_eq, e1, e2, e3, e4, e5] at q
    omega
theorem rr_if_gt {a off : Int} (tgt : Nat) (B : ax_b X cc own n) (hd : decode cc pc = .ok (.ifCond .gt off, 3)) (ht : (pc : Int) + off = (tgt : Int)) (h : -2147483648 ≤ a ∧ a ≤ 2147483647) (kt : 0 < a → AW X tgt lv rest M) (kf : a ≤ 0 → AW X (pc + 3) lv rest M) : AW X pc lv (aI a :: rest) M := by
  intro hG H locs ls hP hS hl hn
  have h1 : -2147483648 ≤ a ∧ a ≤ 2147483647 ∧ -2147483648 ≤ (0 : Int) ∧ (0 : Int) ≤ 2147483647 := by omega
  have h2 : -2147483648 ≤ (0 : Int) ∧ (0 : Int) ≤ 2147483647 ∧ -2147483648 ≤ a ∧ a ≤ 2147483647 := by omega
  have e1 := ax_i_eq h1
  have e2 := ax_i_lt h1
  have e3 := ax_i_le h1
  have e4 := ax_i_lt h2
  have e5 := ax_i_le h2
  rw [ax_i_0] at e1 e2 e3 e4 e5
  refine lv_if_gt B.1 B.2.1 hd ht (fun q => ?_) (fun q => ?_)
  · refine kt ?_ hG H locs ls hP hS hl hn
    simp only [gt_iff_lt, ge_iff_le, ne_eq, e1, e2, e3, e4, e5] at q
    omega
  · refine kf ?_ hG H locs ls hP hS hl hn
    simp only [gt_iff_lt, ge_iff_le, ne_eq, e1, e2, e3, e4, e5] at q
    omega
theorem rr_lcmp_gt {a b off : Int} (tgt : Nat) (B : ax_b X cc own n) (hd : decode cc pc = .ok (.lcmp, 1)) (hd2 : decode cc (pc + 1) = .ok (.ifCond .gt off, 3)) (ht : ((pc + 1 : Nat) : Int) + off = (tgt : Int)) (h : -9223372036854775808 ≤ a ∧ a ≤ 9223372036854775807 ∧ -9223372036854775808 ≤ b ∧ b ≤ 9223372036854775807) (kt : b < a → AW X tgt lv rest M) (kf : a ≤ b → AW X (pc + 1 + 3) lv rest M) : AW X pc lv (aL b :: aL a :: rest) M := by
  intro hG H locs ls hP hS hl hn
  have ea := ax_l_of (z := a) ⟨h.1, h.2.1⟩
  have eb := ax_l_of (z := b) h.2.2
  refine W.lcmp B.1 B.2.1 hd ?_
  refine lv_if_gt B.1 B.2.1 hd2 ht (fun q => ?_) (fun q => ?_)
  · refine kt ?_ hG H locs ls hP hS hl hn
    simp only [gt_iff_lt, ge_iff_le, ne_eq, lg_cmp_ge, lg_cmp_le, lg_cmp_gt, lg_cmp_lt, lg_cmp_eq, Int64.lt_iff_toInt_lt, Int64.le_iff_toInt_le, ← Int64.toInt_inj, ea, eb] at q
    omega
  · refine kf ?_ hG H locs ls hP hS hl hn
    simp only [gt_iff_lt, ge_iff_le, ne_eq, lg_cmp_ge, lg_cmp_le, lg_cmp_gt, lg_cmp_lt, lg_cmp_eq, Int64.lt_iff_toInt_lt, Int64.le_iff_toInt_le, ← Int64.toInt_inj, ea, eb] at q
    omega
theorem rr_icmp_le {a b off : Int} (tgt : Nat) (B : ax_b X cc own n) (hd : decode cc pc = .ok (.if_icmp .le off, 3)) (ht : (pc : Int) + off = (tgt : Int)) (h : -2147483648 ≤ a ∧ a ≤ 2147483647 ∧ -2147483648 ≤ b ∧ b ≤ 2147483647) (kt : a ≤ b → AW X tgt lv rest M) (kf : b < a → AW X (pc + 3) lv rest M) : AW X pc lv (aI b :: aI a :: rest) M := by
  intro hG H locs ls hP hS hl hn
  have e1 := ax_i_eq h
  have e2 := ax_i_lt h
  have e3 := ax_i_le h
  have h' : -2147483648 ≤ b ∧ b ≤ 2147483647 ∧ -2147483648 ≤ a ∧ a ≤ 2147483647 := ⟨h.2.2.1, h.2.2.2, h.1, h.2.1⟩
  have e4 := ax_i_lt h'
  have e5 := ax_i_le h'
  refine lv_icmp_le B.1 B.2.1 hd ht (fun q => ?_) (fun q => ?_)
  · refine kt ?_ hG H locs ls hP hS hl hn
    simp only [gt_iff_lt, ge_iff_le, ne_eq, e1, e2, e3, e4, e5] at q
    omega
  · refine kf ?_ hG H locs ls hP hS hl hn
    simp only [gt_iff_lt, ge_iff_le, ne_eq, e1, e2, e3, e4, e5] at q
    omega
theorem rr_if_le {a off : Int} (tgt : Nat) (B : ax_b X cc own n) (hd : decode cc pc = .ok (.ifCond .le off, 3)) (ht : (pc : Int) + off = (tgt : Int)) (h : -2147483648 ≤ a ∧ a ≤ 2147483647) (kt : a ≤ 0 → AW X tgt lv rest M) (kf : 0 < a → AW X (pc + 3) lv rest M) : AW X pc lv (aI a :: rest) M := by
  intro hG H locs ls hP hS hl hn
  have h1 : -2147483648 ≤ a ∧ a ≤ 2147483647 ∧ -2147483648 ≤ (0 : Int) ∧ (0 : Int) ≤ 2147483647 := by omega
  have h2 : -2147483648 ≤ (0 : Int) ∧ (0 : Int) ≤ 2147483647 ∧ -2147483648 ≤ a ∧ a ≤ 2147483647 := by omega
  have e1 := ax_i_eq h1
  have e2 := ax_i_lt h1
  have e3 := ax_i_le h1
  have e4 := ax_i_lt h2
  have e5 := ax_i_le h2
  rw [ax_i_0] at e1 e2 e3 e4 e5
  refine lv_if_le B.1 B.2.1 hd ht (fun q => ?_) (fun q => ?_)
  · refine kt ?_ hG H locs ls hP hS hl hn
    simp only [gt_iff_lt, ge_iff_le, ne_eq, e1, e2, e3, e4, e5] at q
    omega
  · refine kf ?_ hG H locs ls hP hS hl hn
    simp only [gt_iff_lt, ge_iff_le, ne_eq, e1, e2, e3, e4, e5] at q
    omega
theorem rr_lcmp_le {a b off : Int} (tgt : Nat) (B : ax_b X cc own n) (hd : decode cc pc = .ok (.lcmp, 1)) (hd2 : decode cc (pc + 1) = .ok (.ifCond .le off, 3)) (ht : ((pc + 1 : Nat) : Int) + off = (tgt : Int)) (h : -9223372036854775808 ≤ a ∧ a ≤ 9223372036854775807 ∧ -9223372036854775808 ≤ b ∧ b ≤ 9223372036854775807) (kt : a ≤ b → AW X tgt lv rest M) (kf : b < a → AW X (pc + 1 + 3) lv rest M) : AW X pc lv (aL b :: aL a :: rest) M := by
  intro hG H locs ls hP hS hl hn
  have ea := ax_l_of (z := a) ⟨h.1, h.2.1⟩
  have eb := ax_l_of (z := b) h.2.2
  refine W.lcmp B.1 B.2.1 hd ?_
  refine lv_if_le B.1 B.2.1 hd2 ht (fun q => ?_) (fun q => ?_)
  · refine kt ?_ hG H locs ls hP hS hl hn
    simp only [gt_iff_lt, ge_iff_le, ne_eq, lg_cmp_ge, lg_cmp_le, lg_cmp_gt, lg_cmp_lt, lg_cmp_eq, Int64.lt_iff_toInt_lt, Int64.le_iff_toInt_le, ← Int64.toInt_inj, ea, eb] at q
    omega
  · refine kf ?_ hG H locs ls hP hS hl hn
    simp only [gt_iff_lt, ge_iff_le, ne_eq, lg_cmp_ge, lg_cmp_le, lg_cmp_gt, lg_cmp_lt, lg_cmp_eq, Int64.lt_iff_toInt_lt, Int64.le_iff_toInt_le, ← Int64.toInt_inj, ea, eb] at q
    omega
theorem rr_if_eqB {b : Bool} {off : Int} (tgt : Nat) (B : ax_b X cc own n) (hd : decode cc pc = .ok (.ifCond .eq off, 3)) (ht : (pc : Int) + off = (tgt : Int)) (kt : b = false → AW X tgt lv rest M) (kf : b = true → AW X (pc + 3) lv rest M) : AW X pc lv (aI (bi b) :: rest) M :=
  rr_if_eq tgt B hd ht (by cases b <;> decide) (fun q => kt (by cases b <;> first | rfl | exact absurd q (by decide))) (fun q => kf (by cases b <;> first | rfl | exact absurd rfl q))
theorem rr_if_neB {b : Bool} {off : Int} (tgt : Nat) (B : ax_b X cc own n) (hd : decode cc pc = .ok (.ifCond .ne off, 3)) (ht : (pc : Int) + off = (tgt : Int)) (kt : b = true → AW X tgt lv rest M) (kf : b = false → AW X (pc + 3) lv rest M) : AW X pc lv (aI (bi b) :: rest) M :=
  rr_if_ne tgt B hd ht (by cases b <;> decide) (fun q => kt (by cases b <;> first | rfl | exact absurd rfl q)) (fun q => kf (by cases b <;> first | rfl | exact absurd q (by decide)))
/-! fields -/
/-- field j of the one object of class ci, by pool entry idx of class own -/
def ax_fl (own : String) (idx ci j : Nat) : Prop := ∃ (C : String) (T : u_T) (N : Nat) (ty : Nat → FieldType), (∀ w ∈ u_ws C T N, w ∈ ax_big) ∧ vwCl[ci]? = some (C, T, N) ∧ j < N ∧ Cond.fieldLink own idx (T j).1 (T j).2.1 (T j).2.2.1 ∈ ax_big ∧ (∀ k, k < N → parseFieldDescriptor (T k).2.2.1 = some (ty k)) ∧ (∀ a, a < N → ∀ b, b < N → a ≠ b → (T a).2.1 ≠ (T b).2.1) ∧ ((T j).2.2.2 = false → (parseFieldDescriptor (T j).2.2.1 = some .int ∨ parseFieldDescriptor (T j).2.2.1 = some .boolean))
theorem ax_obj {g : ax_G} {M : ax_M} {k ci : Nat} {fs : List (Option Nat)} (hs : ax_shp k = (4, ci, fs)) : (wd g M)[k]? = some (g.ad k, .inr (ci, fs.zipIdx.map (ax_fld g M k))) := by
  rw [wd_at (ax_shp_lt hs (by decide))]
  unfold ax_cell
  rw [hs]
  rfl
theorem ax_fld_at {g : ax_G} {M : ax_M} {k j : Nat} {fs : List (Option Nat)} {f : Option Nat} (h : fs[j]? = some f) : (fs.zipIdx.map (ax_fld g M k))[j]? = some (ax_fld g M k (f, j)) := by
  rw [List.getElem?_map, List.getElem?_zipIdx, h]
  simp
theorem rr_getI {idx ci j k : Nat} {z lo up : Int} (B : ax_b X cc own n) (hd : decode cc pc = .ok (.getfield idx, 3)) (hf : ax_fl own idx ci j) (ho : ax_ob k ci j z lo up) (kk : lo ≤ M k z ∧ M k z ≤ up → AW X (pc + 3) lv (aI (M k z) :: rest) M) : AW X pc lv (aR k :: rest) M := by
  intro hG H locs ls hP hS hl hn
  obtain ⟨⟨fs, hs, hj⟩, hbd, rfl⟩ := ho
  obtain ⟨C, T, N, ty, h1, h2, h3, h4, -, -, -⟩ := hf
  exact va_get (D := X.g.D) (ci := ci) (v := .int (ax_i (M k j))) B.1 B.2.1 B.2.2.2.2.1 h1 B.2.2.2.1 B.2.2.2.2.2.1.1 hP k (ax_obj hs) h2 j h3 (B.2.2.2.2.1 _ h4) (fun _ h => h) (ax_fld_at hj) hd (kk (hG.at hbd) hG H locs ls hP hS hl hn)
theorem rr_getR {idx ci j k k2 : Nat} (B : ax_b X cc own n) (hd : decode cc pc = .ok (.getfield idx, 3)) (hf : ax_fl own idx ci j) (ho : ax_or1 k ci j k2) (kk : AW X (pc + 3) lv (aR k2 :: rest) M) : AW X pc lv (aR k :: rest) M := by
  intro hG H locs ls hP hS hl hn
  obtain ⟨fs, hs, hj⟩ := ho
  obtain ⟨C, T, N, ty, h1, h2, h3, h4, -, -, -⟩ := hf
  exact va_get (D := X.g.D) (ci := ci) (v := .ref (X.g.ad k2)) B.1 B.2.1 B.2.2.2.2.1 h1 B.2.2.2.1 B.2.2.2.2.2.1.1 hP k (ax_obj hs) h2 j h3 (B.2.2.2.2.1 _ h4) (fun _ h => h) (ax_fld_at hj) hd (kk hG H locs ls hP hS hl hn)
theorem ax_obj_set {g : ax_G} {M : ax_M} {k j : Nat} {v : Int} {fs : List (Option Nat)} {ci : Nat} (hs : ax_shp k = (4, ci, fs)) (hj : fs[j]? = some none) : (wd g M).set k (g.ad k, .inr (ci, (fs.zipIdx.map (ax_fld g M k)).set j (.int (ax_i v)))) = wd g (ms M k j v) := by
  refine wd_set (fun i hi => ax_cell_off (ms_ne hi)) ?_
  unfold ax_cell
  rw [hs]
  show (Sum.inr _ : va_E) = _
  congr 2
  apply List.ext_getElem?
  intro i
  have hl : j < fs.length := (List.getElem?_eq_some_iff.mp hj).1
  by_cases hi : i = j
  · subst hi
    rw [List.getElem?_set_self (by simpa using hl), ax_fld_at hj]
    simp [ax_fld, ms]
  · rw [List.getElem?_set_ne (Ne.symm hi)]
    cases hf : fs[i]? with
    | none =>
      rw [List.getElem?_map, List.getElem?_map, List.getElem?_zipIdx, hf]
      rfl
    | some f =>
      rw [ax_fld_at hf, ax_fld_at hf]
      cases f with
      | none =>
        have : (i : Int) ≠ j := by omega
        simp [ax_fld, ms, this]
      | some k2 => rfl
theorem rr_put {idx ci j k : Nat} {v z lo up : Int} (B : ax_b X cc own n) (hd : decode cc pc = .ok (.putfield idx, 3)) (hf : ax_fl own idx ci j) (ho : ax_ob k ci j z lo up) (hw : lo ≤ v ∧ v ≤ up) (hfin : ∀ T : u_T, ∀ C N, vwCl[ci]? = some (C, T, N) → (T j).2.2.2 = false ∧ (parseFieldDescriptor (T j).2.2.1 = some .int ∨ v = 0 ∨ v = 1)) (kk : AW X (pc + 3) lv rest (ms M k z v)) : AW X pc lv (aI v :: aR k :: rest) M := by
  intro hG H locs ls hP hS hl hn
  obtain ⟨⟨fs, hs, hj⟩, hbd, rfl⟩ := ho
  obtain ⟨C, T, N, ty, h1, h2, h3, h4, h5, h6, h7⟩ := hf
  obtain ⟨f1, f2⟩ := hfin T C N h2
  have hlen : j < (fs.zipIdx.map (ax_fld X.g M k)).length := by
    have := (List.getElem?_eq_some_iff.mp hj).1
    simpa using this
  have hty : ∃ t, parseFieldDescriptor (T j).2.2.1 = some t ∧ narrow t (.int (ax_i v)) = .int (ax_i v) ∧ fits t (.int (ax_i v)) = true := by
    rcases h7 f1 with h | h
    · exact ⟨_, h, rfl, rfl⟩
    · rcases f2 with h' | rfl | rfl
      · exact ⟨_, h', rfl, rfl⟩
      · exact ⟨_, h, by decide, by decide⟩
      · exact ⟨_, h, by decide, by decide⟩
  obtain ⟨t, ht, hn1, hf1⟩ := hty
  refine va_put (D := X.g.D) (ci := ci) (v := .int (ax_i v)) (ty := t) B.1 B.2.1 B.2.2.2.2.1 h1 ty h5 h6 B.2.2.2.1 B.2.2.2.2.2.1.1 hP (ax_vaD B.2.2.2.2.2.2.2.1) hS k (ax_obj hs) h2 j h3 (B.2.2.2.2.1 _ h4) (fun _ h => h) f1 ht hn1 hf1 hlen hd (fun H1 locs1 hP1 hD1 hS1 => ?_)
  rw [ax_obj_set hs hj] at hP1
  exact kk (hG.ms hbd hw) H1 locs1 ls hP1 hS1 hl hn
theorem rr_putI {idx ci j k : Nat} {v z lo up : Int} (B : ax_b X cc own n) (hd : decode cc pc = .ok (.putfield idx, 3)) (hf : ax_fl own idx ci j) (ho : ax_ob k ci j z lo up) (hi : ax_fi ci j) (hw : lo ≤ v ∧ v ≤ up) (kk : AW X (pc + 3) lv rest (ms M k z v)) : AW X pc lv (aI v :: aR k :: rest) M := rr_put B hd hf ho hw (fun T C N h => ⟨(hi T C N h).1, Or.inl (hi T C N h).2⟩) kk
theorem rr_putZ {idx ci j k : Nat} {v z lo up : Int} (B : ax_b X cc own n) (hd : decode cc pc = .ok (.putfield idx, 3)) (hf : ax_fl own idx ci j) (ho : ax_ob k ci j z lo up) (hi : ax_fz ci j) (hw : lo ≤ v ∧ v ≤ up) (hv : v = 0 ∨ v = 1) (kk : AW X (pc + 3) lv rest (ms M k z v)) : AW X pc lv (aI v :: aR k :: rest) M := rr_put B hd hf ho hw (fun T C N h => ⟨(hi T C N h).1, Or.inr hv⟩) kk
/-! arrays -/
theorem ax_arrI {g : ax_G} {M : ax_M} {k N : Nat} {x : List (Option Nat)} (hs : ax_shp k = (0, N, x)) : (wd g M)[k]? = some (g.ad k, .inl (g.cI, N, .inl fun j => ax_i (M k j))) := by
  rw [wd_at (ax_shp_lt hs (by decide))]; unfold ax_cell; rw [hs]; rfl
theorem ax_arrZ {g : ax_G} {M : ax_M} {k N : Nat} {x : List (Option Nat)} (hs : ax_shp k = (1, N, x)) : (wd g M)[k]? = some (g.ad k, .inl (g.cZ, N, .inl fun j => ax_i (M k j))) := by
  rw [wd_at (ax_shp_lt hs (by decide))]; unfold ax_cell; rw [hs]; rfl
theorem ax_arrJ {g : ax_G} {M : ax_M} {k N : Nat} {x : List (Option Nat)} (hs : ax_shp k = (2, N, x)) : (wd g M)[k]? = some (g.ad k, .inl (g.cJ, N, .inr (.inl fun j => ax_l (M k j)))) := by
  rw [wd_at (ax_shp_lt hs (by decide))]; unfold ax_cell; rw [hs]; rfl
theorem ax_arrR {g : ax_G} {M : ax_M} {k N : Nat} {x : List (Option Nat)} (hs : ax_shp k = (3, N, x)) : (wd g M)[k]? = some (g.ad k, .inl (g.cR, N, .inr (.inr (.inr (.inr fun j => ((x[j]?).getD none).map g.ad))))) := by
  rw [wd_at (ax_shp_lt hs (by decide))]; unfold ax_cell; rw [hs]; rfl
theorem ax_upd {M : ax_M} {k : Nat} {i v : Int} (h0 : 0 ≤ i) : (fun j : Nat => ax_i (ms M k i v k j)) = upd (fun j : Nat => ax_i (M k j)) i.toNat (ax_i v) := by
  funext j
  by_cases h : j = i.toNat
  · have : (j : Int) = i := by omega
    simp only [upd, ms, this, if_pos h, true_and, if_true]
  · have : (j : Int) ≠ i := by omega
    simp [upd, ms, h, this]
theorem ax_updL {M : ax_M} {k : Nat} {i v : Int} (h0 : 0 ≤ i) : (fun j : Nat => ax_l (ms M k i v k j)) = vp_updL (fun j : Nat => ax_l (M k j)) i.toNat (ax_l v) := by
  funext j
  by_cases h : j = i.toNat
  · have : (j : Int) = i := by omega
    simp only [vp_updL, ms, this, if_pos h, true_and, if_true]
  · have : (j : Int) ≠ i := by omega
    simp [vp_updL, ms, h, this]
theorem rr_iaload {k N : Nat} {i lo up : Int} (B : ax_b X cc own n) (hd : decode cc pc = .ok (.iaload, 1)) (ha : ax_arr 0 k N lo up) (hi : 0 ≤ i ∧ i < N) (kk : lo ≤ M k i ∧ M k i ≤ up → AW X (pc + 1) lv (aI (M k i) :: rest) M) : AW X pc lv (aI i :: aR k :: rest) M := by
  intro hG H locs ls hP hS hl hn
  obtain ⟨⟨x, hs⟩, hN, hbd⟩ := ha
  obtain ⟨h1, h2, h3⟩ := ax_nat hi.1 hi.2 hN
  refine va_iald B.1 B.2.1 B.2.2.2.2.2.1.1 hP k 0 (ax_arrI hs) rfl h1 hd ?_
  rw [h3]
  exact kk (hG.at (hbd i)) hG H locs ls hP hS hl hn
theorem rr_zaload {k N : Nat} {i lo up : Int} (B : ax_b X cc own n) (hd : decode cc pc = .ok (.baload, 1)) (ha : ax_arr 1 k N lo up) (hi : 0 ≤ i ∧ i < N) (kk : lo ≤ M k i ∧ M k i ≤ up → AW X (pc + 1) lv (aI (M k i) :: rest) M) : AW X pc lv (aI i :: aR k :: rest) M := by
  intro hG H locs ls hP hS hl hn
  obtain ⟨⟨x, hs⟩, hN, hbd⟩ := ha
  obtain ⟨h1, h2, h3⟩ := ax_nat hi.1 hi.2 hN
  refine va_zald B.1 B.2.1 B.2.2.2.2.2.1.1 hP k 1 (ax_arrZ hs) rfl h1 hd ?_
  rw [h3]
  exact kk (hG.at (hbd i)) hG H locs ls hP hS hl hn
theorem rr_laload {k N : Nat} {i lo up : Int} (B : ax_b X cc own n) (hd : decode cc pc = .ok (.laload, 1)) (ha : ax_arr 2 k N lo up) (hi : 0 ≤ i ∧ i < N) (kk : lo ≤ M k i ∧ M k i ≤ up → AW X (pc + 1) lv (aL (M k i) :: rest) M) : AW X pc lv (aI i :: aR k :: rest) M := by
  intro hG H locs ls hP hS hl hn
  obtain ⟨⟨x, hs⟩, hN, hbd⟩ := ha
  obtain ⟨h1, h2, h3⟩ := ax_nat hi.1 hi.2 hN
  refine va_lald B.1 B.2.1 B.2.2.2.2.2.1.1 hP k 2 (ax_arrJ hs) rfl h1 hd ?_
  rw [h3]
  exact kk (hG.at (hbd i)) hG H locs ls hP hS hl hn
theorem rr_iastore {k N : Nat} {i v lo up : Int} (B : ax_b X cc own n) (hd : decode cc pc = .ok (.iastore, 1)) (ha : ax_arr 0 k N lo up) (hi : 0 ≤ i ∧ i < N) (hw : lo ≤ v ∧ v ≤ up) (kk : AW X (pc + 1) lv rest (ms M k i v)) : AW X pc lv (aI v :: aI i :: aR k :: rest) M := by
  intro hG H locs ls hP hS hl hn
  obtain ⟨⟨x, hs⟩, hN, hbd⟩ := ha
  obtain ⟨h1, h2, h3⟩ := ax_nat hi.1 hi.2 hN
  refine va_iast B.1 B.2.1 B.2.2.2.2.2.1.1 hP (ax_vaD B.2.2.2.2.2.2.2.1) hS k 0 (ax_arrI hs) rfl h1 hd (fun H1 locs1 hP1 hD1 hS1 => ?_)
  rw [h2, ← ax_upd hi.1, wd_set (M' := ms M k i v) (fun j hj => ax_cell_off (ms_ne hj)) (by unfold ax_cell; rw [hs]; rfl)] at hP1
  exact kk (hG.ms (hbd i) hw) H1 locs1 ls hP1 hS1 hl hn
theorem rr_lastore {k N : Nat} {i v lo up : Int} (B : ax_b X cc own n) (hd : decode cc pc = .ok (.lastore, 1)) (ha : ax_arr 2 k N lo up) (hi : 0 ≤ i ∧ i < N) (hw : lo ≤ v ∧ v ≤ up) (kk : AW X (pc + 1) lv rest (ms M k i v)) : AW X pc lv (aL v :: aI i :: aR k :: rest) M := by
  intro hG H locs ls hP hS hl hn
  obtain ⟨⟨x, hs⟩, hN, hbd⟩ := ha
  obtain ⟨h1, h2, h3⟩ := ax_nat hi.1 hi.2 hN
  refine va_last B.1 B.2.1 B.2.2.2.2.2.1.1 hP (ax_vaD B.2.2.2.2.2.2.2.1) hS k 2 (ax_arrJ hs) rfl h1 hd (fun H1 locs1 hP1 hD1 hS1 => ?_)
  rw [h2, ← ax_updL hi.1, wd_set (M' := ms M k i v) (fun j hj => ax_cell_off (ms_ne hj)) (by unfold ax_cell; rw [hs]; rfl)] at hP1
  exact kk (hG.ms (hbd i) hw) H1 locs1 ls hP1 hS1 hl hn
theorem rr_zastore {k N : Nat} {i v lo up : Int} (B : ax_b X cc own n) (hd : decode cc pc = .ok (.bastore, 1)) (ha : ax_arr 1 k N lo up) (hi : 0 ≤ i ∧ i < N) (hw : lo ≤ v ∧ v ≤ up) (hv : v = 0 ∨ v = 1) (kk : AW X (pc + 1) lv rest (ms M k i v)) : AW X pc lv (aI v :: aI i :: aR k :: rest) M := by
  intro hG H locs ls hP hS hl hn
  obtain ⟨⟨x, hs⟩, hN, hbd⟩ := ha
  obtain ⟨h1, h2, h3⟩ := ax_nat hi.1 hi.2 hN
  have hb : vp_nar .boolean (ax_i v) = ax_i v := by rcases hv with rfl | rfl <;> decide
  refine va_zast B.1 B.2.1 B.2.2.2.2.2.1.1 hP (ax_vaD B.2.2.2.2.2.2.2.1) hS k 1 (ax_arrZ hs) rfl h1 hd (fun H1 locs1 hP1 hD1 hS1 => ?_)
  rw [hb, h2, ← ax_upd hi.1, wd_set (M' := ms M k i v) (fun j hj => ax_cell_off (ms_ne hj)) (by unfold ax_cell; rw [hs]; rfl)] at hP1
  exact kk (hG.ms (hbd i) hw) H1 locs1 ls hP1 hS1 hl hn
theorem rr_aaload {k N k2 : Nat} {x : List (Option Nat)} {i : Int} (B : ax_b X cc own n) (hd : decode cc pc = .ok (.aaload, 1)) (hs : ax_shp k = (3, N, x)) (hN : N ≤ 2147483647) (hi : 0 ≤ i ∧ i < N) (hx : x[i.toNat]? = some (some k2)) (kk : AW X (pc + 1) lv (aR k2 :: rest) M) : AW X pc lv (aI i :: aR k :: rest) M := by
  intro hG H locs ls hP hS hl hn
  obtain ⟨h1, h2, h3⟩ := ax_nat hi.1 hi.2 hN
  have hlt : (ax_i i).toNatClampNeg < N := Nat.not_le.mp fun q => h1 (Or.inr q)
  refine W.aald (v := .ref (X.g.ad k2)) (ty := .array .int) B.1 B.2.1 (hP k _ (ax_arrR hs)) ((B.2.2.2.2.2.1.1.2 3 _ rfl).1 N (fun j => va_rf (((x[j]?).getD none).map X.g.ad))) rfl (fun q => by cases q) (by show ¬ (ax_i i < 0 ∨ (arrV _ _ _).slots.size ≤ _); rw [arrV_size]; exact h1) ?_ rfl rfl hd (kk hG H locs ls hP hS hl hn)
  show (arrV _ _ _).slots[_]? = _
  rw [arrV_read _ _ hlt, h2]
  show some (va_rf (Option.map X.g.ad ((x[i.toNat]?).getD none))) = _
  rw [hx]
  rfl
/-! statics -/
theorem rr_gets {C nm ds : String} {idx k N : Nat} {ty : FieldType} {f : Nat → Value} (B : ax_b X cc own n) (hd : decode cc pc = .ok (.getstatic idx, 3)) (hZ : ax_S1 X.g C nm ds k ty N f X.s X.s.heap) (hw : Cond.fieldLink own idx C nm ds ∈ ax_big) (kk : AW X (pc + 3) lv (aR k :: rest) M) : AW X pc lv rest M := fun hG H locs ls hP hS hl hn => va_gets B.1 B.2.1 hZ.1 hS B.2.2.2.1 (B.2.2.2.2.1 _ hw) (fun _ h => h) hd (kk hG H locs ls hP hS hl hn)
theorem rr_ti {C nm ds : String} {k N : Nat} {f : Nat → Int} {i : Int} (B : ax_b X cc own n) (hd : decode cc pc = .ok (.iaload, 1)) (hZ : ax_S1 X.g C nm ds k .int N (fun j => .int (ax_i (f j))) X.s X.s.heap) (hN : N ≤ 2147483647) (hi : 0 ≤ i ∧ i < N) (kk : AW X (pc + 1) lv (aI (f i.toNat) :: rest) M) : AW X pc lv (aI i :: aR k :: rest) M := by
  intro hG H locs ls hP hS hl hn
  obtain ⟨h1, h2, h3⟩ := ax_nat hi.1 hi.2 hN
  refine va_ti B.1 B.2.1 hZ.2 hS h1 rfl hd ?_
  rw [h2]
  exact kk hG H locs ls hP hS hl hn
theorem rr_tl {C nm ds : String} {k N : Nat} {f : Nat → Int} {i : Int} (B : ax_b X cc own n) (hd : decode cc pc = .ok (.laload, 1)) (hZ : ax_S1 X.g C nm ds k .long N (fun j => .long (ax_l (f j))) X.s X.s.heap) (hN : N ≤ 2147483647) (hi : 0 ≤ i ∧ i < N) (kk : AW X (pc + 1) lv (aL (f i.toNat) :: rest) M) : AW X pc lv (aI i :: aR k :: rest) M := by
  intro hG H locs ls hP hS hl hn
  obtain ⟨h1, h2, h3⟩ := ax_nat hi.1 hi.2 hN
  refine va_tl B.1 B.2.1 hZ.2 hS h1 rfl hd ?_
  rw [h2]
  exact kk hG H locs ls hP hS hl hn
/-! answers -/
theorem rr_ireturn {v : Int} {P : Option ax_V → ax_M → Prop} (B : ax_b X cc own n) (Br : ax_r X (some .int) P) (hd : decode cc pc = .ok (.ireturn, 1)) (h : P (some (aI v)) M) : AW X pc lv [aI v] M := by
  intro hG H locs ls hP hS hl hn
  have hlocks := B.2.2.2.2.2.2.2.2.1
  unfold ax_W
  rw [Br.2]
  exact W.iret B.1 B.2.1 Br.1 (fun t ht hW => ⟨⟨some (aI v), M, rfl, ⟨h, hG⟩, by rw [ht]; exact hP⟩, hS.F ht⟩) hS.2.2 hd
theorem rr_zreturn {v : Int} {P : Option ax_V → ax_M → Prop} (B : ax_b X cc own n) (Br : ax_r X (some .boolean) P) (hd : decode cc pc = .ok (.ireturn, 1)) (hv : v = 0 ∨ v = 1) (h : P (some (aI v)) M) : AW X pc lv [aI v] M := by
  intro hG H locs ls hP hS hl hn
  have hlocks := B.2.2.2.2.2.2.2.2.1
  unfold ax_W
  rw [Br.2]
  exact W.zret B.1 B.2.1 Br.1 (by rcases hv with rfl | rfl <;> decide) (fun t ht hW => ⟨⟨some (aI v), M, rfl, ⟨h, hG⟩, by rw [ht]; exact hP⟩, hS.F ht⟩) hS.2.2 hd
theorem rr_lreturn {v : Int} {P : Option ax_V → ax_M → Prop} (B : ax_b X cc own n) (Br : ax_r X (some .long) P) (hd : decode cc pc = .ok (.lreturn, 1)) (h : P (some (aL v)) M) : AW X pc lv [aL v] M := by
  intro hG H locs ls hP hS hl hn
  have hlocks := B.2.2.2.2.2.2.2.2.1
  unfold ax_W
  rw [Br.2]
  exact W.lret B.1 B.2.1 Br.1 (fun t ht hW => ⟨⟨some (aL v), M, rfl, ⟨h, hG⟩, by rw [ht]; exact hP⟩, hS.F ht⟩) hS.2.2 hd
theorem rr_return {P : Option ax_V → ax_M → Prop} (B : ax_b X cc own n) (Br : ax_r X none P) (hd : decode cc pc = .ok (.return_, 1)) (h : P none M) : AW X pc lv [] M := by
  intro hG H locs ls hP hS hl hn
  have hlocks := B.2.2.2.2.2.2.2.2.1
  unfold ax_W
  rw [Br.2]
  exact W.vret B.1 B.2.1 Br.1 (fun t ht hW => ⟨⟨none, M, rfl, ⟨h, hG⟩, by rw [ht]; exact hP⟩, hS.F ht⟩) hS.2.2 hd
/-- a memory that reads alike -/
theorem rr_mem {M' : ax_M} (h : M = M') (k : AW X pc lv st M') : AW X pc lv st M := h ▸ k
/-! calls -/
theorem ax_cont {H : Heap} {locs : List Loc} {ls : Array Slot} {st0 restv : List Value} {a : Array Value} {P : Option ax_V → ax_M → Prop} (hr : va_Run X.p X.g.l X.e X.R X.s X.m X.args X.below X.meth X.c H locs X.cells X.slots 0 0 (F0 X.m pc ls st0) restv (ax_PQ X.g P a) (ax_A X.g)) (hS : va_S (ax_A X.g) X.s.heap H locs)
    (kk : ∀ (r : Option ax_V) (M' : ax_M) (H1 : Heap) (locs1 : List Loc), P r M' → RG M' → va_P X.g.D vwCl (wd X.g M') H1 → va_S (ax_A X.g) X.s.heap H1 locs1 → ax_W X H1 locs1 (F0 X.m (pc + 3) ls ((r.map (cv X.g)).toList ++ restv))) : ax_W X H locs (F0 X.m pc ls st0) := by
  intro T hT Xs
  obtain ⟨v, st₀, t, T', L, h0, X', hL, e1, e2, ⟨⟨r, M', hv, ⟨hp, hg⟩, hb⟩, hz, hk⟩, stp⟩ := hr T hT Xs
  cases hv
  rw [h0] at hz hk
  obtain ⟨t2, a1, b1⟩ := kk r M' T'.heap (locs ++ L) hp hg (by rw [e1]; exact hb) ⟨Nat.le_trans hS.1 (by rw [e1]; exact hz), fun q h1 h2 => by rw [e1, hk q (Nat.lt_of_lt_of_le h1 hS.1) h2]; exact hS.2.1 q h1 h2, fun q hq => by
      rcases List.mem_append.mp hq with h | h
      · exact hS.2.2 q h
      · exact hL q h⟩ T' rfl X'
  exact ⟨t2, stp t2 a1, b1⟩
def ax_cok (md : ax_Md) (k : Nat) : Prop := Cond.code md.1 md.2.1 md.2.2.1 md.2.2.2 ∈ ax_big ∧ Cond.initialized md.1.cls ∈ ax_big ∧ (md.1.cls ≠ "java/lang/invoke/MethodHandle" ∧ md.1.cls ≠ "java/lang/invoke/VarHandle") ∧ (parseMethodDescriptor md.1.desc).map (fun d => d.parameters.length) = some k ∧ md.2.2.1 ≤ 11
def ax_vm (md : ax_Md) (k : Nat) : Prop := ax_cok md k ∧ Cond.instanceMethod md.1 ∈ ax_big ∧ Cond.selects md.1.cls md.1 md.1 ∈ ax_big
def ax_st (md : ax_Md) (k : Nat) : Prop := ax_cok md k ∧ Cond.static md.1 ∈ ax_big
def ax_rs (rest : List ax_V) : Nat := (rest.map (fun v => if ax_notL (some v) then 1 else 2)).sum
theorem ax_rs_cat (g : ax_G) : ∀ rest : List ax_V, ((rest.map (cv g)).map fun v => v.category).sum = ax_rs rest
  | [] => rfl
  | v :: r => by
    have := ax_rs_cat g r
    unfold ax_rs at this ⊢
    simp only [List.map_cons, List.sum_cons]
    rw [this]
    rcases v with z | z | z <;> rfl
theorem ax_pre {g : ax_G} {s : State} {H : Heap} {locs : List Loc} {As : List ax_V} (hP : va_P g.D vwCl (wd g M) H) (hS : va_S (ax_A g) s.heap H locs) (hK : ax_K g s) (hSt : ax_S g s s.heap) (hD : ax_D g) (hG : RG M) : FrameBlind (va_Pc (As.map (cv g)) (ax_Pre g M)) ∧ ∀ U : State, U.heap = H → s.WarmedH U.vm → va_Pc (As.map (cv g)) (ax_Pre g M) (As.map (cv g)).toArray U := by
  refine ⟨fun a U gg mk q => ?_, fun U hU hW => ⟨rfl, by rw [hU]; exact hP, ax_K.warm hW hK, ?_, hD, hG⟩⟩
  · obtain ⟨q0, q1, q2, q3, q4, q5⟩ := q
    exact ⟨q0, q1, ⟨va_K.moved (u := U) (U := U.calling gg mk a) (Vm.Alike.refl U.vm) q2.1, fun w hw => va_Nw.same (u := U) (U := U.calling gg mk a) (by
      have hn := (List.mem_filter.mp hw).2
      cases w <;> first | rfl | cases hn) rfl (q2.2 w hw)⟩, ax_S.to (s := U) (U := U.calling gg mk a) (Vm.Alike.refl U.vm) (fun _ _ _ => rfl) q3, q4, q5⟩
  · rw [hU]
    exact ax_S.to hW.alike (fun a h1 h2 => hS.2.1 a h1 h2) hSt
theorem ax_callB {md : ax_Md} {idx k d : Nat} (B : ax_b X cc own (d + 1)) (hv : ax_cok md k) (hl : Cond.methodLink own idx md.1 ∈ ax_big) : CallB X.R X.s X.args own idx md.1 md.2.1 md.2.2.1 md.2.2.2 (.code md.1 md.2.1 md.2.2.1 md.2.2.2 :: ax_big) (ax_rm d) 0 0 k := by
  obtain ⟨h1, h2, h3, h4, h5⟩ := hv
  have hr := B.2.2.2.2.2.2.2.2.2.1
  refine callB_of k B.2.2.2.2.1 (ax_good h1) rfl rfl rfl (B.2.2.2.2.1 _ h2) (B.2.2.2.2.1 _ hl) ⟨h3.1, h3.2, h4⟩ ⟨hr.1, ?_⟩
  show 8 + (md.2.2.1 + 11) + 30 * d ≤ X.R.locals
  omega
theorem ax_callN {md : ax_Md} {idx k d : Nat} {host : String} (B : ax_b X cc own (d + 1)) (hv : ax_cok md k) (hl : Cond.methodLinkNest own idx md.1 host ∈ ax_nw) : va_CN X.R X.s X.args own idx md.1 host md.2.1 md.2.2.1 md.2.2.2 (.code md.1 md.2.1 md.2.2.1 md.2.2.2 :: ax_big) (ax_rm d) 0 0 k := by
  obtain ⟨h1, h2, h3, h4, h5⟩ := hv
  have hr := B.2.2.2.2.2.2.2.2.2.1
  refine va_cnB k B.2.2.2.2.1 (ax_good h1) rfl rfl rfl (B.2.2.2.2.2.1.2 _ hl) (B.2.2.2.2.1 _ h2) ⟨h3.1, h3.2, h4⟩ ⟨hr.1, ?_⟩
  show 8 + (md.2.2.1 + 11) + 30 * d ≤ X.R.locals
  omega
theorem rr_callV {md : ax_Md} {idx k d o ci : Nat} {As : List ax_V} {fs : List (Option Nat)} {T : u_T} {N : Nat} {P : Option ax_V → ax_M → Prop} (B : ax_b X cc own (d + 1)) (hd : decode cc pc = .ok (.invokevirtual idx, 3)) (hv : ax_vm md k) (hl : Cond.methodLink own idx md.1 ∈ ax_big) (hs : ax_shp o = (4, ci, fs)) (hci : vwCl[ci]? = some (md.1.cls, T, N)) (hc : CT X.g md d (aR o :: As) M P) (hk : As.length = k) (hrs : ax_rs rest ≤ 8) (hst : st = As.reverse ++ aR o :: rest)
    (kk : ∀ r M', P r M' → AW X (pc + 3) lv (r.toList ++ rest) M') : AW X pc lv st M := by
  intro hG H locs ls hP hS hl2 hn
  have hpre := ax_pre (As := aR o :: As) hP hS B.2.2.2.2.2.1 B.2.2.2.2.2.2.1 B.2.2.2.2.2.2.2.1 hG
  refine ax_cont (P := P) (restv := rest.map (cv X.g)) (va_runV (As := As.map (cv X.g)) (b := X.g.ad o) (C := md.1.cls) (nL := X.nL) ⟨B.1, B.2.1, B.2.2.1, B.2.2.2.1, B.2.2.2.2.1⟩ hc ⟨ax_callB B hv.1 hl, B.2.2.2.2.1 _ hv.2.1, B.2.2.2.2.1 _ hv.2.2⟩ ⟨hpre.1, va_recv B.2.2.2.2.2.1.1 hP hci (ax_obj hs), hpre.2⟩ rfl (by simpa using hk) (hl2.1) (by rw [hst]; simp [cv, aR]) (lv_room (by rw [ax_rs_cat]; exact hrs)) hd ⟨B.2.2.2.2.2.2.2.2.2.2.1, B.2.2.2.2.2.2.2.2.2.2.2⟩) hS (fun r M' H1 locs1 hp hg hP1 hS1 => ?_)
  have := kk r M' hp hg H1 locs1 ls hP1 hS1 hl2 hn
  cases r <;> exact this
theorem rr_callS {md : ax_Md} {idx k d : Nat} {As : List ax_V} {P : Option ax_V → ax_M → Prop} (B : ax_b X cc own (d + 1)) (hd : decode cc pc = .ok (.invokestatic idx, 3)) (hv : ax_st md k) (hl : Cond.methodLink own idx md.1 ∈ ax_big) (hc : CT X.g md d As M P) (hk : As.length = k) (hrs : ax_rs rest ≤ 8) (hst : st = As.reverse ++ rest)
    (kk : ∀ r M', P r M' → AW X (pc + 3) lv (r.toList ++ rest) M') : AW X pc lv st M := by
  intro hG H locs ls hP hS hl2 hn
  have hpre := ax_pre (As := As) hP hS B.2.2.2.2.2.1 B.2.2.2.2.2.2.1 B.2.2.2.2.2.2.2.1 hG
  refine ax_cont (P := P) (restv := rest.map (cv X.g)) (va_runS (As := As.map (cv X.g)) (nL := X.nL) ⟨B.1, B.2.1, B.2.2.1, B.2.2.2.1, B.2.2.2.2.1⟩ hc ⟨ax_callB B hv.1 hl, B.2.2.2.2.1 _ hv.2⟩ ⟨hpre.1, hpre.2⟩ rfl (by simpa using hk) (hl2.1) (by rw [hst]; simp) (lv_room (by rw [ax_rs_cat]; exact hrs)) hd ⟨B.2.2.2.2.2.2.2.2.2.2.1, B.2.2.2.2.2.2.2.2.2.2.2⟩) hS (fun r M' H1 locs1 hp hg hP1 hS1 => ?_)
  have := kk r M' hp hg H1 locs1 ls hP1 hS1 hl2 hn
  cases r <;> exact this
theorem rr_callN {md : ax_Md} {idx k d : Nat} {host : String} {As : List ax_V} {P : Option ax_V → ax_M → Prop} (B : ax_b X cc own (d + 1)) (hd : decode cc pc = .ok (.invokestatic idx, 3)) (hv : ax_st md k) (hl : Cond.methodLinkNest own idx md.1 host ∈ ax_nw) (hc : CT X.g md d As M P) (hk : As.length = k) (hrs : ax_rs rest ≤ 8) (hst : st = As.reverse ++ rest)
    (kk : ∀ r M', P r M' → AW X (pc + 3) lv (r.toList ++ rest) M') : AW X pc lv st M := by
  intro hG H locs ls hP hS hl2 hn
  have hpre := ax_pre (As := As) hP hS B.2.2.2.2.2.1 B.2.2.2.2.2.2.1 B.2.2.2.2.2.2.2.1 hG
  refine ax_cont (P := P) (restv := rest.map (cv X.g)) (va_runSN (As := As.map (cv X.g)) (nL := X.nL) ⟨B.1, B.2.1, B.2.2.1, B.2.2.2.1, B.2.2.2.2.1⟩ hc ⟨ax_callN B hv.1 hl, B.2.2.2.2.1 _ hv.2, trivial⟩ ⟨hpre.1, hpre.2⟩ rfl (by simpa using hk) (hl2.1) (by rw [hst]; simp) (lv_room (by rw [ax_rs_cat]; exact hrs)) hd ⟨B.2.2.2.2.2.2.2.2.2.2.1, B.2.2.2.2.2.2.2.2.2.2.2⟩) hS (fun r M' H1 locs1 hp hg hP1 hS1 => ?_)
  have := kk r M' hp hg H1 locs1 ls hP1 hS1 hl2 hn
  cases r <;> exact this
end AXR
