/-! cells whose children's addresses are the same -/
theorem cell_cg {g : ax_G} {a b : Nat → Nat} {M : ax_M} {k : Nat} (h : ∀ c, some c ∈ (ax_shp k).2.2 → a c = b c) : ax_cell (ga g a) M k = ax_cell (ga g b) M k := by
  unfold ax_cell
  generalize ax_shp k = s at h
  obtain ⟨t, n, fs⟩ := s
  have h : ∀ c, some c ∈ fs → a c = b c := h
  have h3 : (fun j => ((fs[j]?).getD none).map a) = fun j : Nat => ((fs[j]?).getD none).map b := by
    funext j
    cases e : fs[j]? with
    | none => rfl
    | some x =>
      cases x with
      | none => rfl
      | some c =>
        show some (a c) = some (b c)
        rw [h c (List.mem_of_getElem? e)]
  have h4 : fs.zipIdx.map (ax_fld (ga g a) M k) = fs.zipIdx.map (ax_fld (ga g b) M k) := by
    refine List.map_congr_left (fun q hq => ?_)
    obtain ⟨f, i⟩ := q
    have e := List.mem_zipIdx_iff_getElem?.mp hq
    cases f with
    | none => rfl
    | some c =>
      show Value.ref (a c) = Value.ref (b c)
      rw [h c (List.mem_of_getElem? e)]
  match t with
  | 0 => rfl
  | 1 => rfl
  | 2 => rfl
  | 3 =>
    show (Sum.inl (g.cR, n, .inr (.inr (.inr (.inr (fun j => ((fs[j]?).getD none).map a))))) : va_E) = Sum.inl (g.cR, n, .inr (.inr (.inr (.inr (fun j => ((fs[j]?).getD none).map b)))))
    rw [h3]
  | t + 4 =>
    show (Sum.inr (n, fs.zipIdx.map (ax_fld (ga g a) M k)) : va_E) = Sum.inr (n, fs.zipIdx.map (ax_fld (ga g b) M k))
    rw [h4]
theorem wl_cg {g : ax_G} {a b : Nat → Nat} {M : ax_M} {ks : List Nat} (hc : ∀ k ∈ ks, ∀ c, some c ∈ (ax_shp k).2.2 → c ∈ ks) (h : ∀ k ∈ ks, a k = b k) : wl (ga g a) M ks = wl (ga g b) M ks := by
  unfold wl
  refine List.map_congr_left (fun k hk => ?_)
  show (a k, _) = (b k, _)
  rw [h k hk, cell_cg (fun c e => h c (hc k hk c e))]
def kids (k : Nat) : List Nat := (ax_shp k).2.2.filterMap id
theorem kids_m {k c : Nat} (h : some c ∈ (ax_shp k).2.2) : c ∈ kids k := List.mem_filterMap.mpr ⟨some c, h, rfl⟩
theorem kids_ok {ks : List Nat} (h : ks.all (fun k => (kids k).all (fun c => ks.contains c)) = true) : ∀ k ∈ ks, ∀ c, some c ∈ (ax_shp k).2.2 → c ∈ ks := by
  intro k hk c hc
  have h1 := List.all_eq_true.mp h k hk
  have h2 := List.all_eq_true.mp h1 c (kids_m hc)
  exact List.contains_iff_mem.mp h2
