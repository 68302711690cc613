/-! from the entry to the loop -/
abbrev KS8 : List Nat := [8, 4, 26, 2, 0, 10, 11, 12, 13, 14, 5, 30, 31, 32, 1, 15, 16, 17, 18, 19, 20, 21, 22, 23, 27, 28, 29, 7, 40, 41, 42, 43, 3, 24, 25, 6, 33, 34, 35, 36, 37, 38, 39, 44]
abbrev KS9 : List Nat := [9, 45, 46, 47, 48, 49, 50, 51, 52, 53, 54, 55, 56, 57, 58, 59, 60, 61, 62, 63, 64, 65, 66, 67, 68, 69, 70, 71, 72, 73, 74]
theorem wl_app (g : ax_G) (M : ax_M) (xs ys : List Nat) : wl g M (xs ++ ys) = wl g M xs ++ wl g M ys := List.map_append
theorem wl_get {g : ax_G} {M : ax_M} {ks : List Nat} {i k : Nat} (h : ks[i]? = some k) : (wl g M ks)[i]? = some (g.ad k, ax_cell g M k) := by
  unfold wl
  rw [List.getElem?_map, h]
  rfl
theorem wl_sub {D : va_G} {cl : List vw_C} {g : ax_G} {M : ax_M} {ks ks' : List Nat} {H : Heap} (hs : ∀ k ∈ ks', k ∈ ks) (h : va_P D cl (wl g M ks) H) : va_P D cl (wl g M ks') H := by
  intro i q hq
  unfold wl at hq
  rw [List.getElem?_map] at hq
  cases e : ks'[i]? with
  | none => rw [e] at hq; cases hq
  | some k =>
    rw [e] at hq
    obtain ⟨j, hj⟩ := List.getElem?_of_mem (hs k (List.mem_of_getElem? e))
    have z := h j _ (wl_get hj)
    have hq : (g.ad k, ax_cell g M k) = q := Option.some.inj hq
    rw [← hq]
    exact z
theorem ks_all : ∀ k ∈ List.range ax_NC, k ∈ KS8 ++ KS9 := by decide +kernel
theorem ks_a8 : ∀ k ∈ KS8, (k < 100 ∧ (k ≤ 8 ∨ 10 ≤ k ∧ k ≤ 44)) := by decide +kernel
theorem ks_a9 : ∀ k ∈ KS9, (k < 100 ∧ ¬ (k ≤ 8 ∨ 10 ≤ k ∧ k ≤ 44)) := by decide +kernel
def adr (a8 a9 : Nat → Nat) (t0 t1 t2 b : Nat) : Nat → Nat := fun k => if k = 100 then t0 else if k = 101 then t1 else if k = 102 then t2 else if k = 103 then b else if k ≤ 8 ∨ 10 ≤ k ∧ k ≤ 44 then a8 k else a9 k
theorem adr_8 (a8 a9 : Nat → Nat) (t0 t1 t2 b : Nat) : ∀ k ∈ KS8, a8 k = adr a8 a9 t0 t1 t2 b k := by
  intro k hk
  obtain ⟨h1, h2⟩ := ks_a8 k hk
  unfold adr
  rw [if_neg (by omega), if_neg (by omega), if_neg (by omega), if_neg (by omega), if_pos h2]
theorem adr_9 (a8 a9 : Nat → Nat) (t0 t1 t2 b : Nat) : ∀ k ∈ KS9, a9 k = adr a8 a9 t0 t1 t2 b k := by
  intro k hk
  obtain ⟨h1, h2⟩ := ks_a9 k hk
  unfold adr
  rw [if_neg (by omega), if_neg (by omega), if_neg (by omega), if_neg (by omega), if_neg h2]
section KL
variable {X : ax_X} {cc : ByteArray} {own : String} {n mc msl pc cs sl : Nat} {A : Nat → Prop} {st : List Value} {ws : va_W}
theorem kr_astore1 {a b : Nat} (B : kb X cc own n mc msl A) (h1 : X.nL = 4) (hd : decode cc pc = .ok (.astore_n 1, 1)) (k : KW X A cs sl (pc + 1) [(0, .ref b), (1, .ref a)] st ws) : KW X A cs sl pc [(0, .ref b)] (.ref a :: st) ws :=
  fun H locs ls hP hD hS hl => lv_astore_n (lv' := [(1, .ref a), (0, .ref b)]) B.1 B.2.1 hd rfl hl (by omega) rfl (fun ls1 hl1 => k H locs ls1 hP hD hS (lv_sub hl1 [1, 0] rfl))
theorem kr_astore2 {a b c : Nat} (B : kb X cc own n mc msl A) (h1 : X.nL = 4) (hd : decode cc pc = .ok (.astore_n 2, 1)) (k : KW X A cs sl (pc + 1) [(0, .ref b), (1, .ref a), (2, .ref c)] st ws) : KW X A cs sl pc [(0, .ref b), (1, .ref a)] (.ref c :: st) ws :=
  fun H locs ls hP hD hS hl => lv_astore_n (lv' := [(2, .ref c), (0, .ref b), (1, .ref a)]) B.1 B.2.1 hd rfl hl (by omega) rfl (fun ls1 hl1 => k H locs ls1 hP hD hS (lv_sub hl1 [1, 2, 0] rfl))
theorem kr_istore3 {a b c : Nat} {z : Int} (B : kb X cc own n mc msl A) (h1 : X.nL = 4) (hd : decode cc pc = .ok (.istore_n 3, 1)) (k : KW X A cs sl (pc + 1) [(0, .ref b), (1, .ref a), (2, .ref c), (3, .int (ax_i z))] st ws) : KW X A cs sl pc [(0, .ref b), (1, .ref a), (2, .ref c)] (.int (ax_i z) :: st) ws :=
  fun H locs ls hP hD hS hl => lv_istore_n (lv' := [(3, .int (ax_i z)), (0, .ref b), (1, .ref a), (2, .ref c)]) B.1 B.2.1 hd rfl hl (by omega) rfl (fun ls1 hl1 => k H locs ls1 hP hD hS (lv_sub hl1 [1, 2, 3, 0] rfl))
end KL
theorem st_cls {s : State} {args : Array Value} (hb : ∀ w ∈ ax_big, w.before args s = true) : ∃ (dC : Nat → ClassId) (dI : Nat → Nat → Nat), ∀ (k : Nat) (q : vw_C), vwCl[k]? = some q → u_Kn s q.1 q.2.1 q.2.2 (dC k) (dI k) := by
  obtain ⟨c0, i0, h0⟩ := u_known (C := RX0) (T := TX0) (N := 11) (n := 11) hb uw_0 (hb _ is_0)
  obtain ⟨c1, i1, h1⟩ := u_known (C := RX1) (T := TX1) (N := 3) (n := 3) hb uw_1 (hb _ is_1)
  obtain ⟨c2, i2, h2⟩ := u_known (C := RX2) (T := TX2) (N := 9) (n := 9) hb uw_2 (hb _ is_2)
  obtain ⟨c3, i3, h3⟩ := u_known (C := RX3) (T := TX3) (N := 3) (n := 3) hb uw_3 (hb _ is_3)
  obtain ⟨c4, i4, h4⟩ := u_known (C := RX4) (T := TX4) (N := 8) (n := 8) hb uw_4 (hb _ is_4)
  obtain ⟨c5, i5, h5⟩ := u_known (C := RX5) (T := TX5) (N := 10) (n := 10) hb uw_5 (hb _ is_5)
  obtain ⟨c6, i6, h6⟩ := u_known (C := RX6) (T := TX6) (N := 4) (n := 4) hb uw_6 (hb _ is_6)
  obtain ⟨c7, i7, h7⟩ := u_known (C := RX7) (T := TX7) (N := 7) (n := 7) hb uw_7 (hb _ is_7)
  obtain ⟨c8, i8, h8⟩ := u_known (C := RX8) (T := TX8) (N := 11) (n := 11) hb uw_8 (hb _ is_8)
  obtain ⟨c9, i9, h9⟩ := u_known (C := RX9) (T := TX9) (N := 39) (n := 39) hb uw_9 (hb _ is_9)
  refine ⟨fun k => match k with | 0 => c0 | 1 => c1 | 2 => c2 | 3 => c3 | 4 => c4 | 5 => c5 | 6 => c6 | 7 => c7 | 8 => c8 | _ => c9, fun k => match k with | 0 => i0 | 1 => i1 | 2 => i2 | 3 => i3 | 4 => i4 | 5 => i5 | 6 => i6 | 7 => i7 | 8 => i8 | _ => i9, ?_⟩
  intro k q hq
  match k, hq with
  | 0, hq => cases hq; exact h0
  | 1, hq => cases hq; exact h1
  | 2, hq => cases hq; exact h2
  | 3, hq => cases hq; exact h3
  | 4, hq => cases hq; exact h4
  | 5, hq => cases hq; exact h5
  | 6, hq => cases hq; exact h6
  | 7, hq => cases hq; exact h7
  | 8, hq => cases hq; exact h8
  | 9, hq => cases hq; exact h9
  | k + 10, hq => simp [vwCl] at hq
theorem st_arr {s : State} {args : Array Value} {t : FieldType} (h : (Cond.arrayClass t).before args s = true) : ∃ cA : ClassId, ArrOfT s cA t ∧ s.vm.findClass ("[" ++ t.toString) = some cA := by
  obtain ⟨cA, kA, comp, h1, h2, h3⟩ := Cond.arrayClass_spec h
  exact ⟨cA, fun n z => ⟨fun k h => (by cases h), kA, h2, comp, h3⟩, h1⟩
theorem ao_RR : Cond.arrayOver (.array .int) ∈ lw_tbl := List.mem_of_getElem? (i := 332) (by decide +kernel)
theorem st_K {s : State} {args : Array Value} (l : Launch) (hts : ∀ w ∈ lw_tbl, w.before args s = true) : ∃ g : ax_G, g.l = l ∧ ax_K g s ∧ ax_O g s := by
  have hb : ∀ w ∈ ax_big, w.before args s = true := fun w hw => hts w (List.mem_filter.mp hw).1
  obtain ⟨dC, dI, hC⟩ := st_cls hb
  obtain ⟨cI, aI1, aI2⟩ := st_arr (hb _ ac_I)
  obtain ⟨cZ, aZ1, aZ2⟩ := st_arr (hb _ ac_Z)
  obtain ⟨cJ, aJ1, aJ2⟩ := st_arr (hb _ ac_J)
  obtain ⟨comp, cR, kR, r1, -, r2, r3, r4⟩ := arrayOverA_spec (hts _ ao_RR)
  have e : comp = cI := by
    have z : s.vm.findClass ("[" ++ FieldType.int.toString) = some comp := r1
    exact Option.some.inj (z.symm.trans aI2)
  subst e
  refine ⟨(l, fun _ => 0, (dC, dI), (comp, cZ, cJ, cR)), rfl, ⟨⟨hC, fun k q hq => ?_⟩, fun w hw => ?_⟩, kR, r2, r3⟩
  · match k, hq with
    | 0, hq => cases hq; exact ⟨aI1, aI2⟩
    | 1, hq => cases hq; exact ⟨aZ1, aZ2⟩
    | 2, hq => cases hq; exact ⟨aJ1, aJ2⟩
    | 3, hq => cases hq; exact ⟨fun n z => ⟨fun k h => (by cases h), kR, r2, comp, r3⟩, r4⟩
    | k + 4, hq => simp [ax_tys] at hq
  · have hn := (List.mem_filter.mp hw).2
    have hz := hts w (List.mem_filter.mp hw).1
    cases w <;> first | exact va_Nw.of rfl hz | cases hn
theorem st_S {s : State} {b : Nat} (hts : ∀ w ∈ lw_tbl, w.before #[Value.ref b] s = true) (hgv : (Jvm.Cond.and given_1 narrow_1).before #[Value.ref b] s = true) : ∃ t0 t1 t2 : Nat, ∀ g : ax_G, g.ad 100 = t0 → g.ad 101 = t1 → g.ad 102 = t2 → (∀ q, ax_A g q → s.heap.size ≤ q) → ax_S g s s.heap := by
  have hs := flat_of_before _ hgv
  have hA : ∀ a : Nat, a < s.heap.size → ¬ (fun q : Nat => s.heap.size ≤ q) a := fun a h => Nat.not_le.mpr h
  obtain ⟨t0, et0, Tt0⟩ := va_Tof (tm := .static "SecondChances$Night" "TRAIT_MOST" "[I") (ty := .int) (N := 4) (f := fun j => .int (ax_i (ax_tm j))) (A := fun q : Nat => s.heap.size ≤ q) (by decide) (hs _ (by decide +kernel)) (va_eqt (z := 4) (hs _ (by decide +kernel))) (fun j hj => by
    match j, hj with
    | 0, _ => exact va_eqt (z := 7) (hs (Cond.eq (.elem (.static "SecondChances$Night" "TRAIT_MOST" "[I") (.int 0)) (.int 7)) (by decide +kernel))
    | 1, _ => exact va_eqt (z := 8) (hs (Cond.eq (.elem (.static "SecondChances$Night" "TRAIT_MOST" "[I") (.int 1)) (.int 8)) (by decide +kernel))
    | 2, _ => exact va_eqt (z := 99) (hs (Cond.eq (.elem (.static "SecondChances$Night" "TRAIT_MOST" "[I") (.int 2)) (.int 99)) (by decide +kernel))
    | 3, _ => exact va_eqt (z := 16) (hs (Cond.eq (.elem (.static "SecondChances$Night" "TRAIT_MOST" "[I") (.int 3)) (.int 16)) (by decide +kernel))
    | j + 4, hj => exact absurd hj (by omega)) hA
  have Zt0 := va_Zof (args := #[Value.ref b]) (A := fun q : Nat => s.heap.size ≤ q) (hts (.laysStatic "SecondChances$Night" "TRAIT_MOST" "[I") (List.mem_of_getElem? (i := 492) (by decide +kernel))) (hts (.initialized "SecondChances$Night") (List.mem_of_getElem? (i := 70) (by decide +kernel))) et0 hA
  obtain ⟨t1, et1, Tt1⟩ := va_Tof (tm := .static "SecondChances$Night" "SETTING_MOST" "[I") (ty := .int) (N := 4) (f := fun j => .int (ax_i (ax_sm j))) (A := fun q : Nat => s.heap.size ≤ q) (by decide) (hs _ (by decide +kernel)) (va_eqt (z := 4) (hs _ (by decide +kernel))) (fun j hj => by
    match j, hj with
    | 0, _ => exact va_eqt (z := 99) (hs (Cond.eq (.elem (.static "SecondChances$Night" "SETTING_MOST" "[I") (.int 0)) (.int 99)) (by decide +kernel))
    | 1, _ => exact va_eqt (z := 1) (hs (Cond.eq (.elem (.static "SecondChances$Night" "SETTING_MOST" "[I") (.int 1)) (.int 1)) (by decide +kernel))
    | 2, _ => exact va_eqt (z := 999) (hs (Cond.eq (.elem (.static "SecondChances$Night" "SETTING_MOST" "[I") (.int 2)) (.int 999)) (by decide +kernel))
    | 3, _ => exact va_eqt (z := 10) (hs (Cond.eq (.elem (.static "SecondChances$Night" "SETTING_MOST" "[I") (.int 3)) (.int 10)) (by decide +kernel))
    | j + 4, hj => exact absurd hj (by omega)) hA
  have Zt1 := va_Zof (args := #[Value.ref b]) (A := fun q : Nat => s.heap.size ≤ q) (hts (.laysStatic "SecondChances$Night" "SETTING_MOST" "[I") (List.mem_of_getElem? (i := 510) (by decide +kernel))) (hts (.initialized "SecondChances$Night") (List.mem_of_getElem? (i := 70) (by decide +kernel))) et1 hA
  obtain ⟨t2, et2, Tt2⟩ := va_Tof (tm := .static "SecondChances$Planner" "WEIGHT" "[J") (ty := .long) (N := 8) (f := fun j => .long (ax_l (ax_wt j))) (A := fun q : Nat => s.heap.size ≤ q) (by decide) (hs _ (by decide +kernel)) (va_eqt (z := 8) (hs _ (by decide +kernel))) (fun j hj => by
    match j, hj with
    | 0, _ => exact va_eqtl (z := 4782969) (hs (Cond.eq (.elem (.static "SecondChances$Planner" "WEIGHT" "[J") (.int 0)) (.long 4782969)) (by decide +kernel))
    | 1, _ => exact va_eqtl (z := 531441) (hs (Cond.eq (.elem (.static "SecondChances$Planner" "WEIGHT" "[J") (.int 1)) (.long 531441)) (by decide +kernel))
    | 2, _ => exact va_eqtl (z := 59049) (hs (Cond.eq (.elem (.static "SecondChances$Planner" "WEIGHT" "[J") (.int 2)) (.long 59049)) (by decide +kernel))
    | 3, _ => exact va_eqtl (z := 6561) (hs (Cond.eq (.elem (.static "SecondChances$Planner" "WEIGHT" "[J") (.int 3)) (.long 6561)) (by decide +kernel))
    | 4, _ => exact va_eqtl (z := 729) (hs (Cond.eq (.elem (.static "SecondChances$Planner" "WEIGHT" "[J") (.int 4)) (.long 729)) (by decide +kernel))
    | 5, _ => exact va_eqtl (z := 81) (hs (Cond.eq (.elem (.static "SecondChances$Planner" "WEIGHT" "[J") (.int 5)) (.long 81)) (by decide +kernel))
    | 6, _ => exact va_eqtl (z := 9) (hs (Cond.eq (.elem (.static "SecondChances$Planner" "WEIGHT" "[J") (.int 6)) (.long 9)) (by decide +kernel))
    | 7, _ => exact va_eqtl (z := 1) (hs (Cond.eq (.elem (.static "SecondChances$Planner" "WEIGHT" "[J") (.int 7)) (.long 1)) (by decide +kernel))
    | j + 8, hj => exact absurd hj (by omega)) hA
  have Zt2 := va_Zof (args := #[Value.ref b]) (A := fun q : Nat => s.heap.size ≤ q) (hts (.laysStatic "SecondChances$Planner" "WEIGHT" "[J") (List.mem_of_getElem? (i := 648) (by decide +kernel))) (hts (.initialized "SecondChances$Planner") (List.mem_of_getElem? (i := 66) (by decide +kernel))) et2 hA
  refine ⟨t0, t1, t2, fun g h0 h1 h2 ho => ?_⟩
  subst h0; subst h1; subst h2
  exact ⟨⟨Zt0.narrow ho, Tt0.narrow ho⟩, ⟨Zt1.narrow ho, Tt1.narrow ho⟩, ⟨Zt2.narrow ho, Tt2.narrow ho⟩⟩
set_option maxHeartbeats 4000000 in
set_option maxRecDepth 100000 in
theorem whole_start {p : Program} {e : Env} {s : State} {m : MethodId} {below : List Frame} {meth : Method} {c : Code} (l : Launch) (hflags : l.flags = flags0) {b L : Nat} {xs : Nat → Int32} (hL : L ≤ 3072) (C0 : lw_At p s m meth c b L xs) : W p l e room_1 s m #[Value.ref b] below meth c s.heap [] 0 0 (lw_Z below #[Value.ref b] s) (entryFrame m ([Value.ref b] : List Value).toArray 4) := by
  obtain ⟨hx, hb, hr, hml, hown, hts, hX, hbl, hlocks, hgv⟩ := C0
  have hbig : ∀ w ∈ ax_big, w.before #[Value.ref b] s = true := fun w hw => hts w (List.mem_filter.mp hw).1
  obtain ⟨g, rfl, hK, hO⟩ := st_K l hts
  obtain ⟨t0, t1, t2, hSt⟩ := st_S hts hgv
  have hl := lv_entry ([.ref b]) (n := 4) (Nat.le_of_ble_eq_true rfl)
  rw [lg_entry_eq]
  generalize (lg_sl ([.ref b]) ++ List.replicate (4 - (lg_sl ([.ref b])).length) Slot.unset).toArray = ls at hl ⊢
  have K : ∀ X : ax_X, X = (g, p, e, room_1, s, m, #[Value.ref b], below, meth, c, 4, 0, 0, lw_Z below #[Value.ref b] s) → KW X (fun q : Nat => s.heap.size ≤ q) 0 0 0 [(0, .ref b)] [] [] := by
    intro X hXe
    have B : kb X cL_law RL 10 600000 7302250 (fun q : Nat => s.heap.size ≤ q) := by
      subst hXe
      exact ⟨hx, hb, hml, hown, hbig, ⟨hK, hO⟩, fun _ h => h, ⟨(Nat.le_of_ble_eq_true rfl), (Nat.le_of_ble_eq_true rfl)⟩, ⟨Nat.le_refl _, Nat.le_refl _⟩⟩
    have hnL : X.nL = 4 := by subst hXe; rfl
    refine kr_new (ci := 8) (fs := df_8) B dL_law_0 uw_8 tyX8_ok lc_L_7 is_8 ii_8 rfl dd_8 (Nat.le_of_ble_eq_true rfl) (Nat.le_of_ble_eq_true rfl) (fun q8 => ?_)
    refine kr_dup B dL_law_3 ?_
    refine kr_callI B dL_law_4 in_8 rfl li_L_9 (it_8 X.g) (by decide) (Nat.le_of_ble_eq_true rfl) (Nat.le_of_ble_eq_true rfl) (Nat.le_of_ble_eq_true rfl) (fun a8 e8 => ?_)
    subst e8
    refine kr_astore1 B hnL dL_law_7 ?_
    refine kr_new (ci := 9) (fs := df_9) B dL_law_8 uw_9 tyX9_ok lc_L_10 is_9 ii_9 rfl dd_9 (Nat.le_of_ble_eq_true rfl) (Nat.le_of_ble_eq_true rfl) (fun q9 => ?_)
    refine kr_dup B dL_law_11 ?_
    refine kr_callI B dL_law_12 in_9 rfl li_L_12 (it_9 X.g) (by decide) (Nat.le_of_ble_eq_true rfl) (Nat.le_of_ble_eq_true rfl) (Nat.le_of_ble_eq_true rfl) (fun a9 e9 => ?_)
    subst e9
    refine kr_astore2 B hnL dL_law_15 ?_
    refine kr_iconst (z := 0) B dL_law_16 ?_
    refine kr_istore3 (z := 0) B hnL dL_law_17 ?_
    subst hXe
    show KW _ _ 75 4650 18 _ [] (([] ++ wl (ga g a8) M0 KS8) ++ wl (ga g a9) M0 KS9)
    rw [List.nil_append, wl_cg (kids_ok (by decide +kernel)) (adr_8 a8 a9 t0 t1 t2 b), wl_cg (kids_ok (by decide +kernel)) (adr_9 a8 a9 t0 t1 t2 b), ← wl_app]
    intro H locs ls hP hD hS hl
    have ha : ∀ k, k < ax_NC → ∃ i, (KS8 ++ KS9)[i]? = some k := fun k hk => List.getElem?_of_mem (ks_all k (List.mem_range.mpr hk))
    have ho : ∀ q, ax_A (ga g (adr a8 a9 t0 t1 t2 b)) q → s.heap.size ≤ q := by
      rintro q ⟨k, hk, rfl⟩
      obtain ⟨i, hi⟩ := ha k hk
      exact hD.2 i _ (wl_get hi)
    have hDD : ax_D (ga g (adr a8 a9 t0 t1 t2 b)) := by
      intro i j hi hj he
      obtain ⟨u, hu⟩ := ha i hi
      obtain ⟨v, hv⟩ := ha j hj
      have := hD.1 u v _ _ (wl_get hu) (wl_get hv) he
      subst this
      exact Option.some.inj (hu.symm.trans hv)
    refine va_forget (fun q hq => hS.2.2 q hq) ?_
    have B2 : ax_b (ga g (adr a8 a9 t0 t1 t2 b), p, e, room_1, s, m, #[Value.ref b], below, meth, c, 4, 75, 4650, lw_Z below #[Value.ref b] s) cL_law RL 10 :=
      ⟨hx, hb, hml, hown, hbig, hK, hSt _ rfl rfl rfl ho, hDD, hlocks, ⟨(Nat.le_of_ble_eq_true rfl), (Nat.le_of_ble_eq_true rfl)⟩, ⟨(Nat.le_of_ble_eq_true rfl), (Nat.le_of_ble_eq_true rfl)⟩⟩
    exact law_loop (X := (ga g (adr a8 a9 t0 t1 t2 b), p, e, room_1, s, m, #[Value.ref b], below, meth, c, 4, 75, 4650, lw_Z below #[Value.ref b] s)) (b := b) B2 ⟨hX, hbl, fun h => absurd (ho _ h) (Nat.not_le.mpr hbl), hL⟩ rfl rfl rfl hr (Nat.le_of_ble_eq_true rfl) (Nat.le_of_ble_eq_true rfl) ho 4001 0 M0 (by decide) (by decide) (by decide) LI_0 RG_M0 H [] ls (wl_sub ks_all hP) ⟨hS.1, fun q h1 h2 => hS.2.1 q h1 (Nat.not_le.mpr h1), fun _ h => by cases h⟩ hl rfl
  exact K _ rfl s.heap [] ls (fun k q h => by simp at h) ⟨fun i j p q h => by simp at h, fun k q h => by simp at h⟩ va_S.rf hl
