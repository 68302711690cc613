theorem jl1 {u set : Int} (hu : 0 ≤ u) (h : nA u set = set) : nO set (nD u set) = u := by
  refine tb_ext nO_n hu (fun k hk => ?_)
  rw [tb_nO, tb_nD]
  have z := tb_nA u set k
  rw [h] at z
  cases q : tb u k <;> cases p : tb set k <;> simp_all
theorem jl2 {set rest A : Int} (hs : 0 ≤ set) (hr : 0 ≤ rest) (h : sub rest (nD A set)) (hA : nD set A = 0) : nD (nO set rest) set = rest ∧ nA (nO set rest) set = set ∧ nD (nO set rest) A = 0 := by
  have hh : ∀ k, 0 ≤ k → tb rest k = true → tb A k = true ∧ tb set k = false := fun k hk e => by
    have z := h k hk e
    rw [tb_nD, Bool.and_eq_true] at z
    exact ⟨z.1, by simpa using z.2⟩
  refine ⟨tb_ext (nD_le _ _ nO_n).1 hr (fun k hk => ?_), tb_ext (by unfold nA; omega) hs (fun k hk => ?_), (nD_z nO_n).mpr (fun k hk e => ?_)⟩
  · rw [tb_nD, tb_nO]
    have z := hh k hk
    cases q : tb set k <;> cases p : tb rest k <;> simp_all
  · rw [tb_nA, tb_nO]
    cases q : tb set k <;> simp
  · rw [tb_nO, Bool.or_eq_true] at e
    rcases e with e | e
    · exact (nD_z hs).mp hA k hk e
    · exact (hh k hk e).1
theorem jl3 {u set A : Int} (hu : 0 ≤ u) (h : nD u A = 0) : sub (nD u set) (nD A set) := fun k hk e => by
  rw [tb_nD, Bool.and_eq_true] at e
  rw [tb_nD, Bool.and_eq_true]
  exact ⟨(nD_z hu).mp h k hk e.1, e.2⟩
theorem hrs_tb (V : ax_M) (d : Int) {h : Int} (hh : 0 ≤ h) : tb (hrs V d) h = true ↔ h < 8 ∧ cm V d h ≠ -3 := by
  unfold hrs
  refine itI_inv (fun n x => tb x h = true ↔ h < n ∧ cm V d h ≠ -3) (p := 8) (by decide) ?_ (fun i x a b q => ?_)
  · rw [tb_0]
    constructor
    · intro e; cases e
    · rintro ⟨e, -⟩; omega
  · show tb (nO x (bi (decide (cm V d i ≠ -3)) * p2 i)) h = true ↔ _
    rw [tb_nO, Bool.or_eq_true, q]
    by_cases e : cm V d i ≠ -3
    · rw [decide_eq_true e, show bi true * p2 i = p2 i by simp [bi], tb_p2 a hh, decide_eq_true_eq]
      constructor
      · rintro (⟨x, y⟩ | x)
        · exact ⟨by omega, y⟩
        · subst x; exact ⟨by omega, e⟩
      · rintro ⟨x, y⟩
        by_cases c : h = i
        · right; exact c
        · left; exact ⟨by omega, y⟩
    · rw [decide_eq_false e, show bi false * p2 i = 0 by simp [bi], tb_0]
      constructor
      · rintro (⟨x, y⟩ | x)
        · exact ⟨by omega, y⟩
        · cases x
      · rintro ⟨x, y⟩
        by_cases c : h = i
        · subst c; exact absurd y e
        · left; exact ⟨by omega, y⟩
theorem hop_tb (V : ax_M) {n d : Int} (hn : 0 ≤ n) (hd : 0 ≤ d) : tb (hopD V n) d = true ↔ d < n ∧ hrs V d ≠ 0 := by
  unfold hopD
  refine itI_inv (fun n x => tb x d = true ↔ d < n ∧ hrs V d ≠ 0) hn ?_ (fun i x a b q => ?_)
  · rw [tb_0]
    constructor
    · intro e; cases e
    · rintro ⟨e, -⟩; omega
  · show tb (nO x (if hrs V i = 0 then 0 else p2 i)) d = true ↔ _
    rw [tb_nO, Bool.or_eq_true, q]
    by_cases e : hrs V i = 0
    · rw [if_pos e, tb_0]
      constructor
      · rintro (⟨x, y⟩ | x)
        · exact ⟨by omega, y⟩
        · cases x
      · rintro ⟨x, y⟩
        by_cases c : d = i
        · subst c; exact absurd e y
        · left; exact ⟨by omega, y⟩
    · rw [if_neg e, tb_p2 a hd, decide_eq_true_eq]
      constructor
      · rintro (⟨x, y⟩ | x)
        · exact ⟨by omega, y⟩
        · subst x; exact ⟨by omega, e⟩
      · rintro ⟨x, y⟩
        by_cases c : d = i
        · right; exact c
        · left; exact ⟨by omega, y⟩
theorem ok_hop {V : ax_M} {h t : Int} (hn : 0 ≤ V 9 2) (hh : 0 ≤ h ∧ h < 8) (ht : 0 ≤ t ∧ t < p2 (V 9 2)) (ok : okT V t h = true) : nD t (hopD V (V 9 2)) = 0 := by
  refine (nD_z ht.1).mpr (fun k hk e => ?_)
  have kn : k < V 9 2 := by
    have := tb_lt (a := t) (k := k) (V 9 2).toNat ⟨ht.1, by have := ht.2; unfold p2 at this; exact this⟩ e
    omega
  refine (hop_tb V hn hk).mpr ⟨kn, fun z => ?_⟩
  have c := ((okT_set hn).mp ok k hk kn e).1
  have := (hrs_tb V k hh.1).mpr ⟨hh.2, c⟩
  rw [z, tb_0] at this
  cases this
theorem tT_set {V : ax_M} {t h n : Int} (hn : 0 ≤ n) (ht : ∀ k, 0 ≤ k → tb t k = true → k < n) : tT V t h n = true ↔ nA t (trB V h n) ≠ 0 := by
  rw [nA_ne]
  unfold tT
  rw [Bool.not_eq_true', ← Bool.not_eq_true, allB_iff hn]
  constructor
  · intro w
    apply Classical.byContradiction
    intro z
    apply w
    intro d a b
    cases q : tb t d && trn V d h with
    | false => rfl
    | true =>
      rw [Bool.and_eq_true] at q
      exact absurd ⟨d, a, q.1, (trB_tb V h hn a).mpr ⟨b, q.2⟩⟩ z
  · rintro ⟨d, a, b, c⟩ w
    have z := (trB_tb V h hn a).mp c
    have := w d a z.1
    rw [b, z.2] at this
    cases this
theorem vC_tg {V : ax_M} {h t : Int} (hn : 0 ≤ V 9 2) (ht : ∀ k, 0 ≤ k → tb t k = true → k < V 9 2) (ok : okT V t h = true) : vC V h t = tg V h t + (if nA t (trB V h (V 9 2)) ≠ 0 then V 60 0 * RW else 0) := by
  unfold vC tg cT
  rw [if_pos ok, if_pos ok]
  have z := tT_set (V := V) (t := t) (h := h) hn ht
  by_cases q : nA t (trB V h (V 9 2)) ≠ 0
  · rw [if_pos q, if_pos (z.mpr q), Int.add_mul]
    omega
  · rw [if_neg q, if_neg (fun y => q (z.mp y)), Int.add_zero, Int.add_zero]
theorem vC_0 {V : ax_M} (h : Int) (hn : 0 ≤ V 9 2) : vC V h 0 = 0 := by
  unfold vC
  rw [cT_0 h hn]
  have w : wtC h 0 (V 9 2) = 0 := sm_ind (P := fun n => wtC h 0 n = 0) hn rfl (fun i a b q => by
    unfold wtC at q ⊢
    rw [sm_s _ a, q, tb_0]; rfl)
  rw [w]
  rfl
/-- the least of a set behind hours, sets below s taken as the hour's own -/
def gC (V : ax_M) (h : Int) (f : Int → Int) (x u s : Int) : Prop := (∀ t, 0 ≤ t → t < s → sub t u → okT V t h = true → f (nD u t) < NV → x ≤ f (nD u t) + vC V h t) ∧ (x < NV → ∃ t, 0 ≤ t ∧ sub t u ∧ okT V t h = true ∧ f (nD u t) < NV ∧ x = f (nD u t) + vC V h t)
theorem okT_0 {V : ax_M} (h : Int) (hn : 0 ≤ V 9 2) : okT V 0 h = true := allB_t hn (fun d _ _ => okD_n (tb_0 d))
theorem nD_0 {u : Int} (h : 0 ≤ u) : nD u 0 = u := tb_ext (nD_le u 0 h).1 h (fun k hk => by rw [tb_nD, tb_0]; simp)
theorem gC_1 {V : ax_M} {h : Int} {f : Int → Int} {u : Int} (hn : 0 ≤ V 9 2) (hu : 0 ≤ u) : gC V h f (f u) u 1 := by
  refine ⟨fun t a b c d e => ?_, fun q => ⟨0, by omega, (fun k hk e => (by rw [tb_0] at e; exact Bool.noConfusion e)), okT_0 h hn, by rw [nD_0 hu]; exact q, by rw [nD_0 hu, vC_0 h hn]; omega⟩⟩
  rw [show t = 0 by omega, nD_0 hu, vC_0 h hn]
  omega
theorem gC_n {V : ax_M} {h : Int} {f : Int → Int} {x u s : Int} (g : gC V h f x u s) (hs : ¬ (sub s u ∧ okT V s h = true ∧ f (nD u s) < NV)) : gC V h f x u (s + 1) := ⟨fun t a b c d e => by
  by_cases q : t = s
  · subst q; exact absurd ⟨c, d, e⟩ hs
  · exact g.1 t a (by omega) c d e, g.2⟩
theorem gC_t {V : ax_M} {h : Int} {f : Int → Int} {x u s : Int} (h0 : 0 ≤ s) (g : gC V h f x u s) (hs : sub s u ∧ okT V s h = true ∧ f (nD u s) < NV) : gC V h f (if vC V h s + f (nD u s) < x then vC V h s + f (nD u s) else x) u (s + 1) := by
  by_cases q : vC V h s + f (nD u s) < x
  · rw [if_pos q]
    refine ⟨fun t a b c d e => ?_, fun _ => ⟨s, h0, hs.1, hs.2.1, hs.2.2, by omega⟩⟩
    by_cases z : t = s
    · subst z; omega
    · have := g.1 t a (by omega) c d e; omega
  · rw [if_neg q]
    refine ⟨fun t a b c d e => ?_, g.2⟩
    by_cases z : t = s
    · subst z; omega
    · exact g.1 t a (by omega) c d e
theorem if_cg {α : Type} {p q : Prop} {dp : Decidable p} {dq : Decidable q} {a b : α} (h : p ↔ q) : (if p then a else b) = (if q then a else b) := by
  by_cases e : p
  · rw [if_pos e, if_pos (h.mp e)]
  · rw [if_neg e, if_neg (fun z => e (h.mpr z))]
