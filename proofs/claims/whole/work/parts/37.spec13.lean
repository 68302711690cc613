/-! sums -/
def sm (f : Int → Int) (n : Int) : Int := itI (fun i s => s + f i) 0 n
theorem sm_s (f : Int → Int) {n : Int} (h : 0 ≤ n) : sm f (n + 1) = sm f n + f n := itI_s _ _ h
theorem sm_ind {P : Int → Prop} {n : Int} (hn : 0 ≤ n) (h0 : P 0) (hs : ∀ i, 0 ≤ i → i < n → P i → P (i + 1)) : P n := by
  have := itI_inv (f := fun _ x => x) (a := ()) (p := n) (fun i _ => P i) hn h0 (fun i _ a b q => hs i a b q)
  exact this
theorem sm_cg {f g : Int → Int} {n : Int} (h : ∀ i, 0 ≤ i → i < n → f i = g i) : sm f n = sm g n := by
  unfold sm itI
  exact itI_cg _ (fun i x a b => by rw [h i a (by omega)])
theorem sm_add (f g : Int → Int) {n : Int} (hn : 0 ≤ n) : sm (fun i => f i + g i) n = sm f n + sm g n := by
  refine sm_ind (P := fun n => sm (fun i => f i + g i) n = sm f n + sm g n) hn rfl (fun i a b q => ?_)
  rw [sm_s _ a, sm_s _ a, sm_s _ a, q]
  omega
theorem sm_mul (f : Int → Int) (c : Int) {n : Int} (hn : 0 ≤ n) : sm (fun i => f i * c) n = sm f n * c := by
  refine sm_ind (P := fun n => sm (fun i => f i * c) n = sm f n * c) hn (by show (0 : Int) = 0 * c; omega) (fun i a b q => ?_)
  rw [sm_s _ a, sm_s _ a, q, Int.add_mul]
theorem sm_one (c : Int) (y : Int → Int) {H : Int} (hH : 0 ≤ H) : sm (fun h => if c = h then y h else 0) H = if 0 ≤ c ∧ c < H then y c else 0 := by
  refine sm_ind (P := fun H => sm (fun h => if c = h then y h else 0) H = if 0 ≤ c ∧ c < H then y c else 0) hH (by rw [if_neg (by omega)]; rfl) (fun i a b q => ?_)
  rw [sm_s _ a, q]
  by_cases e : c = i
  · subst e
    rw [if_neg (by omega), if_pos rfl, if_pos (by omega)]
    omega
  · rw [if_neg e]
    by_cases z : 0 ≤ c ∧ c < i
    · rw [if_pos z, if_pos (by omega)]; omega
    · rw [if_neg z, if_neg (by omega)]; omega
/-- deeds by their hours, or hour by hour -/
theorem swp (r : Int → Int) (x : Int → Int → Int) {n H : Int} (hn : 0 ≤ n) (hH : 0 ≤ H) : sm (fun h => sm (fun d => if r d = h then x d h else 0) n) H = sm (fun d => if 0 ≤ r d ∧ r d < H then x d (r d) else 0) n := by
  refine sm_ind (P := fun n => sm (fun h => sm (fun d => if r d = h then x d h else 0) n) H = sm (fun d => if 0 ≤ r d ∧ r d < H then x d (r d) else 0) n) hn ?_ (fun i a b q => ?_)
  · show sm (fun _ => 0) H = 0
    exact sm_ind (P := fun H => sm (fun _ => 0) H = 0) hH rfl (fun j c d e => by rw [sm_s _ c, e]; rfl)
  · rw [sm_s _ a, ← q, ← sm_one (r i) (x i) hH, ← sm_add _ _ hH]
    exact sm_cg (fun h c d => sm_s _ a)
theorem sT_sm {V : ax_M} {r : Int → Int} {h n : Int} (hn : 0 ≤ n) : sT V (hsR r h n) h n = sm (fun d => if r d = h then prc V (cm V d h) else 0) n := by
  show sm (fun d => if tb (hsR r h n) d = true then prc V (cm V d h) else 0) n = _
  refine sm_cg (fun d a b => ?_)
  have := hsR_tb r h (n := n) (k := d) hn a
  by_cases e : r d = h
  · rw [if_pos (this.mpr ⟨b, e⟩), if_pos e]
  · rw [if_neg (fun z => e (this.mp z).2), if_neg e]
theorem okT_iff {V : ax_M} {r : Int → Int} {h : Int} (hn : 0 ≤ V 9 2) : okT V (hsR r h (V 9 2)) h = true ↔ ∀ d, 0 ≤ d → d < V 9 2 → r d = h → cm V d h ≠ -3 ∧ ∀ e, 0 ≤ e → e < d → r e = h → apr V d e h = false := by
  unfold okT
  rw [allB_iff hn]
  constructor
  · intro w d a b e
    have t := w d a b
    have tt := (hsR_tb r h (n := V 9 2) (k := d) hn a).mpr ⟨b, e⟩
    refine ⟨fun z => (by rw [okD_f1 tt z] at t; exact Bool.noConfusion t), fun j x y z => ?_⟩
    cases q : apr V d j h with
    | false => rfl
    | true => rw [okD_f2 tt j x y ((hsR_tb r h (n := V 9 2) (k := j) hn x).mpr ⟨by omega, z⟩) q] at t; cases t
  · intro w d a b
    cases q : tb (hsR r h (V 9 2)) d with
    | false => exact okD_n q
    | true =>
      have e := ((hsR_tb r h (n := V 9 2) (k := d) hn a).mp q).2
      have z := w d a b e
      exact okD_t a z.1 (fun j x y t => z.2 j x y ((hsR_tb r h (n := V 9 2) (k := j) hn x).mp t).2)
theorem cT_lt {V : ax_M} {set h : Int} (hn : 0 ≤ V 9 2 ∧ V 9 2 ≤ 8) (hV : ∀ p, 0 ≤ p → p < 8 → 0 ≤ V 57 p ∧ V 57 p ≤ 99) (hr : 0 ≤ V 60 0 ∧ V 60 0 ≤ 999) : cT V set h < 1000000 ↔ okT V set h = true := by
  have s := sT_r (set := set) (h := h) hn.1 hV
  unfold cT
  constructor
  · intro q
    cases e : okT V set h with
    | true => rfl
    | false => rw [e, if_neg (by decide)] at q; omega
  · intro q
    rw [if_pos q]
    split <;> omega
/-! a sheet that is a plan: the class's way and the reference's -/
theorem okQ_iff {V : ax_M} {r : Int → Int} (hn : 0 ≤ V 9 2) : okQ V r = true ↔ (∀ d, 0 ≤ d → d < V 9 2 → -1 ≤ r d ∧ r d ≤ 7) ∧ ∀ h, 0 ≤ h → h < 8 → okT V (hsR r h (V 9 2)) h = true := by
  unfold okQ
  rw [allB_iff hn]
  have ft : ∀ d, 0 ≤ d → (ftB V r d = true ↔ (0 ≤ r d ∧ r d ≤ 7) ∧ cm V d (r d) ≠ -3 ∧ ∀ e, 0 ≤ e → e < d → r e = r d → apr V d e (r d) = false) := by
    intro d a
    unfold ftB
    rw [Bool.and_eq_true, Bool.and_eq_true, decide_eq_true_eq, decide_eq_true_eq, allB_iff a]
    constructor
    · rintro ⟨x, y, z⟩
      refine ⟨x, y, fun e p q w => ?_⟩
      have := z e p q
      rw [decide_eq_true w] at this
      simpa using this
    · rintro ⟨x, y, z⟩
      refine ⟨x, y, fun e p q => ?_⟩
      by_cases w : r e = r d
      · rw [z e p q w, Bool.not_false, Bool.or_true]
      · rw [decide_eq_false w]; rfl
  constructor
  · intro w
    have w2 : ∀ d, 0 ≤ d → d < V 9 2 → r d ≠ -1 → ftB V r d = true := fun d a b q => by
      have := w d a b
      rw [decide_eq_false q, Bool.false_or] at this
      exact this
    refine ⟨fun d a b => ?_, fun h a b => (okT_iff hn).mpr (fun d x y e => ?_)⟩
    · by_cases q : r d = -1
      · omega
      · have := ((ft d a).mp (w2 d a b q)).1
        omega
    · have := (ft d x).mp (w2 d x y (by omega))
      rw [e] at this
      exact this.2
  · rintro ⟨w1, w2⟩ d a b
    by_cases q : r d = -1
    · rw [decide_eq_true q]; rfl
    · have r1 := w1 d a b
      have := (okT_iff hn).mp (w2 (r d) (by omega) (by omega)) d a b rfl
      rw [(ft d a).mpr ⟨by omega, this⟩, Bool.or_true]
theorem cqT_tb {V : ax_M} {r : Int → Int} {n k : Int} (hn : 0 ≤ n) (hk : 0 ≤ k) : tb (cqT V r n) k = true ↔ k ≤ 7 ∧ ∃ d, 0 ≤ d ∧ d < n ∧ r d = k ∧ trn V d k = true := by
  unfold cqT
  refine itI_inv (fun n x => tb x k = true ↔ k ≤ 7 ∧ ∃ d, 0 ≤ d ∧ d < n ∧ r d = k ∧ trn V d k = true) hn ?_ (fun i x a b q => ?_)
  · rw [tb_0]
    constructor
    · intro e; cases e
    · rintro ⟨-, d, x, y, -⟩; omega
  · show tb (nO x (if (0 ≤ r i ∧ r i ≤ 7) ∧ trn V i (r i) = true then p2 (r i) else 0)) k = true ↔ _
    rw [tb_nO, Bool.or_eq_true, q]
    constructor
    · rintro (⟨k7, d, x, y, z⟩ | e)
      · exact ⟨k7, d, x, by omega, z⟩
      · by_cases c : (0 ≤ r i ∧ r i ≤ 7) ∧ trn V i (r i) = true
        · rw [if_pos c, tb_p2 c.1.1 hk, decide_eq_true_eq] at e
          exact ⟨by omega, i, a, by omega, e.symm, by rw [e]; exact c.2⟩
        · rw [if_neg c, tb_0] at e; cases e
    · rintro ⟨k7, d, x, y, z, w⟩
      rcases Int.lt_or_eq_of_le (show d ≤ i by omega) with p | p
      · exact Or.inl ⟨k7, d, x, p, z, w⟩
      · right
        subst p
        rw [if_pos ⟨by omega, by rw [z]; exact w⟩, z, tb_p2 hk hk]
        exact decide_eq_true rfl
theorem tT_iff {V : ax_M} {r : Int → Int} {h n : Int} (hn : 0 ≤ n) : tT V (hsR r h n) h n = true ↔ ∃ d, 0 ≤ d ∧ d < n ∧ r d = h ∧ trn V d h = true := by
  unfold tT
  rw [Bool.not_eq_true', ← Bool.not_eq_true, allB_iff hn]
  constructor
  · intro w
    apply Classical.byContradiction
    intro z
    apply w
    intro d a b
    cases q : tb (hsR r h n) d && trn V d h with
    | false => rfl
    | true =>
      rw [Bool.and_eq_true] at q
      exact absurd ⟨d, a, b, ((hsR_tb r h hn a).mp q.1).2, q.2⟩ z
  · rintro ⟨d, a, b, c, e⟩ w
    have := w d a b
    rw [(hsR_tb r h hn a).mpr ⟨b, c⟩, e] at this
    cases this
theorem coQ_eq {V : ax_M} {r : Int → Int} (hn : 0 ≤ V 9 2) (ok : ∀ h, 0 ≤ h → h < 8 → okT V (hsR r h (V 9 2)) h = true) : coQ V r = sm (fun h => cT V (hsR r h (V 9 2)) h) 8 := by
  have e1 : sm (fun h => cT V (hsR r h (V 9 2)) h) 8 = sm (fun h => sm (fun d => if r d = h then prc V (cm V d h) else 0) (V 9 2) + (if tb (cqT V r (V 9 2)) h = true then 1 else 0) * V 60 0) 8 := by
    refine sm_cg (fun h a b => ?_)
    unfold cT
    rw [if_pos (ok h a b), sT_sm hn]
    congr 1
    have t1 := tT_iff (V := V) (r := r) (h := h) (n := V 9 2) hn
    have t2 := cqT_tb (V := V) (r := r) (n := V 9 2) (k := h) hn a
    by_cases q : ∃ d, 0 ≤ d ∧ d < V 9 2 ∧ r d = h ∧ trn V d h = true
    · rw [if_pos (t1.mpr q), if_pos (t2.mpr ⟨by omega, q⟩)]; omega
    · rw [if_neg (fun z => q (t1.mp z)), if_neg (fun z => q (t2.mp z).2)]; omega
  rw [e1, sm_add _ _ (by decide), swp r (fun d h => prc V (cm V d h)) hn (by decide), sm_mul _ _ (by decide)]
  unfold coQ
  have e2 : cqS V r (V 9 2) = sm (fun d => if 0 ≤ r d ∧ r d < 8 then prc V (cm V d (r d)) else 0) (V 9 2) := by
    show sm (fun d => if 0 ≤ r d ∧ r d ≤ 7 then prc V (cm V d (r d)) else 0) (V 9 2) = _
    refine sm_cg (fun d a b => ?_)
    by_cases q : 0 ≤ r d ∧ r d ≤ 7
    · rw [if_pos q, if_pos (by omega)]
    · rw [if_neg q, if_neg (by omega)]
  have e3 : on (cqT V r (V 9 2)) = sm (fun h => if tb (cqT V r (V 9 2)) h = true then 1 else 0) 8 := by
    have z : ∀ k, 8 ≤ k → tb (cqT V r (V 9 2)) k = false := fun k hk => by
      cases q : tb (cqT V r (V 9 2)) k with
      | false => rfl
      | true => have := ((cqT_tb hn (by omega)).mp q).1; omega
    show sm (fun k => bi (tb (cqT V r (V 9 2)) k)) 10 = _
    rw [show (10 : Int) = 8 + 1 + 1 from rfl, sm_s _ (by decide), sm_s _ (by decide), z 8 (by decide), z (8 + 1) (by decide)]
    show sm _ 8 + 0 + 0 = _
    rw [Int.add_zero, Int.add_zero]
    refine sm_cg (fun h a b => ?_)
    cases tb (cqT V r (V 9 2)) h <;> rfl
  rw [e2, e3]
theorem plan_eq {V : ax_M} {s : Int} {r : Int → Int} (hn : 0 ≤ V 9 2 ∧ V 9 2 ≤ 8) (hV : ∀ p, 0 ≤ p → p < 8 → 0 ≤ V 57 p ∧ V 57 p ≤ 99) (hr : 0 ≤ V 60 0 ∧ V 60 0 ≤ 999) (e : ∀ d, 0 ≤ d → d < V 9 2 → r d = V 73 (60 * s + d)) : pcV V s = if okQ V r = true then coQ V r else -3 := by
  have hs : ∀ h, hsP V s h (V 9 2) = hsR r h (V 9 2) := fun h => (hsR_c2 hn.1 e).symm
  have i1 : okP V s = true ↔ okQ V r = true := by
    rw [okQ_iff hn.1]
    unfold okP inP
    rw [Bool.and_eq_true, allB_iff hn.1, allB_iff (by decide)]
    constructor
    · rintro ⟨a, b⟩
      refine ⟨fun d x y => by rw [e d x y]; exact of_decide_eq_true (a d x y), fun h x y => ?_⟩
      have := of_decide_eq_true (b h x y)
      rw [hs] at this
      exact (cT_lt hn hV hr).mp this
    · rintro ⟨a, b⟩
      refine ⟨fun d x y => decide_eq_true (by rw [← e d x y]; exact a d x y), fun h x y => decide_eq_true ?_⟩
      rw [hs]
      exact (cT_lt hn hV hr).mpr (b h x y)
  unfold pcV
  by_cases q : okQ V r = true
  · rw [if_pos q, if_pos (i1.mpr q), coQ_eq hn.1 ((okQ_iff hn.1).mp q).2]
    show sm (fun h => cT V (hsP V s h (V 9 2)) h) 8 = _
    exact sm_cg (fun h _ _ => by rw [hs])
  · rw [if_neg q, if_neg (fun z => q (i1.mp z))]
