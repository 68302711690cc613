/-! the class's planner: a plan as one number -/
def RW : Int := 43046721
def NV : Int := 1152921504606846976
def wq (d : Int) : Int := ax_wt d.toNat
theorem wq_r (d : Int) : 1 ≤ wq d ∧ wq d ≤ 4782969 := by
  unfold wq ax_wt
  split <;> decide
def wtC (h t n : Int) : Int := sm (fun d => if tb t d = true then (h + 1) * wq d else 0) n
def tg (V : ax_M) (h t : Int) : Int := if okT V t h = true then sT V t h (V 9 2) * RW + wtC h t (V 9 2) else NV
def vC (V : ax_M) (h t : Int) : Int := cT V t h * RW + wtC h t (V 9 2)
theorem wtC_r {h t n : Int} (hh : 0 ≤ h ∧ h ≤ 7) (hn : 0 ≤ n) : 0 ≤ wtC h t n ∧ wtC h t n ≤ 38263752 * n := by
  unfold wtC
  refine sm_ind (P := fun n => 0 ≤ sm (fun d => if tb t d = true then (h + 1) * wq d else 0) n ∧ sm (fun d => if tb t d = true then (h + 1) * wq d else 0) n ≤ 38263752 * n) hn ⟨by show (0 : Int) ≤ 0; omega, by show (0 : Int) ≤ _; omega⟩ (fun i a b q => ?_)
  rw [sm_s _ a]
  have w := wq_r i
  have m := mulB (a := h + 1) (b := wq i) (A := 8) (B := 4782969) (by omega) (by omega)
  split <;> omega
theorem p2_add {d r : Int} (hd : 0 ≤ d) (hr : 0 ≤ r ∧ r < p2 d) : p2 d + r = nO r (p2 d) := by
  unfold p2 at hr ⊢
  unfold nO
  rw [Int.toNat_natCast]
  have h1 : r.toNat < 2 ^ d.toNat := by omega
  have h2 := Nat.two_pow_add_eq_or_of_lt h1 1
  rw [Nat.mul_one] at h2
  rw [Nat.or_comm, ← h2]
  omega
theorem tb_hi {d r k : Int} (hd : 0 ≤ d) (hr : 0 ≤ r ∧ r < p2 d) (hk : d ≤ k) : tb r k = false := by
  cases q : tb r k with
  | false => rfl
  | true =>
    have := tb_lt (a := r) (k := k) d.toNat ⟨hr.1, by unfold p2 at hr; exact hr.2⟩ q
    omega
theorem tb_add {d r k : Int} (hd : 0 ≤ d) (hr : 0 ≤ r ∧ r < p2 d) (hk : 0 ≤ k) : tb (p2 d + r) k = (tb r k || decide (k = d)) := by
  rw [p2_add hd hr, tb_nO, tb_p2 hd hk]
theorem okT_set {V : ax_M} {t h : Int} (hn : 0 ≤ V 9 2) : okT V t h = true ↔ ∀ d, 0 ≤ d → d < V 9 2 → tb t d = true → cm V d h ≠ -3 ∧ ∀ e, 0 ≤ e → e < d → tb t e = true → apr V d e h = false := by
  unfold okT
  rw [allB_iff hn]
  constructor
  · intro w d a b tt
    have t := w d a b
    refine ⟨fun z => (by rw [okD_f1 tt z] at t; exact Bool.noConfusion t), fun j x y z => ?_⟩
    cases q : apr V d j h with
    | false => rfl
    | true => rw [okD_f2 tt j x y z q] at t; cases t
  · intro w d a b
    cases q : tb t d with
    | false => exact okD_n q
    | true => exact okD_t a (w d a b q).1 (w d a b q).2
theorem okT_add {V : ax_M} {h d r : Int} (hn : 0 ≤ V 9 2) (hd : 0 ≤ d ∧ d < V 9 2) (hr : 0 ≤ r ∧ r < p2 d) : okT V (p2 d + r) h = true ↔ okT V r h = true ∧ cm V d h ≠ -3 ∧ ∀ e, 0 ≤ e → e < d → tb r e = true → apr V d e h = false := by
  rw [okT_set hn, okT_set hn]
  have tr : ∀ k, 0 ≤ k → k < d → (tb (p2 d + r) k = true ↔ tb r k = true) := fun k a b => by
    rw [tb_add hd.1 hr a, decide_eq_false (by omega), Bool.or_false]
  have td : tb (p2 d + r) d = true := by rw [tb_add hd.1 hr hd.1, decide_eq_true rfl, Bool.or_true]
  constructor
  · intro w
    refine ⟨fun k a b e => ?_, (w d hd.1 hd.2 td).1, fun e a b q => (w d hd.1 hd.2 td).2 e a b ((tr e a b).mpr q)⟩
    have kd : k < d := by
      rcases Int.lt_or_le k d with q | q
      · exact q
      · rw [tb_hi hd.1 hr q] at e; cases e
    have z := w k a b ((tr k a kd).mpr e)
    exact ⟨z.1, fun j x y q => z.2 j x y ((tr j x (by omega)).mpr q)⟩
  · rintro ⟨w1, w2, w3⟩ k a b e
    rcases Int.lt_or_le k d with q | q
    · have z := w1 k a b ((tr k a q).mp e)
      exact ⟨z.1, fun j x y p => z.2 j x y ((tr j x (by omega)).mp p)⟩
    · have : k = d := by
        rw [tb_add hd.1 hr a, tb_hi hd.1 hr q, Bool.false_or, decide_eq_true_eq] at e
        exact e
      subst this
      exact ⟨w2, fun j x y p => w3 j x y ((tr j x y).mp p)⟩
theorem sm_bit {d r : Int} (x : Int → Int) {n : Int} (hn : 0 ≤ n) (hd : 0 ≤ d ∧ d < n) (hr : 0 ≤ r ∧ r < p2 d) : sm (fun k => if tb (p2 d + r) k = true then x k else 0) n = sm (fun k => if tb r k = true then x k else 0) n + x d := by
  have e : sm (fun k => if tb (p2 d + r) k = true then x k else 0) n = sm (fun k => (if tb r k = true then x k else 0) + (if d = k then x k else 0)) n := by
    refine sm_cg (fun k a b => ?_)
    rw [tb_add hd.1 hr a]
    by_cases q : k = d
    · subst q
      rw [tb_hi hd.1 hr (Int.le_refl _), decide_eq_true rfl]
      show x k = 0 + (if k = k then x k else 0)
      rw [if_pos rfl]
      omega
    · rw [decide_eq_false q, Bool.or_false, if_neg (show ¬ d = k from fun z => q z.symm), Int.add_zero]
  rw [e, sm_add _ _ hn, sm_one d x hn, if_pos ⟨hd.1, hd.2⟩]
theorem tg_lt {V : ax_M} {h t : Int} (hn : 0 ≤ V 9 2 ∧ V 9 2 ≤ 8) (hh : 0 ≤ h ∧ h ≤ 7) (hV : ∀ p, 0 ≤ p → p < 8 → 0 ≤ V 57 p ∧ V 57 p ≤ 99) : (tg V h t < NV ↔ okT V t h = true) ∧ 0 ≤ tg V h t ∧ tg V h t ≤ NV ∧ (okT V t h = true → tg V h t ≤ 300000000000) := by
  have s := sT_r (set := t) (h := h) hn.1 hV
  have w := wtC_r (t := t) hh hn.1
  have m := mulB (a := sT V t h (V 9 2)) (b := RW) (A := 6336) (B := 43046721) (by omega) (by decide)
  unfold tg
  by_cases q : okT V t h = true
  · rw [if_pos q]
    unfold NV
    refine ⟨⟨fun _ => q, fun _ => by omega⟩, by omega, by omega, fun _ => by omega⟩
  · rw [if_neg q]
    exact ⟨⟨fun z => absurd z (by decide), fun z => absurd z q⟩, by decide, by decide, fun z => absurd z q⟩
theorem tg_s {V : ax_M} {h d r : Int} (hn : 0 ≤ V 9 2 ∧ V 9 2 ≤ 8) (hd : 0 ≤ d ∧ d < V 9 2) (hr : 0 ≤ r ∧ r < p2 d) (ok : okT V r h = true ∧ cm V d h ≠ -3 ∧ ∀ e, 0 ≤ e → e < d → tb r e = true → apr V d e h = false) : tg V h (p2 d + r) = tg V h r + (prc V (cm V d h) * RW + (h + 1) * wq d) := by
  unfold tg
  rw [if_pos ((okT_add hn.1 hd hr).mpr ok), if_pos ok.1]
  have e1 : sT V (p2 d + r) h (V 9 2) = sT V r h (V 9 2) + prc V (cm V d h) := sm_bit (fun k => prc V (cm V k h)) hn.1 hd hr
  have e2 : wtC h (p2 d + r) (V 9 2) = wtC h r (V 9 2) + (h + 1) * wq d := sm_bit (fun k => (h + 1) * wq k) hn.1 hd hr
  rw [e1, e2, Int.add_mul]
  omega
theorem tg_n {V : ax_M} {h d r : Int} (hn : 0 ≤ V 9 2 ∧ V 9 2 ≤ 8) (hd : 0 ≤ d ∧ d < V 9 2) (hr : 0 ≤ r ∧ r < p2 d) (ok : ¬ (okT V r h = true ∧ cm V d h ≠ -3 ∧ ∀ e, 0 ≤ e → e < d → tb r e = true → apr V d e h = false)) : tg V h (p2 d + r) = NV := by
  unfold tg
  rw [if_neg (fun z => ok ((okT_add hn.1 hd hr).mp z))]
theorem tg_0 {V : ax_M} (h : Int) (hn : 0 ≤ V 9 2) : tg V h 0 = 0 := by
  unfold tg
  have ok : okT V 0 h = true := allB_t hn (fun d _ _ => okD_n (tb_0 d))
  rw [if_pos ok]
  have s : sT V 0 h (V 9 2) = 0 := itI_inv (fun _ x => x = 0) hn rfl (fun i x _ _ q => by
    show x + (if tb 0 i = true then _ else 0) = 0
    rw [tb_0, q]; rfl)
  have w : wtC h 0 (V 9 2) = 0 := sm_ind (P := fun n => wtC h 0 n = 0) hn rfl (fun i a b q => by
    unfold wtC at q ⊢
    rw [sm_s _ a, q, tb_0]; rfl)
  rw [s, w]
  rfl
def apC (V : ax_M) (d h n ap : Int) : Prop := 0 ≤ ap ∧ ∀ e, 0 ≤ e → (tb ap e = true ↔ e < n ∧ cm V e h ≠ -3 ∧ apr V d e h = true)
theorem apC_0 (V : ax_M) (d h : Int) : apC V d h 0 0 := ⟨by omega, fun e a => by
  rw [tb_0]
  constructor
  · intro q; cases q
  · rintro ⟨q, -⟩; omega⟩
theorem apC_t {V : ax_M} {d h n ap : Int} (hn : 0 ≤ n) (c : apC V d h n ap) (w : cm V n h ≠ -3 ∧ apr V d n h = true) : apC V d h (n + 1) (nO ap (p2 n)) := ⟨nO_n, fun e a => by
  rw [tb_nO, Bool.or_eq_true, c.2 e a, tb_p2 hn a, decide_eq_true_eq]
  constructor
  · rintro (⟨x, y⟩ | x)
    · exact ⟨by omega, y⟩
    · subst x; exact ⟨by omega, w⟩
  · rintro ⟨x, y⟩
    by_cases z : e = n
    · right; exact z
    · left; exact ⟨by omega, y⟩⟩
theorem apC_f {V : ax_M} {d h n ap : Int} (c : apC V d h n ap) (w : ¬ (cm V n h ≠ -3 ∧ apr V d n h = true)) : apC V d h (n + 1) ap := ⟨c.1, fun e a => by
  rw [c.2 e a]
  constructor
  · rintro ⟨x, y⟩; exact ⟨by omega, y⟩
  · rintro ⟨x, y⟩
    by_cases z : e = n
    · subst z; exact absurd y w
    · exact ⟨by omega, y⟩⟩
def trB (V : ax_M) (h n : Int) : Int := itI (fun d b => nO b (if trn V d h = true then p2 d else 0)) 0 n
theorem trB_tb (V : ax_M) (h : Int) {n k : Int} (hn : 0 ≤ n) (hk : 0 ≤ k) : tb (trB V h n) k = true ↔ k < n ∧ trn V k h = true := by
  unfold trB
  refine itI_inv (fun n x => tb x k = true ↔ k < n ∧ trn V k h = true) hn ?_ (fun i x a b q => ?_)
  · rw [tb_0]
    constructor
    · intro e; cases e
    · rintro ⟨e, -⟩; omega
  · show tb (nO x (if trn V i h = true then p2 i else 0)) k = true ↔ _
    rw [tb_nO, Bool.or_eq_true, q]
    by_cases e : trn V i h = true
    · rw [if_pos e, tb_p2 a hk, decide_eq_true_eq]
      constructor
      · rintro (⟨x, y⟩ | x)
        · exact ⟨by omega, y⟩
        · subst x; exact ⟨by omega, e⟩
      · rintro ⟨x, y⟩
        by_cases c : k = i
        · right; exact c
        · left; exact ⟨by omega, y⟩
    · rw [if_neg e, tb_0]
      constructor
      · rintro (⟨x, y⟩ | x)
        · exact ⟨by omega, y⟩
        · cases x
      · rintro ⟨x, y⟩
        by_cases c : k = i
        · subst c; exact absurd y e
        · left; exact ⟨by omega, y⟩
def exK (c : Nat) (k : Nat) (_ : Int) : Bool := decide (k = c)
def exQ (k : Nat) (i : Int) : Bool := decide (26 ≤ k ∧ k ≤ 29 ∨ k = 4)
theorem ro_fr {ex : Nat → Int → Bool} {V M M1 : ax_M} (h : RO V M) (hf : frm ex M M1) (he : ∀ k i, (19 ≤ k ∧ k ≤ 22) → ex k i = false) : RO V M1 := fun d a b => by
  have z := h d a b
  refine ⟨(hf 19 d (he 19 d (by omega))).trans z.1, (hf 20 d (he 20 d (by omega))).trans z.2.1, fun g x y => ?_⟩
  have w := z.2.2 g x y
  exact ⟨(hf 21 _ (he 21 _ (by omega))).trans w.1, fun e => (hf 22 _ (he 22 _ (by omega))).trans (w.2 e)⟩
theorem agc_Q {V M M1 : ax_M} (h : AgC V M) (hf : frm exQ M M1) : AgC V M1 := agc_fr h hf (fun k i e => decide_eq_false (by omega))
theorem ro_Q {V M M1 : ax_M} (h : RO V M) (hf : frm exQ M M1) : RO V M1 := ro_fr h hf (fun k i e => decide_eq_false (by omega))
