/-! plans as rows: r d is the HOUR of deed d, or -1; hours one by one over sets of deeds -/
def hsR (r : Int → Int) (h n : Int) : Int := itI (fun d b => nO b (if r d = h then p2 d else 0)) 0 n
theorem nO_n {a b : Int} : 0 ≤ nO a b := by unfold nO; omega
theorem hsR_0 (r : Int → Int) (h n : Int) (hn : 0 ≤ n) : 0 ≤ hsR r h n := by
  unfold hsR
  exact itI_inv (fun _ x => 0 ≤ x) hn (by omega) (fun i x _ _ _ => nO_n)
theorem hsR_tb (r : Int → Int) (h : Int) {n k : Int} (hn : 0 ≤ n) (hk : 0 ≤ k) : tb (hsR r h n) k = true ↔ k < n ∧ r k = h := by
  unfold hsR
  refine itI_inv (fun i x => tb x k = true ↔ k < i ∧ r k = h) hn ?_ (fun i x h0 h1 q => ?_)
  · rw [tb_0]
    constructor
    · intro e; cases e
    · rintro ⟨e, -⟩; omega
  · show tb (nO x (if r i = h then p2 i else 0)) k = true ↔ _
    rw [tb_nO, Bool.or_eq_true, q]
    by_cases e : r i = h
    · rw [if_pos e, tb_p2 h0 hk, decide_eq_true_eq]
      constructor
      · rintro (⟨a, b⟩ | a)
        · exact ⟨by omega, b⟩
        · subst a; exact ⟨by omega, e⟩
      · rintro ⟨a, b⟩
        by_cases c : k = i
        · right; exact c
        · left; exact ⟨by omega, b⟩
    · rw [if_neg e, tb_0]
      constructor
      · rintro (⟨a, b⟩ | a)
        · exact ⟨by omega, b⟩
        · cases a
      · rintro ⟨a, b⟩
        by_cases c : k = i
        · subst c; exact absurd b e
        · left; exact ⟨by omega, b⟩
theorem hsR_cg {r r' : Int → Int} {h h' n : Int} (hn : 0 ≤ n) (e : ∀ d, 0 ≤ d → d < n → (r d = h ↔ r' d = h')) : hsR r h n = hsR r' h' n := by
  refine tb_ext (hsR_0 _ _ _ hn) (hsR_0 _ _ _ hn) (fun k hk => ?_)
  apply Bool.eq_iff_iff.mpr
  rw [hsR_tb _ _ hn hk, hsR_tb _ _ hn hk]
  constructor
  · rintro ⟨a, b⟩; exact ⟨a, (e k hk a).mp b⟩
  · rintro ⟨a, b⟩; exact ⟨a, (e k hk a).mpr b⟩
theorem hsR_lt (r : Int → Int) (h : Int) {n : Int} (hn : 0 ≤ n ∧ n ≤ 30) : hsR r h n < p2 n := by
  have h0 := hsR_0 r h n hn.1
  rcases Int.lt_or_le (hsR r h n) (p2 n) with q | q
  · exact q
  · exfalso
    obtain ⟨i, hi, ht⟩ := Nat.exists_ge_and_testBit_of_ge_two_pow (x := (hsR r h n).toNat) (n := n.toNat) (by unfold p2 at q; omega)
    have := (hsR_tb r h (n := n) (k := (i : Int)) hn.1 (by omega)).mp (by unfold tb; simpa using ht)
    omega
def sub (a b : Int) : Prop := ∀ k, 0 ≤ k → tb a k = true → tb b k = true
def pln (n : Int) (valid : Int → Int → Prop) (H set : Int) (r : Int → Int) : Prop := (∀ d, 0 ≤ d → d < n → -1 ≤ r d ∧ r d < H) ∧ (∀ d, 0 ≤ d → d < n → (0 ≤ r d ↔ tb set d = true)) ∧ (∀ h, 0 ≤ h → h < H → valid h (hsR r h n))
def tot (n : Int) (val : Int → Int → Int) (H : Int) (r : Int → Int) : Int := itI (fun h c => c + val h (hsR r h n)) 0 H
theorem tot_s (n : Int) (val : Int → Int → Int) {H : Int} (hH : 0 ≤ H) (r : Int → Int) : tot n val (H + 1) r = tot n val H r + val H (hsR r H n) := itI_s _ _ hH
theorem tot_cg {n : Int} {val : Int → Int → Int} {H : Int} {r r' : Int → Int} (e : ∀ h, 0 ≤ h → h < H → hsR r h n = hsR r' h n) : tot n val H r = tot n val H r' := by
  unfold tot itI
  refine itI_cg _ (fun i x h0 h1 => ?_)
  rw [e i h0 (by omega)]
theorem tot_r {n : Int} {valid : Int → Int → Prop} {val : Int → Int → Int} {B H : Int} {r : Int → Int} (hH : 0 ≤ H) (hb : ∀ h s, 0 ≤ h → h < 8 → valid h s → 0 ≤ val h s ∧ val h s ≤ B) (h8 : H ≤ 8) (hv : ∀ h, 0 ≤ h → h < H → valid h (hsR r h n)) : 0 ≤ tot n val H r ∧ tot n val H r ≤ B * H := by
  unfold tot
  refine itI_inv (fun i x => 0 ≤ x ∧ x ≤ B * i) hH (by omega) (fun i x h0 h1 q => ?_)
  have := hb i _ h0 (by omega) (hv i h0 h1)
  show 0 ≤ x + val i (hsR r i n) ∧ x + val i (hsR r i n) ≤ B * (i + 1)
  rw [Int.mul_add, Int.mul_one]
  omega
def isLs (n : Int) (val : Int → Int → Int) (valid : Int → Int → Prop) (F H : Int) (f : Int → Int) : Prop := ∀ set, 0 ≤ set → set < p2 n → (∀ r, pln n valid H set r → f set ≤ tot n val H r) ∧ (f set < F → ∃ r, pln n valid H set r ∧ tot n val H r = f set)
theorem ls_0 {n : Int} {val : Int → Int → Int} {valid : Int → Int → Prop} {F : Int} {f : Int → Int} (hn : 0 ≤ n ∧ n ≤ 30) (h0 : f 0 = 0) (h1 : ∀ set, 0 < set → set < p2 n → f set = F) : isLs n val valid F 0 f := by
  intro set a b
  constructor
  · rintro r ⟨p1, p2', -⟩
    have : set = 0 := by
      refine tb_ext a (by omega) (fun k hk => ?_)
      rw [tb_0]
      cases e : tb set k with
      | false => rfl
      | true =>
        have hl : k < n := by
          have := tb_lt (a := set) (k := k) n.toNat ⟨a, by unfold p2 at b; exact b⟩ e
          omega
        have := p1 k hk hl
        have := (p2' k hk hl).mpr e
        omega
    subst this
    rw [h0]
    exact Int.le_refl _
  · intro w
    have e : set = 0 := by
      rcases Int.lt_or_eq_of_le a with q | q
      · rw [h1 set q b] at w; omega
      · omega
    subst e
    refine ⟨fun _ => -1, ⟨fun d _ _ => (by show -1 ≤ (-1 : Int) ∧ (-1 : Int) < 0; omega), fun d _ _ => ?_, fun h _ _ => by omega⟩, h0.symm⟩
    rw [tb_0]
    constructor
    · intro q; exact absurd q (by show ¬ (0 : Int) ≤ -1; omega)
    · intro q; cases q
theorem ls_s {n : Int} {val : Int → Int → Int} {valid : Int → Int → Prop} {F B H : Int} {f g : Int → Int} (hn : 0 ≤ n ∧ n ≤ 30) (hH : 0 ≤ H ∧ H < 8) (hB : 0 ≤ B ∧ B * 8 < F) (hb : ∀ h s, 0 ≤ h → h < 8 → valid h s → 0 ≤ val h s ∧ val h s ≤ B) (hf : isLs n val valid F H f)
    (g1 : ∀ set t, 0 ≤ set → set < p2 n → 0 ≤ t → sub t set → valid H t → f (nD set t) < F → g set ≤ f (nD set t) + val H t)
    (g2 : ∀ set, 0 ≤ set → set < p2 n → g set < F → ∃ t, 0 ≤ t ∧ sub t set ∧ valid H t ∧ f (nD set t) < F ∧ g set = f (nD set t) + val H t) : isLs n val valid F (H + 1) g := by
  intro set a b
  have hnd : ∀ t, 0 ≤ nD set t ∧ nD set t < p2 n := fun t => by
    have := nD_le set t a
    omega
  constructor
  · rintro r ⟨p1, p2', p3⟩
    have hs : sub (hsR r H n) set := fun k hk e => by
      have := (hsR_tb r H hn.1 hk).mp e
      exact (p2' k hk this.1).mp (by omega)
    have ee : ∀ h, 0 ≤ h → h < H → hsR (fun d => if r d = H then -1 else r d) h n = hsR r h n := fun h h0 h1 => hsR_cg hn.1 (fun d d0 d1 => by
      show (if r d = H then -1 else r d) = h ↔ r d = h
      split <;> omega)
    have pl : pln n valid H (nD set (hsR r H n)) (fun d => if r d = H then -1 else r d) := by
      refine ⟨fun d d0 d1 => ?_, fun d d0 d1 => ?_, fun h h0 h1 => ?_⟩
      · have := p1 d d0 d1
        show -1 ≤ (if r d = H then -1 else r d) ∧ (if r d = H then -1 else r d) < H
        split <;> omega
      · have w := p2' d d0 d1
        show 0 ≤ (if r d = H then -1 else r d) ↔ _
        rw [tb_nD, Bool.and_eq_true, ← w]
        have z := hsR_tb r H hn.1 d0
        by_cases q : r d = H
        · rw [if_pos q, z.mpr ⟨d1, q⟩]
          constructor
          · intro x; omega
          · rintro ⟨-, x⟩; cases x
        · rw [if_neg q]
          have : tb (hsR r H n) d = false := by
            cases e : tb (hsR r H n) d with
            | false => rfl
            | true => exact absurd (z.mp e).2 q
          rw [this]
          simp
      · rw [ee h h0 h1]
        exact p3 h h0 (by omega)
    have f1 := (hf _ (hnd _).1 (hnd _).2).1 _ pl
    have e1 : tot n val H (fun d => if r d = H then -1 else r d) = tot n val H r := tot_cg ee
    rw [e1] at f1
    have t1 := tot_r (n := n) (val := val) (r := r) hH.1 hb (by omega) (fun h h0 h1 => p3 h h0 (by omega))
    have t2 : B * H ≤ B * 8 := Int.mul_le_mul_of_nonneg_left (by omega) hB.1
    have := g1 set (hsR r H n) a b (hsR_0 _ _ _ hn.1) hs (p3 H hH.1 (by omega)) (by omega)
    rw [tot_s n val hH.1]
    omega
  · intro w
    obtain ⟨t, t0, ts, tv, tf, tg⟩ := g2 set a b w
    obtain ⟨r', ⟨p1, p2', p3⟩, pt⟩ := (hf _ (hnd t).1 (hnd t).2).2 tf
    have key : ∀ d, 0 ≤ d → d < n → tb t d = true → r' d = -1 := fun d d0 d1 e => by
      have z := p2' d d0 d1
      rw [tb_nD, e] at z
      have := p1 d d0 d1
      rcases Int.lt_or_le (r' d) 0 with q | q
      · omega
      · have := z.mp q; simp at this
    have e1 : ∀ h, 0 ≤ h → h < H → hsR (fun d => if tb t d = true then H else r' d) h n = hsR r' h n := fun h h0 h1 => hsR_cg hn.1 (fun d d0 d1 => by
      show (if tb t d = true then H else r' d) = h ↔ r' d = h
      by_cases q : tb t d = true
      · rw [if_pos q, key d d0 d1 q]; omega
      · rw [if_neg q])
    have e2 : hsR (fun d => if tb t d = true then H else r' d) H n = t := by
      refine tb_ext (hsR_0 _ _ _ hn.1) t0 (fun k hk => ?_)
      apply Bool.eq_iff_iff.mpr
      rw [hsR_tb _ _ hn.1 hk]
      constructor
      · rintro ⟨a1, a2⟩
        by_cases q : tb t k = true
        · exact q
        · have a3 : (if tb t k = true then H else r' k) = H := a2
          rw [if_neg q] at a3
          have := p1 k hk a1
          omega
      · intro q
        have hl : k < n := by
          have := tb_lt (a := set) (k := k) n.toNat ⟨a, by unfold p2 at b; exact b⟩ (ts k hk q)
          omega
        exact ⟨hl, if_pos q⟩
    refine ⟨fun d => if tb t d = true then H else r' d, ⟨fun d d0 d1 => ?_, fun d d0 d1 => ?_, fun h h0 h1 => ?_⟩, ?_⟩
    · have := p1 d d0 d1
      show -1 ≤ (if tb t d = true then H else r' d) ∧ (if tb t d = true then H else r' d) < H + 1
      split <;> omega
    · have z := p2' d d0 d1
      rw [tb_nD, Bool.and_eq_true] at z
      show 0 ≤ (if tb t d = true then H else r' d) ↔ _
      by_cases q : tb t d = true
      · rw [if_pos q]
        exact ⟨fun _ => ts d d0 q, fun _ => hH.1⟩
      · rw [if_neg q, z]
        simp at q
        rw [q]
        simp
    · rcases Int.lt_or_eq_of_le (show h ≤ H by omega) with q | q
      · rw [e1 h h0 q]; exact p3 h h0 q
      · rw [q, e2]; exact tv
    · rw [tot_s n val hH.1, e2, tot_cg e1, pt, tg]
/-- the submasks of a set, downwards -/
theorem submask_next : ∀ (n : Nat) (s h t : Nat), s < 2 ^ n → h &&& s = h → t &&& s = t → t < h → t ≤ (h - 1) &&& s
  | 0, s, h, t, hs, hh, ht, hlt => by
    have : s = 0 := by omega
    subst this
    simp at hh
    omega
  | n + 1, s, h, t, hs, hh, ht, hlt => by
    have bit : ∀ x y : Nat, (x &&& y) % 2 = (x % 2) &&& (y % 2) ∧ (x &&& y) / 2 = (x / 2) &&& (y / 2) := fun x y => ⟨by
      have := Nat.and_mod_two_pow (a := x) (b := y) (n := 1)
      simpa using this, by
      have := Nat.and_div_two_pow (a := x) (b := y) (n := 1)
      simpa using this⟩
    have hh1 : (h % 2) &&& (s % 2) = h % 2 := by have := (bit h s).1; rw [hh] at this; exact this.symm
    have hh2 : (h / 2) &&& (s / 2) = h / 2 := by have := (bit h s).2; rw [hh] at this; exact this.symm
    have ht1 : (t % 2) &&& (s % 2) = t % 2 := by have := (bit t s).1; rw [ht] at this; exact this.symm
    have ht2 : (t / 2) &&& (s / 2) = t / 2 := by have := (bit t s).2; rw [ht] at this; exact this.symm
    have hs2 : s / 2 < 2 ^ n := by rw [Nat.pow_succ] at hs; omega
    have b2 := (bit (h - 1) s).2
    have b1 := (bit (h - 1) s).1
    rcases Nat.mod_two_eq_zero_or_one h with q | q
    · have e1 : (h - 1) / 2 = h / 2 - 1 := by omega
      have e2 : (h - 1) % 2 = 1 := by omega
      rw [e1] at b2
      rw [e2] at b1
      have ih := submask_next n (s / 2) (h / 2) (t / 2) hs2 hh2 ht2 (by omega)
      have c1 : t % 2 ≤ 1 &&& (s % 2) := by
        rcases Nat.mod_two_eq_zero_or_one s with z | z
        · rw [z] at ht1 ⊢; simp at ht1; omega
        · rw [z]; have := Nat.mod_lt t (show 0 < 2 by decide); show t % 2 ≤ 1; omega
      omega
    · have e1 : (h - 1) / 2 = h / 2 := by omega
      rw [e1, hh2] at b2
      omega
theorem sub_next {s h t : Int} (hs : 0 ≤ s ∧ s < 1024) (hh : 0 < h) (h1 : sub h s) (ht : 0 ≤ t) (h2 : sub t s) (hlt : t < h) : t ≤ nA (h - 1) s := by
  have cv : ∀ x : Int, sub x s → x.toNat &&& s.toNat = x.toNat := fun x hx => by
    apply Nat.eq_of_testBit_eq
    intro i
    rw [Nat.testBit_and]
    cases e : x.toNat.testBit i with
    | false => rfl
    | true =>
      have := hx (i : Int) (by omega) (by unfold tb; simpa using e)
      unfold tb at this
      simpa using this
  have := submask_next 10 s.toNat h.toNat t.toNat (by omega) (cv h h1) (cv t h2) (by omega)
  unfold nA
  rw [show (h - 1).toNat = h.toNat - 1 by omega]
  omega
theorem sub_nA (a s : Int) : sub (nA a s) s := fun k hk e => by
  rw [tb_nA, Bool.and_eq_true] at e
  exact e.2
theorem sub_le {t s : Int} (hs : 0 ≤ s) (ht : 0 ≤ t) (h : sub t s) : t ≤ s := by
  have : t.toNat ≤ s.toNat := by
    apply Nat.le_of_testBit
    intro i e
    have := h (i : Int) (by omega) (by unfold tb; simpa using e)
    unfold tb at this
    simpa using this
  omega
/-! the reference's best plan: the first m deeds held to fx -/
abbrev cV (V : ax_M) : Int → Int → Int := fun h t => cT V t h
def cR (V : ax_M) (r : Int → Int) : Int := tot (V 9 2) (cV V) 8 r
def wR (V : ax_M) (r : Int → Int) : Int := itI (fun d s => s + if r d = -1 then 0 else V 50 d) 0 (V 9 2)
def feas (V : ax_M) (r : Int → Int) : Prop := (∀ d, 0 ≤ d → d < V 9 2 → -1 ≤ r d ∧ r d ≤ 7) ∧ (∀ h, 0 ≤ h → h < 8 → cT V (hsR r h (V 9 2)) h < 1000000) ∧ cR V r ≤ V 60 2
def agr (fx : Int → Int) (m : Int) (r : Int → Int) : Prop := ∀ d, 0 ≤ d → d < m → r d = fx d
def vM (V : ax_M) (fx : Int → Int) (m h t : Int) : Prop := (∀ d, 0 ≤ d → d < m → (tb t d = true ↔ fx d = h)) ∧ cT V t h < 1000000
def BestP (V : ax_M) (fx : Int → Int) (m bw bc : Int) : Prop := (bw = -1 ∧ bc = 0 ∧ (∀ r, feas V r → ¬ agr fx m r) ∨ ∃ r, feas V r ∧ agr fx m r ∧ wR V r = bw ∧ cR V r = bc) ∧ ∀ r, feas V r → agr fx m r → wR V r < bw ∨ wR V r = bw ∧ bc ≤ cR V r
/-- the set of those done -/
def don (r : Int → Int) (n : Int) : Int := itI (fun d b => nO b (if r d = -1 then 0 else p2 d)) 0 n
theorem don_0 (r : Int → Int) {n : Int} (hn : 0 ≤ n) : 0 ≤ don r n := by
  unfold don
  exact itI_inv (fun _ x => 0 ≤ x) hn (by omega) (fun i x _ _ _ => nO_n)
theorem don_tb (r : Int → Int) {n k : Int} (hn : 0 ≤ n) (hk : 0 ≤ k) : tb (don r n) k = true ↔ k < n ∧ r k ≠ -1 := by
  unfold don
  refine itI_inv (fun i x => tb x k = true ↔ k < i ∧ r k ≠ -1) hn ?_ (fun i x h0 h1 q => ?_)
  · rw [tb_0]
    constructor
    · intro e; cases e
    · rintro ⟨e, -⟩; omega
  · show tb (nO x (if r i = -1 then 0 else p2 i)) k = true ↔ _
    rw [tb_nO, Bool.or_eq_true, q]
    by_cases e : r i = -1
    · rw [if_pos e, tb_0]
      constructor
      · rintro (⟨a, b⟩ | a)
        · exact ⟨by omega, b⟩
        · cases a
      · rintro ⟨a, b⟩
        by_cases c : k = i
        · subst c; exact absurd e b
        · left; exact ⟨by omega, b⟩
    · rw [if_neg e, tb_p2 h0 hk, decide_eq_true_eq]
      constructor
      · rintro (⟨a, b⟩ | a)
        · exact ⟨by omega, b⟩
        · subst a; exact ⟨by omega, e⟩
      · rintro ⟨a, b⟩
        by_cases c : k = i
        · right; exact c
        · left; exact ⟨by omega, b⟩
theorem mask_lt {a n : Int} (hn : 0 ≤ n ∧ n ≤ 30) (ha : 0 ≤ a) (h : ∀ k, 0 ≤ k → tb a k = true → k < n) : a < p2 n := by
  rcases Int.lt_or_le a (p2 n) with q | q
  · exact q
  · exfalso
    obtain ⟨i, hi, ht⟩ := Nat.exists_ge_and_testBit_of_ge_two_pow (x := a.toNat) (n := n.toNat) (by unfold p2 at q; omega)
    have := h (i : Int) (by omega) (by unfold tb; simpa using ht)
    omega
theorem don_lt (r : Int → Int) {n : Int} (hn : 0 ≤ n ∧ n ≤ 30) : don r n < p2 n := mask_lt hn (don_0 r hn.1) (fun k hk e => ((don_tb r hn.1 hk).mp e).1)
theorem wth_w {V : ax_M} {set : Int} {r : Int → Int} (h : ∀ d, 0 ≤ d → d < V 9 2 → (r d ≠ -1 ↔ tb set d = true)) : wth V set = wR V r := by
  unfold wth wR itI
  refine itI_cg _ (fun i x h0 h1 => ?_)
  have := h i h0 (by omega)
  by_cases q : r i = -1
  · rw [if_pos q, if_neg (fun w => (this.mpr w) q)]
  · rw [if_neg q, if_pos (this.mp q)]
theorem best_of {V : ax_M} {fx f : Int → Int} {m bw bc : Int} (hn : 0 ≤ V 9 2 ∧ V 9 2 ≤ 8) (hm : 0 ≤ m ∧ m ≤ V 9 2) (hfx : ∀ d, 0 ≤ d → d < m → -1 ≤ fx d ∧ fx d ≤ 7) (hp : V 60 2 ≤ 999) (hf : isLs (V 9 2) (cV V) (vM V fx m) 1000000 8 f)
    (b1 : ∀ s, 0 ≤ s → s < p2 (V 9 2) → f s ≤ V 60 2 → wth V s < bw ∨ wth V s = bw ∧ bc ≤ f s) (b2 : bw = -1 ∧ bc = 0 ∧ (∀ s, 0 ≤ s → s < p2 (V 9 2) → ¬ f s ≤ V 60 2) ∨ ∃ s, 0 ≤ s ∧ s < p2 (V 9 2) ∧ f s ≤ V 60 2 ∧ wth V s = bw ∧ f s = bc) : BestP V fx m bw bc := by
  have key : ∀ r, feas V r → agr fx m r → f (don r (V 9 2)) ≤ cR V r ∧ wth V (don r (V 9 2)) = wR V r := by
    intro r hr ha
    have e : ∀ d, 0 ≤ d → d < V 9 2 → (r d ≠ -1 ↔ tb (don r (V 9 2)) d = true) := fun d d0 d1 => by
      rw [don_tb r hn.1 d0]
      exact ⟨fun q => ⟨d1, q⟩, fun q => q.2⟩
    refine ⟨(hf _ (don_0 r hn.1) (don_lt r (by omega))).1 r ⟨fun d d0 d1 => ?_, fun d d0 d1 => ?_, fun h h0 h1 => ⟨fun d d0 d1 => ?_, hr.2.1 h h0 h1⟩⟩, wth_w e⟩
    · have := hr.1 d d0 d1; omega
    · rw [← e d d0 d1]
      have := hr.1 d d0 d1; omega
    · rw [hsR_tb r h hn.1 d0, ha d d0 d1]
      constructor
      · rintro ⟨-, q⟩; exact q
      · intro q; exact ⟨by omega, q⟩
  refine ⟨?_, fun r hr ha => ?_⟩
  · rcases b2 with ⟨c1, c2, c3⟩ | ⟨s, s0, s1, s2, s3, s4⟩
    · left
      refine ⟨c1, c2, fun r hr ha => ?_⟩
      have := key r hr ha
      exact c3 _ (don_0 r hn.1) (don_lt r (by omega)) (Int.le_trans this.1 hr.2.2)
    · right
      obtain ⟨r, ⟨p1, p2', p3⟩, pt⟩ := (hf s s0 s1).2 (by omega)
      have hr : feas V r := ⟨fun d d0 d1 => by have := p1 d d0 d1; omega, fun h h0 h1 => (p3 h h0 h1).2, by show tot _ _ _ _ ≤ _; rw [pt]; exact s2⟩
      refine ⟨r, hr, fun d d0 d1 => ?_, ?_, by show tot _ _ _ _ = _; rw [pt]; exact s4⟩
      · have hd := p1 d d0 (by omega)
        have hx := hfx d d0 d1
        rcases Int.lt_or_le (r d) 0 with q | q
        · rcases Int.lt_or_le (fx d) 0 with z | z
          · omega
          · exfalso
            have := ((p3 (fx d) z (by omega)).1 d d0 d1).mpr rfl
            rw [hsR_tb r _ hn.1 d0] at this
            omega
        · exact (((p3 (r d) q hd.2).1 d d0 d1).mp ((hsR_tb r _ hn.1 d0).mpr ⟨by omega, rfl⟩)).symm
      · rw [← s3]
        exact (wth_w (fun d d0 d1 => by rw [← p2' d d0 d1]; have := p1 d d0 d1; omega)).symm
  · have k := key r hr ha
    rcases b1 _ (don_0 r hn.1) (don_lt r (by omega)) (Int.le_trans k.1 hr.2.2) with q | q
    · left; omega
    · right; omega
