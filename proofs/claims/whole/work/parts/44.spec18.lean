/-! a plan's number: its cost ahead of its row -/
def codR (V : ax_M) (r : Int → Int) : Int := sm (fun d => (r d + 1) * wq d) (V 9 2)
def rb (n : Int) (r : Int → Int) (e : Int) : Int := if 0 ≤ e ∧ e < n then r e else -1
theorem sm_ext {f g : Int → Int} {n m : Int} (hn : 0 ≤ n) (hm : n ≤ m) (h1 : ∀ i, 0 ≤ i → i < n → f i = g i) (h2 : ∀ i, n ≤ i → i < m → g i = 0) : sm f n = sm g m := by
  have key : ∀ k : Nat, n + k ≤ m → sm g (n + k) = sm f n := by
    intro k
    induction k with
    | zero => intro _; rw [show n + ((0 : Nat) : Int) = n by omega]; exact (sm_cg h1).symm
    | succ k ih =>
      intro q
      rw [show n + ((k + 1 : Nat) : Int) = (n + k) + 1 by omega, sm_s _ (by omega), ih (by omega), h2 _ (by omega) (by omega)]
      omega
  have := key (m - n).toNat (by omega)
  rw [show n + (((m - n).toNat : Nat) : Int) = m by omega] at this
  exact this.symm
theorem sm_8 (g : Int → Int) : sm g 8 = g 0 + g 1 + g 2 + g 3 + g 4 + g 5 + g 6 + g 7 := by
  show 0 + g 0 + g 1 + g 2 + g 3 + g 4 + g 5 + g 6 + g 7 = _
  omega
def num8 (x : Int → Int) : Int := x 0 * 4782969 + x 1 * 531441 + x 2 * 59049 + x 3 * 6561 + x 4 * 729 + x 5 * 81 + x 6 * 9 + x 7
theorem codR_8 {V : ax_M} {r : Int → Int} (hn : 0 ≤ V 9 2 ∧ V 9 2 ≤ 8) : codR V r = num8 (fun e => rb (V 9 2) r e + 1) := by
  unfold codR
  rw [sm_ext (g := fun e => (rb (V 9 2) r e + 1) * wq e) hn.1 hn.2 (fun i a b => by unfold rb; rw [if_pos ⟨a, b⟩]) (fun i a b => by
    show (rb (V 9 2) r i + 1) * wq i = 0
    unfold rb; rw [if_neg (by omega)]; show (-1 + 1) * wq i = 0; rw [show (-1 + 1 : Int) = 0 from rfl, Int.zero_mul]), sm_8]
  unfold num8
  have w0 : wq 0 = 4782969 := rfl
  have w1 : wq 1 = 531441 := rfl
  have w2 : wq 2 = 59049 := rfl
  have w3 : wq 3 = 6561 := rfl
  have w4 : wq 4 = 729 := rfl
  have w5 : wq 5 = 81 := rfl
  have w6 : wq 6 = 9 := rfl
  have w7 : wq 7 = 1 := rfl
  rw [w0, w1, w2, w3, w4, w5, w6, w7]
  dsimp only
  omega
theorem num_r {x : Int → Int} (hx : ∀ i, 0 ≤ i → i < 8 → 0 ≤ x i ∧ x i ≤ 8) : 0 ≤ num8 x ∧ num8 x < 43046721 := by
  have h0 := hx 0 (by decide) (by decide)
  have h1 := hx 1 (by decide) (by decide)
  have h2 := hx 2 (by decide) (by decide)
  have h3 := hx 3 (by decide) (by decide)
  have h4 := hx 4 (by decide) (by decide)
  have h5 := hx 5 (by decide) (by decide)
  have h6 := hx 6 (by decide) (by decide)
  have h7 := hx 7 (by decide) (by decide)
  unfold num8
  omega
theorem num_d {x : Int → Int} {C : Int} (hx : ∀ i, 0 ≤ i → i < 8 → 0 ≤ x i ∧ x i ≤ 8) (hC : 0 ≤ C) : (C * 43046721 + num8 x) / 43046721 = C ∧ ∀ d, 0 ≤ d → d < 8 → (C * 43046721 + num8 x) / wq d % 9 = x d := by
  have h0 := hx 0 (by decide) (by decide)
  have h1 := hx 1 (by decide) (by decide)
  have h2 := hx 2 (by decide) (by decide)
  have h3 := hx 3 (by decide) (by decide)
  have h4 := hx 4 (by decide) (by decide)
  have h5 := hx 5 (by decide) (by decide)
  have h6 := hx 6 (by decide) (by decide)
  have h7 := hx 7 (by decide) (by decide)
  have nr := num_r hx
  refine ⟨by omega, fun d a b => ?_⟩
  unfold num8
  rcases (show d = 0 ∨ d = 1 ∨ d = 2 ∨ d = 3 ∨ d = 4 ∨ d = 5 ∨ d = 6 ∨ d = 7 by omega) with rfl | rfl | rfl | rfl | rfl | rfl | rfl | rfl
  · rw [show wq 0 = 4782969 from rfl]; omega
  · rw [show wq 1 = 531441 from rfl]; omega
  · rw [show wq 2 = 59049 from rfl]; omega
  · rw [show wq 3 = 6561 from rfl]; omega
  · rw [show wq 4 = 729 from rfl]; omega
  · rw [show wq 5 = 81 from rfl]; omega
  · rw [show wq 6 = 9 from rfl]; omega
  · rw [show wq 7 = 1 from rfl]; omega
theorem num_lex {x y : Int → Int} (hx : ∀ i, 0 ≤ i → i < 8 → 0 ≤ x i ∧ x i ≤ 8) (hy : ∀ i, 0 ≤ i → i < 8 → 0 ≤ y i ∧ y i ≤ 8) (h : num8 x ≤ num8 y) : (∀ i, 0 ≤ i → i < 8 → x i = y i) ∨ ∃ d, 0 ≤ d ∧ d < 8 ∧ (∀ e, 0 ≤ e → e < d → x e = y e) ∧ x d < y d := by
  have h0 := hx 0 (by decide) (by decide)
  have h1 := hx 1 (by decide) (by decide)
  have h2 := hx 2 (by decide) (by decide)
  have h3 := hx 3 (by decide) (by decide)
  have h4 := hx 4 (by decide) (by decide)
  have h5 := hx 5 (by decide) (by decide)
  have h6 := hx 6 (by decide) (by decide)
  have h7 := hx 7 (by decide) (by decide)
  have k0 := hy 0 (by decide) (by decide)
  have k1 := hy 1 (by decide) (by decide)
  have k2 := hy 2 (by decide) (by decide)
  have k3 := hy 3 (by decide) (by decide)
  have k4 := hy 4 (by decide) (by decide)
  have k5 := hy 5 (by decide) (by decide)
  have k6 := hy 6 (by decide) (by decide)
  have k7 := hy 7 (by decide) (by decide)
  unfold num8 at h
  have lt : ∀ d : Int, 0 ≤ d → d < 8 → (∀ e, 0 ≤ e → e < d → x e = y e) → x d < y d → (∀ i, 0 ≤ i → i < 8 → x i = y i) ∨ ∃ d, 0 ≤ d ∧ d < 8 ∧ (∀ e, 0 ≤ e → e < d → x e = y e) ∧ x d < y d := fun d a b c e => Or.inr ⟨d, a, b, c, e⟩
  have s1 : x 0 = y 0 → ∀ e, 0 ≤ e → e < 1 → x e = y e := fun q e a b => by rw [show e = 0 by omega]; exact q
  by_cases e0 : x 0 = y 0
  · by_cases e1 : x 1 = y 1
    · by_cases e2 : x 2 = y 2
      · by_cases e3 : x 3 = y 3
        · by_cases e4 : x 4 = y 4
          · by_cases e5 : x 5 = y 5
            · by_cases e6 : x 6 = y 6
              · by_cases e7 : x 7 = y 7
                · left
                  intro i a b
                  rcases (show i = 0 ∨ i = 1 ∨ i = 2 ∨ i = 3 ∨ i = 4 ∨ i = 5 ∨ i = 6 ∨ i = 7 by omega) with rfl | rfl | rfl | rfl | rfl | rfl | rfl | rfl <;> assumption
                · refine lt 7 (by decide) (by decide) (fun e a b => ?_) (by omega)
                  rcases (show e = 0 ∨ e = 1 ∨ e = 2 ∨ e = 3 ∨ e = 4 ∨ e = 5 ∨ e = 6 by omega) with rfl | rfl | rfl | rfl | rfl | rfl | rfl <;> assumption
              · refine lt 6 (by decide) (by decide) (fun e a b => ?_) (by omega)
                rcases (show e = 0 ∨ e = 1 ∨ e = 2 ∨ e = 3 ∨ e = 4 ∨ e = 5 by omega) with rfl | rfl | rfl | rfl | rfl | rfl <;> assumption
            · refine lt 5 (by decide) (by decide) (fun e a b => ?_) (by omega)
              rcases (show e = 0 ∨ e = 1 ∨ e = 2 ∨ e = 3 ∨ e = 4 by omega) with rfl | rfl | rfl | rfl | rfl <;> assumption
          · refine lt 4 (by decide) (by decide) (fun e a b => ?_) (by omega)
            rcases (show e = 0 ∨ e = 1 ∨ e = 2 ∨ e = 3 by omega) with rfl | rfl | rfl | rfl <;> assumption
        · refine lt 3 (by decide) (by decide) (fun e a b => ?_) (by omega)
          rcases (show e = 0 ∨ e = 1 ∨ e = 2 by omega) with rfl | rfl | rfl <;> assumption
      · refine lt 2 (by decide) (by decide) (fun e a b => ?_) (by omega)
        rcases (show e = 0 ∨ e = 1 by omega) with rfl | rfl <;> assumption
    · exact lt 1 (by decide) (by decide) (s1 e0) (by omega)
  · exact lt 0 (by decide) (by decide) (fun e a b => by omega) (by omega)
theorem tot_vC {V : ax_M} {r : Int → Int} (hn : 0 ≤ V 9 2) (hr : ∀ d, 0 ≤ d → d < V 9 2 → -1 ≤ r d ∧ r d ≤ 7) : tot (V 9 2) (vC V) 8 r = cR V r * 43046721 + codR V r := by
  show sm (fun h => cT V (hsR r h (V 9 2)) h * RW + wtC h (hsR r h (V 9 2)) (V 9 2)) 8 = _
  rw [sm_add _ _ (by decide), sm_mul _ _ (by decide)]
  have e : sm (fun h => wtC h (hsR r h (V 9 2)) (V 9 2)) 8 = codR V r := by
    have e1 : sm (fun h => wtC h (hsR r h (V 9 2)) (V 9 2)) 8 = sm (fun h => sm (fun d => if r d = h then (h + 1) * wq d else 0) (V 9 2)) 8 := by
      refine sm_cg (fun h a b => ?_)
      unfold wtC
      refine sm_cg (fun d x y => ?_)
      have := hsR_tb r h (n := V 9 2) (k := d) hn x
      by_cases q : r d = h
      · rw [if_pos (this.mpr ⟨y, q⟩), if_pos q]
      · rw [if_neg (fun z => q (this.mp z).2), if_neg q]
    rw [e1, swp r (fun d h => (h + 1) * wq d) hn (by decide)]
    unfold codR
    refine sm_cg (fun d a b => ?_)
    have := hr d a b
    by_cases q : r d = -1
    · rw [if_neg (by omega), q, show (-1 + 1 : Int) = 0 from rfl, Int.zero_mul]
    · rw [if_pos (by omega)]
  rw [e]
  rfl
abbrev okC (V : ax_M) : Int → Int → Prop := fun h t => okT V t h = true
theorem most_of {V : ax_M} {f : Int → Int} {c : Int} (hn : 0 ≤ V 9 2 ∧ V 9 2 ≤ 8) (hV : ∀ p, 0 ≤ p → p < 8 → 0 ≤ V 57 p ∧ V 57 p ≤ 99) (hr : 0 ≤ V 60 0 ∧ V 60 0 ≤ 999) (hp : 0 ≤ V 60 2 ∧ V 60 2 ≤ 999) (hf : isLs (V 9 2) (vC V) (okC V) NV 8 f) (hc : 0 ≤ c ∧ c < p2 (V 9 2)) (hl : f c < (V 60 2 + 1) * 43046721)
    (hb : ∀ u, 0 ≤ u → u < p2 (V 9 2) → f u < (V 60 2 + 1) * 43046721 → wth V u < wth V c ∨ wth V u = wth V c ∧ f c ≤ f u) : ∃ r, IsMost V r ∧ wR V r = wth V c ∧ f c = cR V r * 43046721 + codR V r ∧ 0 ≤ cR V r ∧ ∀ d, 0 ≤ d → d < V 9 2 → -1 ≤ r d ∧ r d ≤ 7 := by
  have dg : ∀ r : Int → Int, (∀ d, 0 ≤ d → d < V 9 2 → -1 ≤ r d ∧ r d ≤ 7) → ∀ i, 0 ≤ i → i < 8 → 0 ≤ rb (V 9 2) r i + 1 ∧ rb (V 9 2) r i + 1 ≤ 8 := fun r q i a b => by
    unfold rb
    split
    · next z => have := q i z.1 z.2; omega
    · omega
  have cn : ∀ r : Int → Int, (∀ h, 0 ≤ h → h < 8 → okC V h (hsR r h (V 9 2))) → 0 ≤ cR V r := fun r q => (tot_r (valid := okC V) (val := cV V) (B := 10000) (H := 8) (by decide) (fun h s _ _ z => by
    have := cT_r (V := V) (set := s) (h := h) hn hV hr
    have := (cT_lt (set := s) (h := h) hn hV hr).mpr z
    show 0 ≤ cT V s h ∧ cT V s h ≤ 10000
    omega) (by decide) q).1
  obtain ⟨r, ⟨p1, p2', p3⟩, pt⟩ := (hf c hc.1 hc.2).2 (by unfold NV; have := Int.mul_le_mul_of_nonneg_right (show V 60 2 + 1 ≤ 1000 by omega) (show (0 : Int) ≤ 43046721 by decide); omega)
  have rr : ∀ d, 0 ≤ d → d < V 9 2 → -1 ≤ r d ∧ r d ≤ 7 := fun d a b => by have := p1 d a b; omega
  have e1 := tot_vC (V := V) hn.1 rr
  have n1 := num_r (dg r rr)
  rw [← codR_8 hn] at n1
  have c1 := cn r p3
  have hw : wth V c = wR V r := wth_w (fun d a b => by rw [← p2' d a b]; have := p1 d a b; omega)
  have fr : feas V r := ⟨rr, fun h a b => (cT_lt hn hV hr).mpr (p3 h a b), by
    have z : cR V r * 43046721 + codR V r < (V 60 2 + 1) * 43046721 := by rw [← e1, pt]; exact hl
    omega⟩
  refine ⟨r, ⟨fr, fun r' q => ?_⟩, hw.symm, by rw [← pt]; exact e1, c1, rr⟩
  have o' : ∀ h, 0 ≤ h → h < 8 → okC V h (hsR r' h (V 9 2)) := fun h a b => (cT_lt hn hV hr).mp (q.2.1 h a b)
  have e2 := tot_vC (V := V) hn.1 q.1
  have n2 := num_r (dg r' q.1)
  rw [← codR_8 hn] at n2
  have w2 : wth V (don r' (V 9 2)) = wR V r' := wth_w (fun d a b => by
    rw [don_tb r' hn.1 a]
    exact ⟨fun z => ⟨b, z⟩, fun z => z.2⟩)
  have f2 := (hf _ (don_0 r' hn.1) (don_lt r' (by omega))).1 r' ⟨fun d a b => by have := q.1 d a b; omega, fun d a b => by
    rw [don_tb r' hn.1 a]
    have := q.1 d a b
    constructor
    · intro z; exact ⟨b, by omega⟩
    · intro z; have := z.2; omega, o'⟩
  have q3 := q.2.2
  rw [e2] at f2
  have := hb _ (don_0 r' hn.1) (don_lt r' (by omega)) (by omega)
  rw [w2, hw] at this
  rcases this with z | ⟨z, y⟩
  · left; exact z
  · right
    refine ⟨z, ?_⟩
    rw [← pt, e1] at y
    rcases Int.lt_or_le (cR V r) (cR V r') with w | w
    · left; exact w
    · right
      have ce : cR V r = cR V r' := by omega
      refine ⟨ce, ?_⟩
      have cc : codR V r ≤ codR V r' := by rw [ce] at y; omega
      rw [codR_8 hn, codR_8 hn] at cc
      have rbe : ∀ (s : Int → Int) (i : Int), 0 ≤ i → i < V 9 2 → rb (V 9 2) s i = s i := fun s i a b => by unfold rb; rw [if_pos ⟨a, b⟩]
      rcases num_lex (dg r rr) (dg r' q.1) cc with x | ⟨d, d0, d1, d2, d3⟩
      · left
        intro i a b
        have := x i a (by omega)
        rw [rbe r i a b, rbe r' i a b] at this
        omega
      · have dn : d < V 9 2 := by
          rcases Int.lt_or_le d (V 9 2) with k | k
          · exact k
          · exfalso
            unfold rb at d3
            rw [if_neg (by omega), if_neg (by omega)] at d3
            omega
        right
        refine ⟨d, d0, dn, fun e a b => ?_, by rw [rbe r d d0 dn, rbe r' d d0 dn] at d3; omega⟩
        have := d2 e a b
        rw [rbe r e a (by omega), rbe r' e a (by omega)] at this
        omega
def lsC (V M : ax_M) (u : Int) : Int := if nD u (hopD V (V 9 2)) = 0 then M 27 u else NV
theorem nD_sub {u t A : Int} (hu : 0 ≤ u) (h : nD u A = 0) : nD (nD u t) A = 0 := (nD_z (nD_le u t hu).1).mpr (fun k hk e => by
  rw [tb_nD, Bool.and_eq_true] at e
  exact (nD_z hu).mp h k hk e.1)
theorem vC_r {V : ax_M} (hn : 0 ≤ V 9 2 ∧ V 9 2 ≤ 8) (hV : ∀ p, 0 ≤ p → p < 8 → 0 ≤ V 57 p ∧ V 57 p ≤ 99) (hr : 0 ≤ V 60 0 ∧ V 60 0 ≤ 999) : ∀ h s, 0 ≤ h → h < 8 → okC V h s → 0 ≤ vC V h s ∧ vC V h s ≤ 430773320016 := fun h s a b q => by
  have c := cT_r (V := V) (set := s) (h := h) hn hV hr
  have c2 := (cT_lt (set := s) (h := h) hn hV hr).mpr q
  have w := wtC_r (h := h) (t := s) (n := V 9 2) (by omega) hn.1
  have m := mulB (a := cT V s h) (b := RW) (A := 10000) (B := 43046721) (by omega) (by decide)
  unfold vC
  omega
theorem ls_step {V M1 M2 : ax_M} {h : Int} (hn : 0 ≤ V 9 2 ∧ V 9 2 ≤ 8) (hV : ∀ p, 0 ≤ p → p < 8 → 0 ≤ V 57 p ∧ V 57 p ≤ 99) (hr : 0 ≤ V 60 0 ∧ V 60 0 ≤ 999) (hh : 0 ≤ h ∧ h < 8) (hf : isLs (V 9 2) (vC V) (okC V) NV h (lsC V M1))
    (hg : ∀ u, 0 ≤ u → u < 256 → nD u (hopD V (V 9 2)) = 0 → gC V h (M1 27) (M2 27 u) u (hopD V (V 9 2) + 1)) : isLs (V 9 2) (vC V) (okC V) NV (h + 1) (lsC V M2) := by
  have N256 : p2 (V 9 2) ≤ 256 := by have := p2_le (a := V 9 2) (b := 8) hn.2; have e : p2 8 = 256 := rfl; omega
  have A0 := (hop_r V hn).1
  refine ls_s (B := 430773320016) (by omega) hh (by decide) (vC_r hn hV hr) hf (fun u t a b c d e f => ?_) (fun u a b c => ?_)
  · by_cases q : nD u (hopD V (V 9 2)) = 0
    · have f2 : lsC V M1 (nD u t) = M1 27 (nD u t) := if_pos (nD_sub a q)
      rw [f2] at f ⊢
      have tA := sub_le A0 c (fun k hk x => (nD_z a).mp q k hk (d k hk x))
      rw [show lsC V M2 u = M2 27 u from if_pos q]
      exact (hg u a (by omega) q).1 t c (by omega) d e f
    · exfalso
      apply q
      have tl : t < p2 (V 9 2) := by have := sub_le a c d; omega
      have t1 := ok_hop hn.1 (by omega) ⟨c, tl⟩ e
      have t2 : nD (nD u t) (hopD V (V 9 2)) = 0 := by
        by_cases z : nD (nD u t) (hopD V (V 9 2)) = 0
        · exact z
        · rw [show lsC V M1 (nD u t) = NV from if_neg z] at f
          omega
      refine (nD_z a).mpr (fun k hk x => ?_)
      cases y : tb t k with
      | true => exact (nD_z c).mp t1 k hk y
      | false => exact (nD_z (nD_le u t a).1).mp t2 k hk (by rw [tb_nD, x, y]; rfl)
  · by_cases q : nD u (hopD V (V 9 2)) = 0
    · rw [show lsC V M2 u = M2 27 u from if_pos q] at c ⊢
      obtain ⟨t, t0, t1, t2, t3, t4⟩ := (hg u a (by omega) q).2 c
      have f2 : lsC V M1 (nD u t) = M1 27 (nD u t) := if_pos (nD_sub a q)
      exact ⟨t, t0, t1, t2, by rw [f2]; exact t3, by rw [f2]; exact t4⟩
    · rw [show lsC V M2 u = NV from if_neg q] at c
      omega
theorem wof_eq {V M : ax_M} {t : Int} (h : AgC V M) : wof M t = wth V t := by
  unfold wof wth
  rw [h.1]
  unfold itI
  exact itI_cg _ (fun i x a b => by rw [(h.2.1 i a (by omega)).2.2.2.1])
def RPl (V M : ax_M) : Prop := M 4 1 = mW V ∧ M 4 2 = mC V ∧ ∀ d, 0 ≤ d → d < V 9 2 → M 26 d = mstR V d
def exW (k : Nat) (i : Int) : Bool := decide (k = 26 ∨ k = 4 ∧ (i = 1 ∨ i = 2))
theorem exW_Q (k : Nat) (i : Int) (h : exQ k i = false) : exW k i = false := by
  unfold exQ at h
  have h := of_decide_eq_false h
  exact decide_eq_false (by omega)
