/-! MOST: of plans within the PURSE the greatest worth, the least cost, the least row -/
def lxl (n : Int) (r r' : Int → Int) : Prop := (∀ d, 0 ≤ d → d < n → r d = r' d) ∨ ∃ d, 0 ≤ d ∧ d < n ∧ (∀ e, 0 ≤ e → e < d → r e = r' e) ∧ r d < r' d
def IsMost (V : ax_M) (r : Int → Int) : Prop := feas V r ∧ ∀ r', feas V r' → wR V r' < wR V r ∨ wR V r' = wR V r ∧ (cR V r < cR V r' ∨ cR V r = cR V r' ∧ lxl (V 9 2) r r')
theorem most_u {V : ax_M} {r r' : Int → Int} (h : IsMost V r) (h' : IsMost V r') : (∀ d, 0 ≤ d → d < V 9 2 → r d = r' d) ∧ wR V r = wR V r' ∧ cR V r = cR V r' := by
  have a := h.2 r' h'.1
  have b := h'.2 r h.1
  have w : wR V r = wR V r' := by omega
  have c : cR V r = cR V r' := by omega
  refine ⟨?_, w, c⟩
  have l1 : lxl (V 9 2) r r' := by
    rcases a with a | ⟨-, a | a⟩
    · omega
    · omega
    · exact a.2
  have l2 : lxl (V 9 2) r' r := by
    rcases b with b | ⟨-, b | b⟩
    · omega
    · omega
    · exact b.2
  rcases l1 with l1 | ⟨d, d0, d1, d2, d3⟩
  · exact l1
  · rcases l2 with l2 | ⟨e, e0, e1, e2, e3⟩
    · exact fun k k0 k1 => (l2 k k0 k1).symm
    · exfalso
      rcases Int.lt_or_le d e with q | q
      · have := e2 d d0 q; omega
      · rcases Int.lt_or_eq_of_le q with q | q
        · have := d2 e e0 q; omega
        · subst q; omega
noncomputable def mstR (V : ax_M) : Int → Int := Classical.epsilon (IsMost V)
noncomputable def mW (V : ax_M) : Int := wR V (mstR V)
noncomputable def mC (V : ax_M) : Int := cR V (mstR V)
theorem mst_eq {V : ax_M} {r : Int → Int} (h : IsMost V r) : (∀ d, 0 ≤ d → d < V 9 2 → r d = mstR V d) ∧ wR V r = mW V ∧ cR V r = mC V := most_u h (Classical.epsilon_spec (p := IsMost V) ⟨r, h⟩)
theorem hsR_c2 {r r' : Int → Int} {h n : Int} (hn : 0 ≤ n) (e : ∀ d, 0 ≤ d → d < n → r d = r' d) : hsR r h n = hsR r' h n := hsR_cg hn (fun d a b => by rw [e d a b])
theorem cR_cg {V : ax_M} {r r' : Int → Int} (hn : 0 ≤ V 9 2) (e : ∀ d, 0 ≤ d → d < V 9 2 → r d = r' d) : cR V r = cR V r' := tot_cg (fun h _ _ => hsR_c2 hn e)
theorem wR_cg {V : ax_M} {r r' : Int → Int} (e : ∀ d, 0 ≤ d → d < V 9 2 → r d = r' d) : wR V r = wR V r' := by
  unfold wR itI
  refine itI_cg _ (fun i x h0 h1 => ?_)
  rw [e i h0 (by omega)]
theorem feas_cg {V : ax_M} {r r' : Int → Int} (hn : 0 ≤ V 9 2) (e : ∀ d, 0 ≤ d → d < V 9 2 → r d = r' d) (h : feas V r) : feas V r' := by
  refine ⟨fun d a b => by rw [← e d a b]; exact h.1 d a b, fun k a b => by rw [← hsR_c2 hn e]; exact h.2.1 k a b, by rw [← cR_cg hn e]; exact h.2.2⟩
theorem cT_0 {V : ax_M} (h : Int) (hn : 0 ≤ V 9 2) : cT V 0 h = 0 := by
  unfold cT
  have ok : okT V 0 h = true := allB_t hn (fun d _ _ => okD_n (tb_0 d))
  rw [if_pos ok]
  have s : sT V 0 h (V 9 2) = 0 := itI_inv (fun _ x => x = 0) hn rfl (fun i x _ _ q => by
    show x + (if tb 0 i = true then _ else 0) = 0
    rw [tb_0, q]; rfl)
  have t : tT V 0 h (V 9 2) = false := by
    unfold tT
    rw [allB_t hn (fun d _ _ => by rw [tb_0]; rfl)]
    rfl
  rw [s, t]
  rfl
theorem none_feas {V : ax_M} (hn : 0 ≤ V 9 2) (hp : 0 ≤ V 60 2) : feas V (fun _ => -1) ∧ wR V (fun _ => -1) = 0 := by
  have e : ∀ h, 0 ≤ h → hsR (fun _ => -1) h (V 9 2) = 0 := fun h h0 => tb_ext (hsR_0 _ _ _ hn) (by omega) (fun k hk => by
    rw [tb_0]
    cases q : tb (hsR (fun _ => -1) h (V 9 2)) k with
    | false => rfl
    | true =>
      have z := ((hsR_tb _ h hn hk).mp q).2
      exact absurd z (by show ¬ (-1 : Int) = h; omega))
  refine ⟨⟨fun d _ _ => (by show -1 ≤ (-1 : Int) ∧ (-1 : Int) ≤ 7; omega), fun h h0 h1 => by rw [e h h0, cT_0 h hn]; omega, ?_⟩, ?_⟩
  · have : cR V (fun _ => -1) = 0 := itI_inv (fun _ x => x = 0) (by decide) rfl (fun i x a _ q => by
      show x + cT V (hsR (fun _ => -1) i (V 9 2)) i = 0
      rw [e i a, cT_0 i hn, q]; rfl)
    omega
  · exact itI_inv (fun _ x => x = 0) hn rfl (fun i x a _ q => by
      show x + (if (-1 : Int) = -1 then 0 else _) = 0
      rw [if_pos rfl, q]; rfl)
def PX (V : ax_M) (fx : Int → Int) (d pw pc : Int) : Prop := (∀ r, feas V r → wR V r < pw ∨ wR V r = pw ∧ pc ≤ cR V r) ∧ (∃ r, feas V r ∧ wR V r = pw ∧ cR V r = pc ∧ agr fx d r) ∧ (∀ r, feas V r → wR V r = pw → cR V r = pc → agr fx d r ∨ ∃ e, 0 ≤ e ∧ e < d ∧ agr fx e r ∧ fx e < r e) ∧ (∀ e, 0 ≤ e → e < d → -1 ≤ fx e ∧ fx e ≤ 7) ∧ 0 ≤ pw
def JX (V : ax_M) (fx : Int → Int) (d pw pc : Int) : Prop := ∀ r, feas V r → wR V r = pw → cR V r = pc → agr fx d r → fx d ≤ r d
theorem PX_cg {V : ax_M} {fx fy : Int → Int} {d pw pc : Int} (e : ∀ k, 0 ≤ k → k < d → fx k = fy k) (h : PX V fx d pw pc) : PX V fy d pw pc := by
  have ag : ∀ m, m ≤ d → ∀ r, agr fx m r ↔ agr fy m r := fun m hm r => ⟨fun q k a b => by rw [← e k a (by omega)]; exact q k a b, fun q k a b => by rw [e k a (by omega)]; exact q k a b⟩
  obtain ⟨h1, ⟨r, r1, r2, r3, r4⟩, h3, h4, h5⟩ := h
  refine ⟨h1, ⟨r, r1, r2, r3, (ag d (by omega) r).mp r4⟩, fun r a b c => ?_, fun k a b => by rw [← e k a b]; exact h4 k a b, h5⟩
  rcases h3 r a b c with q | ⟨k, k0, k1, k2, k3⟩
  · exact Or.inl ((ag d (by omega) r).mp q)
  · exact Or.inr ⟨k, k0, k1, (ag k (by omega) r).mp k2, by rw [← e k k0 k1]; exact k3⟩
theorem JX_cg {V : ax_M} {fx fy : Int → Int} {d pw pc : Int} (e : ∀ k, 0 ≤ k → k ≤ d → fx k = fy k) (hd : 0 ≤ d) (h : JX V fx d pw pc) : JX V fy d pw pc := fun r a b c q => by
  rw [← e d hd (by omega)]
  exact h r a b c (fun k k0 k1 => by rw [e k k0 (by omega)]; exact q k k0 k1)
theorem PX_0 {V : ax_M} {fx : Int → Int} {pw pc : Int} (hn : 0 ≤ V 9 2) (hp : 0 ≤ V 60 2) (h : BestP V fx 0 pw pc) : PX V fx 0 pw pc := by
  obtain ⟨n1, n2⟩ := none_feas hn hp
  have ag : ∀ r, agr fx 0 r := fun r k a b => by omega
  have mx := fun r hr => h.2 r hr (ag r)
  refine ⟨mx, ?_, fun r _ _ _ => Or.inl (ag r), fun e a b => by omega, ?_⟩
  · rcases h.1 with ⟨a, b, c⟩ | ⟨r, a, b, c, e⟩
    · exact absurd (ag _) (c _ n1)
    · exact ⟨r, a, c, e, b⟩
  · have := mx _ n1
    omega
theorem JX_0 {V : ax_M} {fx : Int → Int} {d pw pc : Int} (hd : 0 ≤ d ∧ d < V 9 2) (h : fx d = -1) : JX V fx d pw pc := fun r a _ _ _ => by
  rw [h]
  exact (a.1 d hd.1 hd.2).1
theorem PX_s {V : ax_M} {fx : Int → Int} {d pw pc : Int} (hx : -1 ≤ fx d ∧ fx d ≤ 7) (hd : 0 ≤ d) (h : PX V fx d pw pc) (hj : JX V fx d pw pc) (hb : BestP V fx (d + 1) pw pc) : PX V fx (d + 1) pw pc := by
  obtain ⟨h1, h2, h3, h4, h5⟩ := h
  refine ⟨h1, ?_, fun r a b c => ?_, fun e a b => ?_, h5⟩
  · rcases hb.1 with ⟨a, -⟩ | ⟨r, a, b, c, e⟩
    · omega
    · exact ⟨r, a, c, e, b⟩
  · rcases h3 r a b c with q | ⟨k, k0, k1, k2⟩
    · have := hj r a b c q
      rcases Int.lt_or_eq_of_le this with z | z
      · exact Or.inr ⟨d, hd, by omega, q, z⟩
      · left
        intro k k0 k1
        rcases Int.lt_or_eq_of_le (show k ≤ d by omega) with y | y
        · exact q k k0 y
        · rw [y]; exact z.symm
    · exact Or.inr ⟨k, k0, by omega, k2⟩
  · rcases Int.lt_or_eq_of_le (show e ≤ d by omega) with y | y
    · exact h4 e a y
    · rw [y]; exact hx
theorem JX_s {V : ax_M} {fx : Int → Int} {d pw pc bw bc : Int} (hd : 0 ≤ d ∧ d < V 9 2) (h : PX V fx d pw pc) (hj : JX V fx d pw pc) (hb : BestP V fx (d + 1) bw bc) (hne : ¬ (bw = pw ∧ bc = pc)) : (∀ r, feas V r → wR V r = pw → cR V r = pc → agr fx d r → fx d + 1 ≤ r d) ∧ fx d + 1 ≤ 7 := by
  have key : ∀ r, feas V r → wR V r = pw → cR V r = pc → agr fx d r → fx d + 1 ≤ r d := by
    intro r a b c q
    have z := hj r a b c q
    rcases Int.lt_or_eq_of_le z with y | y
    · omega
    · exfalso
      have ag : agr fx (d + 1) r := fun k k0 k1 => by
        rcases Int.lt_or_eq_of_le (show k ≤ d by omega) with w | w
        · exact q k k0 w
        · rw [w]; exact y.symm
      have m1 := hb.2 r a ag
      rcases hb.1 with ⟨-, -, n1⟩ | ⟨r2, s1, s2, s3, s4⟩
      · exact n1 r a ag
      · have m2 := h.1 r2 s1
        omega
  obtain ⟨r, r1, r2, r3, r4⟩ := h.2.1
  have := key r r1 r2 r3 r4
  have := (r1.1 d hd.1 hd.2).2
  exact ⟨key, by omega⟩
theorem PX_n {V : ax_M} {fx : Int → Int} {pw pc : Int} (hn : 0 ≤ V 9 2) (h : PX V fx (V 9 2) pw pc) : IsMost V fx ∧ wR V fx = pw ∧ cR V fx = pc := by
  obtain ⟨h1, ⟨r, r1, r2, r3, r4⟩, h3, h4, h5⟩ := h
  have f := feas_cg hn r4 r1
  have w := wR_cg r4
  have c := cR_cg hn r4
  refine ⟨⟨f, fun r' q => ?_⟩, by omega, by omega⟩
  rcases h1 r' q with a | ⟨a, b⟩
  · left; omega
  · right
    refine ⟨by omega, ?_⟩
    rcases Int.lt_or_eq_of_le b with y | y
    · left; omega
    · right
      refine ⟨by omega, ?_⟩
      rcases h3 r' q a y.symm with z | ⟨e, e0, e1, e2, e3⟩
      · exact Or.inl (fun k k0 k1 => (z k k0 k1).symm)
      · exact Or.inr ⟨e, e0, e1, fun k k0 k1 => (e2 k k0 k1).symm, e3⟩
noncomputable def vMost (S : ax_M) (w : Int) : Int := if 0 ≤ w ∧ w ≤ 1 then (if w = 0 then mW (vw S) else mC (vw S)) else -2
noncomputable def vWhen (S : ax_M) (d : Int) : Int := if isD S d then mstR (vw S) d else -2
def wrN (S : ax_M) (s : Int) : Int := if S 72 s < vw S 9 2 then S 72 s else vw S 9 2
noncomputable def wrS (S : ax_M) (s n : Int) : ax_M := itI (fun d S1 => kpS S1 s d (mstR (vw S) d)) S n
def vWrit (S : ax_M) (s : Int) : Int := if 0 ≤ s ∧ s ≤ 3 then (if S 70 s = 0 then -10 - 1 else wrN S s) else -2
noncomputable def sWrit (S : ax_M) (s : Int) : ax_M := if 0 ≤ s ∧ s ≤ 3 then (if S 70 s = 0 then mee S 1 else wrS S s (wrN S s)) else S
theorem wrS_ne {S : ax_M} {s n : Int} (hn : 0 ≤ n) {k : Nat} (hk : k ≠ 73) : wrS S s n k = S k := by
  unfold wrS
  refine itI_inv (fun (i : Int) (x : ax_M) => x k = S k) hn rfl (fun i x h0 h1 q => ?_)
  show ms x 73 _ _ k = S k
  rw [ms_ne hk, q]
theorem rel_L (V : ax_M) (k : Nat) (i : Int) (r : relM V k i) : (decide (61 ≤ k ∧ k ≤ 64 ∨ k = 9 ∧ (i = 22 ∨ i = 23 ∨ i = 24 ∨ i = 25))) = false := by
  unfold relM at r
  split at r <;> first | exact decide_eq_false (by omega) | exact False.elim r
def exM (k : Nat) (i : Int) : Bool := decide (61 ≤ k ∧ k ≤ 64 ∨ k = 9 ∧ (i = 22 ∨ i = 23 ∨ i = 24 ∨ i = 25))
theorem isB_M (k : Nat) (i : Int) (h : isB k i = true) : exM k i = false := by
  unfold isB at h
  unfold exM
  replace h := of_decide_eq_true h
  exact decide_eq_false (by omega)
theorem exM_L (k : Nat) (i : Int) (h : exL k i = false) : exM k i = false := by
  unfold exL at h
  unfold exM
  replace h := of_decide_eq_false h
  exact decide_eq_false (by omega)
theorem exB_M (k : Nat) (i : Int) (h : exM k i = false) : exB k i = false := by
  unfold exM at h
  unfold exB
  replace h := of_decide_eq_false h
  exact decide_eq_false (by omega)
theorem rd_M {S M M2 : ax_M} (h : rdM S M) (hf : frm exM M M2) : rdM S M2 := rdM_fr h hf (rel_L (vw S)) isB_M
