/-! DEEDS, byte by byte: the state behind the first i bytes of a text -/
def q0 : ax_M := fun k i => if k = 0 ∧ i = 7 then -1 else if k = 0 ∧ i = 10 then -1 else if k = 5 ∧ i = 2 then -1 else if k = 5 ∧ i = 9 then -1 else 0
def dq (t : Int → Int) (i : Int) : ax_M := itI (fun i q => tkD q (t i)) q0 i
theorem dq_s (t : Int → Int) {i : Int} (h : 0 ≤ i) : dq t (i + 1) = tkD (dq t i) (t i) := itI_s _ _ h
theorem dq_cg {t t' : Int → Int} {n : Int} (h : ∀ i, 0 ≤ i → i < n → t i = t' i) : dq t n = dq t' n := by
  unfold dq itI
  exact itI_cg _ (fun i x h0 h1 => by rw [h i h0 (by omega)])
theorem tkD_10 (q : ax_M) (b : Int) : tkD q b 10 = tk1 q b 10 := rfl
theorem tkD_11 (q : ax_M) (b : Int) : tkD q b 11 = tk1 q b 11 := rfl
theorem tkD_12 (q : ax_M) (b : Int) : tkD q b 12 = tk1 q b 12 := rfl
theorem tkD_13 (q : ax_M) (b : Int) : tkD q b 13 = tk1 q b 13 := rfl
theorem tkD_14 (q : ax_M) (b : Int) : tkD q b 14 = tk1 q b 14 := rfl
theorem tkD_now (q : ax_M) (b : Int) : tkD q b 0 8 = tk1 q b 0 8 := rfl
theorem tkD_st (q : ax_M) (b : Int) : tkD q b 0 9 = tk1 q b 0 9 := rfl
theorem tkD_br (q : ax_M) (b : Int) : tkD q b 0 10 = tk1 q b 0 10 := rfl
theorem tkD_by (q : ax_M) (b : Int) : tkD q b 0 5 = q 0 5 + 1 := by
  show tk1 q b 0 5 + 1 = _
  rw [tk1_5]
theorem tkD_fl (q : ax_M) (b : Int) : tkD q b 0 7 = (if tk1 q b 0 10 ≠ -1 ∨ tk1 q b 0 8 < 8 ∧ tk1 q b 0 9 = 4 ∧ tk1 q b 14 (tk1 q b 0 8) ≠ 0 then tk1 q b 0 10 else q 0 5 + 1) := by
  show (if tk1 q b 0 10 ≠ -1 ∨ tk1 q b 0 8 < 8 ∧ tk1 q b 0 9 = 4 ∧ tk1 q b 14 (tk1 q b 0 8) ≠ 0 then tk1 q b 0 10 else tk1 q b 0 5 + 1) = _
  rw [tk1_5]
theorem tkD_sz (q : ax_M) (b : Int) : tkD q b 0 6 = (if tkD q b 0 7 = -1 then tk1 q b 0 8 + 1 else 0) := rfl
theorem goM_br (q : ax_M) (b : Int) : goM q b 0 10 = q 0 10 := by
  unfold goM tiM twM
  repeat (first | rfl | split)
theorem dq_by (t : Int → Int) {i : Int} (h : 0 ≤ i) : dq t i 0 5 = i := itI_inv (fun (i : Int) (q : ax_M) => q 0 5 = i) h rfl (fun i q h0 h1 w => by rw [tkD_by, w])
/-- broken once, it stays so -/
theorem dq_brk (t : Int → Int) {f n : Int} (h0 : 0 ≤ f) (h1 : f < n) (hu : dq t f 0 10 = -1) (hg : goB (dq t f) (t f) = false) : dq t n 0 10 = f ∧ dq t n 0 7 = f ∧ dq t n 0 6 = 0 := by
  have key : ∀ m : Nat, dq t (f + 1 + m) 0 10 = f ∧ dq t (f + 1 + m) 0 7 = f ∧ dq t (f + 1 + m) 0 6 = 0 := by
    intro m
    have e1 : tk1 (dq t f) (t f) 0 10 = f := by
      unfold tk1
      rw [if_pos hu, if_neg (by rw [hg]; decide)]
      show goM (dq t f) (t f) 0 5 = f
      rw [goM_5, dq_by t h0]
    have fin : ∀ (q : ax_M) (b : Int), tk1 q b 0 10 = f → tkD q b 0 10 = f ∧ tkD q b 0 7 = f ∧ tkD q b 0 6 = 0 := by
      intro q b w
      have w7 : tkD q b 0 7 = f := by
        rw [tkD_fl, if_pos (Or.inl (by rw [w]; omega)), w]
      exact ⟨by rw [tkD_br, w], w7, by rw [tkD_sz, if_neg (by rw [w7]; omega)]⟩
    induction m with
    | zero =>
      rw [show f + 1 + ((0 : Nat) : Int) = f + 1 by omega, dq_s t h0]
      exact fin _ _ e1
    | succ m ih =>
      rw [show f + 1 + ((m + 1 : Nat) : Int) = (f + 1 + m) + 1 by omega, dq_s t (by omega)]
      refine fin _ _ ?_
      unfold tk1
      rw [if_neg (by rw [ih.1]; omega)]
      exact ih.1
  have := key (n - f - 1).toNat
  rw [show f + 1 + (((n - f - 1).toNat : Nat) : Int) = n by omega] at this
  exact this
/-- the end of a text that went well so far -/
theorem dq_end (t : Int → Int) {n : Int} (h : 1 ≤ n) (hu : dq t n 0 10 = -1) : (dq t n 0 8 < 8 ∧ dq t n 0 9 = 4 ∧ dq t n 14 (dq t n 0 8) ≠ 0 → dq t n 0 7 = -1 ∧ dq t n 0 6 = dq t n 0 8 + 1) ∧ (¬ (dq t n 0 8 < 8 ∧ dq t n 0 9 = 4 ∧ dq t n 14 (dq t n 0 8) ≠ 0) → dq t n 0 7 = n ∧ dq t n 0 6 = 0) := by
  obtain ⟨m, rfl⟩ : ∃ m, n = m + 1 := ⟨n - 1, by omega⟩
  have hb := dq_by t (i := m) (by omega)
  rw [dq_s t (by omega)] at hu ⊢
  generalize dq t m = q at hu hb ⊢
  generalize t m = b at hu ⊢
  rw [tkD_br] at hu
  have hfl := tkD_fl q b
  have hsz := tkD_sz q b
  rw [tkD_now, tkD_st, tkD_14]
  constructor
  · intro w
    rw [if_pos (Or.inr w), hu] at hfl
    rw [if_pos hfl] at hsz
    exact ⟨hfl, hsz⟩
  · intro w
    rw [if_neg (by rintro (z | z); exact z hu; exact w z), hb] at hfl
    rw [if_neg (by omega)] at hsz
    exact ⟨hfl, hsz⟩
theorem tk1_go {q : ax_M} {b : Int} (hu : q 0 10 = -1) (hg : goB q b = true) : tk1 q b = goM q b := by
  unfold tk1
  rw [if_pos hu, if_pos hg]
/-- what the reference's rows have of it: the first m deeds -/
def agD (q M : ax_M) (m : Int) : Prop := ∀ d, 0 ≤ d → d < m → M 47 d = q 10 d ∧ M 48 d = q 11 d ∧ M 49 d = q 12 d ∧ M 50 d = q 13 d ∧ M 51 d = q 14 d ∧ q 14 d ≠ 0
theorem st0 {q : ax_M} {b : Int} (hu : q 0 10 = -1) (h8 : q 0 8 < 8) (h9 : q 0 9 = 0) : goB q b = decide (kV b ≠ -1) ∧ (kV b ≠ -1 → tk1 q b = ms (ms (ms q 14 (q 0 8) 0) 10 (q 0 8) (kV b)) 0 9 1) := by
  have g : goB q b = decide (kV b ≠ -1) := by
    unfold goB
    rw [if_neg (by omega), if_pos h9]
  refine ⟨g, fun hk => ?_⟩
  rw [tk1_go hu (by rw [g, decide_eq_true hk])]
  unfold goM tiM
  rw [if_neg (by omega), if_pos h9, if_neg hk]
  show ms (ms (ms q 14 (q 0 8) 0) 10 (q 0 8) (kV b)) 0 9 (q 0 9 + 1) = _
  rw [h9]
  rfl
theorem st1 {q : ax_M} {b : Int} (hu : q 0 10 = -1) (h8 : q 0 8 < 8) (h9 : q 0 9 = 1) : goB q b = decide (fgV b 0 5 ≠ -1) ∧ (fgV b 0 5 ≠ -1 → tk1 q b = ms (ms q 11 (q 0 8) (fgV b 0 5)) 0 9 2) := by
  have g : goB q b = decide (fgV b 0 5 ≠ -1) := by
    unfold goB
    rw [if_neg (by omega), if_neg (by omega), if_pos h9]
  refine ⟨g, fun hk => ?_⟩
  rw [tk1_go hu (by rw [g, decide_eq_true hk])]
  unfold goM tiM
  rw [if_neg (by omega), if_neg (by omega), if_pos h9, if_neg hk]
  show ms (ms q 11 (q 0 8) (fgV b 0 5)) 0 9 (q 0 9 + 1) = _
  rw [h9]
  rfl
theorem st2 {q : ax_M} {b : Int} (hu : q 0 10 = -1) (h8 : q 0 8 < 8) (h9 : q 0 9 = 2) : goB q b = decide (wtV b ≠ -1) ∧ (wtV b ≠ -1 → tk1 q b = ms (ms q 12 (q 0 8) (wtV b)) 0 9 3) := by
  have g : goB q b = decide (wtV b ≠ -1) := by
    unfold goB
    rw [if_neg (by omega), if_neg (by omega), if_neg (by omega), if_pos h9]
  refine ⟨g, fun hk => ?_⟩
  rw [tk1_go hu (by rw [g, decide_eq_true hk])]
  unfold goM tiM
  rw [if_neg (by omega), if_neg (by omega), if_neg (by omega), if_pos h9, if_neg hk]
  show ms (ms q 12 (q 0 8) (wtV b)) 0 9 (q 0 9 + 1) = _
  rw [h9]
  rfl
theorem st3 {q : ax_M} {b : Int} (hu : q 0 10 = -1) (h8 : q 0 8 < 8) (h9 : q 0 9 = 3) : goB q b = decide (fgV b 1 9 ≠ -1) ∧ (fgV b 1 9 ≠ -1 → tk1 q b = ms (ms q 13 (q 0 8) (fgV b 1 9)) 0 9 4) := by
  have g : goB q b = decide (fgV b 1 9 ≠ -1) := by
    unfold goB
    rw [if_neg (by omega), if_neg (by omega), if_neg (by omega), if_neg (by omega), if_pos h9]
  refine ⟨g, fun hk => ?_⟩
  rw [tk1_go hu (by rw [g, decide_eq_true hk])]
  unfold goM tiM
  rw [if_neg (by omega), if_neg (by omega), if_neg (by omega), if_neg (by omega), if_pos h9, if_neg hk]
  show ms (ms q 13 (q 0 8) (fgV b 1 9)) 0 9 (q 0 9 + 1) = _
  rw [h9]
  rfl
theorem st4 {q : ax_M} {b : Int} (hu : q 0 10 = -1) (h8 : q 0 8 < 8) (h9 : q 0 9 = 4) : goB q b = twB q b ∧ (twB q b = true → tk1 q b = twM q b) := by
  have g : goB q b = twB q b := by
    unfold goB
    rw [if_neg (by omega), if_neg (by omega), if_neg (by omega), if_neg (by omega), if_neg (by omega)]
  refine ⟨g, fun hk => ?_⟩
  rw [tk1_go hu (by rw [g, hk])]
  unfold goM
  rw [if_neg (by omega), if_neg (by omega), if_neg (by omega), if_neg (by omega), if_neg (by omega)]
/-- a deed's first four bytes, read well -/
theorem dq_head (t : Int → Int) {a n : Int} (h0 : 0 ≤ a) (hu : dq t a 0 10 = -1) (h8 : dq t a 0 8 = n) (hn : n < 8) (h9 : dq t a 0 9 = 0) (k0 : kV (t a) ≠ -1) :
    (dq t (a + 1) 0 10 = -1 ∧ dq t (a + 1) 0 9 = 1 ∧ goB (dq t (a + 1)) (t (a + 1)) = decide (fgV (t (a + 1)) 0 5 ≠ -1)) ∧ (fgV (t (a + 1)) 0 5 ≠ -1 → (dq t (a + 2) 0 10 = -1 ∧ dq t (a + 2) 0 9 = 2 ∧ goB (dq t (a + 2)) (t (a + 2)) = decide (wtV (t (a + 2)) ≠ -1)) ∧ (wtV (t (a + 2)) ≠ -1 → (dq t (a + 3) 0 10 = -1 ∧ dq t (a + 3) 0 9 = 3 ∧ goB (dq t (a + 3)) (t (a + 3)) = decide (fgV (t (a + 3)) 1 9 ≠ -1)) ∧ (fgV (t (a + 3)) 1 9 ≠ -1 →
      dq t (a + 4) 0 10 = -1 ∧ dq t (a + 4) 0 8 = n ∧ dq t (a + 4) 0 9 = 4 ∧ (∀ d, dq t (a + 4) 10 d = if d = n then kV (t a) else dq t a 10 d) ∧ (∀ d, dq t (a + 4) 11 d = if d = n then fgV (t (a + 1)) 0 5 else dq t a 11 d) ∧ (∀ d, dq t (a + 4) 12 d = if d = n then wtV (t (a + 2)) else dq t a 12 d) ∧ (∀ d, dq t (a + 4) 13 d = if d = n then fgV (t (a + 3)) 1 9 else dq t a 13 d) ∧ (∀ d, dq t (a + 4) 14 d = if d = n then 0 else dq t a 14 d)))) := by
  have e1 := dq_s t h0
  have e2 := dq_s t (i := a + 1) (by omega)
  have e3 := dq_s t (i := a + 2) (by omega)
  have e4 := dq_s t (i := a + 3) (by omega)
  rw [show a + 1 + 1 = a + 2 by omega] at e2
  rw [show a + 2 + 1 = a + 3 by omega] at e3
  rw [show a + 3 + 1 = a + 4 by omega] at e4
  obtain ⟨g0, s0⟩ := st0 (b := t a) hu (by omega) h9
  have s0 := s0 k0
  have u1 : dq t (a + 1) 0 10 = -1 := by rw [e1, tkD_br, s0]; exact hu
  have n1 : dq t (a + 1) 0 8 = n := by rw [e1, tkD_now, s0]; exact h8
  have p1 : dq t (a + 1) 0 9 = 1 := by rw [e1, tkD_st, s0]; rfl
  obtain ⟨g1, s1⟩ := st1 (b := t (a + 1)) u1 (by omega) p1
  refine ⟨⟨u1, p1, g1⟩, fun k1 => ?_⟩
  have s1 := s1 k1
  have u2 : dq t (a + 2) 0 10 = -1 := by rw [e2, tkD_br, s1]; exact u1
  have n2 : dq t (a + 2) 0 8 = n := by rw [e2, tkD_now, s1]; exact n1
  have p2' : dq t (a + 2) 0 9 = 2 := by rw [e2, tkD_st, s1]; rfl
  obtain ⟨g2, s2⟩ := st2 (b := t (a + 2)) u2 (by omega) p2'
  refine ⟨⟨u2, p2', g2⟩, fun k2 => ?_⟩
  have s2 := s2 k2
  have u3 : dq t (a + 3) 0 10 = -1 := by rw [e3, tkD_br, s2]; exact u2
  have n3 : dq t (a + 3) 0 8 = n := by rw [e3, tkD_now, s2]; exact n2
  have p3 : dq t (a + 3) 0 9 = 3 := by rw [e3, tkD_st, s2]; rfl
  obtain ⟨g3, s3⟩ := st3 (b := t (a + 3)) u3 (by omega) p3
  refine ⟨⟨u3, p3, g3⟩, fun k3 => ?_⟩
  have s3 := s3 k3
  refine ⟨by rw [e4, tkD_br, s3]; exact u3, by rw [e4, tkD_now, s3]; exact n3, by rw [e4, tkD_st, s3]; rfl, fun d => ?_, fun d => ?_, fun d => ?_, fun d => ?_, fun d => ?_⟩
  · rw [e4, tkD_10, s3]; show dq t (a + 3) 10 d = _
    rw [e3, tkD_10, s2]; show dq t (a + 2) 10 d = _
    rw [e2, tkD_10, s1]; show dq t (a + 1) 10 d = _
    rw [e1, tkD_10, s0]
    simp [ms, h8]
  · rw [e4, tkD_11, s3]; show dq t (a + 3) 11 d = _
    rw [e3, tkD_11, s2]; show dq t (a + 2) 11 d = _
    rw [e2, tkD_11, s1]
    have w : dq t (a + 1) 11 d = dq t a 11 d := by rw [e1, tkD_11, s0]; rfl
    simp [ms, n1, w]
  · rw [e4, tkD_12, s3]; show dq t (a + 3) 12 d = _
    rw [e3, tkD_12, s2]
    have w : dq t (a + 2) 12 d = dq t a 12 d := by
      rw [e2, tkD_12, s1]; show dq t (a + 1) 12 d = _
      rw [e1, tkD_12, s0]; rfl
    simp [ms, n2, w]
  · rw [e4, tkD_13, s3]
    have w : dq t (a + 3) 13 d = dq t a 13 d := by
      rw [e3, tkD_13, s2]; show dq t (a + 2) 13 d = _
      rw [e2, tkD_13, s1]; show dq t (a + 1) 13 d = _
      rw [e1, tkD_13, s0]; rfl
    simp [ms, n3, w]
  · rw [e4, tkD_14, s3]; show dq t (a + 3) 14 d = _
    rw [e3, tkD_14, s2]; show dq t (a + 2) 14 d = _
    rw [e2, tkD_14, s1]; show dq t (a + 1) 14 d = _
    rw [e1, tkD_14, s0]
    simp [ms, h8]
/-- a letter of one who was there -/
theorem dq_who (t : Int → Int) {a n : Int} (h0 : 0 ≤ a) (hu : dq t a 0 10 = -1) (h8 : dq t a 0 8 = n) (hn : n < 8) (h9 : dq t a 0 9 = 4) (hb : 65 ≤ t a ∧ t a ≤ 72) (hw : tb (dq t a 14 n) (t a - 65) = false) :
    dq t (a + 1) 0 10 = -1 ∧ dq t (a + 1) 0 8 = n ∧ dq t (a + 1) 0 9 = 4 ∧ dq t (a + 1) 10 = dq t a 10 ∧ dq t (a + 1) 11 = dq t a 11 ∧ dq t (a + 1) 12 = dq t a 12 ∧ dq t (a + 1) 13 = dq t a 13 ∧ (∀ d, dq t (a + 1) 14 d = if d = n then nO (dq t a 14 n) (p2 (t a - 65)) else dq t a 14 d) := by
  obtain ⟨g, s⟩ := st4 (b := t a) hu (by omega) h9
  have w : twB (dq t a) (t a) = true := decide_eq_true (Or.inr ⟨by omega, by rw [h8]; exact hw⟩)
  have s := s w
  have m : twM (dq t a) (t a) = ms (dq t a) 14 n (nO (dq t a 14 n) (p2 (t a - 65))) := by
    unfold twM
    rw [if_neg (by omega), if_pos ⟨by omega, by rw [h8]; exact hw⟩, h8]
  rw [m] at s
  have e1 := dq_s t h0
  refine ⟨by rw [e1, tkD_br, s]; exact hu, by rw [e1, tkD_now, s]; exact h8, by rw [e1, tkD_st, s]; exact h9, by rw [e1, tkD_10, s]; rfl, by rw [e1, tkD_11, s]; rfl, by rw [e1, tkD_12, s]; rfl, by rw [e1, tkD_13, s]; rfl, fun d => ?_⟩
  rw [e1, tkD_14, s]
  simp [ms]
/-- ; behind a deed -/
theorem dq_semi (t : Int → Int) {a n : Int} (h0 : 0 ≤ a) (hu : dq t a 0 10 = -1) (h8 : dq t a 0 8 = n) (hn : n < 8) (h9 : dq t a 0 9 = 4) (hb : t a = 59) (hw : dq t a 14 n ≠ 0) :
    dq t (a + 1) 0 10 = -1 ∧ dq t (a + 1) 0 8 = n + 1 ∧ dq t (a + 1) 0 9 = 0 ∧ dq t (a + 1) 10 = dq t a 10 ∧ dq t (a + 1) 11 = dq t a 11 ∧ dq t (a + 1) 12 = dq t a 12 ∧ dq t (a + 1) 13 = dq t a 13 ∧ dq t (a + 1) 14 = dq t a 14 := by
  obtain ⟨g, s⟩ := st4 (b := t a) hu (by omega) h9
  have w : twB (dq t a) (t a) = true := decide_eq_true (Or.inl ⟨hb, by rw [h8]; exact hw⟩)
  have s := s w
  have m : twM (dq t a) (t a) = ms (ms (dq t a) 0 8 (n + 1)) 0 9 0 := by
    unfold twM
    rw [if_pos ⟨hb, by rw [h8]; exact hw⟩, h8]
  rw [m] at s
  have e1 := dq_s t h0
  exact ⟨by rw [e1, tkD_br, s]; exact hu, by rw [e1, tkD_now, s]; rfl, by rw [e1, tkD_st, s]; rfl, by rw [e1, tkD_10, s]; rfl, by rw [e1, tkD_11, s]; rfl, by rw [e1, tkD_12, s]; rfl, by rw [e1, tkD_13, s]; rfl, by rw [e1, tkD_14, s]; rfl⟩
/-- a byte with which the people of a deed cannot go on -/
theorem dq_bad (t : Int → Int) {a n : Int} (hu : dq t a 0 10 = -1) (h8 : dq t a 0 8 = n) (hn : n < 8) (h9 : dq t a 0 9 = 4) (hb : ¬ (t a = 59 ∧ dq t a 14 n ≠ 0)) (hc : ¬ ((65 ≤ t a ∧ t a ≤ 72) ∧ tb (dq t a 14 n) (t a - 65) = false)) : goB (dq t a) (t a) = false := by
  obtain ⟨g, s⟩ := st4 (b := t a) hu (by omega) h9
  rw [g]
  unfold twB
  rw [h8]
  refine decide_eq_false ?_
  rintro (z | z)
  · exact hb z
  · exact hc ⟨by omega, z.2⟩
theorem dq_kbad (t : Int → Int) {a : Int} (hu : dq t a 0 10 = -1) (h9 : dq t a 0 9 = 0) (hb : 8 ≤ dq t a 0 8 ∨ kV (t a) = -1) : goB (dq t a) (t a) = false := by
  unfold goB
  by_cases h : 8 ≤ dq t a 0 8
  · rw [if_pos h]
  · rw [if_neg h, if_pos h9]
    exact decide_eq_false (by omega)
theorem dq_f (t : Int → Int) {f n : Int} (h0 : 0 ≤ f) (h1 : f ≤ n) (h2 : 1 ≤ n) (hu : dq t f 0 10 = -1) (hg : f < n → goB (dq t f) (t f) = false) (he : f = n → ¬ (dq t f 0 8 < 8 ∧ dq t f 0 9 = 4 ∧ dq t f 14 (dq t f 0 8) ≠ 0)) : dq t n 0 7 = f ∧ dq t n 0 6 = 0 := by
  rcases Int.lt_or_eq_of_le h1 with q | q
  · exact (dq_brk t h0 q hu (hg q)).2
  · subst q
    exact (dq_end t h2 hu).2 (he rfl)
def btT (T : Int → Int) (n k : Int) : Int := if k < n then T k else -1
theorem bt_in {T : Int → Int} {n k : Int} (h : btT T n k ≠ -1) : k < n ∧ btT T n k = T k := by
  unfold btT at h ⊢
  by_cases q : k < n
  · exact ⟨q, if_pos q⟩
  · rw [if_neg q] at h; exact absurd rfl h
theorem bt_at {T : Int → Int} {n k : Int} (h : k < n) : btT T n k = T k := if_pos h
theorem bt_end {T : Int → Int} {n k : Int} (h : n ≤ k) : btT T n k = -1 := if_neg (by omega)
def frm (ex : Nat → Int → Bool) (M M2 : ax_M) : Prop := ∀ k i, ex k i = false → M2 k i = M k i
theorem frm_rfl {ex : Nat → Int → Bool} {M : ax_M} : frm ex M M := fun _ _ _ => rfl
theorem frm_ms {ex : Nat → Int → Bool} {M M1 : ax_M} {k : Nat} {i v : Int} (h : frm ex M M1) (he : ex k i = true) : frm ex M (ms M1 k i v) := by
  intro k' i' h'
  unfold ms
  by_cases q : k' = k ∧ i' = i
  · obtain ⟨rfl, rfl⟩ := q
    rw [he] at h'
    cases h'
  · rw [if_neg q]
    exact h k' i' h'
theorem frm_tr {ex : Nat → Int → Bool} {M M1 M2 : ax_M} (h : frm ex M M1) (h' : frm ex M1 M2) : frm ex M M2 := fun k i e => (h' k i e).trans (h k i e)
theorem frm_mono {ex ex' : Nat → Int → Bool} {M M1 : ax_M} (h : frm ex M M1) (he : ∀ k i, ex' k i = false → ex k i = false) : frm ex' M M1 := fun k i e => h k i (he k i e)
/-- cells that the reading of DEEDS, of RULES, the laying of MOST write -/
def exD (k : Nat) (i : Int) : Bool := decide (47 ≤ k ∧ k ≤ 51 ∨ k = 9 ∧ i = 2)
def exR (k : Nat) (i : Int) : Bool := decide (52 ≤ k ∧ k ≤ 54 ∨ k = 9 ∧ i = 8)
def exP (k : Nat) (i : Int) : Bool := decide (47 ≤ k ∧ k ≤ 54 ∨ k = 9 ∧ (i = 2 ∨ i = 8))
def exL (k : Nat) (i : Int) : Bool := decide (47 ≤ k ∧ k ≤ 54 ∨ 61 ≤ k ∧ k ≤ 64 ∨ k = 9 ∧ (i = 2 ∨ i = 8 ∨ i = 22 ∨ i = 23 ∨ i = 24 ∨ i = 25))
/-! RULES, byte by byte -/
def rq (t : Int → Int) (i : Int) : ax_M := itI (fun i q => tkR q (t i)) q0 i
theorem rq_s (t : Int → Int) {i : Int} (h : 0 ≤ i) : rq t (i + 1) = tkR (rq t i) (t i) := itI_s _ _ h
theorem rq_cg {t t' : Int → Int} {n : Int} (h : ∀ i, 0 ≤ i → i < n → t i = t' i) : rq t n = rq t' n := by
  unfold rq itI
  exact itI_cg _ (fun i x h0 h1 => by rw [h i h0 (by omega)])
theorem tkR_30 (q : ax_M) (b : Int) : tkR q b 30 = rk1 q b 30 := rfl
theorem tkR_31 (q : ax_M) (b : Int) : tkR q b 31 = rk1 q b 31 := rfl
theorem tkR_32 (q : ax_M) (b : Int) : tkR q b 32 = rk1 q b 32 := rfl
theorem tkR_be (q : ax_M) (b : Int) : tkR q b 5 6 = rk1 q b 5 6 := rfl
theorem tkR_ki (q : ax_M) (b : Int) : tkR q b 5 7 = rk1 q b 5 7 := rfl
theorem tkR_st (q : ax_M) (b : Int) : tkR q b 5 8 = rk1 q b 5 8 := rfl
theorem tkR_br (q : ax_M) (b : Int) : tkR q b 5 9 = rk1 q b 5 9 := rfl
theorem tkR_by (q : ax_M) (b : Int) : tkR q b 5 0 = q 5 0 + 1 := by
  show rk1 q b 5 0 + 1 = _
  rw [rk1_0]
theorem tkR_fl (q : ax_M) (b : Int) : tkR q b 5 2 = (if rk1 q b 5 9 ≠ -1 ∨ 2 ≤ rk1 q b 5 8 then rk1 q b 5 9 else q 5 0 + 1) := by
  show (if rk1 q b 5 9 ≠ -1 ∨ 2 ≤ rk1 q b 5 8 then rk1 q b 5 9 else rk1 q b 5 0 + 1) = _
  rw [rk1_0]
theorem tkR_pa (q : ax_M) (b : Int) : tkR q b 5 1 = (if tkR q b 5 2 = -1 then rk1 q b 5 6 else 0) := rfl
theorem rq_by (t : Int → Int) {i : Int} (h : 0 ≤ i) : rq t i 5 0 = i := itI_inv (fun (i : Int) (q : ax_M) => q 5 0 = i) h rfl (fun i q h0 h1 w => by rw [tkR_by, w])
theorem rq_brk (t : Int → Int) {f n : Int} (h0 : 0 ≤ f) (h1 : f < n) (hu : rq t f 5 9 = -1) (hg : rgB (rq t f) (t f) = false) : rq t n 5 2 = f ∧ rq t n 5 1 = 0 := by
  have key : ∀ m : Nat, rq t (f + 1 + m) 5 9 = f ∧ rq t (f + 1 + m) 5 2 = f ∧ rq t (f + 1 + m) 5 1 = 0 := by
    intro m
    have e1 : rk1 (rq t f) (t f) 5 9 = f := by
      unfold rk1
      rw [if_pos hu, if_neg (by rw [hg]; decide)]
      show rgM (rq t f) (t f) 5 0 = f
      rw [rgM_0, rq_by t h0]
    have fin : ∀ (q : ax_M) (b : Int), rk1 q b 5 9 = f → tkR q b 5 9 = f ∧ tkR q b 5 2 = f ∧ tkR q b 5 1 = 0 := by
      intro q b w
      have w7 : tkR q b 5 2 = f := by
        rw [tkR_fl, if_pos (Or.inl (by rw [w]; omega)), w]
      exact ⟨by rw [tkR_br, w], w7, by rw [tkR_pa, if_neg (by rw [w7]; omega)]⟩
    induction m with
    | zero =>
      rw [show f + 1 + ((0 : Nat) : Int) = f + 1 by omega, rq_s t h0]
      exact fin _ _ e1
    | succ m ih =>
      rw [show f + 1 + ((m + 1 : Nat) : Int) = (f + 1 + m) + 1 by omega, rq_s t (by omega)]
      refine fin _ _ ?_
      unfold rk1
      rw [if_neg (by rw [ih.1]; omega)]
      exact ih.1
  have := key (n - f - 1).toNat
  rw [show f + 1 + (((n - f - 1).toNat : Nat) : Int) = n by omega] at this
  exact this.2
theorem rq_end (t : Int → Int) {n : Int} (h : 1 ≤ n) (hu : rq t n 5 9 = -1) : (2 ≤ rq t n 5 8 → rq t n 5 2 = -1 ∧ rq t n 5 1 = rq t n 5 6) ∧ (¬ 2 ≤ rq t n 5 8 → rq t n 5 2 = n ∧ rq t n 5 1 = 0) := by
  obtain ⟨m, rfl⟩ : ∃ m, n = m + 1 := ⟨n - 1, by omega⟩
  have hb := rq_by t (i := m) (by omega)
  rw [rq_s t (by omega)] at hu ⊢
  generalize rq t m = q at hu hb ⊢
  generalize t m = b at hu ⊢
  rw [tkR_br] at hu
  have hfl := tkR_fl q b
  have hsz := tkR_pa q b
  rw [tkR_st, tkR_be]
  constructor
  · intro w
    rw [if_pos (Or.inr w), hu] at hfl
    rw [if_pos hfl] at hsz
    exact ⟨hfl, hsz⟩
  · intro w
    rw [if_neg (by rintro (z | z); exact z hu; exact w z), hb] at hfl
    rw [if_neg (by omega)] at hsz
    exact ⟨hfl, hsz⟩
theorem rq_f (t : Int → Int) {f n : Int} (h0 : 0 ≤ f) (h1 : f ≤ n) (h2 : 1 ≤ n) (hu : rq t f 5 9 = -1) (hg : f < n → rgB (rq t f) (t f) = false) (he : f = n → ¬ 2 ≤ rq t f 5 8) : rq t n 5 2 = f ∧ rq t n 5 1 = 0 := by
  rcases Int.lt_or_eq_of_le h1 with q | q
  · exact rq_brk t h0 q hu (hg q)
  · subst q
    exact (rq_end t h2 hu).2 (he rfl)
theorem rk1_go {q : ax_M} {b : Int} (hu : q 5 9 = -1) (hg : rgB q b = true) : rk1 q b = rgM q b := by
  unfold rk1
  rw [if_pos hu, if_pos hg]
theorem rg_0 {q : ax_M} {b : Int} (h9 : q 5 8 = 0) : rgB q b = decide (kV b ≠ -1) := by
  unfold rgB
  rw [if_pos h9]
theorem rg_1 {q : ax_M} {b : Int} (h9 : q 5 8 = 1) : rgB q b = decide (fgV b 0 4 ≠ -1) := by
  unfold rgB
  rw [if_neg (by omega), if_pos h9]
theorem rg_2 {q : ax_M} {b : Int} (h9 : 2 ≤ q 5 8) : rgB q b = decide (b = 59 ∨ b = 119 ∧ q 5 8 < 3 ∨ b = 104 ∧ q 5 8 < 4) := by
  unfold rgB
  rw [if_neg (by omega), if_neg (by omega)]
theorem rg_2M {q : ax_M} {b : Int} (h9 : 2 ≤ q 5 8) : rgM q b = rmM q b := by
  unfold rgM
  rw [if_neg (by omega), if_neg (by omega)]
/-- a part's letter and figure -/
theorem rq_head (t : Int → Int) {a : Int} (h0 : 0 ≤ a) (hu : rq t a 5 9 = -1) (h9 : rq t a 5 8 = 0) (k0 : kV (t a) ≠ -1) :
    (rq t (a + 1) 5 9 = -1 ∧ rq t (a + 1) 5 8 = 1 ∧ rgB (rq t (a + 1)) (t (a + 1)) = decide (fgV (t (a + 1)) 0 4 ≠ -1)) ∧ (fgV (t (a + 1)) 0 4 ≠ -1 →
      rq t (a + 2) 5 9 = -1 ∧ rq t (a + 2) 5 8 = 2 ∧ rq t (a + 2) 5 7 = kV (t a) ∧ rq t (a + 2) 5 6 = rq t a 5 6 + 1 ∧ (∀ k, rq t (a + 2) 30 k = if k = kV (t a) then fgV (t (a + 1)) 0 4 else rq t a 30 k) ∧ (∀ k, rq t (a + 2) 31 k = if k = kV (t a) then 0 else rq t a 31 k) ∧ (∀ k, rq t (a + 2) 32 k = if k = kV (t a) then 0 else rq t a 32 k)) := by
  have e1 := rq_s t h0
  have e2 := rq_s t (i := a + 1) (by omega)
  rw [show a + 1 + 1 = a + 2 by omega] at e2
  have s0 : rk1 (rq t a) (t a) = ms (ms (rq t a) 5 7 (kV (t a))) 5 8 1 := by
    rw [rk1_go hu (by rw [rg_0 h9, decide_eq_true k0])]
    unfold rgM rkM
    rw [if_pos h9, if_neg k0]
  have u1 : rq t (a + 1) 5 9 = -1 := by rw [e1, tkR_br, s0]; exact hu
  have p1 : rq t (a + 1) 5 8 = 1 := by rw [e1, tkR_st, s0]; rfl
  refine ⟨⟨u1, p1, rg_1 p1⟩, fun k1 => ?_⟩
  have w7 : rq t (a + 1) 5 7 = kV (t a) := by rw [e1, tkR_ki, s0]; rfl
  have w6 : rq t (a + 1) 5 6 = rq t a 5 6 := by rw [e1, tkR_be, s0]; rfl
  have w30 : rq t (a + 1) 30 = rq t a 30 := by rw [e1, tkR_30, s0]; rfl
  have w31 : rq t (a + 1) 31 = rq t a 31 := by rw [e1, tkR_31, s0]; rfl
  have w32 : rq t (a + 1) 32 = rq t a 32 := by rw [e1, tkR_32, s0]; rfl
  have s1 : rk1 (rq t (a + 1)) (t (a + 1)) = ms (ms (sayM (rq t (a + 1)) (kV (t a)) (fgV (t (a + 1)) 0 4)) 5 6 (rq t a 5 6 + 1)) 5 8 2 := by
    rw [rk1_go u1 (by rw [rg_1 p1, decide_eq_true k1])]
    unfold rgM rnM
    rw [if_neg (by omega), if_pos p1, if_neg k1, say_5, w7, w6]
  refine ⟨by rw [e2, tkR_br, s1]; exact u1, by rw [e2, tkR_st, s1]; rfl, by rw [e2, tkR_ki, s1]; exact w7, by rw [e2, tkR_be, s1]; rfl, fun k => ?_, fun k => ?_, fun k => ?_⟩
  · rw [e2, tkR_30, s1]; simp [ms, sayM, w30]
  · rw [e2, tkR_31, s1]; simp [ms, sayM, w31]
  · rw [e2, tkR_32, s1]; simp [ms, sayM, w32]
theorem rq_mark (t : Int → Int) {a : Int} (h0 : 0 ≤ a) (hu : rq t a 5 9 = -1) (h9 : 2 ≤ rq t a 5 8) :
    (t a = 59 → rq t (a + 1) 5 9 = -1 ∧ rq t (a + 1) 5 8 = 0 ∧ rq t (a + 1) 5 6 = rq t a 5 6 ∧ rq t (a + 1) 30 = rq t a 30 ∧ rq t (a + 1) 31 = rq t a 31 ∧ rq t (a + 1) 32 = rq t a 32) ∧
    (t a = 119 → rq t a 5 8 < 3 → rq t (a + 1) 5 9 = -1 ∧ rq t (a + 1) 5 8 = 3 ∧ rq t (a + 1) 5 7 = rq t a 5 7 ∧ rq t (a + 1) 5 6 = rq t a 5 6 ∧ rq t (a + 1) 30 = rq t a 30 ∧ (∀ k, rq t (a + 1) 31 k = if k = rq t a 5 7 then 1 else rq t a 31 k) ∧ rq t (a + 1) 32 = rq t a 32) ∧
    (t a = 104 → rq t a 5 8 < 4 → rq t (a + 1) 5 9 = -1 ∧ rq t (a + 1) 5 8 = 4 ∧ rq t (a + 1) 5 7 = rq t a 5 7 ∧ rq t (a + 1) 5 6 = rq t a 5 6 ∧ rq t (a + 1) 30 = rq t a 30 ∧ rq t (a + 1) 31 = rq t a 31 ∧ (∀ k, rq t (a + 1) 32 k = if k = rq t a 5 7 then 1 else rq t a 32 k)) := by
  have e1 := rq_s t h0
  refine ⟨fun w => ?_, fun w w2 => ?_, fun w w2 => ?_⟩
  · have s : rk1 (rq t a) (t a) = ms (rq t a) 5 8 0 := by
      rw [rk1_go hu (by rw [rg_2 h9]; exact decide_eq_true (Or.inl w)), rg_2M h9]
      unfold rmM
      rw [if_pos w]
    exact ⟨by rw [e1, tkR_br, s]; exact hu, by rw [e1, tkR_st, s]; rfl, by rw [e1, tkR_be, s]; rfl, by rw [e1, tkR_30, s]; rfl, by rw [e1, tkR_31, s]; rfl, by rw [e1, tkR_32, s]; rfl⟩
  · have s : rk1 (rq t a) (t a) = ms (ms (rq t a) 31 (rq t a 5 7) 1) 5 8 3 := by
      rw [rk1_go hu (by rw [rg_2 h9]; exact decide_eq_true (Or.inr (Or.inl ⟨w, w2⟩))), rg_2M h9]
      unfold rmM
      rw [if_neg (by omega), if_pos ⟨w, w2⟩]
    exact ⟨by rw [e1, tkR_br, s]; exact hu, by rw [e1, tkR_st, s]; rfl, by rw [e1, tkR_ki, s]; rfl, by rw [e1, tkR_be, s]; rfl, by rw [e1, tkR_30, s]; rfl, fun k => by rw [e1, tkR_31, s]; simp [ms], by rw [e1, tkR_32, s]; rfl⟩
  · have s : rk1 (rq t a) (t a) = ms (ms (rq t a) 32 (rq t a 5 7) 1) 5 8 4 := by
      rw [rk1_go hu (by rw [rg_2 h9]; exact decide_eq_true (Or.inr (Or.inr ⟨w, w2⟩))), rg_2M h9]
      unfold rmM
      rw [if_neg (by omega), if_neg (by omega), if_pos ⟨w, w2⟩]
    exact ⟨by rw [e1, tkR_br, s]; exact hu, by rw [e1, tkR_st, s]; rfl, by rw [e1, tkR_ki, s]; rfl, by rw [e1, tkR_be, s]; rfl, by rw [e1, tkR_30, s]; rfl, by rw [e1, tkR_31, s]; rfl, fun k => by rw [e1, tkR_32, s]; simp [ms]⟩
