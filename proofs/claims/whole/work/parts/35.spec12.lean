theorem who_iff (V : ax_M) (d h : Int) : whoV V d h = -1 ↔ cm V d h = -3 := by
  unfold whoV
  have := cm_r V d h
  split <;> omega
theorem who_r (V : ax_M) (d h : Int) : -1 ≤ whoV V d h ∧ whoV V d h < 256 := by
  unfold whoV
  have := cm_r V d h
  split <;> omega
theorem who_cm {V : ax_M} {d h : Int} (hc : cm V d h ≠ -3) : whoV V d h = cm V d h := if_neg hc
def hopD (V : ax_M) (n : Int) : Int := itI (fun d b => nO b (if hrs V d = 0 then 0 else p2 d)) 0 n
def ftB (V : ax_M) (r : Int → Int) (d : Int) : Bool := decide (0 ≤ r d ∧ r d ≤ 7) && (decide (cm V d (r d) ≠ -3) && allB (fun e => !decide (r e = r d) || !apr V d e (r d)) d)
def okQ (V : ax_M) (r : Int → Int) : Bool := allB (fun d => decide (r d = -1) || ftB V r d) (V 9 2)
def cqS (V : ax_M) (r : Int → Int) (n : Int) : Int := itI (fun d s => s + if 0 ≤ r d ∧ r d ≤ 7 then prc V (cm V d (r d)) else 0) 0 n
def cqT (V : ax_M) (r : Int → Int) (n : Int) : Int := itI (fun d t => nO t (if (0 ≤ r d ∧ r d ≤ 7) ∧ trn V d (r d) = true then p2 (r d) else 0)) 0 n
def coQ (V : ax_M) (r : Int → Int) : Int := cqS V r (V 9 2) + on (cqT V r (V 9 2)) * V 60 0
theorem nO_z {a : Int} (h : 0 ≤ a) : nO a 0 = a := nO_0 h
theorem hop_r (V : ax_M) {n : Int} (hn : 0 ≤ n ∧ n ≤ 8) : 0 ≤ hopD V n ∧ hopD V n < 256 := by
  unfold hopD
  refine itI_inv (fun _ x => 0 ≤ x ∧ x < 256) hn.1 (by decide) (fun i x h0 h1 q => ?_)
  have h2 := p2_le (a := i) (b := 7) (by omega)
  have h3 : p2 7 = 128 := rfl
  have h4 := p2_pos i
  refine nO_lt 8 q ?_
  show 0 ≤ (if hrs V i = 0 then 0 else p2 i) ∧ (if hrs V i = 0 then 0 else p2 i) < (256 : Int)
  split <;> omega
theorem hrs_st (b h : Int) (z : Bool) (hb : 0 ≤ b) : nO b (bi z * p2 h) = if z = true then nO b (p2 h) else b := by
  cases z
  · rw [show bi false * p2 h = 0 by simp [bi], nO_0 hb]; rfl
  · rw [show bi true * p2 h = p2 h by simp [bi]]; rfl
theorem ft_open {V : ax_M} {r : Int → Int} {d : Int} (h : ftB V r d = true) : (0 ≤ r d ∧ r d ≤ 7) ∧ cm V d (r d) ≠ -3 := by
  unfold ftB at h
  rw [Bool.and_eq_true, Bool.and_eq_true, decide_eq_true_eq, decide_eq_true_eq] at h
  exact ⟨h.1, h.2.1⟩
