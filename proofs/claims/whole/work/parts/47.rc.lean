/-! the class's cells beside the state S -/
def RCt (S M : ax_M) : Prop := RelD (qd S) M ∧ RelR (qr S) M
def RCn (S M : ax_M) : Prop := (∀ p, 0 ≤ p → p ≤ 7 → M 15 (p * 4 + 0) = S 55 p ∧ M 15 (p * 4 + 1) = S 56 p ∧ M 15 (p * 4 + 2) = S 57 p ∧ M 15 (p * 4 + 3) = S 58 p) ∧ (∀ h, 0 ≤ h → h ≤ 7 → M 16 h = S 59 h) ∧ (∀ j, 0 ≤ j → j ≤ 3 → M 17 j = S 60 j)
def RCp (S M : ax_M) : Prop := M 3 0 = S 9 30 ∧ ∀ i, 0 ≤ i → i < S 9 30 → M 24 i = S 68 i ∧ M 25 i = S 69 i
def RCg (S M : ax_M) : Prop := M 7 0 = S 9 26 ∧ (∀ i, 0 ≤ i → i < S 9 26 → (M 40 i = S 65 i ∧ M 41 i = S 66 i ∧ M 42 i = S 67 i) ∧ ∀ j, 0 ≤ j → (tb (M 43 i) j = true ↔ j < S 9 26 ∧ j ≠ i ∧ arF S i j = true)) ∧ (M 7 6 = 0 → M 7 5 = htB S)
def RCs (S M : ax_M) : Prop := M 6 3 = S 9 38 ∧ ∀ s, 0 ≤ s → s ≤ 3 → M 38 s = (if S 70 s = 0 then -1 else S 71 s) ∧ M 39 s = S 72 s ∧ ∀ i, 0 ≤ i → i < 60 → M (34 + s.toNat) i = S 73 (60 * s + i)
def RCo (S M : ax_M) : Prop := (M 8 9 = 0 → RO (vw S) M) ∧ (M 8 10 = 0 → M 8 9 = 0 ∧ RPl (vw S) M)
def RC (S M : ax_M) : Prop := RCt S M ∧ RCn S M ∧ RCp S M ∧ RCg S M ∧ RCs S M ∧ RCo S M
def eqK (P : Nat → Bool) (M M2 : ax_M) : Prop := ∀ k i, P k = true → M2 k i = M k i
def kT (k : Nat) : Bool := decide (k = 0 ∨ k = 5 ∨ 10 ≤ k ∧ k ≤ 14 ∨ 30 ≤ k ∧ k ≤ 32)
def kN (k : Nat) : Bool := decide (15 ≤ k ∧ k ≤ 17)
def kP (k : Nat) : Bool := decide (k = 3 ∨ k = 24 ∨ k = 25)
def kG (k : Nat) : Bool := decide (k = 7 ∨ 40 ≤ k ∧ k ≤ 43)
def kS (k : Nat) : Bool := decide (k = 6 ∨ 34 ≤ k ∧ k ≤ 39)
def kO (k : Nat) : Bool := decide (k = 4 ∨ k = 8 ∨ 18 ≤ k ∧ k ≤ 23 ∨ 26 ≤ k ∧ k ≤ 29)
def gT (k : Nat) : Bool := decide (k = 45 ∨ k = 46)
def gN (k : Nat) : Bool := decide (55 ≤ k ∧ k ≤ 60)
theorem qd_cg {S S2 : ax_M} (h : eqK gT S S2) : qd S2 = qd S := by
  have e : t0 S2 = t0 S := funext fun i => h 46 _ rfl
  show dq (t0 S2) (S2 45 0) = dq (t0 S) (S 45 0)
  rw [e, h 45 0 rfl]
theorem qr_cg {S S2 : ax_M} (h : eqK gT S S2) : qr S2 = qr S := by
  have e : t1 S2 = t1 S := funext fun i => h 46 _ rfl
  show rq (t1 S2) (S2 45 1) = rq (t1 S) (S 45 1)
  rw [e, h 45 1 rfl]
theorem CoD_cg {q M M2 : ax_M} (h : eqK kT M M2) (c : CoD q M) : CoD q M2 := by
  unfold CoD at c ⊢
  rw [h 0 8 rfl, h 0 9 rfl, h 0 10 rfl]
  refine ⟨c.1, fun d d0 => ?_⟩
  rw [h 10 d rfl, h 11 d rfl, h 12 d rfl, h 13 d rfl, h 14 d rfl]
  exact c.2 d d0
theorem RelD_cg {q M M2 : ax_M} (h : eqK kT M M2) (c : RelD q M) : RelD q M2 := by
  refine ⟨?_, CoD_cg h c.2⟩
  rw [h 0 5 rfl, h 0 6 rfl, h 0 7 rfl]
  exact c.1
theorem RelR_cg {q M M2 : ax_M} (h : eqK kT M M2) (c : RelR q M) : RelR q M2 := by
  unfold RelR at c ⊢
  rw [h 5 0 rfl, h 5 1 rfl, h 5 2 rfl, h 5 6 rfl, h 5 7 rfl, h 5 8 rfl, h 5 9 rfl]
  refine ⟨c.1, c.2.1, fun k a b => ?_⟩
  rw [h 30 k rfl, h 31 k rfl, h 32 k rfl]
  exact c.2.2 k a b
theorem RCt_cg {S S2 M M2 : ax_M} (hs : eqK gT S S2) (h : eqK kT M M2) (c : RCt S M) : RCt S2 M2 := by
  unfold RCt at c ⊢
  rw [qd_cg hs, qr_cg hs]
  exact ⟨RelD_cg h c.1, RelR_cg h c.2⟩
theorem RCn_cg {S S2 M M2 : ax_M} (hs : eqK gN S S2) (h : eqK kN M M2) (c : RCn S M) : RCn S2 M2 := by
  refine ⟨fun p a b => ?_, fun j a b => ?_, fun j a b => ?_⟩
  · rw [h 15 _ rfl, h 15 _ rfl, h 15 _ rfl, h 15 _ rfl, hs 55 _ rfl, hs 56 _ rfl, hs 57 _ rfl, hs 58 _ rfl]
    exact c.1 p a b
  · rw [h 16 _ rfl, hs 59 _ rfl]
    exact c.2.1 j a b
  · rw [h 17 _ rfl, hs 60 _ rfl]
    exact c.2.2 j a b
theorem RCp_cg {S S2 M M2 : ax_M} (h9 : S2 9 30 = S 9 30) (h8 : ∀ i, S2 68 i = S 68 i) (h7 : ∀ i, S2 69 i = S 69 i) (h : eqK kP M M2) (c : RCp S M) : RCp S2 M2 := by
  unfold RCp at c ⊢
  rw [h9, h 3 0 rfl]
  refine ⟨c.1, fun i a b => ?_⟩
  rw [h8, h7, h 24 _ rfl, h 25 _ rfl]
  exact c.2 i a b
theorem RCg_cg {S S2 M M2 : ax_M} (h9 : S2 9 26 = S 9 26) (h5 : S2 65 = S 65) (h6 : S2 66 = S 66) (h7 : S2 67 = S 67) (h : eqK kG M M2) (c : RCg S M) : RCg S2 M2 := by
  have ea : ∀ i j, arF S2 i j = arF S i j := fun i j => by unfold arF; rw [h5, h6, h7]
  have eo : ∀ s, okH S2 s = okH S s := fun s => by
    unfold okH
    rw [h9]
    simp only [ea]
  have eh : htB S2 = htB S := by
    have e1 : htS S2 = htS S := by
      funext s b
      unfold htS
      rw [eo]
    unfold htB
    rw [h9, e1]
  unfold RCg at c ⊢
  rw [h9, h 7 0 rfl, h 7 6 rfl, h 7 5 rfl, eh, h5, h6, h7]
  refine ⟨c.1, fun i a b => ?_, c.2.2⟩
  rw [h 40 _ rfl, h 41 _ rfl, h 42 _ rfl, h 43 _ rfl]
  refine ⟨(c.2.1 i a b).1, fun j y => ?_⟩
  rw [ea]
  exact (c.2.1 i a b).2 j y
theorem RCs_cg {S S2 M M2 : ax_M} (h9 : S2 9 38 = S 9 38) (h0 : ∀ i, S2 70 i = S 70 i) (h1 : ∀ i, S2 71 i = S 71 i) (h2 : ∀ i, S2 72 i = S 72 i) (h3 : ∀ i, S2 73 i = S 73 i) (h : eqK kS M M2) (c : RCs S M) : RCs S2 M2 := by
  unfold RCs at c ⊢
  rw [h9, h 6 3 rfl]
  refine ⟨c.1, fun s a b => ?_⟩
  rw [h0, h1, h2, h 38 _ rfl, h 39 _ rfl]
  refine ⟨(c.2 s a b).1, (c.2 s a b).2.1, fun i x y => ?_⟩
  rw [h3, h _ _ (show kS (34 + s.toNat) = true from decide_eq_true (by omega))]
  exact (c.2 s a b).2.2 i x y
/-- what offers and plans are made of -/
def vz (S : ax_M) : ax_M := fun k i => match k with
  | 9 => if i = 2 then qd S 0 6 else 0
  | 47 => qd S 10 i
  | 48 => qd S 11 i
  | 49 => qd S 12 i
  | 50 => qd S 13 i
  | 51 => qd S 14 i
  | 52 => if qr S 5 2 = -1 then qr S 30 i else 0
  | 53 => if qr S 5 2 = -1 then qr S 31 i else 0
  | 54 => if qr S 5 2 = -1 then qr S 32 i else 0
  | 55 => S 55 i
  | 56 => S 56 i
  | 57 => S 57 i
  | 58 => S 58 i
  | 59 => S 59 i
  | 60 => S 60 i
  | _ => 0
theorem vz_cg {S S2 : ax_M} (hs : eqK gT S S2) (hn : eqK gN S S2) : vz S2 = vz S := by
  have e1 := qd_cg hs
  have e2 := qr_cg hs
  funext k i
  unfold vz
  rw [e1, e2, hn 55 i rfl, hn 56 i rfl, hn 57 i rfl, hn 58 i rfl, hn 59 i rfl, hn 60 i rfl]
theorem cIt_z (S : ax_M) (d h : Int) : ∀ (k : Nat) (b : Int), cIt (vw S) d h k b = cIt (vz S) d h k b
  | 0, _ => rfl
  | k + 1, b => by
    have e : pk (vw S) d h b = pk (vz S) d h b := rfl
    unfold cIt
    rw [e, cIt_z S d h k]
theorem cm_z (S : ax_M) : cm (vw S) = cm (vz S) := by
  funext d h
  unfold cm
  rw [cIt_z]
  rfl
theorem RO_vz (S M : ax_M) : RO (vw S) M = RO (vz S) M := by
  unfold RO whoV
  rw [cm_z]
  rfl
theorem apr_z (S : ax_M) : apr (vw S) = apr (vz S) := by
  unfold apr
  rw [cm_z]
  rfl
theorem cT_z (S : ax_M) : cT (vw S) = cT (vz S) := by
  unfold cT okT sT okD
  rw [cm_z, apr_z]
  rfl
theorem cR_z (S : ax_M) : cR (vw S) = cR (vz S) := by
  unfold cR cV
  rw [cT_z]
  rfl
theorem IM_z (S : ax_M) : IsMost (vw S) = IsMost (vz S) := by
  unfold IsMost feas
  rw [cT_z, cR_z]
  rfl
theorem RPl_vz (S M : ax_M) : RPl (vw S) M = RPl (vz S) M := by
  unfold RPl mW mC mstR
  rw [IM_z, cR_z]
  rfl
theorem RO_cg {V M M2 : ax_M} (h : eqK kO M M2) (c : RO V M) : RO V M2 := fun d a b => by
  have z := c d a b
  rw [h 19 _ rfl, h 20 _ rfl]
  refine ⟨z.1, z.2.1, fun k x y => ?_⟩
  rw [h 21 _ rfl, h 22 _ rfl]
  exact z.2.2 k x y
theorem RPl_cg {V M M2 : ax_M} (h : eqK kO M M2) (c : RPl V M) : RPl V M2 := by
  unfold RPl at c ⊢
  rw [h 4 _ rfl, h 4 _ rfl]
  refine ⟨c.1, c.2.1, fun d a b => ?_⟩
  rw [h 26 _ rfl]
  exact c.2.2 d a b
theorem RCo_cg {S S2 M M2 : ax_M} (hs : eqK gT S S2) (hn : eqK gN S S2) (h : eqK kO M M2) (c : RCo S M) : RCo S2 M2 := by
  unfold RCo at c ⊢
  rw [h 8 9 rfl, h 8 10 rfl, RO_vz, RPl_vz, vz_cg hs hn, ← RO_vz, ← RPl_vz]
  exact ⟨fun z => RO_cg h (c.1 z), fun z => ⟨(c.2 z).1, RPl_cg h (c.2 z).2⟩⟩
theorem RCo_1 {S M : ax_M} (h9 : M 8 9 = 1) (h10 : M 8 10 = 1) : RCo S M := ⟨fun z => by omega, fun z => by omega⟩
theorem eqK_r (P : Nat → Bool) (M : ax_M) : eqK P M M := fun _ _ _ => rfl
theorem eqK_m {P : Nat → Bool} {M M1 : ax_M} {k : Nat} {i v : Int} (h : eqK P M M1) (e : P k = false) : eqK P M (ms M1 k i v) := fun k' i' p => by
  unfold ms
  rw [if_neg (by rintro ⟨rfl, -⟩; rw [p] at e; cases e)]
  exact h k' i' p
theorem RC_co {S M M2 : ax_M} (h : RC S M) (c : co M M2) : RC S M2 := by
  have f : ∀ P : Nat → Bool, (∀ k, P k = true → k ≤ 8 ∨ 10 ≤ k ∧ k ≤ 44) → eqK P M M2 := fun P q k i e => c k i (q k e)
  have g : ∀ P : Nat → Bool, eqK P S S := fun P => eqK_r P S
  exact ⟨RCt_cg (g _) (f _ (fun k e => by have := of_decide_eq_true e; omega)) h.1, RCn_cg (g _) (f _ (fun k e => by have := of_decide_eq_true e; omega)) h.2.1, RCp_cg rfl (fun _ => rfl) (fun _ => rfl) (f _ (fun k e => by have := of_decide_eq_true e; omega)) h.2.2.1, RCg_cg rfl rfl rfl rfl (f _ (fun k e => by have := of_decide_eq_true e; omega)) h.2.2.2.1, RCs_cg rfl (fun _ => rfl) (fun _ => rfl) (fun _ => rfl) (fun _ => rfl) (f _ (fun k e => by have := of_decide_eq_true e; omega)) h.2.2.2.2.1, RCo_cg (g _) (g _) (f _ (fun k e => by have := of_decide_eq_true e; omega)) h.2.2.2.2.2⟩
/-- the reference's cells are as they were -/
def mo (M M2 : ax_M) : Prop := ∀ k i, (k = 9 ∨ 45 ≤ k) → M2 k i = M k i
theorem mo_r (M : ax_M) : mo M M := fun _ _ _ => rfl
theorem mo_m {M M1 : ax_M} {k : Nat} {i v : Int} (h : mo M M1) (e : k ≠ 9 ∧ k < 45) : mo M (ms M1 k i v) := fun k' i' p => by
  unfold ms
  rw [if_neg (by rintro ⟨rfl, -⟩; omega)]
  exact h k' i' p
theorem mo_t {M M1 M2 : ax_M} (h : mo M M1) (h2 : mo M1 M2) : mo M M2 := fun k i p => (h2 k i p).trans (h k i p)
theorem RC_ag {S M : ax_M} (sr : SR S) (h : RC S M) : AgC (vw S) M := by
  obtain ⟨⟨hd, hr⟩, hn, -⟩ := h
  have s : qd S 0 6 = 0 ∨ (qd S 0 6 = qd S 0 8 + 1 ∧ qd S 0 8 < 8 ∧ qd S 0 9 = 4 ∧ qd S 14 (qd S 0 8) ≠ 0) := dq_sz (t0 S) sr.n0.1
  refine ⟨hd.1.2.1, fun d a b => RelD_ag s hd d a b, hn.1, hn.2.1, hn.2.2, fun k a b => ?_⟩
  have z := hr.2.2 k a (by omega)
  have z2 : M 5 2 = qr S 5 2 := hr.1.2.2.1
  show (if M 5 2 = -1 then M 30 k else 0) = (if qr S 5 2 = -1 then qr S 30 k else 0) ∧ (M 5 2 = -1 ∧ M 31 k = 1 ↔ (if qr S 5 2 = -1 then qr S 31 k else 0) = 1) ∧ (M 5 2 = -1 ∧ M 32 k = 1 ↔ (if qr S 5 2 = -1 then qr S 32 k else 0) = 1)
  rw [z2, z.1, z.2.1, z.2.2]
  by_cases w : qr S 5 2 = -1
  · rw [if_pos w, if_pos w, if_pos w]
    exact ⟨rfl, ⟨fun x => x.2, fun x => ⟨w, x⟩⟩, ⟨fun x => x.2, fun x => ⟨w, x⟩⟩⟩
  · rw [if_neg w, if_neg w, if_neg w]
    exact ⟨rfl, ⟨fun x => absurd x.1 w, fun x => absurd x (by decide)⟩, ⟨fun x => absurd x.1 w, fun x => absurd x (by decide)⟩⟩
