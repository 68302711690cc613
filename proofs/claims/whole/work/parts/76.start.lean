/-! the first memory; what every call leaves of SI -/
theorem RG_M0 : RG M0 := by
  intro k i
  match k with
  | 0 => simp only [bd, M0]; (repeat' split) <;> (first | omega | (dsimp only; omega))
  | 1 => exact show (0 : Int) ≤ 0 ∧ (0 : Int) ≤ 0 by decide
  | 2 => exact show (0 : Int) ≤ 0 ∧ (0 : Int) ≤ 0 by decide
  | 3 => simp only [bd, M0]; (repeat' split) <;> (first | omega | (dsimp only; omega))
  | 4 => simp only [bd, M0]; (repeat' split) <;> (first | omega | (dsimp only; omega))
  | 5 => simp only [bd, M0]; (repeat' split) <;> (first | omega | (dsimp only; omega))
  | 6 => simp only [bd, M0]; (repeat' split) <;> (first | omega | (dsimp only; omega))
  | 7 => simp only [bd, M0]; (repeat' split) <;> (first | omega | (dsimp only; omega))
  | 8 => simp only [bd, M0]; (repeat' split) <;> (first | omega | (dsimp only; omega))
  | 9 => simp only [bd, M0]; (repeat' split) <;> (first | omega | (dsimp only; omega))
  | 10 => exact show (0 : Int) ≤ 0 ∧ (0 : Int) ≤ 3 by decide
  | 11 => exact show (0 : Int) ≤ 0 ∧ (0 : Int) ≤ 5 by decide
  | 12 => exact show (0 : Int) ≤ 0 ∧ (0 : Int) ≤ 1 by decide
  | 13 => exact show (0 : Int) ≤ 0 ∧ (0 : Int) ≤ 9 by decide
  | 14 => exact show (0 : Int) ≤ 0 ∧ (0 : Int) ≤ 255 by decide
  | 15 => show (0 : Int) ≤ tr0 i ∧ tr0 i ≤ 99; unfold tr0; (repeat' split) <;> decide
  | 16 => exact show (0 : Int) ≤ 0 ∧ (0 : Int) ≤ 1 by decide
  | 17 => show (0 : Int) ≤ se0 i ∧ se0 i ≤ 999; unfold se0; (repeat' split) <;> decide
  | 18 => exact show (0 : Int) ≤ 0 ∧ (0 : Int) ≤ 8 by decide
  | 19 => exact show (0 : Int) ≤ 0 ∧ (0 : Int) ≤ 1 by decide
  | 20 => exact show (0 : Int) ≤ 0 ∧ (0 : Int) ≤ 1 by decide
  | 21 => exact show (-1 : Int) ≤ 0 ∧ (0 : Int) ≤ 255 by decide
  | 22 => exact show (0 : Int) ≤ 0 ∧ (0 : Int) ≤ 792 by decide
  | 23 => exact show (0 : Int) ≤ 0 ∧ (0 : Int) ≤ 7 by decide
  | 24 => exact show (0 : Int) ≤ 0 ∧ (0 : Int) ≤ 7 by decide
  | 25 => exact show (0 : Int) ≤ 0 ∧ (0 : Int) ≤ 7 by decide
  | 26 => exact show (-1 : Int) ≤ 0 ∧ (0 : Int) ≤ 7 by decide
  | 27 => exact show (0 : Int) ≤ 0 ∧ (0 : Int) ≤ 1152921504606846976 by decide
  | 28 => exact show (0 : Int) ≤ 0 ∧ (0 : Int) ≤ 1152921504606846976 by decide
  | 29 => exact show (0 : Int) ≤ 0 ∧ (0 : Int) ≤ 1152921504606846976 by decide
  | 30 => exact show (0 : Int) ≤ 0 ∧ (0 : Int) ≤ 4 by decide
  | 31 => exact show (0 : Int) ≤ 0 ∧ (0 : Int) ≤ 1 by decide
  | 32 => exact show (0 : Int) ≤ 0 ∧ (0 : Int) ≤ 1 by decide
  | 33 => exact show (0 : Int) ≤ 0 ∧ (0 : Int) ≤ 0 by decide
  | 34 => exact show (-2147483648 : Int) ≤ 0 ∧ (0 : Int) ≤ 2147483647 by decide
  | 35 => exact show (-2147483648 : Int) ≤ 0 ∧ (0 : Int) ≤ 2147483647 by decide
  | 36 => exact show (-2147483648 : Int) ≤ 0 ∧ (0 : Int) ≤ 2147483647 by decide
  | 37 => exact show (-2147483648 : Int) ≤ 0 ∧ (0 : Int) ≤ 2147483647 by decide
  | 38 => simp only [bd, M0]; (repeat' split) <;> (first | omega | (dsimp only; omega))
  | 39 => exact show (0 : Int) ≤ 0 ∧ (0 : Int) ≤ 60 by decide
  | 40 => exact show (0 : Int) ≤ 0 ∧ (0 : Int) ≤ 7 by decide
  | 41 => exact show (0 : Int) ≤ 0 ∧ (0 : Int) ≤ 5 by decide
  | 42 => exact show (0 : Int) ≤ 0 ∧ (0 : Int) ≤ 7 by decide
  | 43 => exact show (0 : Int) ≤ 0 ∧ (0 : Int) ≤ 1023 by decide
  | 44 => exact show (-2147483648 : Int) ≤ 0 ∧ (0 : Int) ≤ 2147483647 by decide
  | 45 => exact show (0 : Int) ≤ 0 ∧ (0 : Int) ≤ 80 by decide
  | 46 => exact show (0 : Int) ≤ 0 ∧ (0 : Int) ≤ 255 by decide
  | 47 => exact show (0 : Int) ≤ 0 ∧ (0 : Int) ≤ 3 by decide
  | 48 => exact show (0 : Int) ≤ 0 ∧ (0 : Int) ≤ 5 by decide
  | 49 => exact show (0 : Int) ≤ 0 ∧ (0 : Int) ≤ 1 by decide
  | 50 => exact show (0 : Int) ≤ 0 ∧ (0 : Int) ≤ 9 by decide
  | 51 => exact show (0 : Int) ≤ 0 ∧ (0 : Int) ≤ 255 by decide
  | 52 => exact show (0 : Int) ≤ 0 ∧ (0 : Int) ≤ 4 by decide
  | 53 => exact show (0 : Int) ≤ 0 ∧ (0 : Int) ≤ 1 by decide
  | 54 => exact show (0 : Int) ≤ 0 ∧ (0 : Int) ≤ 1 by decide
  | 55 => exact show (0 : Int) ≤ 0 ∧ (0 : Int) ≤ 7 by decide
  | 56 => simp only [bd, M0]; (repeat' split) <;> (first | omega | (dsimp only; omega))
  | 57 => simp only [bd, M0]; (repeat' split) <;> (first | omega | (dsimp only; omega))
  | 58 => simp only [bd, M0]; (repeat' split) <;> (first | omega | (dsimp only; omega))
  | 59 => exact show (0 : Int) ≤ 0 ∧ (0 : Int) ≤ 1 by decide
  | 60 => show (0 : Int) ≤ se0 i ∧ se0 i ≤ 999; unfold se0; (repeat' split) <;> decide
  | 61 => exact show (0 : Int) ≤ 0 ∧ (0 : Int) ≤ 1000000 by decide
  | 62 => exact show (0 : Int) ≤ 0 ∧ (0 : Int) ≤ 1000000 by decide
  | 63 => exact show (0 : Int) ≤ 0 ∧ (0 : Int) ≤ 1000000 by decide
  | 64 => exact show (-1 : Int) ≤ 0 ∧ (0 : Int) ≤ 8 by decide
  | 65 => exact show (0 : Int) ≤ 0 ∧ (0 : Int) ≤ 7 by decide
  | 66 => exact show (0 : Int) ≤ 0 ∧ (0 : Int) ≤ 5 by decide
  | 67 => exact show (0 : Int) ≤ 0 ∧ (0 : Int) ≤ 7 by decide
  | 68 => exact show (0 : Int) ≤ 0 ∧ (0 : Int) ≤ 7 by decide
  | 69 => exact show (0 : Int) ≤ 0 ∧ (0 : Int) ≤ 7 by decide
  | 70 => exact show (0 : Int) ≤ 0 ∧ (0 : Int) ≤ 1 by decide
  | 71 => exact show (0 : Int) ≤ 0 ∧ (0 : Int) ≤ 2 by decide
  | 72 => exact show (0 : Int) ≤ 0 ∧ (0 : Int) ≤ 60 by decide
  | 73 => exact show (-2147483648 : Int) ≤ 0 ∧ (0 : Int) ≤ 2147483647 by decide
  | 74 => exact show (-2147483648 : Int) ≤ 0 ∧ (0 : Int) ≤ 2147483647 by decide
  | k + 75 => exact ⟨Int.le_refl _, Int.le_refl _⟩
theorem bs_0 : bs M0 M0 := fun _ _ _ => rfl
theorem SI_0 : SI M0 := by
  show (0 : Int) ≤ 40 ∧ se0 1 ≤ 1
  decide
theorem ht_0 : htB M0 = 0 := by decide +kernel
theorem RC_0 : RC M0 M0 := by
  refine ⟨⟨⟨⟨rfl, rfl, rfl⟩, ⟨rfl, rfl, rfl⟩, fun d d0 => ⟨fun h => ?_, fun _ => ⟨fun h => absurd h (by decide), fun h => absurd h (by decide), fun h => absurd h (by decide), fun h => absurd h (by decide)⟩⟩⟩, ⟨rfl, rfl, rfl, rfl, rfl, rfl⟩, fun h => absurd h (by decide), fun k _ _ => ⟨rfl, rfl, rfl⟩⟩, ⟨fun p a b => ⟨?_, ?_, ?_, ?_⟩, fun h _ _ => rfl, fun j _ _ => rfl⟩, ⟨rfl, fun i a b => ?_⟩, ⟨rfl, fun i a b => ?_, fun _ => ht_0.symm⟩, ⟨rfl, fun s a b => ⟨?_, rfl, fun i c d => ?_⟩⟩, RCo_1 rfl rfl⟩
  · have h : d < 0 := h
    omega
  · show tr0 (p * 4 + 0) = 0
    unfold tr0
    rw [if_pos (by omega), if_neg (by omega), if_neg (by omega), if_neg (by omega)]
  · show tr0 (p * 4 + 1) = (if 0 ≤ p ∧ p < 8 then 8 else 0)
    unfold tr0
    rw [if_pos (show 0 ≤ p * 4 + 1 ∧ p * 4 + 1 < 32 by omega), if_pos (show (p * 4 + 1) % 4 = 1 by omega), if_pos (show 0 ≤ p ∧ p < 8 by omega)]
  · show tr0 (p * 4 + 2) = (if 0 ≤ p ∧ p < 8 then 1 else 0)
    unfold tr0
    rw [if_pos (show 0 ≤ p * 4 + 2 ∧ p * 4 + 2 < 32 by omega), if_neg (show ¬ (p * 4 + 2) % 4 = 1 by omega), if_pos (show (p * 4 + 2) % 4 = 2 by omega), if_pos (show 0 ≤ p ∧ p < 8 by omega)]
  · show tr0 (p * 4 + 3) = (if 0 ≤ p ∧ p < 8 then 16 else 0)
    unfold tr0
    rw [if_pos (show 0 ≤ p * 4 + 3 ∧ p * 4 + 3 < 32 by omega), if_neg (show ¬ (p * 4 + 3) % 4 = 1 by omega), if_neg (show ¬ (p * 4 + 3) % 4 = 2 by omega), if_pos (show (p * 4 + 3) % 4 = 3 by omega), if_pos (show 0 ≤ p ∧ p < 8 by omega)]
  · have b : i < 0 := b
    omega
  · have b : i < 0 := b
    omega
  · show (if 0 ≤ s ∧ s < 4 then -1 else 0) = (-1 : Int)
    rw [if_pos (by omega)]
  · rcases (show s = 0 ∨ s = 1 ∨ s = 2 ∨ s = 3 by omega) with rfl | rfl | rfl | rfl <;> rfl
theorem SI_ne {S S2 : ax_M} (h1 : S2 45 1 = S 45 1) (h2 : S2 60 1 = S 60 1) (i : SI S) : SI S2 := by
  unfold SI at i ⊢
  rw [h1, h2]
  exact i
theorem SI_type {S : ax_M} (x b : Int) (i : SI S) : SI (sType S x b) := by
  unfold sType
  by_cases h : (0 ≤ x ∧ x ≤ 1) ∧ (0 ≤ b ∧ b ≤ 255)
  · rw [if_pos h]
    by_cases q : S 45 x = (if x = 0 then 80 else 40)
    · rw [if_pos q]; exact i
    · rw [if_neg q]
      by_cases e : x = 1
      · subst e
        rw [if_neg (show ¬ (1 : Int) = 0 by decide)] at q
        refine ⟨?_, ?_⟩
        · rw [ms_at]
          have := i.1
          omega
        · rw [ms_k (by decide), ms_k (by decide)]
          exact i.2
      · refine SI_ne ?_ ?_ i
        · rw [ms_off (by omega), ms_k (by decide)]
        · rw [ms_k (by decide), ms_k (by decide)]
  · rw [if_neg h]; exact i
theorem SI_wipe {S : ax_M} (x : Int) (i : SI S) : SI (sWipe S x) := by
  unfold sWipe
  split
  · by_cases e : x = 1
    · subst e
      refine ⟨?_, ?_⟩
      · rw [ms_at]; decide
      · rw [ms_k (by decide)]; exact i.2
    · refine SI_ne ?_ ?_ i
      · rw [ms_off (by omega)]
      · rw [ms_k (by decide)]
  · exact i
theorem SI_set {S : ax_M} (w v : Int) (i : SI S) : SI (sSet S w v) := by
  unfold sSet
  split
  · next h =>
    by_cases e : w = 1
    · subst e
      have h2 : v ≤ 1 := h.2.2
      refine ⟨?_, ?_⟩
      · rw [ms_k (by decide)]; exact i.1
      · rw [ms_at]; exact h2
    · refine SI_ne ?_ ?_ i
      · rw [ms_k (by decide)]
      · rw [ms_off (by omega)]
  · exact i
theorem SI_m {S : ax_M} {k : Nat} {j v : Int} (h1 : k ≠ 45) (h2 : k ≠ 60) (i : SI S) : SI (ms S k j v) := SI_ne (ms_k (Ne.symm h1)) (ms_k (Ne.symm h2)) i
theorem SI_pers {S : ax_M} (p w v : Int) (i : SI S) : SI (sPers S p w v) := by
  unfold sPers
  repeat' split
  all_goals first | exact i | exact SI_m (by decide) (by decide) i
theorem SI_wea {S : ax_M} (h v : Int) (i : SI S) : SI (sWea S h v) := by
  unfold sWea
  split
  · exact SI_m (by decide) (by decide) i
  · exact i
theorem SI_mee {S : ax_M} (f : Int) (i : SI S) : SI (mee S f) := SI_m (by decide) (by decide) i
theorem rdN_0 (S : ax_M) (s : Int) : 0 ≤ rdN S s := itI_inv (fun _ x => 0 ≤ x) (by decide) (by decide) (fun i x _ _ q => by split <;> omega)
theorem SI_read {S : ax_M} (s : Int) (i : SI S) : SI (sRead S s) := by
  unfold sRead
  repeat' split
  · exact SI_mee _ i
  · exact SI_ne (by rw [rdS_ne (rdN_0 S s) (by decide)]) (by rw [rdS_ne (rdN_0 S s) (by decide)]) i
  · exact i
theorem SI_plan {S : ax_M} (s w : Int) (i : SI S) : SI (sPlan S s w) := by
  unfold sPlan
  repeat' split
  all_goals first | exact i | exact SI_mee _ i
theorem SI_seen {S : ax_M} (p x h : Int) (i : SI S) : SI (sSeen S p x h) := by
  unfold sSeen
  repeat' split
  all_goals first | exact i | exact SI_m (by decide) (by decide) (SI_m (by decide) (by decide) (SI_m (by decide) (by decide) (SI_m (by decide) (by decide) i)))
theorem SI_aft {S : ax_M} (d e : Int) (i : SI S) : SI (sAft S d e) := by
  unfold sAft
  repeat' split
  all_goals first | exact i | exact SI_m (by decide) (by decide) (SI_m (by decide) (by decide) (SI_m (by decide) (by decide) i))
theorem SI_forg {S : ax_M} (w : Int) (i : SI S) : SI (sForg S w) := by
  unfold sForg
  repeat' split
  all_goals first | exact i | exact SI_m (by decide) (by decide) i
theorem SI_sheet {S : ax_M} (s f n : Int) (i : SI S) : SI (sSheet S s f n) := by
  unfold sSheet
  repeat' split
  · exact SI_mee _ i
  · refine SI_ne (by rw [zer_ne (by decide) (by decide)]) (by rw [zer_ne (by decide) (by decide)]) (SI_m (S := ms (ms S 70 s 1) 71 s f) (k := 72) (j := s) (v := n) (by decide) (by decide) (SI_m (by decide) (by decide) (SI_m (by decide) (by decide) i)))
  · exact i
theorem SI_lose {S : ax_M} (s : Int) (i : SI S) : SI (sLose S s) := by
  unfold sLose
  repeat' split
  all_goals first | exact i | exact SI_mee _ i | exact SI_m (by decide) (by decide) i
theorem SI_put {S : ax_M} (s f j v : Int) (i : SI S) : SI (sPut S s f j v) := by
  unfold sPut
  repeat' split
  all_goals first | exact i | exact SI_mee _ i | exact SI_m (by decide) (by decide) i
theorem SI_get {S : ax_M} (s f j : Int) (i : SI S) : SI (sGet S s f j) := by
  unfold sGet
  repeat' split
  all_goals first | exact i | exact SI_mee _ i
theorem SI_copy {S : ax_M} (s a t b n : Int) (i : SI S) : SI (sCopy S s a t b n) := by
  unfold sCopy
  repeat' split
  · exact SI_ne (by unfold mc; rw [if_neg (by omega)]) (by unfold mc; rw [if_neg (by omega)]) i
  · exact SI_mee _ i
  · exact i
theorem wrN_0 {S : ax_M} (h : SR S) (s : Int) : 0 ≤ wrN S s := by
  have a : 0 ≤ S 72 s ∧ S 72 s ≤ 60 := h 72 s rfl
  have b := vw_n8 h
  unfold wrN
  split <;> omega
theorem SI_writ {S : ax_M} (h : SR S) (s : Int) (i : SI S) : SI (sWrit S s) := by
  unfold sWrit
  repeat' split
  · exact SI_mee _ i
  · exact SI_ne (by rw [wrS_ne (wrN_0 h s) (by decide)]) (by rw [wrS_ne (wrN_0 h s) (by decide)]) i
  · exact i
/-- what holds of the memory between two calls of the law -/
def LI (M : ax_M) : Prop := ∃ S, RC S M ∧ bs S M ∧ SI S
theorem bs_mo {S M M2 : ax_M} (h : bs S M) (m : mo M M2) : bs S M2 := fun k i e => by
  rw [m k i ?_]
  · exact h k i e
  · have := of_decide_eq_true e
    omega
theorem LI_0 : LI M0 := ⟨M0, RC_0, bs_0, SI_0⟩
theorem LI_s {S2 M1 M2 : ax_M} (h1 : RC S2 M1) (h2 : bs S2 M2) (h3 : co M1 M2) (h4 : SI S2) : LI M2 := ⟨S2, RC_co h1 h3, h2, h4⟩
