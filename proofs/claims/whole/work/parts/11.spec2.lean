section AXE
variable {X : ax_X} {cc : ByteArray} {own : String} {n pc : Nat} {lv : List (Option ax_V)} {rest st : List ax_V} {M : ax_M}
theorem rr_ialoadE {k N : Nat} {i w lo up : Int} (B : ax_b X cc own n) (hd : decode cc pc = .ok (.iaload, 1)) (ha : ax_arr 0 k N lo up) (hi : 0 ≤ i ∧ i < N) (he : M k i = w) (kk : lo ≤ w ∧ w ≤ up → AW X (pc + 1) lv (aI w :: rest) M) : AW X pc lv (aI i :: aR k :: rest) M := rr_iaload B hd ha hi (fun b => by rw [he] at b ⊢; exact kk b)
theorem rr_zaloadE {k N : Nat} {i w lo up : Int} (B : ax_b X cc own n) (hd : decode cc pc = .ok (.baload, 1)) (ha : ax_arr 1 k N lo up) (hi : 0 ≤ i ∧ i < N) (he : M k i = w) (kk : lo ≤ w ∧ w ≤ up → AW X (pc + 1) lv (aI w :: rest) M) : AW X pc lv (aI i :: aR k :: rest) M := rr_zaload B hd ha hi (fun b => by rw [he] at b ⊢; exact kk b)
theorem rr_laloadE {k N : Nat} {i w lo up : Int} (B : ax_b X cc own n) (hd : decode cc pc = .ok (.laload, 1)) (ha : ax_arr 2 k N lo up) (hi : 0 ≤ i ∧ i < N) (he : M k i = w) (kk : lo ≤ w ∧ w ≤ up → AW X (pc + 1) lv (aL w :: rest) M) : AW X pc lv (aI i :: aR k :: rest) M := rr_laload B hd ha hi (fun b => by rw [he] at b ⊢; exact kk b)
theorem rr_getIE {idx ci j k : Nat} {z lo up w : Int} (B : ax_b X cc own n) (hd : decode cc pc = .ok (.getfield idx, 3)) (hf : ax_fl own idx ci j) (ho : ax_ob k ci j z lo up) (he : M k z = w) (kk : lo ≤ w ∧ w ≤ up → AW X (pc + 3) lv (aI w :: rest) M) : AW X pc lv (aR k :: rest) M := rr_getI B hd hf ho (fun b => by rw [he] at b ⊢; exact kk b)
end AXE
/-! what is read of the state: V has the reference's rows; DEEDS and RULES as they are read -/
def relM (V : ax_M) (k : Nat) (i : Int) : Prop := match k with
  | 9 => i = 2 ∨ i = 8 ∨ i = 26 ∨ i = 30 ∨ i = 38
  | 47 | 48 | 49 | 50 | 51 => 0 ≤ i ∧ i < V 9 2
  | 52 | 53 | 54 => 0 ≤ i ∧ i < 4
  | 45 | 46 | 55 | 56 | 57 | 58 | 59 | 60 | 65 | 66 | 67 | 68 | 69 | 70 | 71 | 72 | 73 => True
  | _ => False
def AgM (V M : ax_M) : Prop := ∀ k i, relM V k i → M k i = V k i
def need (V : ax_M) (d : Int) : Int := if V 52 (V 47 d) < on (V 51 d) then V 52 (V 47 d) else on (V 51 d)
def trn (V : ax_M) (d h : Int) : Bool := decide (V 53 (V 47 d) = 1 ∧ V 59 h ≠ V 49 d)
def avl (V : ax_M) (d h p : Int) : Bool := tb (V 51 d) p && decide (V 55 p ≤ h ∧ h < V 56 p)
def pkS (V : ax_M) (d h bits : Int) (p best : Int) : Int := if (avl V d h p = true ∧ tb bits p = false) ∧ (best = -1 ∨ V 57 p < V 57 best) then p else best
def pk (V : ax_M) (d h bits : Int) : Int := itI (pkS V d h bits) (-1) 8
def cIt (V : ax_M) (d h : Int) : Nat → Int → Int
  | 0, bits => bits
  | k + 1, bits => if pk V d h bits = -1 then -3 else cIt V d h k (nO bits (p2 (pk V d h bits)))
/-- who comes, as bits; -3: it cannot be -/
def cm (V : ax_M) (d h : Int) : Int := if trn V d h = true ∧ V 60 1 = 0 then -3 else cIt V d h (need V d).toNat 0
def prc (V : ax_M) (bits : Int) : Int := itI (fun p s => s + if tb bits p = true then V 57 p else 0) 0 8
def cst (V : ax_M) (d h : Int) : Int := if cm V d h = -3 then -3 else prc V (cm V d h) + if trn V d h = true then V 60 0 else 0
def hrs (V : ax_M) (d : Int) : Int := itI (fun h b => nO b (bi (decide (cm V d h ≠ -3)) * p2 h)) 0 8
def wth (V : ax_M) (set : Int) : Int := itI (fun d s => s + if tb set d = true then V 50 d else 0) 0 (V 9 2)
def askd (V : ax_M) (p h : Int) : Int := itI (fun d n => n + if cm V d h ≠ -3 ∧ tb (cm V d h) p = true then 1 else 0) 0 (V 9 2)
def lik (V : ax_M) (d h : Int) : Int := if cm V d h = -3 then -3 else (if V 54 (V 47 d) = 1 then 4 else 0) + (if V 59 h = V 49 d ∨ trn V d h = true then 3 else 0) + 3 * on (cm V d h) / on (V 51 d)
theorem pk_r (V : ax_M) (d h bits : Int) : -1 ≤ pk V d h bits ∧ pk V d h bits ≤ 7 := by
  unfold pk
  have := itI_inv (f := pkS V d h bits) (a := -1) (p := 8) (fun i x => -1 ≤ x ∧ x < i) (by decide) (by decide) (fun i x h0 h1 q => by
    unfold pkS
    split <;> omega)
  omega
theorem on_pos {b : Int} (h : 0 < b ∧ b ≤ 1023) : 1 ≤ on b := by
  have key : ∀ m : Fin 1024, m.val ≠ 0 → 1 ≤ on ((m.val : Nat) : Int) := by decide +kernel
  have := key ⟨b.toNat, by omega⟩ (by show b.toNat ≠ 0; omega)
  rw [show (((⟨b.toNat, by omega⟩ : Fin 1024).val : Nat) : Int) = b by show ((b.toNat : Nat) : Int) = b; omega] at this
  exact this
theorem cIt_r (V : ax_M) (d h : Int) : ∀ (k : Nat) (bits : Int), 0 ≤ bits ∧ bits < 256 → cIt V d h k bits = -3 ∨ 0 ≤ cIt V d h k bits ∧ cIt V d h k bits < 256
  | 0, bits, hb => Or.inr hb
  | k + 1, bits, hb => by
    unfold cIt
    split
    · left; rfl
    · have h1 := pk_r V d h bits
      have h2 := p2_le (a := pk V d h bits) (b := 7) h1.2
      have h3 : p2 7 = 128 := rfl
      have h4 := p2_pos (pk V d h bits)
      exact cIt_r V d h k _ (nO_lt 8 hb ⟨by omega, by show p2 _ < 256; omega⟩)
theorem cm_r (V : ax_M) (d h : Int) : cm V d h = -3 ∨ 0 ≤ cm V d h ∧ cm V d h < 256 := by
  unfold cm
  split
  · left; rfl
  · exact cIt_r V d h _ 0 (by omega)
theorem prc_r (V : ax_M) (bits : Int) (hV : ∀ p, 0 ≤ p → p < 8 → 0 ≤ V 57 p ∧ V 57 p ≤ 99) : 0 ≤ prc V bits ∧ prc V bits ≤ 792 := by
  unfold prc
  have := itI_inv (f := fun p s => s + if tb bits p = true then V 57 p else 0) (a := 0) (p := 8) (fun i x => 0 ≤ x ∧ x ≤ 99 * i) (by decide) (by decide) (fun i x h0 h1 q => by
    have := hV i h0 h1
    show 0 ≤ x + (if tb bits i = true then V 57 i else 0) ∧ x + (if tb bits i = true then V 57 i else 0) ≤ _
    split <;> omega)
  omega
