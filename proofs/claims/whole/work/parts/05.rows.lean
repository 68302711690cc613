/-! bits of numbers that are not negative -/
def tb (a k : Int) : Bool := a.toNat.testBit k.toNat
def p2 (k : Int) : Int := ((2 ^ k.toNat : Nat) : Int)
def nA (a b : Int) : Int := ((a.toNat &&& b.toNat : Nat) : Int)
def nO (a b : Int) : Int := ((a.toNat ||| b.toNat : Nat) : Int)
/-- a without the bits of b -/
def nD (a b : Int) : Int := ((a.toNat ^^^ (a.toNat &&& b.toNat) : Nat) : Int)
theorem p2_pos (k : Int) : 1 ≤ p2 k := by
  unfold p2
  have := Nat.one_le_two_pow (n := k.toNat)
  omega
theorem p2_le {a b : Int} (h : a ≤ b) : p2 a ≤ p2 b := by
  unfold p2
  have := Nat.pow_le_pow_right (n := 2) (by omega) (show a.toNat ≤ b.toNat by omega)
  omega
theorem ax_toNat {a : Int} (h : 0 ≤ a ∧ a ≤ 2147483647) : (ax_i a).toBitVec.toNat = a.toNat := by
  show (BitVec.ofInt 32 a).toNat = _
  rw [BitVec.toNat_ofInt]
  omega
theorem ax_i_nat {n : Nat} (x : Int32) (h : x.toBitVec.toNat = n) (hn : n ≤ 2147483647) : x.toInt = (n : Int) := by
  show x.toBitVec.toInt = _
  rw [BitVec.toInt_eq_toNat_cond, h]
  split <;> omega
theorem ax_and_nn {a b : Int} (ha : 0 ≤ a ∧ a ≤ 2147483647) (hb : 0 ≤ b ∧ b ≤ 2147483647) : ax_and a b = nA a b := by
  unfold ax_and nA
  refine ax_i_nat _ ?_ ?_
  · rw [Int32.toBitVec_and, BitVec.toNat_and, ax_toNat ha, ax_toNat hb]
  · have := @Nat.and_le_left a.toNat b.toNat
    omega
theorem ax_or_nn {a b : Int} (ha : 0 ≤ a ∧ a ≤ 2147483647) (hb : 0 ≤ b ∧ b ≤ 2147483647) : ax_or a b = nO a b := by
  unfold ax_or nO
  refine ax_i_nat _ ?_ ?_
  · rw [Int32.toBitVec_or, BitVec.toNat_or, ax_toNat ha, ax_toNat hb]
  · have := Nat.or_lt_two_pow (n := 31) (show a.toNat < 2 ^ 31 by omega) (show b.toNat < 2 ^ 31 by omega)
    omega
theorem ax_shr_nn {a k : Int} (ha : 0 ≤ a ∧ a ≤ 2147483647) (hk : 0 ≤ k ∧ k ≤ 31) : ax_shr a k = ((a.toNat >>> k.toNat : Nat) : Int) := by
  unfold ax_shr
  have e1 : ax_i k &&& 31 = ax_i k := by
    have h := ax_and_nn (a := k) (b := 31) (by omega) (by omega)
    have e2 : (ax_i k &&& ax_i 31).toInt = k := by
      have h2 : ax_and k 31 = k := by
        rw [h]
        unfold nA
        have : k.toNat &&& (31 : Int).toNat = k.toNat := by
          show k.toNat &&& (2 ^ 5 - 1) = _
          rw [Nat.and_two_pow_sub_one_eq_mod, Nat.mod_eq_of_lt (by omega)]
        rw [this]
        omega
      exact h2
    apply Int32.toInt_inj.mp
    rw [ax_i_of (by omega)]
    exact e2
  rw [e1]
  refine ax_i_nat _ ?_ ?_
  · rw [Int32.toBitVec_shiftRight]
    have e3 : ((ax_i k).toBitVec.smod 32).toNat = k.toNat := by
      have : (ax_i k).toBitVec = BitVec.ofNat 32 k.toNat := by
        apply BitVec.eq_of_toNat_eq
        rw [ax_toNat (by omega), BitVec.toNat_ofNat]
        omega
      rw [this]
      have hk2 : k.toNat < 32 := by omega
      generalize k.toNat = j at hk2
      have : ∀ j : Fin 32, ((BitVec.ofNat 32 j.val).smod 32).toNat = j.val := by decide
      exact this ⟨j, hk2⟩
    rw [show (ax_i a).toBitVec.sshiftRight' ((ax_i k).toBitVec.smod 32) = (ax_i a).toBitVec.sshiftRight ((ax_i k).toBitVec.smod 32).toNat from rfl, e3]
    rw [BitVec.sshiftRight_eq_of_msb_false, BitVec.toNat_ushiftRight, ax_toNat ha]
    rw [BitVec.msb_eq_decide, ax_toNat ha]
    simp
    omega
  · have := Nat.shiftRight_le a.toNat k.toNat
    omega
theorem ax_shl_nn {a k : Int} (hk : 0 ≤ k ∧ k ≤ 30) (ha : 0 ≤ a) (h : a * p2 k ≤ 2147483647) : ax_shl a k = a * p2 k := by
  unfold ax_shl
  have e1 : ax_i k &&& 31 = ax_i k := by
    have h := ax_and_nn (a := k) (b := 31) (by omega) (by omega)
    have h2 : ax_and k 31 = k := by
      rw [h]
      unfold nA
      have : k.toNat &&& (31 : Int).toNat = k.toNat := by
        show k.toNat &&& (2 ^ 5 - 1) = _
        rw [Nat.and_two_pow_sub_one_eq_mod, Nat.mod_eq_of_lt (by omega)]
      rw [this]
      omega
    apply Int32.toInt_inj.mp
    rw [ax_i_of (by omega)]
    exact h2
  rw [e1]
  have hp := p2_pos k
  have ha2 : a ≤ 2147483647 := by
    have := Int.mul_le_mul_of_nonneg_left hp ha
    omega
  have e4 : a * p2 k = ((a.toNat * 2 ^ k.toNat : Nat) : Int) := by
    unfold p2
    push_cast
    rw [show ((a.toNat : Nat) : Int) = a by omega]
  rw [e4]
  refine ax_i_nat _ ?_ (by omega)
  rw [Int32.toBitVec_shiftLeft]
  have e3 : ((ax_i k).toBitVec.smod 32).toNat = k.toNat := by
    have : (ax_i k).toBitVec = BitVec.ofNat 32 k.toNat := by
      apply BitVec.eq_of_toNat_eq
      rw [ax_toNat (by omega), BitVec.toNat_ofNat]
      omega
    rw [this]
    have hk2 : k.toNat < 32 := by omega
    generalize k.toNat = j at hk2
    have : ∀ j : Fin 32, ((BitVec.ofNat 32 j.val).smod 32).toNat = j.val := by decide
    exact this ⟨j, hk2⟩
  rw [show (ax_i a).toBitVec <<< ((ax_i k).toBitVec.smod 32) = (ax_i a).toBitVec <<< ((ax_i k).toBitVec.smod 32).toNat from rfl, e3, BitVec.toNat_shiftLeft, ax_toNat ⟨ha, ha2⟩, Nat.shiftLeft_eq, Nat.mod_eq_of_lt (by omega)]
theorem ax_andnot {a b : Int} (ha : 0 ≤ a ∧ a ≤ 2147483647) (hb : 0 ≤ b ∧ b ≤ 2147483647) : ax_and a (-1 - b) = nD a b := by
  unfold ax_and nD
  have e : ax_i (-1 - b) = ax_i b ^^^ ax_i (-1) := (ax_not b).symm
  rw [e]
  refine ax_i_nat _ ?_ ?_
  · rw [Int32.toBitVec_and, Int32.toBitVec_xor]
    have e2 : (ax_i a).toBitVec &&& ((ax_i b).toBitVec ^^^ (ax_i (-1)).toBitVec) = (ax_i a).toBitVec ^^^ ((ax_i a).toBitVec &&& (ax_i b).toBitVec) := by
      have e5 : (ax_i (-1)).toBitVec = BitVec.allOnes 32 := by decide
      rw [e5]
      generalize (ax_i a).toBitVec = u
      generalize (ax_i b).toBitVec = w
      apply BitVec.eq_of_getLsbD_eq
      intro i hi
      simp only [BitVec.getLsbD_and, BitVec.getLsbD_xor, BitVec.getLsbD_allOnes, hi, decide_true]
      cases u.getLsbD i <;> cases w.getLsbD i <;> rfl
    rw [e2, BitVec.toNat_xor, BitVec.toNat_and, ax_toNat ha, ax_toNat hb]
  · have := Nat.xor_lt_two_pow (n := 31) (show a.toNat < 2 ^ 31 by omega) (show a.toNat &&& b.toNat < 2 ^ 31 by have := @Nat.and_le_left a.toNat b.toNat; omega)
    omega
theorem nA_le (a b : Int) (ha : 0 ≤ a) (hb : 0 ≤ b) : 0 ≤ nA a b ∧ nA a b ≤ a ∧ nA a b ≤ b := by
  unfold nA
  have h1 := @Nat.and_le_left a.toNat b.toNat
  have h2 := @Nat.and_le_right a.toNat b.toNat
  omega
theorem nO_lt {a b : Int} (n : Nat) (ha : 0 ≤ a ∧ a < ((2 ^ n : Nat) : Int)) (hb : 0 ≤ b ∧ b < ((2 ^ n : Nat) : Int)) : 0 ≤ nO a b ∧ nO a b < ((2 ^ n : Nat) : Int) := by
  unfold nO
  have := Nat.or_lt_two_pow (n := n) (show a.toNat < 2 ^ n by omega) (show b.toNat < 2 ^ n by omega)
  omega
theorem nD_le (a b : Int) (ha : 0 ≤ a) : 0 ≤ nD a b ∧ nD a b ≤ a := by
  unfold nD
  have e : a.toNat ^^^ (a.toNat &&& b.toNat) ≤ a.toNat := by
    apply Nat.le_of_testBit
    intro i
    simp
    cases a.toNat.testBit i <;> simp
  omega
theorem tb_nA (a b k : Int) : tb (nA a b) k = (tb a k && tb b k) := by simp [tb, nA]
theorem tb_nO (a b k : Int) : tb (nO a b) k = (tb a k || tb b k) := by simp [tb, nO]
theorem tb_nD (a b k : Int) : tb (nD a b) k = (tb a k && !tb b k) := by
  simp [tb, nD]
  cases a.toNat.testBit k.toNat <;> simp
theorem tb_p2 {k j : Int} (hk : 0 ≤ k) (hj : 0 ≤ j) : tb (p2 k) j = decide (j = k) := by
  unfold tb p2
  rw [Int.toNat_natCast, Nat.testBit_two_pow]
  apply decide_eq_decide.mpr
  omega
theorem tb_0 (k : Int) : tb 0 k = false := by simp [tb]
theorem tb_ext {a b : Int} (ha : 0 ≤ a) (hb : 0 ≤ b) (h : ∀ k : Int, 0 ≤ k → tb a k = tb b k) : a = b := by
  have : a.toNat = b.toNat := by
    apply Nat.eq_of_testBit_eq
    intro i
    have := h (i : Int) (by omega)
    simpa [tb] using this
  omega
/-- bit k, as the class and the reference read it -/
theorem tb_eq {a k : Int} (ha : 0 ≤ a ∧ a ≤ 2147483647) (hk : 0 ≤ k ∧ k ≤ 31) : ax_and (ax_shr a k) 1 = bi (tb a k) := by
  rw [ax_shr_nn ha hk]
  have hs := Nat.shiftRight_le a.toNat k.toNat
  have hs2 : (0 : Int) ≤ ((a.toNat >>> k.toNat : Nat) : Int) ∧ ((a.toNat >>> k.toNat : Nat) : Int) ≤ 2147483647 := by
    generalize a.toNat >>> k.toNat = q at hs ⊢
    omega
  rw [ax_and_nn hs2 (by omega)]
  unfold nA tb bi Nat.testBit
  rw [Int.toNat_natCast]
  have e : (1 : Int).toNat = 1 := rfl
  rw [e, Nat.and_comm]
  by_cases h : 1 &&& a.toNat >>> k.toNat = 0
  · rw [h]; simp
  · have h2 : 1 &&& a.toNat >>> k.toNat ≤ 1 := Nat.and_le_left
    have h1 : 1 &&& a.toNat >>> k.toNat = 1 := by omega
    rw [h1]; simp
theorem bi_01 (b : Bool) : bi b = 0 ∨ bi b = 1 := by cases b <;> decide
theorem bi_t : bi true = 1 := rfl
theorem bi_f : bi false = 0 := rfl
theorem bi_r (b : Bool) : 0 ≤ bi b ∧ bi b ≤ 1 := by cases b <;> decide
section AXS
variable {X : ax_X} {cc : ByteArray} {own : String} {n pc : Nat} {lv : List (Option ax_V)} {rest st : List ax_V} {M : ax_M}
theorem ax_bm {m : Nat} (B : ax_b X cc own n) (h : m ≤ n) : ax_b X cc own m := ⟨B.1, B.2.1, B.2.2.1, B.2.2.2.1, B.2.2.2.2.1, B.2.2.2.2.2.1, B.2.2.2.2.2.2.1, B.2.2.2.2.2.2.2.1, B.2.2.2.2.2.2.2.2.1, ⟨Nat.le_trans h B.2.2.2.2.2.2.2.2.2.1.1, by have := B.2.2.2.2.2.2.2.2.2.1.2; omega⟩, B.2.2.2.2.2.2.2.2.2.2⟩
theorem rr_ldcw {idx : Nat} {z : Int} {v : Int32} (B : ax_b X cc own n) (hd : decode cc pc = .ok (.ldc_w idx, 3)) (hw : Cond.constant own idx v ∈ ax_big) (hz : v = ax_i z) (k : AW X (pc + 3) lv (aI z :: rest) M) : AW X pc lv rest M := fun hG H locs ls hP hS hl hn => lv_ldcw B.1 B.2.1 B.2.2.2.1 (hz ▸ B.2.2.2.2.1 _ hw) hd (k hG H locs ls hP hS hl hn)
theorem rr_ineg {a : Int} (B : ax_b X cc own n) (hd : decode cc pc = .ok (.ineg, 1)) (k : AW X (pc + 1) lv (aI (-a) :: rest) M) : AW X pc lv (aI a :: rest) M := by
  intro hG H locs ls hP hS hl hn
  refine lv_ineg B.1 B.2.1 hd ?_
  refine lv_topi (fun y hy => ?_)
  obtain rfl := hy.trans (Int32.ofInt_neg (a := a)).symm
  exact k hG H locs ls hP hS hl hn
theorem rr_tabOut {a dflt lo hi : Int} {offs : Array Int} {len : Nat} (tgt : Nat) (B : ax_b X cc own n) (hd : decode cc pc = .ok (.tableswitch dflt lo hi offs, len)) (hr : -2147483648 ≤ a ∧ a ≤ 2147483647) (h : a < lo ∨ hi < a) (ht : (pc : Int) + dflt = (tgt : Int)) (k : AW X tgt lv rest M) : AW X pc lv (aI a :: rest) M := by
  intro hG H locs ls hP hS hl hn
  refine lv_tableOut B.1 B.2.1 hd ?_ ht (k hG H locs ls hP hS hl hn)
  rw [ax_i_of hr]
  exact h
theorem rr_tabAt {a dflt lo hi off : Int} {offs : Array Int} {len : Nat} (c : Int) (tgt : Nat) (B : ax_b X cc own n) (hd : decode cc pc = .ok (.tableswitch dflt lo hi offs, len)) (hc : a = c) (hr : -2147483648 ≤ c ∧ c ≤ 2147483647 ∧ lo ≤ c ∧ c ≤ hi) (ho : offs[(c - lo).toNat]? = some off) (ht : (pc : Int) + off = (tgt : Int)) (k : AW X tgt lv rest M) : AW X pc lv (aI a :: rest) M := by
  subst hc
  intro hG H locs ls hP hS hl hn
  have e := ax_i_of (z := a) ⟨hr.1, hr.2.1⟩
  exact lv_tableIn B.1 B.2.1 hd (by rw [e]; omega) (by rw [e]; omega) (by rw [e]; exact ho) ht (k hG H locs ls hP hS hl hn)
theorem rr_lkp {a dflt off : Int} {ps : Array (Int × Int)} {len : Nat} (tgt : Nat) (B : ax_b X cc own n) (hd : decode cc pc = .ok (.lookupswitch dflt ps, len)) (hr : -2147483648 ≤ a ∧ a ≤ 2147483647) (hp : (ps.toList.zip (ps.toList.drop 1)).all (fun (a, next) => a.1 < next.1) = true) (ho : Op.lookupswitch.offset ps.toList dflt a = off) (ht : (pc : Int) + off = (tgt : Int)) (k : AW X tgt lv rest M) : AW X pc lv (aI a :: rest) M := by
  intro hG H locs ls hP hS hl hn
  exact lv_lookup B.1 B.2.1 hd hp (by rw [ax_i_of hr]; exact ho) ht (k hG H locs ls hP hS hl hn)
/-! bits -/
theorem rr_andN {a b : Int} (B : ax_b X cc own n) (hd : decode cc pc = .ok (.iand, 1)) (ha : 0 ≤ a ∧ a ≤ 2147483647 ∧ 0 ≤ b ∧ b ≤ 2147483647) (k : 0 ≤ nA a b ∧ nA a b ≤ a ∧ nA a b ≤ b → AW X (pc + 1) lv (aI (nA a b) :: rest) M) : AW X pc lv (aI b :: aI a :: rest) M :=
  rr_iand B hd (by rw [ax_and_nn ⟨ha.1, ha.2.1⟩ ha.2.2]; exact k (nA_le a b ha.1 ha.2.2.1))
theorem rr_andD {a b : Int} (B : ax_b X cc own n) (hd : decode cc pc = .ok (.iand, 1)) (ha : 0 ≤ a ∧ a ≤ 2147483647 ∧ 0 ≤ b ∧ b ≤ 2147483647) (k : 0 ≤ nD a b ∧ nD a b ≤ a → AW X (pc + 1) lv (aI (nD a b) :: rest) M) : AW X pc lv (aI (-1 - b) :: aI a :: rest) M :=
  rr_iand B hd (by rw [ax_andnot ⟨ha.1, ha.2.1⟩ ha.2.2]; exact k (nD_le a b ha.1))
/-- both below 2 to the w -/
theorem rr_orN {a b : Int} (w : Nat) (B : ax_b X cc own n) (hd : decode cc pc = .ok (.ior, 1)) (hw : w ≤ 31) (ha : 0 ≤ a ∧ a < ((2 ^ w : Nat) : Int) ∧ 0 ≤ b ∧ b < ((2 ^ w : Nat) : Int)) (k : 0 ≤ nO a b ∧ nO a b < ((2 ^ w : Nat) : Int) → AW X (pc + 1) lv (aI (nO a b) :: rest) M) : AW X pc lv (aI b :: aI a :: rest) M := by
  have h31 : (2 ^ w : Nat) ≤ 2 ^ 31 := Nat.pow_le_pow_right (by omega) hw
  exact rr_ior B hd (by rw [ax_or_nn (by omega) (by omega)]; exact k (nO_lt w ⟨ha.1, ha.2.1⟩ ha.2.2))
theorem rr_shl1 {k0 : Int} (B : ax_b X cc own n) (hd : decode cc pc = .ok (.ishl, 1)) (hk : 0 ≤ k0 ∧ k0 ≤ 10) (k : 1 ≤ p2 k0 ∧ p2 k0 ≤ 1024 → AW X (pc + 1) lv (aI (p2 k0) :: rest) M) : AW X pc lv (aI k0 :: aI 1 :: rest) M := by
  have h1 := p2_pos k0
  have h2 := p2_le hk.2
  have h3 : p2 10 = 1024 := rfl
  refine rr_ishl B hd ?_
  rw [ax_shl_nn ⟨hk.1, by omega⟩ (by omega) (by omega), Int.one_mul]
  exact k ⟨h1, by omega⟩
theorem rr_shlB {k0 : Int} {b : Bool} (B : ax_b X cc own n) (hd : decode cc pc = .ok (.ishl, 1)) (hk : 0 ≤ k0 ∧ k0 ≤ 10) (k : 0 ≤ bi b * p2 k0 ∧ bi b * p2 k0 ≤ p2 k0 ∧ p2 k0 ≤ 1024 → AW X (pc + 1) lv (aI (bi b * p2 k0) :: rest) M) : AW X pc lv (aI k0 :: aI (bi b) :: rest) M := by
  have h1 := p2_pos k0
  have h2 := p2_le hk.2
  have h3 : p2 10 = 1024 := rfl
  have h4 : 0 ≤ bi b * p2 k0 ∧ bi b * p2 k0 ≤ p2 k0 := by cases b <;> simp [bi] <;> omega
  refine rr_ishl B hd ?_
  rw [ax_shl_nn ⟨hk.1, by omega⟩ (bi_r b).1 (by omega)]
  exact k ⟨h4.1, h4.2, by omega⟩
/-- (a >> k) & 1 -/
theorem rr_tb {a k0 : Int} (B : ax_b X cc own n) (hd : decode cc pc = .ok (.ishr, 1)) (hd1 : decode cc (pc + 1) = .ok (.iconst 1, 1)) (hd2 : decode cc (pc + 1 + 1) = .ok (.iand, 1)) (ha : 0 ≤ a ∧ a ≤ 2147483647) (hk : 0 ≤ k0 ∧ k0 ≤ 31) (k : AW X (pc + 1 + 1 + 1) lv (aI (bi (tb a k0)) :: rest) M) : AW X pc lv (aI k0 :: aI a :: rest) M :=
  rr_ishr B hd (rr_iconst B hd1 (rr_iand B hd2 (by rw [tb_eq ha hk]; exact k)))
/-! copies -/
def mc (M : ax_M) (ks : Nat) (sp : Int) (kd : Nat) (dp m : Int) : ax_M := fun k i => if k = kd ∧ dp ≤ i ∧ i < dp + m then M ks (sp + (i - dp)) else M k i
theorem mc_ne {M : ax_M} {ks kd k : Nat} {sp dp m : Int} (h : k ≠ kd) : mc M ks sp kd dp m k = M k := by
  funext i
  simp [mc, h]
theorem mc_RG {ks kd : Nat} {sp dp m lo up : Int} (h : RG M) (h1 : ∀ i, bd ks i = (lo, up)) (h2 : ∀ i, bd kd i = (lo, up)) : RG (mc M ks sp kd dp m) := by
  intro k i
  unfold mc
  split
  · next q =>
    obtain ⟨rfl, -⟩ := q
    rw [h2]
    exact h.at (h1 _)
  · exact h k i
theorem rr_copyI {idx ks kd N1 N2 : Nat} {sp dp m lo up : Int} (B : ax_b X cc own n) (hd : decode cc pc = .ok (.invokestatic idx, 3)) (hn1 : 1 ≤ n) (hlk : Cond.methodLink own idx arraycopyName ∈ ax_big) (hnat : Cond.native arraycopyName ∈ ax_big) (hst : Cond.static arraycopyName ∈ ax_big) (hini : Cond.initialized "java/lang/System" ∈ ax_big) (ha : ax_arr 0 ks N1 lo up) (hb : ax_arr 0 kd N2 lo up) (hr : 0 ≤ sp ∧ 0 ≤ dp ∧ 0 ≤ m ∧ sp + m ≤ N1 ∧ dp + m ≤ N2) (hrs : ax_rs rest ≤ 8) (kk : AW X (pc + 3) lv rest (mc M ks sp kd dp m)) : AW X pc lv (aI m :: aI dp :: aR kd :: aI sp :: aR ks :: rest) M := by
  intro hG H locs ls hP hS hl hn
  obtain ⟨⟨x1, hs1⟩, hN1, hb1⟩ := ha
  obtain ⟨⟨x2, hs2⟩, hN2, hb2⟩ := hb
  have nn : ∀ z : Int, 0 ≤ z → z ≤ 2147483647 → ¬ ax_i z < 0 ∧ (ax_i z).toNatClampNeg = z.toNat := by
    intro z h1 h2
    have e := ax_i_of (z := z) (by omega)
    refine ⟨?_, by rw [← Int32.toNat_toInt, e]⟩
    rw [← ax_i_0, ax_i_lt (by omega)]
    omega
  obtain ⟨s1, s2⟩ := nn sp (by omega) (by omega)
  obtain ⟨d1, d2⟩ := nn dp (by omega) (by omega)
  obtain ⟨m1, m2⟩ := nn m (by omega) (by omega)
  have hR := B.2.2.2.2.2.2.2.2.2.1
  refine va_copyi B.1 B.2.1 (by rw [B.2.2.1]; exact hl.1.symm) B.2.2.2.1 (B.2.2.2.2.1 _ hlk) (B.2.2.2.2.1 _ hnat) (B.2.2.2.2.1 _ hst) (B.2.2.2.2.1 _ hini) B.2.2.2.2.2.1.1 hP (ax_vaD B.2.2.2.2.2.2.2.1) hS ks kd 0 0 (ax_arrI hs1) (ax_arrI hs2) rfl rfl rfl s1 d1 m1 (by rw [s2, m2]; omega) (by rw [d2, m2]; omega) (fun _ _ => rfl) (Nat.le_trans hn1 hR.1) (by
    rw [ax_rs_cat]
    show ax_rs rest + (5 + 2 + 11) ≤ _
    omega) hd (fun H1 locs1 hP1 hD1 hS1 => ?_)
  rw [wd_set (M' := mc M ks sp kd dp m) (fun j hj => ax_cell_off (mc_ne hj)) (by
    unfold ax_cell
    rw [hs2]
    show Sum.inl (X.g.cI, N2, Sum.inl fun j : Nat => ax_i (mc M ks sp kd dp m kd j)) = _
    congr 4
    funext j
    unfold va_cpy mc
    rw [s2, d2, m2]
    by_cases q : dp.toNat ≤ j ∧ j < dp.toNat + m.toNat
    · rw [if_pos (by omega), if_pos q]
      congr 2
      omega
    · rw [if_neg (by omega), if_neg q])] at hP1
  exact kk (mc_RG hG hb1 hb2) H1 locs1 ls hP1 hS1 hl hn
theorem rr_copyL {idx ks kd N1 N2 : Nat} {sp dp m lo up : Int} (B : ax_b X cc own n) (hd : decode cc pc = .ok (.invokestatic idx, 3)) (hn1 : 1 ≤ n) (hlk : Cond.methodLink own idx arraycopyName ∈ ax_big) (hnat : Cond.native arraycopyName ∈ ax_big) (hst : Cond.static arraycopyName ∈ ax_big) (hini : Cond.initialized "java/lang/System" ∈ ax_big) (ha : ax_arr 2 ks N1 lo up) (hb : ax_arr 2 kd N2 lo up) (hr : 0 ≤ sp ∧ 0 ≤ dp ∧ 0 ≤ m ∧ sp + m ≤ N1 ∧ dp + m ≤ N2) (hrs : ax_rs rest ≤ 8) (kk : AW X (pc + 3) lv rest (mc M ks sp kd dp m)) : AW X pc lv (aI m :: aI dp :: aR kd :: aI sp :: aR ks :: rest) M := by
  intro hG H locs ls hP hS hl hn
  obtain ⟨⟨x1, hs1⟩, hN1, hb1⟩ := ha
  obtain ⟨⟨x2, hs2⟩, hN2, hb2⟩ := hb
  have nn : ∀ z : Int, 0 ≤ z → z ≤ 2147483647 → ¬ ax_i z < 0 ∧ (ax_i z).toNatClampNeg = z.toNat := by
    intro z h1 h2
    have e := ax_i_of (z := z) (by omega)
    refine ⟨?_, by rw [← Int32.toNat_toInt, e]⟩
    rw [← ax_i_0, ax_i_lt (by omega)]
    omega
  obtain ⟨s1, s2⟩ := nn sp (by omega) (by omega)
  obtain ⟨d1, d2⟩ := nn dp (by omega) (by omega)
  obtain ⟨m1, m2⟩ := nn m (by omega) (by omega)
  have hR := B.2.2.2.2.2.2.2.2.2.1
  refine va_copyl B.1 B.2.1 (by rw [B.2.2.1]; exact hl.1.symm) B.2.2.2.1 (B.2.2.2.2.1 _ hlk) (B.2.2.2.2.1 _ hnat) (B.2.2.2.2.1 _ hst) (B.2.2.2.2.1 _ hini) B.2.2.2.2.2.1.1 hP (ax_vaD B.2.2.2.2.2.2.2.1) hS ks kd 2 2 (ax_arrJ hs1) (ax_arrJ hs2) rfl rfl rfl s1 d1 m1 (by rw [s2, m2]; omega) (by rw [d2, m2]; omega) (fun _ _ => rfl) (Nat.le_trans hn1 hR.1) (by
    rw [ax_rs_cat]
    show ax_rs rest + (5 + 2 + 11) ≤ _
    omega) hd (fun H1 locs1 hP1 hD1 hS1 => ?_)
  rw [wd_set (M' := mc M ks sp kd dp m) (fun j hj => ax_cell_off (mc_ne hj)) (by
    unfold ax_cell
    rw [hs2]
    show Sum.inl (X.g.cJ, N2, Sum.inr (Sum.inl fun j : Nat => ax_l (mc M ks sp kd dp m kd j))) = _
    congr 5
    funext j
    unfold va_cpy mc
    rw [s2, d2, m2]
    by_cases q : dp.toNat ≤ j ∧ j < dp.toNat + m.toNat
    · rw [if_pos (by omega), if_pos q]
      congr 2
      omega
    · rw [if_neg (by omega), if_neg q])] at hP1
  exact kk (mc_RG hG hb1 hb2) H1 locs1 ls hP1 hS1 hl hn
/-! calls by the kind of answer: an int, a long, nothing; the memory behind it given, or by what is said of it -/
def pI (v : Int) (M2 : ax_M) : Option ax_V → ax_M → Prop := fun r M' => r = some (aI v) ∧ M' = M2
def pL (v : Int) (M2 : ax_M) : Option ax_V → ax_M → Prop := fun r M' => r = some (aL v) ∧ M' = M2
def pV (M2 : ax_M) : Option ax_V → ax_M → Prop := fun r M' => r = none ∧ M' = M2
def pIR (v : Int) (F : ax_M → Prop) : Option ax_V → ax_M → Prop := fun r M' => r = some (aI v) ∧ F M'
def pLR (v : Int) (F : ax_M → Prop) : Option ax_V → ax_M → Prop := fun r M' => r = some (aL v) ∧ F M'
def pVR (F : ax_M → Prop) : Option ax_V → ax_M → Prop := fun r M' => r = none ∧ F M'
theorem rc_VI {md : ax_Md} {idx k d o ci : Nat} {As : List ax_V} {fs : List (Option Nat)} {T : u_T} {N : Nat} {M2 : ax_M} {v : Int} (B : ax_b X cc own n) (hd : decode cc pc = .ok (.invokevirtual idx, 3)) (hv : ax_vm md k) (hl : Cond.methodLink own idx md.1 ∈ ax_big) (hs : ax_shp o = (4, ci, fs)) (hci : vwCl[ci]? = some (md.1.cls, T, N)) (hc : CT X.g md d (aR o :: As) M (pI v M2)) (hdn : d + 1 ≤ n) (hk : As.length = k) (hrs : ax_rs rest ≤ 8) (hst : st = As.reverse ++ aR o :: rest) (kk : AW X (pc + 3) lv (aI v :: rest) M2) : AW X pc lv st M :=
  rr_callV (ax_bm B hdn) hd hv hl hs hci hc hk hrs hst (fun r M3 h => by obtain ⟨rfl, rfl⟩ := h; exact kk)
theorem rc_VIR {md : ax_Md} {idx k d o ci : Nat} {As : List ax_V} {fs : List (Option Nat)} {T : u_T} {N : Nat} {F : ax_M → Prop} {v : Int} (B : ax_b X cc own n) (hd : decode cc pc = .ok (.invokevirtual idx, 3)) (hv : ax_vm md k) (hl : Cond.methodLink own idx md.1 ∈ ax_big) (hs : ax_shp o = (4, ci, fs)) (hci : vwCl[ci]? = some (md.1.cls, T, N)) (hc : CT X.g md d (aR o :: As) M (pIR v F)) (hdn : d + 1 ≤ n) (hk : As.length = k) (hrs : ax_rs rest ≤ 8) (hst : st = As.reverse ++ aR o :: rest) (kk : ∀ M2, F M2 → AW X (pc + 3) lv (aI v :: rest) M2) : AW X pc lv st M :=
  rr_callV (ax_bm B hdn) hd hv hl hs hci hc hk hrs hst (fun r M3 h => by obtain ⟨rfl, h2⟩ := h; exact kk M3 h2)
theorem rc_VL {md : ax_Md} {idx k d o ci : Nat} {As : List ax_V} {fs : List (Option Nat)} {T : u_T} {N : Nat} {M2 : ax_M} {v : Int} (B : ax_b X cc own n) (hd : decode cc pc = .ok (.invokevirtual idx, 3)) (hv : ax_vm md k) (hl : Cond.methodLink own idx md.1 ∈ ax_big) (hs : ax_shp o = (4, ci, fs)) (hci : vwCl[ci]? = some (md.1.cls, T, N)) (hc : CT X.g md d (aR o :: As) M (pL v M2)) (hdn : d + 1 ≤ n) (hk : As.length = k) (hrs : ax_rs rest ≤ 8) (hst : st = As.reverse ++ aR o :: rest) (kk : AW X (pc + 3) lv (aL v :: rest) M2) : AW X pc lv st M :=
  rr_callV (ax_bm B hdn) hd hv hl hs hci hc hk hrs hst (fun r M3 h => by obtain ⟨rfl, rfl⟩ := h; exact kk)
theorem rc_VLR {md : ax_Md} {idx k d o ci : Nat} {As : List ax_V} {fs : List (Option Nat)} {T : u_T} {N : Nat} {F : ax_M → Prop} {v : Int} (B : ax_b X cc own n) (hd : decode cc pc = .ok (.invokevirtual idx, 3)) (hv : ax_vm md k) (hl : Cond.methodLink own idx md.1 ∈ ax_big) (hs : ax_shp o = (4, ci, fs)) (hci : vwCl[ci]? = some (md.1.cls, T, N)) (hc : CT X.g md d (aR o :: As) M (pLR v F)) (hdn : d + 1 ≤ n) (hk : As.length = k) (hrs : ax_rs rest ≤ 8) (hst : st = As.reverse ++ aR o :: rest) (kk : ∀ M2, F M2 → AW X (pc + 3) lv (aL v :: rest) M2) : AW X pc lv st M :=
  rr_callV (ax_bm B hdn) hd hv hl hs hci hc hk hrs hst (fun r M3 h => by obtain ⟨rfl, h2⟩ := h; exact kk M3 h2)
theorem rc_VV {md : ax_Md} {idx k d o ci : Nat} {As : List ax_V} {fs : List (Option Nat)} {T : u_T} {N : Nat} {M2 : ax_M} (B : ax_b X cc own n) (hd : decode cc pc = .ok (.invokevirtual idx, 3)) (hv : ax_vm md k) (hl : Cond.methodLink own idx md.1 ∈ ax_big) (hs : ax_shp o = (4, ci, fs)) (hci : vwCl[ci]? = some (md.1.cls, T, N)) (hc : CT X.g md d (aR o :: As) M (pV M2)) (hdn : d + 1 ≤ n) (hk : As.length = k) (hrs : ax_rs rest ≤ 8) (hst : st = As.reverse ++ aR o :: rest) (kk : AW X (pc + 3) lv (rest) M2) : AW X pc lv st M :=
  rr_callV (ax_bm B hdn) hd hv hl hs hci hc hk hrs hst (fun r M3 h => by obtain ⟨rfl, rfl⟩ := h; exact kk)
theorem rc_VVR {md : ax_Md} {idx k d o ci : Nat} {As : List ax_V} {fs : List (Option Nat)} {T : u_T} {N : Nat} {F : ax_M → Prop} (B : ax_b X cc own n) (hd : decode cc pc = .ok (.invokevirtual idx, 3)) (hv : ax_vm md k) (hl : Cond.methodLink own idx md.1 ∈ ax_big) (hs : ax_shp o = (4, ci, fs)) (hci : vwCl[ci]? = some (md.1.cls, T, N)) (hc : CT X.g md d (aR o :: As) M (pVR F)) (hdn : d + 1 ≤ n) (hk : As.length = k) (hrs : ax_rs rest ≤ 8) (hst : st = As.reverse ++ aR o :: rest) (kk : ∀ M2, F M2 → AW X (pc + 3) lv (rest) M2) : AW X pc lv st M :=
  rr_callV (ax_bm B hdn) hd hv hl hs hci hc hk hrs hst (fun r M3 h => by obtain ⟨rfl, h2⟩ := h; exact kk M3 h2)
theorem rc_SI {md : ax_Md} {idx k d : Nat} {As : List ax_V} {M2 : ax_M} {v : Int} (B : ax_b X cc own n) (hd : decode cc pc = .ok (.invokestatic idx, 3)) (hv : ax_st md k) (hl : Cond.methodLink own idx md.1 ∈ ax_big) (hc : CT X.g md d As M (pI v M2)) (hdn : d + 1 ≤ n) (hk : As.length = k) (hrs : ax_rs rest ≤ 8) (hst : st = As.reverse ++ rest) (kk : AW X (pc + 3) lv (aI v :: rest) M2) : AW X pc lv st M :=
  rr_callS (ax_bm B hdn) hd hv hl hc hk hrs hst (fun r M3 h => by obtain ⟨rfl, rfl⟩ := h; exact kk)
theorem rc_SIR {md : ax_Md} {idx k d : Nat} {As : List ax_V} {F : ax_M → Prop} {v : Int} (B : ax_b X cc own n) (hd : decode cc pc = .ok (.invokestatic idx, 3)) (hv : ax_st md k) (hl : Cond.methodLink own idx md.1 ∈ ax_big) (hc : CT X.g md d As M (pIR v F)) (hdn : d + 1 ≤ n) (hk : As.length = k) (hrs : ax_rs rest ≤ 8) (hst : st = As.reverse ++ rest) (kk : ∀ M2, F M2 → AW X (pc + 3) lv (aI v :: rest) M2) : AW X pc lv st M :=
  rr_callS (ax_bm B hdn) hd hv hl hc hk hrs hst (fun r M3 h => by obtain ⟨rfl, h2⟩ := h; exact kk M3 h2)
theorem rc_SL {md : ax_Md} {idx k d : Nat} {As : List ax_V} {M2 : ax_M} {v : Int} (B : ax_b X cc own n) (hd : decode cc pc = .ok (.invokestatic idx, 3)) (hv : ax_st md k) (hl : Cond.methodLink own idx md.1 ∈ ax_big) (hc : CT X.g md d As M (pL v M2)) (hdn : d + 1 ≤ n) (hk : As.length = k) (hrs : ax_rs rest ≤ 8) (hst : st = As.reverse ++ rest) (kk : AW X (pc + 3) lv (aL v :: rest) M2) : AW X pc lv st M :=
  rr_callS (ax_bm B hdn) hd hv hl hc hk hrs hst (fun r M3 h => by obtain ⟨rfl, rfl⟩ := h; exact kk)
theorem rc_SLR {md : ax_Md} {idx k d : Nat} {As : List ax_V} {F : ax_M → Prop} {v : Int} (B : ax_b X cc own n) (hd : decode cc pc = .ok (.invokestatic idx, 3)) (hv : ax_st md k) (hl : Cond.methodLink own idx md.1 ∈ ax_big) (hc : CT X.g md d As M (pLR v F)) (hdn : d + 1 ≤ n) (hk : As.length = k) (hrs : ax_rs rest ≤ 8) (hst : st = As.reverse ++ rest) (kk : ∀ M2, F M2 → AW X (pc + 3) lv (aL v :: rest) M2) : AW X pc lv st M :=
  rr_callS (ax_bm B hdn) hd hv hl hc hk hrs hst (fun r M3 h => by obtain ⟨rfl, h2⟩ := h; exact kk M3 h2)
theorem rc_SV {md : ax_Md} {idx k d : Nat} {As : List ax_V} {M2 : ax_M} (B : ax_b X cc own n) (hd : decode cc pc = .ok (.invokestatic idx, 3)) (hv : ax_st md k) (hl : Cond.methodLink own idx md.1 ∈ ax_big) (hc : CT X.g md d As M (pV M2)) (hdn : d + 1 ≤ n) (hk : As.length = k) (hrs : ax_rs rest ≤ 8) (hst : st = As.reverse ++ rest) (kk : AW X (pc + 3) lv (rest) M2) : AW X pc lv st M :=
  rr_callS (ax_bm B hdn) hd hv hl hc hk hrs hst (fun r M3 h => by obtain ⟨rfl, rfl⟩ := h; exact kk)
theorem rc_SVR {md : ax_Md} {idx k d : Nat} {As : List ax_V} {F : ax_M → Prop} (B : ax_b X cc own n) (hd : decode cc pc = .ok (.invokestatic idx, 3)) (hv : ax_st md k) (hl : Cond.methodLink own idx md.1 ∈ ax_big) (hc : CT X.g md d As M (pVR F)) (hdn : d + 1 ≤ n) (hk : As.length = k) (hrs : ax_rs rest ≤ 8) (hst : st = As.reverse ++ rest) (kk : ∀ M2, F M2 → AW X (pc + 3) lv (rest) M2) : AW X pc lv st M :=
  rr_callS (ax_bm B hdn) hd hv hl hc hk hrs hst (fun r M3 h => by obtain ⟨rfl, h2⟩ := h; exact kk M3 h2)
theorem rc_NI {md : ax_Md} {idx k d : Nat} {host : String} {As : List ax_V} {M2 : ax_M} {v : Int} (B : ax_b X cc own n) (hd : decode cc pc = .ok (.invokestatic idx, 3)) (hv : ax_st md k) (hl : Cond.methodLinkNest own idx md.1 host ∈ ax_nw) (hc : CT X.g md d As M (pI v M2)) (hdn : d + 1 ≤ n) (hk : As.length = k) (hrs : ax_rs rest ≤ 8) (hst : st = As.reverse ++ rest) (kk : AW X (pc + 3) lv (aI v :: rest) M2) : AW X pc lv st M :=
  rr_callN (ax_bm B hdn) hd hv hl hc hk hrs hst (fun r M3 h => by obtain ⟨rfl, rfl⟩ := h; exact kk)
theorem rc_NIR {md : ax_Md} {idx k d : Nat} {host : String} {As : List ax_V} {F : ax_M → Prop} {v : Int} (B : ax_b X cc own n) (hd : decode cc pc = .ok (.invokestatic idx, 3)) (hv : ax_st md k) (hl : Cond.methodLinkNest own idx md.1 host ∈ ax_nw) (hc : CT X.g md d As M (pIR v F)) (hdn : d + 1 ≤ n) (hk : As.length = k) (hrs : ax_rs rest ≤ 8) (hst : st = As.reverse ++ rest) (kk : ∀ M2, F M2 → AW X (pc + 3) lv (aI v :: rest) M2) : AW X pc lv st M :=
  rr_callN (ax_bm B hdn) hd hv hl hc hk hrs hst (fun r M3 h => by obtain ⟨rfl, h2⟩ := h; exact kk M3 h2)
theorem rc_NL {md : ax_Md} {idx k d : Nat} {host : String} {As : List ax_V} {M2 : ax_M} {v : Int} (B : ax_b X cc own n) (hd : decode cc pc = .ok (.invokestatic idx, 3)) (hv : ax_st md k) (hl : Cond.methodLinkNest own idx md.1 host ∈ ax_nw) (hc : CT X.g md d As M (pL v M2)) (hdn : d + 1 ≤ n) (hk : As.length = k) (hrs : ax_rs rest ≤ 8) (hst : st = As.reverse ++ rest) (kk : AW X (pc + 3) lv (aL v :: rest) M2) : AW X pc lv st M :=
  rr_callN (ax_bm B hdn) hd hv hl hc hk hrs hst (fun r M3 h => by obtain ⟨rfl, rfl⟩ := h; exact kk)
theorem rc_NLR {md : ax_Md} {idx k d : Nat} {host : String} {As : List ax_V} {F : ax_M → Prop} {v : Int} (B : ax_b X cc own n) (hd : decode cc pc = .ok (.invokestatic idx, 3)) (hv : ax_st md k) (hl : Cond.methodLinkNest own idx md.1 host ∈ ax_nw) (hc : CT X.g md d As M (pLR v F)) (hdn : d + 1 ≤ n) (hk : As.length = k) (hrs : ax_rs rest ≤ 8) (hst : st = As.reverse ++ rest) (kk : ∀ M2, F M2 → AW X (pc + 3) lv (aL v :: rest) M2) : AW X pc lv st M :=
  rr_callN (ax_bm B hdn) hd hv hl hc hk hrs hst (fun r M3 h => by obtain ⟨rfl, h2⟩ := h; exact kk M3 h2)
theorem rc_NV {md : ax_Md} {idx k d : Nat} {host : String} {As : List ax_V} {M2 : ax_M} (B : ax_b X cc own n) (hd : decode cc pc = .ok (.invokestatic idx, 3)) (hv : ax_st md k) (hl : Cond.methodLinkNest own idx md.1 host ∈ ax_nw) (hc : CT X.g md d As M (pV M2)) (hdn : d + 1 ≤ n) (hk : As.length = k) (hrs : ax_rs rest ≤ 8) (hst : st = As.reverse ++ rest) (kk : AW X (pc + 3) lv (rest) M2) : AW X pc lv st M :=
  rr_callN (ax_bm B hdn) hd hv hl hc hk hrs hst (fun r M3 h => by obtain ⟨rfl, rfl⟩ := h; exact kk)
theorem rc_NVR {md : ax_Md} {idx k d : Nat} {host : String} {As : List ax_V} {F : ax_M → Prop} (B : ax_b X cc own n) (hd : decode cc pc = .ok (.invokestatic idx, 3)) (hv : ax_st md k) (hl : Cond.methodLinkNest own idx md.1 host ∈ ax_nw) (hc : CT X.g md d As M (pVR F)) (hdn : d + 1 ≤ n) (hk : As.length = k) (hrs : ax_rs rest ≤ 8) (hst : st = As.reverse ++ rest) (kk : ∀ M2, F M2 → AW X (pc + 3) lv (rest) M2) : AW X pc lv st M :=
  rr_callN (ax_bm B hdn) hd hv hl hc hk hrs hst (fun r M3 h => by obtain ⟨rfl, h2⟩ := h; exact kk M3 h2)
theorem rc_VI0 {md : ax_Md} {idx d o ci : Nat} {fs : List (Option Nat)} {T : u_T} {N : Nat} {M2 : ax_M} {v : Int} (B : ax_b X cc own n) (hd : decode cc pc = .ok (.invokevirtual idx, 3)) (hv : ax_vm md 0) (hl : Cond.methodLink own idx md.1 ∈ ax_big) (hs : ax_shp o = (4, ci, fs)) (hci : vwCl[ci]? = some (md.1.cls, T, N)) (hc : CT X.g md d [aR o] M (pI v M2)) (hdn : d + 1 ≤ n) (hrs : ax_rs rest ≤ 8) (kk : AW X (pc + 3) lv (aI v :: rest) M2) : AW X pc lv (aR o :: rest) M :=
  rc_VI (As := []) B hd hv hl hs hci hc hdn rfl hrs rfl kk
theorem rc_VIR0 {md : ax_Md} {idx d o ci : Nat} {fs : List (Option Nat)} {T : u_T} {N : Nat} {F : ax_M → Prop} {v : Int} (B : ax_b X cc own n) (hd : decode cc pc = .ok (.invokevirtual idx, 3)) (hv : ax_vm md 0) (hl : Cond.methodLink own idx md.1 ∈ ax_big) (hs : ax_shp o = (4, ci, fs)) (hci : vwCl[ci]? = some (md.1.cls, T, N)) (hc : CT X.g md d [aR o] M (pIR v F)) (hdn : d + 1 ≤ n) (hrs : ax_rs rest ≤ 8) (kk : ∀ M2, F M2 → AW X (pc + 3) lv (aI v :: rest) M2) : AW X pc lv (aR o :: rest) M :=
  rc_VIR (As := []) B hd hv hl hs hci hc hdn rfl hrs rfl kk
theorem rc_VI1 {md : ax_Md} {idx d o ci : Nat} {a0 : ax_V} {fs : List (Option Nat)} {T : u_T} {N : Nat} {M2 : ax_M} {v : Int} (B : ax_b X cc own n) (hd : decode cc pc = .ok (.invokevirtual idx, 3)) (hv : ax_vm md 1) (hl : Cond.methodLink own idx md.1 ∈ ax_big) (hs : ax_shp o = (4, ci, fs)) (hci : vwCl[ci]? = some (md.1.cls, T, N)) (hc : CT X.g md d [aR o, a0] M (pI v M2)) (hdn : d + 1 ≤ n) (hrs : ax_rs rest ≤ 8) (kk : AW X (pc + 3) lv (aI v :: rest) M2) : AW X pc lv (a0 :: aR o :: rest) M :=
  rc_VI (As := [a0]) B hd hv hl hs hci hc hdn rfl hrs rfl kk
theorem rc_VIR1 {md : ax_Md} {idx d o ci : Nat} {a0 : ax_V} {fs : List (Option Nat)} {T : u_T} {N : Nat} {F : ax_M → Prop} {v : Int} (B : ax_b X cc own n) (hd : decode cc pc = .ok (.invokevirtual idx, 3)) (hv : ax_vm md 1) (hl : Cond.methodLink own idx md.1 ∈ ax_big) (hs : ax_shp o = (4, ci, fs)) (hci : vwCl[ci]? = some (md.1.cls, T, N)) (hc : CT X.g md d [aR o, a0] M (pIR v F)) (hdn : d + 1 ≤ n) (hrs : ax_rs rest ≤ 8) (kk : ∀ M2, F M2 → AW X (pc + 3) lv (aI v :: rest) M2) : AW X pc lv (a0 :: aR o :: rest) M :=
  rc_VIR (As := [a0]) B hd hv hl hs hci hc hdn rfl hrs rfl kk
theorem rc_VI2 {md : ax_Md} {idx d o ci : Nat} {a0 a1 : ax_V} {fs : List (Option Nat)} {T : u_T} {N : Nat} {M2 : ax_M} {v : Int} (B : ax_b X cc own n) (hd : decode cc pc = .ok (.invokevirtual idx, 3)) (hv : ax_vm md 2) (hl : Cond.methodLink own idx md.1 ∈ ax_big) (hs : ax_shp o = (4, ci, fs)) (hci : vwCl[ci]? = some (md.1.cls, T, N)) (hc : CT X.g md d [aR o, a0, a1] M (pI v M2)) (hdn : d + 1 ≤ n) (hrs : ax_rs rest ≤ 8) (kk : AW X (pc + 3) lv (aI v :: rest) M2) : AW X pc lv (a1 :: a0 :: aR o :: rest) M :=
  rc_VI (As := [a0, a1]) B hd hv hl hs hci hc hdn rfl hrs rfl kk
theorem rc_VIR2 {md : ax_Md} {idx d o ci : Nat} {a0 a1 : ax_V} {fs : List (Option Nat)} {T : u_T} {N : Nat} {F : ax_M → Prop} {v : Int} (B : ax_b X cc own n) (hd : decode cc pc = .ok (.invokevirtual idx, 3)) (hv : ax_vm md 2) (hl : Cond.methodLink own idx md.1 ∈ ax_big) (hs : ax_shp o = (4, ci, fs)) (hci : vwCl[ci]? = some (md.1.cls, T, N)) (hc : CT X.g md d [aR o, a0, a1] M (pIR v F)) (hdn : d + 1 ≤ n) (hrs : ax_rs rest ≤ 8) (kk : ∀ M2, F M2 → AW X (pc + 3) lv (aI v :: rest) M2) : AW X pc lv (a1 :: a0 :: aR o :: rest) M :=
  rc_VIR (As := [a0, a1]) B hd hv hl hs hci hc hdn rfl hrs rfl kk
theorem rc_VI3 {md : ax_Md} {idx d o ci : Nat} {a0 a1 a2 : ax_V} {fs : List (Option Nat)} {T : u_T} {N : Nat} {M2 : ax_M} {v : Int} (B : ax_b X cc own n) (hd : decode cc pc = .ok (.invokevirtual idx, 3)) (hv : ax_vm md 3) (hl : Cond.methodLink own idx md.1 ∈ ax_big) (hs : ax_shp o = (4, ci, fs)) (hci : vwCl[ci]? = some (md.1.cls, T, N)) (hc : CT X.g md d [aR o, a0, a1, a2] M (pI v M2)) (hdn : d + 1 ≤ n) (hrs : ax_rs rest ≤ 8) (kk : AW X (pc + 3) lv (aI v :: rest) M2) : AW X pc lv (a2 :: a1 :: a0 :: aR o :: rest) M :=
  rc_VI (As := [a0, a1, a2]) B hd hv hl hs hci hc hdn rfl hrs rfl kk
theorem rc_VIR3 {md : ax_Md} {idx d o ci : Nat} {a0 a1 a2 : ax_V} {fs : List (Option Nat)} {T : u_T} {N : Nat} {F : ax_M → Prop} {v : Int} (B : ax_b X cc own n) (hd : decode cc pc = .ok (.invokevirtual idx, 3)) (hv : ax_vm md 3) (hl : Cond.methodLink own idx md.1 ∈ ax_big) (hs : ax_shp o = (4, ci, fs)) (hci : vwCl[ci]? = some (md.1.cls, T, N)) (hc : CT X.g md d [aR o, a0, a1, a2] M (pIR v F)) (hdn : d + 1 ≤ n) (hrs : ax_rs rest ≤ 8) (kk : ∀ M2, F M2 → AW X (pc + 3) lv (aI v :: rest) M2) : AW X pc lv (a2 :: a1 :: a0 :: aR o :: rest) M :=
  rc_VIR (As := [a0, a1, a2]) B hd hv hl hs hci hc hdn rfl hrs rfl kk
theorem rc_VI4 {md : ax_Md} {idx d o ci : Nat} {a0 a1 a2 a3 : ax_V} {fs : List (Option Nat)} {T : u_T} {N : Nat} {M2 : ax_M} {v : Int} (B : ax_b X cc own n) (hd : decode cc pc = .ok (.invokevirtual idx, 3)) (hv : ax_vm md 4) (hl : Cond.methodLink own idx md.1 ∈ ax_big) (hs : ax_shp o = (4, ci, fs)) (hci : vwCl[ci]? = some (md.1.cls, T, N)) (hc : CT X.g md d [aR o, a0, a1, a2, a3] M (pI v M2)) (hdn : d + 1 ≤ n) (hrs : ax_rs rest ≤ 8) (kk : AW X (pc + 3) lv (aI v :: rest) M2) : AW X pc lv (a3 :: a2 :: a1 :: a0 :: aR o :: rest) M :=
  rc_VI (As := [a0, a1, a2, a3]) B hd hv hl hs hci hc hdn rfl hrs rfl kk
theorem rc_VIR4 {md : ax_Md} {idx d o ci : Nat} {a0 a1 a2 a3 : ax_V} {fs : List (Option Nat)} {T : u_T} {N : Nat} {F : ax_M → Prop} {v : Int} (B : ax_b X cc own n) (hd : decode cc pc = .ok (.invokevirtual idx, 3)) (hv : ax_vm md 4) (hl : Cond.methodLink own idx md.1 ∈ ax_big) (hs : ax_shp o = (4, ci, fs)) (hci : vwCl[ci]? = some (md.1.cls, T, N)) (hc : CT X.g md d [aR o, a0, a1, a2, a3] M (pIR v F)) (hdn : d + 1 ≤ n) (hrs : ax_rs rest ≤ 8) (kk : ∀ M2, F M2 → AW X (pc + 3) lv (aI v :: rest) M2) : AW X pc lv (a3 :: a2 :: a1 :: a0 :: aR o :: rest) M :=
  rc_VIR (As := [a0, a1, a2, a3]) B hd hv hl hs hci hc hdn rfl hrs rfl kk
theorem rc_VI5 {md : ax_Md} {idx d o ci : Nat} {a0 a1 a2 a3 a4 : ax_V} {fs : List (Option Nat)} {T : u_T} {N : Nat} {M2 : ax_M} {v : Int} (B : ax_b X cc own n) (hd : decode cc pc = .ok (.invokevirtual idx, 3)) (hv : ax_vm md 5) (hl : Cond.methodLink own idx md.1 ∈ ax_big) (hs : ax_shp o = (4, ci, fs)) (hci : vwCl[ci]? = some (md.1.cls, T, N)) (hc : CT X.g md d [aR o, a0, a1, a2, a3, a4] M (pI v M2)) (hdn : d + 1 ≤ n) (hrs : ax_rs rest ≤ 8) (kk : AW X (pc + 3) lv (aI v :: rest) M2) : AW X pc lv (a4 :: a3 :: a2 :: a1 :: a0 :: aR o :: rest) M :=
  rc_VI (As := [a0, a1, a2, a3, a4]) B hd hv hl hs hci hc hdn rfl hrs rfl kk
theorem rc_VIR5 {md : ax_Md} {idx d o ci : Nat} {a0 a1 a2 a3 a4 : ax_V} {fs : List (Option Nat)} {T : u_T} {N : Nat} {F : ax_M → Prop} {v : Int} (B : ax_b X cc own n) (hd : decode cc pc = .ok (.invokevirtual idx, 3)) (hv : ax_vm md 5) (hl : Cond.methodLink own idx md.1 ∈ ax_big) (hs : ax_shp o = (4, ci, fs)) (hci : vwCl[ci]? = some (md.1.cls, T, N)) (hc : CT X.g md d [aR o, a0, a1, a2, a3, a4] M (pIR v F)) (hdn : d + 1 ≤ n) (hrs : ax_rs rest ≤ 8) (kk : ∀ M2, F M2 → AW X (pc + 3) lv (aI v :: rest) M2) : AW X pc lv (a4 :: a3 :: a2 :: a1 :: a0 :: aR o :: rest) M :=
  rc_VIR (As := [a0, a1, a2, a3, a4]) B hd hv hl hs hci hc hdn rfl hrs rfl kk
theorem rc_VI6 {md : ax_Md} {idx d o ci : Nat} {a0 a1 a2 a3 a4 a5 : ax_V} {fs : List (Option Nat)} {T : u_T} {N : Nat} {M2 : ax_M} {v : Int} (B : ax_b X cc own n) (hd : decode cc pc = .ok (.invokevirtual idx, 3)) (hv : ax_vm md 6) (hl : Cond.methodLink own idx md.1 ∈ ax_big) (hs : ax_shp o = (4, ci, fs)) (hci : vwCl[ci]? = some (md.1.cls, T, N)) (hc : CT X.g md d [aR o, a0, a1, a2, a3, a4, a5] M (pI v M2)) (hdn : d + 1 ≤ n) (hrs : ax_rs rest ≤ 8) (kk : AW X (pc + 3) lv (aI v :: rest) M2) : AW X pc lv (a5 :: a4 :: a3 :: a2 :: a1 :: a0 :: aR o :: rest) M :=
  rc_VI (As := [a0, a1, a2, a3, a4, a5]) B hd hv hl hs hci hc hdn rfl hrs rfl kk
theorem rc_VIR6 {md : ax_Md} {idx d o ci : Nat} {a0 a1 a2 a3 a4 a5 : ax_V} {fs : List (Option Nat)} {T : u_T} {N : Nat} {F : ax_M → Prop} {v : Int} (B : ax_b X cc own n) (hd : decode cc pc = .ok (.invokevirtual idx, 3)) (hv : ax_vm md 6) (hl : Cond.methodLink own idx md.1 ∈ ax_big) (hs : ax_shp o = (4, ci, fs)) (hci : vwCl[ci]? = some (md.1.cls, T, N)) (hc : CT X.g md d [aR o, a0, a1, a2, a3, a4, a5] M (pIR v F)) (hdn : d + 1 ≤ n) (hrs : ax_rs rest ≤ 8) (kk : ∀ M2, F M2 → AW X (pc + 3) lv (aI v :: rest) M2) : AW X pc lv (a5 :: a4 :: a3 :: a2 :: a1 :: a0 :: aR o :: rest) M :=
  rc_VIR (As := [a0, a1, a2, a3, a4, a5]) B hd hv hl hs hci hc hdn rfl hrs rfl kk
theorem rc_VL0 {md : ax_Md} {idx d o ci : Nat} {fs : List (Option Nat)} {T : u_T} {N : Nat} {M2 : ax_M} {v : Int} (B : ax_b X cc own n) (hd : decode cc pc = .ok (.invokevirtual idx, 3)) (hv : ax_vm md 0) (hl : Cond.methodLink own idx md.1 ∈ ax_big) (hs : ax_shp o = (4, ci, fs)) (hci : vwCl[ci]? = some (md.1.cls, T, N)) (hc : CT X.g md d [aR o] M (pL v M2)) (hdn : d + 1 ≤ n) (hrs : ax_rs rest ≤ 8) (kk : AW X (pc + 3) lv (aL v :: rest) M2) : AW X pc lv (aR o :: rest) M :=
  rc_VL (As := []) B hd hv hl hs hci hc hdn rfl hrs rfl kk
theorem rc_VLR0 {md : ax_Md} {idx d o ci : Nat} {fs : List (Option Nat)} {T : u_T} {N : Nat} {F : ax_M → Prop} {v : Int} (B : ax_b X cc own n) (hd : decode cc pc = .ok (.invokevirtual idx, 3)) (hv : ax_vm md 0) (hl : Cond.methodLink own idx md.1 ∈ ax_big) (hs : ax_shp o = (4, ci, fs)) (hci : vwCl[ci]? = some (md.1.cls, T, N)) (hc : CT X.g md d [aR o] M (pLR v F)) (hdn : d + 1 ≤ n) (hrs : ax_rs rest ≤ 8) (kk : ∀ M2, F M2 → AW X (pc + 3) lv (aL v :: rest) M2) : AW X pc lv (aR o :: rest) M :=
  rc_VLR (As := []) B hd hv hl hs hci hc hdn rfl hrs rfl kk
theorem rc_VL1 {md : ax_Md} {idx d o ci : Nat} {a0 : ax_V} {fs : List (Option Nat)} {T : u_T} {N : Nat} {M2 : ax_M} {v : Int} (B : ax_b X cc own n) (hd : decode cc pc = .ok (.invokevirtual idx, 3)) (hv : ax_vm md 1) (hl : Cond.methodLink own idx md.1 ∈ ax_big) (hs : ax_shp o = (4, ci, fs)) (hci : vwCl[ci]? = some (md.1.cls, T, N)) (hc : CT X.g md d [aR o, a0] M (pL v M2)) (hdn : d + 1 ≤ n) (hrs : ax_rs rest ≤ 8) (kk : AW X (pc + 3) lv (aL v :: rest) M2) : AW X pc lv (a0 :: aR o :: rest) M :=
  rc_VL (As := [a0]) B hd hv hl hs hci hc hdn rfl hrs rfl kk
theorem rc_VLR1 {md : ax_Md} {idx d o ci : Nat} {a0 : ax_V} {fs : List (Option Nat)} {T : u_T} {N : Nat} {F : ax_M → Prop} {v : Int} (B : ax_b X cc own n) (hd : decode cc pc = .ok (.invokevirtual idx, 3)) (hv : ax_vm md 1) (hl : Cond.methodLink own idx md.1 ∈ ax_big) (hs : ax_shp o = (4, ci, fs)) (hci : vwCl[ci]? = some (md.1.cls, T, N)) (hc : CT X.g md d [aR o, a0] M (pLR v F)) (hdn : d + 1 ≤ n) (hrs : ax_rs rest ≤ 8) (kk : ∀ M2, F M2 → AW X (pc + 3) lv (aL v :: rest) M2) : AW X pc lv (a0 :: aR o :: rest) M :=
  rc_VLR (As := [a0]) B hd hv hl hs hci hc hdn rfl hrs rfl kk
theorem rc_VL2 {md : ax_Md} {idx d o ci : Nat} {a0 a1 : ax_V} {fs : List (Option Nat)} {T : u_T} {N : Nat} {M2 : ax_M} {v : Int} (B : ax_b X cc own n) (hd : decode cc pc = .ok (.invokevirtual idx, 3)) (hv : ax_vm md 2) (hl : Cond.methodLink own idx md.1 ∈ ax_big) (hs : ax_shp o = (4, ci, fs)) (hci : vwCl[ci]? = some (md.1.cls, T, N)) (hc : CT X.g md d [aR o, a0, a1] M (pL v M2)) (hdn : d + 1 ≤ n) (hrs : ax_rs rest ≤ 8) (kk : AW X (pc + 3) lv (aL v :: rest) M2) : AW X pc lv (a1 :: a0 :: aR o :: rest) M :=
  rc_VL (As := [a0, a1]) B hd hv hl hs hci hc hdn rfl hrs rfl kk
theorem rc_VLR2 {md : ax_Md} {idx d o ci : Nat} {a0 a1 : ax_V} {fs : List (Option Nat)} {T : u_T} {N : Nat} {F : ax_M → Prop} {v : Int} (B : ax_b X cc own n) (hd : decode cc pc = .ok (.invokevirtual idx, 3)) (hv : ax_vm md 2) (hl : Cond.methodLink own idx md.1 ∈ ax_big) (hs : ax_shp o = (4, ci, fs)) (hci : vwCl[ci]? = some (md.1.cls, T, N)) (hc : CT X.g md d [aR o, a0, a1] M (pLR v F)) (hdn : d + 1 ≤ n) (hrs : ax_rs rest ≤ 8) (kk : ∀ M2, F M2 → AW X (pc + 3) lv (aL v :: rest) M2) : AW X pc lv (a1 :: a0 :: aR o :: rest) M :=
  rc_VLR (As := [a0, a1]) B hd hv hl hs hci hc hdn rfl hrs rfl kk
theorem rc_VL3 {md : ax_Md} {idx d o ci : Nat} {a0 a1 a2 : ax_V} {fs : List (Option Nat)} {T : u_T} {N : Nat} {M2 : ax_M} {v : Int} (B : ax_b X cc own n) (hd : decode cc pc = .ok (.invokevirtual idx, 3)) (hv : ax_vm md 3) (hl : Cond.methodLink own idx md.1 ∈ ax_big) (hs : ax_shp o = (4, ci, fs)) (hci : vwCl[ci]? = some (md.1.cls, T, N)) (hc : CT X.g md d [aR o, a0, a1, a2] M (pL v M2)) (hdn : d + 1 ≤ n) (hrs : ax_rs rest ≤ 8) (kk : AW X (pc + 3) lv (aL v :: rest) M2) : AW X pc lv (a2 :: a1 :: a0 :: aR o :: rest) M :=
  rc_VL (As := [a0, a1, a2]) B hd hv hl hs hci hc hdn rfl hrs rfl kk
theorem rc_VLR3 {md : ax_Md} {idx d o ci : Nat} {a0 a1 a2 : ax_V} {fs : List (Option Nat)} {T : u_T} {N : Nat} {F : ax_M → Prop} {v : Int} (B : ax_b X cc own n) (hd : decode cc pc = .ok (.invokevirtual idx, 3)) (hv : ax_vm md 3) (hl : Cond.methodLink own idx md.1 ∈ ax_big) (hs : ax_shp o = (4, ci, fs)) (hci : vwCl[ci]? = some (md.1.cls, T, N)) (hc : CT X.g md d [aR o, a0, a1, a2] M (pLR v F)) (hdn : d + 1 ≤ n) (hrs : ax_rs rest ≤ 8) (kk : ∀ M2, F M2 → AW X (pc + 3) lv (aL v :: rest) M2) : AW X pc lv (a2 :: a1 :: a0 :: aR o :: rest) M :=
  rc_VLR (As := [a0, a1, a2]) B hd hv hl hs hci hc hdn rfl hrs rfl kk
theorem rc_VL4 {md : ax_Md} {idx d o ci : Nat} {a0 a1 a2 a3 : ax_V} {fs : List (Option Nat)} {T : u_T} {N : Nat} {M2 : ax_M} {v : Int} (B : ax_b X cc own n) (hd : decode cc pc = .ok (.invokevirtual idx, 3)) (hv : ax_vm md 4) (hl : Cond.methodLink own idx md.1 ∈ ax_big) (hs : ax_shp o = (4, ci, fs)) (hci : vwCl[ci]? = some (md.1.cls, T, N)) (hc : CT X.g md d [aR o, a0, a1, a2, a3] M (pL v M2)) (hdn : d + 1 ≤ n) (hrs : ax_rs rest ≤ 8) (kk : AW X (pc + 3) lv (aL v :: rest) M2) : AW X pc lv (a3 :: a2 :: a1 :: a0 :: aR o :: rest) M :=
  rc_VL (As := [a0, a1, a2, a3]) B hd hv hl hs hci hc hdn rfl hrs rfl kk
theorem rc_VLR4 {md : ax_Md} {idx d o ci : Nat} {a0 a1 a2 a3 : ax_V} {fs : List (Option Nat)} {T : u_T} {N : Nat} {F : ax_M → Prop} {v : Int} (B : ax_b X cc own n) (hd : decode cc pc = .ok (.invokevirtual idx, 3)) (hv : ax_vm md 4) (hl : Cond.methodLink own idx md.1 ∈ ax_big) (hs : ax_shp o = (4, ci, fs)) (hci : vwCl[ci]? = some (md.1.cls, T, N)) (hc : CT X.g md d [aR o, a0, a1, a2, a3] M (pLR v F)) (hdn : d + 1 ≤ n) (hrs : ax_rs rest ≤ 8) (kk : ∀ M2, F M2 → AW X (pc + 3) lv (aL v :: rest) M2) : AW X pc lv (a3 :: a2 :: a1 :: a0 :: aR o :: rest) M :=
  rc_VLR (As := [a0, a1, a2, a3]) B hd hv hl hs hci hc hdn rfl hrs rfl kk
theorem rc_VL5 {md : ax_Md} {idx d o ci : Nat} {a0 a1 a2 a3 a4 : ax_V} {fs : List (Option Nat)} {T : u_T} {N : Nat} {M2 : ax_M} {v : Int} (B : ax_b X cc own n) (hd : decode cc pc = .ok (.invokevirtual idx, 3)) (hv : ax_vm md 5) (hl : Cond.methodLink own idx md.1 ∈ ax_big) (hs : ax_shp o = (4, ci, fs)) (hci : vwCl[ci]? = some (md.1.cls, T, N)) (hc : CT X.g md d [aR o, a0, a1, a2, a3, a4] M (pL v M2)) (hdn : d + 1 ≤ n) (hrs : ax_rs rest ≤ 8) (kk : AW X (pc + 3) lv (aL v :: rest) M2) : AW X pc lv (a4 :: a3 :: a2 :: a1 :: a0 :: aR o :: rest) M :=
  rc_VL (As := [a0, a1, a2, a3, a4]) B hd hv hl hs hci hc hdn rfl hrs rfl kk
theorem rc_VLR5 {md : ax_Md} {idx d o ci : Nat} {a0 a1 a2 a3 a4 : ax_V} {fs : List (Option Nat)} {T : u_T} {N : Nat} {F : ax_M → Prop} {v : Int} (B : ax_b X cc own n) (hd : decode cc pc = .ok (.invokevirtual idx, 3)) (hv : ax_vm md 5) (hl : Cond.methodLink own idx md.1 ∈ ax_big) (hs : ax_shp o = (4, ci, fs)) (hci : vwCl[ci]? = some (md.1.cls, T, N)) (hc : CT X.g md d [aR o, a0, a1, a2, a3, a4] M (pLR v F)) (hdn : d + 1 ≤ n) (hrs : ax_rs rest ≤ 8) (kk : ∀ M2, F M2 → AW X (pc + 3) lv (aL v :: rest) M2) : AW X pc lv (a4 :: a3 :: a2 :: a1 :: a0 :: aR o :: rest) M :=
  rc_VLR (As := [a0, a1, a2, a3, a4]) B hd hv hl hs hci hc hdn rfl hrs rfl kk
theorem rc_VL6 {md : ax_Md} {idx d o ci : Nat} {a0 a1 a2 a3 a4 a5 : ax_V} {fs : List (Option Nat)} {T : u_T} {N : Nat} {M2 : ax_M} {v : Int} (B : ax_b X cc own n) (hd : decode cc pc = .ok (.invokevirtual idx, 3)) (hv : ax_vm md 6) (hl : Cond.methodLink own idx md.1 ∈ ax_big) (hs : ax_shp o = (4, ci, fs)) (hci : vwCl[ci]? = some (md.1.cls, T, N)) (hc : CT X.g md d [aR o, a0, a1, a2, a3, a4, a5] M (pL v M2)) (hdn : d + 1 ≤ n) (hrs : ax_rs rest ≤ 8) (kk : AW X (pc + 3) lv (aL v :: rest) M2) : AW X pc lv (a5 :: a4 :: a3 :: a2 :: a1 :: a0 :: aR o :: rest) M :=
  rc_VL (As := [a0, a1, a2, a3, a4, a5]) B hd hv hl hs hci hc hdn rfl hrs rfl kk
theorem rc_VLR6 {md : ax_Md} {idx d o ci : Nat} {a0 a1 a2 a3 a4 a5 : ax_V} {fs : List (Option Nat)} {T : u_T} {N : Nat} {F : ax_M → Prop} {v : Int} (B : ax_b X cc own n) (hd : decode cc pc = .ok (.invokevirtual idx, 3)) (hv : ax_vm md 6) (hl : Cond.methodLink own idx md.1 ∈ ax_big) (hs : ax_shp o = (4, ci, fs)) (hci : vwCl[ci]? = some (md.1.cls, T, N)) (hc : CT X.g md d [aR o, a0, a1, a2, a3, a4, a5] M (pLR v F)) (hdn : d + 1 ≤ n) (hrs : ax_rs rest ≤ 8) (kk : ∀ M2, F M2 → AW X (pc + 3) lv (aL v :: rest) M2) : AW X pc lv (a5 :: a4 :: a3 :: a2 :: a1 :: a0 :: aR o :: rest) M :=
  rc_VLR (As := [a0, a1, a2, a3, a4, a5]) B hd hv hl hs hci hc hdn rfl hrs rfl kk
theorem rc_VV0 {md : ax_Md} {idx d o ci : Nat} {fs : List (Option Nat)} {T : u_T} {N : Nat} {M2 : ax_M} (B : ax_b X cc own n) (hd : decode cc pc = .ok (.invokevirtual idx, 3)) (hv : ax_vm md 0) (hl : Cond.methodLink own idx md.1 ∈ ax_big) (hs : ax_shp o = (4, ci, fs)) (hci : vwCl[ci]? = some (md.1.cls, T, N)) (hc : CT X.g md d [aR o] M (pV M2)) (hdn : d + 1 ≤ n) (hrs : ax_rs rest ≤ 8) (kk : AW X (pc + 3) lv (rest) M2) : AW X pc lv (aR o :: rest) M :=
  rc_VV (As := []) B hd hv hl hs hci hc hdn rfl hrs rfl kk
theorem rc_VVR0 {md : ax_Md} {idx d o ci : Nat} {fs : List (Option Nat)} {T : u_T} {N : Nat} {F : ax_M → Prop} (B : ax_b X cc own n) (hd : decode cc pc = .ok (.invokevirtual idx, 3)) (hv : ax_vm md 0) (hl : Cond.methodLink own idx md.1 ∈ ax_big) (hs : ax_shp o = (4, ci, fs)) (hci : vwCl[ci]? = some (md.1.cls, T, N)) (hc : CT X.g md d [aR o] M (pVR F)) (hdn : d + 1 ≤ n) (hrs : ax_rs rest ≤ 8) (kk : ∀ M2, F M2 → AW X (pc + 3) lv (rest) M2) : AW X pc lv (aR o :: rest) M :=
  rc_VVR (As := []) B hd hv hl hs hci hc hdn rfl hrs rfl kk
theorem rc_VV1 {md : ax_Md} {idx d o ci : Nat} {a0 : ax_V} {fs : List (Option Nat)} {T : u_T} {N : Nat} {M2 : ax_M} (B : ax_b X cc own n) (hd : decode cc pc = .ok (.invokevirtual idx, 3)) (hv : ax_vm md 1) (hl : Cond.methodLink own idx md.1 ∈ ax_big) (hs : ax_shp o = (4, ci, fs)) (hci : vwCl[ci]? = some (md.1.cls, T, N)) (hc : CT X.g md d [aR o, a0] M (pV M2)) (hdn : d + 1 ≤ n) (hrs : ax_rs rest ≤ 8) (kk : AW X (pc + 3) lv (rest) M2) : AW X pc lv (a0 :: aR o :: rest) M :=
  rc_VV (As := [a0]) B hd hv hl hs hci hc hdn rfl hrs rfl kk
theorem rc_VVR1 {md : ax_Md} {idx d o ci : Nat} {a0 : ax_V} {fs : List (Option Nat)} {T : u_T} {N : Nat} {F : ax_M → Prop} (B : ax_b X cc own n) (hd : decode cc pc = .ok (.invokevirtual idx, 3)) (hv : ax_vm md 1) (hl : Cond.methodLink own idx md.1 ∈ ax_big) (hs : ax_shp o = (4, ci, fs)) (hci : vwCl[ci]? = some (md.1.cls, T, N)) (hc : CT X.g md d [aR o, a0] M (pVR F)) (hdn : d + 1 ≤ n) (hrs : ax_rs rest ≤ 8) (kk : ∀ M2, F M2 → AW X (pc + 3) lv (rest) M2) : AW X pc lv (a0 :: aR o :: rest) M :=
  rc_VVR (As := [a0]) B hd hv hl hs hci hc hdn rfl hrs rfl kk
theorem rc_VV2 {md : ax_Md} {idx d o ci : Nat} {a0 a1 : ax_V} {fs : List (Option Nat)} {T : u_T} {N : Nat} {M2 : ax_M} (B : ax_b X cc own n) (hd : decode cc pc = .ok (.invokevirtual idx, 3)) (hv : ax_vm md 2) (hl : Cond.methodLink own idx md.1 ∈ ax_big) (hs : ax_shp o = (4, ci, fs)) (hci : vwCl[ci]? = some (md.1.cls, T, N)) (hc : CT X.g md d [aR o, a0, a1] M (pV M2)) (hdn : d + 1 ≤ n) (hrs : ax_rs rest ≤ 8) (kk : AW X (pc + 3) lv (rest) M2) : AW X pc lv (a1 :: a0 :: aR o :: rest) M :=
  rc_VV (As := [a0, a1]) B hd hv hl hs hci hc hdn rfl hrs rfl kk
theorem rc_VVR2 {md : ax_Md} {idx d o ci : Nat} {a0 a1 : ax_V} {fs : List (Option Nat)} {T : u_T} {N : Nat} {F : ax_M → Prop} (B : ax_b X cc own n) (hd : decode cc pc = .ok (.invokevirtual idx, 3)) (hv : ax_vm md 2) (hl : Cond.methodLink own idx md.1 ∈ ax_big) (hs : ax_shp o = (4, ci, fs)) (hci : vwCl[ci]? = some (md.1.cls, T, N)) (hc : CT X.g md d [aR o, a0, a1] M (pVR F)) (hdn : d + 1 ≤ n) (hrs : ax_rs rest ≤ 8) (kk : ∀ M2, F M2 → AW X (pc + 3) lv (rest) M2) : AW X pc lv (a1 :: a0 :: aR o :: rest) M :=
  rc_VVR (As := [a0, a1]) B hd hv hl hs hci hc hdn rfl hrs rfl kk
theorem rc_VV3 {md : ax_Md} {idx d o ci : Nat} {a0 a1 a2 : ax_V} {fs : List (Option Nat)} {T : u_T} {N : Nat} {M2 : ax_M} (B : ax_b X cc own n) (hd : decode cc pc = .ok (.invokevirtual idx, 3)) (hv : ax_vm md 3) (hl : Cond.methodLink own idx md.1 ∈ ax_big) (hs : ax_shp o = (4, ci, fs)) (hci : vwCl[ci]? = some (md.1.cls, T, N)) (hc : CT X.g md d [aR o, a0, a1, a2] M (pV M2)) (hdn : d + 1 ≤ n) (hrs : ax_rs rest ≤ 8) (kk : AW X (pc + 3) lv (rest) M2) : AW X pc lv (a2 :: a1 :: a0 :: aR o :: rest) M :=
  rc_VV (As := [a0, a1, a2]) B hd hv hl hs hci hc hdn rfl hrs rfl kk
theorem rc_VVR3 {md : ax_Md} {idx d o ci : Nat} {a0 a1 a2 : ax_V} {fs : List (Option Nat)} {T : u_T} {N : Nat} {F : ax_M → Prop} (B : ax_b X cc own n) (hd : decode cc pc = .ok (.invokevirtual idx, 3)) (hv : ax_vm md 3) (hl : Cond.methodLink own idx md.1 ∈ ax_big) (hs : ax_shp o = (4, ci, fs)) (hci : vwCl[ci]? = some (md.1.cls, T, N)) (hc : CT X.g md d [aR o, a0, a1, a2] M (pVR F)) (hdn : d + 1 ≤ n) (hrs : ax_rs rest ≤ 8) (kk : ∀ M2, F M2 → AW X (pc + 3) lv (rest) M2) : AW X pc lv (a2 :: a1 :: a0 :: aR o :: rest) M :=
  rc_VVR (As := [a0, a1, a2]) B hd hv hl hs hci hc hdn rfl hrs rfl kk
theorem rc_VV4 {md : ax_Md} {idx d o ci : Nat} {a0 a1 a2 a3 : ax_V} {fs : List (Option Nat)} {T : u_T} {N : Nat} {M2 : ax_M} (B : ax_b X cc own n) (hd : decode cc pc = .ok (.invokevirtual idx, 3)) (hv : ax_vm md 4) (hl : Cond.methodLink own idx md.1 ∈ ax_big) (hs : ax_shp o = (4, ci, fs)) (hci : vwCl[ci]? = some (md.1.cls, T, N)) (hc : CT X.g md d [aR o, a0, a1, a2, a3] M (pV M2)) (hdn : d + 1 ≤ n) (hrs : ax_rs rest ≤ 8) (kk : AW X (pc + 3) lv (rest) M2) : AW X pc lv (a3 :: a2 :: a1 :: a0 :: aR o :: rest) M :=
  rc_VV (As := [a0, a1, a2, a3]) B hd hv hl hs hci hc hdn rfl hrs rfl kk
theorem rc_VVR4 {md : ax_Md} {idx d o ci : Nat} {a0 a1 a2 a3 : ax_V} {fs : List (Option Nat)} {T : u_T} {N : Nat} {F : ax_M → Prop} (B : ax_b X cc own n) (hd : decode cc pc = .ok (.invokevirtual idx, 3)) (hv : ax_vm md 4) (hl : Cond.methodLink own idx md.1 ∈ ax_big) (hs : ax_shp o = (4, ci, fs)) (hci : vwCl[ci]? = some (md.1.cls, T, N)) (hc : CT X.g md d [aR o, a0, a1, a2, a3] M (pVR F)) (hdn : d + 1 ≤ n) (hrs : ax_rs rest ≤ 8) (kk : ∀ M2, F M2 → AW X (pc + 3) lv (rest) M2) : AW X pc lv (a3 :: a2 :: a1 :: a0 :: aR o :: rest) M :=
  rc_VVR (As := [a0, a1, a2, a3]) B hd hv hl hs hci hc hdn rfl hrs rfl kk
theorem rc_VV5 {md : ax_Md} {idx d o ci : Nat} {a0 a1 a2 a3 a4 : ax_V} {fs : List (Option Nat)} {T : u_T} {N : Nat} {M2 : ax_M} (B : ax_b X cc own n) (hd : decode cc pc = .ok (.invokevirtual idx, 3)) (hv : ax_vm md 5) (hl : Cond.methodLink own idx md.1 ∈ ax_big) (hs : ax_shp o = (4, ci, fs)) (hci : vwCl[ci]? = some (md.1.cls, T, N)) (hc : CT X.g md d [aR o, a0, a1, a2, a3, a4] M (pV M2)) (hdn : d + 1 ≤ n) (hrs : ax_rs rest ≤ 8) (kk : AW X (pc + 3) lv (rest) M2) : AW X pc lv (a4 :: a3 :: a2 :: a1 :: a0 :: aR o :: rest) M :=
  rc_VV (As := [a0, a1, a2, a3, a4]) B hd hv hl hs hci hc hdn rfl hrs rfl kk
theorem rc_VVR5 {md : ax_Md} {idx d o ci : Nat} {a0 a1 a2 a3 a4 : ax_V} {fs : List (Option Nat)} {T : u_T} {N : Nat} {F : ax_M → Prop} (B : ax_b X cc own n) (hd : decode cc pc = .ok (.invokevirtual idx, 3)) (hv : ax_vm md 5) (hl : Cond.methodLink own idx md.1 ∈ ax_big) (hs : ax_shp o = (4, ci, fs)) (hci : vwCl[ci]? = some (md.1.cls, T, N)) (hc : CT X.g md d [aR o, a0, a1, a2, a3, a4] M (pVR F)) (hdn : d + 1 ≤ n) (hrs : ax_rs rest ≤ 8) (kk : ∀ M2, F M2 → AW X (pc + 3) lv (rest) M2) : AW X pc lv (a4 :: a3 :: a2 :: a1 :: a0 :: aR o :: rest) M :=
  rc_VVR (As := [a0, a1, a2, a3, a4]) B hd hv hl hs hci hc hdn rfl hrs rfl kk
theorem rc_VV6 {md : ax_Md} {idx d o ci : Nat} {a0 a1 a2 a3 a4 a5 : ax_V} {fs : List (Option Nat)} {T : u_T} {N : Nat} {M2 : ax_M} (B : ax_b X cc own n) (hd : decode cc pc = .ok (.invokevirtual idx, 3)) (hv : ax_vm md 6) (hl : Cond.methodLink own idx md.1 ∈ ax_big) (hs : ax_shp o = (4, ci, fs)) (hci : vwCl[ci]? = some (md.1.cls, T, N)) (hc : CT X.g md d [aR o, a0, a1, a2, a3, a4, a5] M (pV M2)) (hdn : d + 1 ≤ n) (hrs : ax_rs rest ≤ 8) (kk : AW X (pc + 3) lv (rest) M2) : AW X pc lv (a5 :: a4 :: a3 :: a2 :: a1 :: a0 :: aR o :: rest) M :=
  rc_VV (As := [a0, a1, a2, a3, a4, a5]) B hd hv hl hs hci hc hdn rfl hrs rfl kk
theorem rc_VVR6 {md : ax_Md} {idx d o ci : Nat} {a0 a1 a2 a3 a4 a5 : ax_V} {fs : List (Option Nat)} {T : u_T} {N : Nat} {F : ax_M → Prop} (B : ax_b X cc own n) (hd : decode cc pc = .ok (.invokevirtual idx, 3)) (hv : ax_vm md 6) (hl : Cond.methodLink own idx md.1 ∈ ax_big) (hs : ax_shp o = (4, ci, fs)) (hci : vwCl[ci]? = some (md.1.cls, T, N)) (hc : CT X.g md d [aR o, a0, a1, a2, a3, a4, a5] M (pVR F)) (hdn : d + 1 ≤ n) (hrs : ax_rs rest ≤ 8) (kk : ∀ M2, F M2 → AW X (pc + 3) lv (rest) M2) : AW X pc lv (a5 :: a4 :: a3 :: a2 :: a1 :: a0 :: aR o :: rest) M :=
  rc_VVR (As := [a0, a1, a2, a3, a4, a5]) B hd hv hl hs hci hc hdn rfl hrs rfl kk
theorem rc_SI0 {md : ax_Md} {idx d : Nat} {M2 : ax_M} {v : Int} (B : ax_b X cc own n) (hd : decode cc pc = .ok (.invokestatic idx, 3)) (hv : ax_st md 0) (hl : Cond.methodLink own idx md.1 ∈ ax_big) (hc : CT X.g md d [] M (pI v M2)) (hdn : d + 1 ≤ n) (hrs : ax_rs rest ≤ 8) (kk : AW X (pc + 3) lv (aI v :: rest) M2) : AW X pc lv (rest) M :=
  rc_SI (As := []) B hd hv hl hc hdn rfl hrs rfl kk
theorem rc_SIR0 {md : ax_Md} {idx d : Nat} {F : ax_M → Prop} {v : Int} (B : ax_b X cc own n) (hd : decode cc pc = .ok (.invokestatic idx, 3)) (hv : ax_st md 0) (hl : Cond.methodLink own idx md.1 ∈ ax_big) (hc : CT X.g md d [] M (pIR v F)) (hdn : d + 1 ≤ n) (hrs : ax_rs rest ≤ 8) (kk : ∀ M2, F M2 → AW X (pc + 3) lv (aI v :: rest) M2) : AW X pc lv (rest) M :=
  rc_SIR (As := []) B hd hv hl hc hdn rfl hrs rfl kk
theorem rc_SI1 {md : ax_Md} {idx d : Nat} {a0 : ax_V} {M2 : ax_M} {v : Int} (B : ax_b X cc own n) (hd : decode cc pc = .ok (.invokestatic idx, 3)) (hv : ax_st md 1) (hl : Cond.methodLink own idx md.1 ∈ ax_big) (hc : CT X.g md d [a0] M (pI v M2)) (hdn : d + 1 ≤ n) (hrs : ax_rs rest ≤ 8) (kk : AW X (pc + 3) lv (aI v :: rest) M2) : AW X pc lv (a0 :: rest) M :=
  rc_SI (As := [a0]) B hd hv hl hc hdn rfl hrs rfl kk
theorem rc_SIR1 {md : ax_Md} {idx d : Nat} {a0 : ax_V} {F : ax_M → Prop} {v : Int} (B : ax_b X cc own n) (hd : decode cc pc = .ok (.invokestatic idx, 3)) (hv : ax_st md 1) (hl : Cond.methodLink own idx md.1 ∈ ax_big) (hc : CT X.g md d [a0] M (pIR v F)) (hdn : d + 1 ≤ n) (hrs : ax_rs rest ≤ 8) (kk : ∀ M2, F M2 → AW X (pc + 3) lv (aI v :: rest) M2) : AW X pc lv (a0 :: rest) M :=
  rc_SIR (As := [a0]) B hd hv hl hc hdn rfl hrs rfl kk
theorem rc_SI2 {md : ax_Md} {idx d : Nat} {a0 a1 : ax_V} {M2 : ax_M} {v : Int} (B : ax_b X cc own n) (hd : decode cc pc = .ok (.invokestatic idx, 3)) (hv : ax_st md 2) (hl : Cond.methodLink own idx md.1 ∈ ax_big) (hc : CT X.g md d [a0, a1] M (pI v M2)) (hdn : d + 1 ≤ n) (hrs : ax_rs rest ≤ 8) (kk : AW X (pc + 3) lv (aI v :: rest) M2) : AW X pc lv (a1 :: a0 :: rest) M :=
  rc_SI (As := [a0, a1]) B hd hv hl hc hdn rfl hrs rfl kk
theorem rc_SIR2 {md : ax_Md} {idx d : Nat} {a0 a1 : ax_V} {F : ax_M → Prop} {v : Int} (B : ax_b X cc own n) (hd : decode cc pc = .ok (.invokestatic idx, 3)) (hv : ax_st md 2) (hl : Cond.methodLink own idx md.1 ∈ ax_big) (hc : CT X.g md d [a0, a1] M (pIR v F)) (hdn : d + 1 ≤ n) (hrs : ax_rs rest ≤ 8) (kk : ∀ M2, F M2 → AW X (pc + 3) lv (aI v :: rest) M2) : AW X pc lv (a1 :: a0 :: rest) M :=
  rc_SIR (As := [a0, a1]) B hd hv hl hc hdn rfl hrs rfl kk
theorem rc_SI3 {md : ax_Md} {idx d : Nat} {a0 a1 a2 : ax_V} {M2 : ax_M} {v : Int} (B : ax_b X cc own n) (hd : decode cc pc = .ok (.invokestatic idx, 3)) (hv : ax_st md 3) (hl : Cond.methodLink own idx md.1 ∈ ax_big) (hc : CT X.g md d [a0, a1, a2] M (pI v M2)) (hdn : d + 1 ≤ n) (hrs : ax_rs rest ≤ 8) (kk : AW X (pc + 3) lv (aI v :: rest) M2) : AW X pc lv (a2 :: a1 :: a0 :: rest) M :=
  rc_SI (As := [a0, a1, a2]) B hd hv hl hc hdn rfl hrs rfl kk
theorem rc_SIR3 {md : ax_Md} {idx d : Nat} {a0 a1 a2 : ax_V} {F : ax_M → Prop} {v : Int} (B : ax_b X cc own n) (hd : decode cc pc = .ok (.invokestatic idx, 3)) (hv : ax_st md 3) (hl : Cond.methodLink own idx md.1 ∈ ax_big) (hc : CT X.g md d [a0, a1, a2] M (pIR v F)) (hdn : d + 1 ≤ n) (hrs : ax_rs rest ≤ 8) (kk : ∀ M2, F M2 → AW X (pc + 3) lv (aI v :: rest) M2) : AW X pc lv (a2 :: a1 :: a0 :: rest) M :=
  rc_SIR (As := [a0, a1, a2]) B hd hv hl hc hdn rfl hrs rfl kk
theorem rc_SI4 {md : ax_Md} {idx d : Nat} {a0 a1 a2 a3 : ax_V} {M2 : ax_M} {v : Int} (B : ax_b X cc own n) (hd : decode cc pc = .ok (.invokestatic idx, 3)) (hv : ax_st md 4) (hl : Cond.methodLink own idx md.1 ∈ ax_big) (hc : CT X.g md d [a0, a1, a2, a3] M (pI v M2)) (hdn : d + 1 ≤ n) (hrs : ax_rs rest ≤ 8) (kk : AW X (pc + 3) lv (aI v :: rest) M2) : AW X pc lv (a3 :: a2 :: a1 :: a0 :: rest) M :=
  rc_SI (As := [a0, a1, a2, a3]) B hd hv hl hc hdn rfl hrs rfl kk
theorem rc_SIR4 {md : ax_Md} {idx d : Nat} {a0 a1 a2 a3 : ax_V} {F : ax_M → Prop} {v : Int} (B : ax_b X cc own n) (hd : decode cc pc = .ok (.invokestatic idx, 3)) (hv : ax_st md 4) (hl : Cond.methodLink own idx md.1 ∈ ax_big) (hc : CT X.g md d [a0, a1, a2, a3] M (pIR v F)) (hdn : d + 1 ≤ n) (hrs : ax_rs rest ≤ 8) (kk : ∀ M2, F M2 → AW X (pc + 3) lv (aI v :: rest) M2) : AW X pc lv (a3 :: a2 :: a1 :: a0 :: rest) M :=
  rc_SIR (As := [a0, a1, a2, a3]) B hd hv hl hc hdn rfl hrs rfl kk
theorem rc_SI5 {md : ax_Md} {idx d : Nat} {a0 a1 a2 a3 a4 : ax_V} {M2 : ax_M} {v : Int} (B : ax_b X cc own n) (hd : decode cc pc = .ok (.invokestatic idx, 3)) (hv : ax_st md 5) (hl : Cond.methodLink own idx md.1 ∈ ax_big) (hc : CT X.g md d [a0, a1, a2, a3, a4] M (pI v M2)) (hdn : d + 1 ≤ n) (hrs : ax_rs rest ≤ 8) (kk : AW X (pc + 3) lv (aI v :: rest) M2) : AW X pc lv (a4 :: a3 :: a2 :: a1 :: a0 :: rest) M :=
  rc_SI (As := [a0, a1, a2, a3, a4]) B hd hv hl hc hdn rfl hrs rfl kk
theorem rc_SIR5 {md : ax_Md} {idx d : Nat} {a0 a1 a2 a3 a4 : ax_V} {F : ax_M → Prop} {v : Int} (B : ax_b X cc own n) (hd : decode cc pc = .ok (.invokestatic idx, 3)) (hv : ax_st md 5) (hl : Cond.methodLink own idx md.1 ∈ ax_big) (hc : CT X.g md d [a0, a1, a2, a3, a4] M (pIR v F)) (hdn : d + 1 ≤ n) (hrs : ax_rs rest ≤ 8) (kk : ∀ M2, F M2 → AW X (pc + 3) lv (aI v :: rest) M2) : AW X pc lv (a4 :: a3 :: a2 :: a1 :: a0 :: rest) M :=
  rc_SIR (As := [a0, a1, a2, a3, a4]) B hd hv hl hc hdn rfl hrs rfl kk
theorem rc_SI6 {md : ax_Md} {idx d : Nat} {a0 a1 a2 a3 a4 a5 : ax_V} {M2 : ax_M} {v : Int} (B : ax_b X cc own n) (hd : decode cc pc = .ok (.invokestatic idx, 3)) (hv : ax_st md 6) (hl : Cond.methodLink own idx md.1 ∈ ax_big) (hc : CT X.g md d [a0, a1, a2, a3, a4, a5] M (pI v M2)) (hdn : d + 1 ≤ n) (hrs : ax_rs rest ≤ 8) (kk : AW X (pc + 3) lv (aI v :: rest) M2) : AW X pc lv (a5 :: a4 :: a3 :: a2 :: a1 :: a0 :: rest) M :=
  rc_SI (As := [a0, a1, a2, a3, a4, a5]) B hd hv hl hc hdn rfl hrs rfl kk
theorem rc_SIR6 {md : ax_Md} {idx d : Nat} {a0 a1 a2 a3 a4 a5 : ax_V} {F : ax_M → Prop} {v : Int} (B : ax_b X cc own n) (hd : decode cc pc = .ok (.invokestatic idx, 3)) (hv : ax_st md 6) (hl : Cond.methodLink own idx md.1 ∈ ax_big) (hc : CT X.g md d [a0, a1, a2, a3, a4, a5] M (pIR v F)) (hdn : d + 1 ≤ n) (hrs : ax_rs rest ≤ 8) (kk : ∀ M2, F M2 → AW X (pc + 3) lv (aI v :: rest) M2) : AW X pc lv (a5 :: a4 :: a3 :: a2 :: a1 :: a0 :: rest) M :=
  rc_SIR (As := [a0, a1, a2, a3, a4, a5]) B hd hv hl hc hdn rfl hrs rfl kk
theorem rc_SL0 {md : ax_Md} {idx d : Nat} {M2 : ax_M} {v : Int} (B : ax_b X cc own n) (hd : decode cc pc = .ok (.invokestatic idx, 3)) (hv : ax_st md 0) (hl : Cond.methodLink own idx md.1 ∈ ax_big) (hc : CT X.g md d [] M (pL v M2)) (hdn : d + 1 ≤ n) (hrs : ax_rs rest ≤ 8) (kk : AW X (pc + 3) lv (aL v :: rest) M2) : AW X pc lv (rest) M :=
  rc_SL (As := []) B hd hv hl hc hdn rfl hrs rfl kk
theorem rc_SLR0 {md : ax_Md} {idx d : Nat} {F : ax_M → Prop} {v : Int} (B : ax_b X cc own n) (hd : decode cc pc = .ok (.invokestatic idx, 3)) (hv : ax_st md 0) (hl : Cond.methodLink own idx md.1 ∈ ax_big) (hc : CT X.g md d [] M (pLR v F)) (hdn : d + 1 ≤ n) (hrs : ax_rs rest ≤ 8) (kk : ∀ M2, F M2 → AW X (pc + 3) lv (aL v :: rest) M2) : AW X pc lv (rest) M :=
  rc_SLR (As := []) B hd hv hl hc hdn rfl hrs rfl kk
theorem rc_SL1 {md : ax_Md} {idx d : Nat} {a0 : ax_V} {M2 : ax_M} {v : Int} (B : ax_b X cc own n) (hd : decode cc pc = .ok (.invokestatic idx, 3)) (hv : ax_st md 1) (hl : Cond.methodLink own idx md.1 ∈ ax_big) (hc : CT X.g md d [a0] M (pL v M2)) (hdn : d + 1 ≤ n) (hrs : ax_rs rest ≤ 8) (kk : AW X (pc + 3) lv (aL v :: rest) M2) : AW X pc lv (a0 :: rest) M :=
  rc_SL (As := [a0]) B hd hv hl hc hdn rfl hrs rfl kk
theorem rc_SLR1 {md : ax_Md} {idx d : Nat} {a0 : ax_V} {F : ax_M → Prop} {v : Int} (B : ax_b X cc own n) (hd : decode cc pc = .ok (.invokestatic idx, 3)) (hv : ax_st md 1) (hl : Cond.methodLink own idx md.1 ∈ ax_big) (hc : CT X.g md d [a0] M (pLR v F)) (hdn : d + 1 ≤ n) (hrs : ax_rs rest ≤ 8) (kk : ∀ M2, F M2 → AW X (pc + 3) lv (aL v :: rest) M2) : AW X pc lv (a0 :: rest) M :=
  rc_SLR (As := [a0]) B hd hv hl hc hdn rfl hrs rfl kk
theorem rc_SL2 {md : ax_Md} {idx d : Nat} {a0 a1 : ax_V} {M2 : ax_M} {v : Int} (B : ax_b X cc own n) (hd : decode cc pc = .ok (.invokestatic idx, 3)) (hv : ax_st md 2) (hl : Cond.methodLink own idx md.1 ∈ ax_big) (hc : CT X.g md d [a0, a1] M (pL v M2)) (hdn : d + 1 ≤ n) (hrs : ax_rs rest ≤ 8) (kk : AW X (pc + 3) lv (aL v :: rest) M2) : AW X pc lv (a1 :: a0 :: rest) M :=
  rc_SL (As := [a0, a1]) B hd hv hl hc hdn rfl hrs rfl kk
theorem rc_SLR2 {md : ax_Md} {idx d : Nat} {a0 a1 : ax_V} {F : ax_M → Prop} {v : Int} (B : ax_b X cc own n) (hd : decode cc pc = .ok (.invokestatic idx, 3)) (hv : ax_st md 2) (hl : Cond.methodLink own idx md.1 ∈ ax_big) (hc : CT X.g md d [a0, a1] M (pLR v F)) (hdn : d + 1 ≤ n) (hrs : ax_rs rest ≤ 8) (kk : ∀ M2, F M2 → AW X (pc + 3) lv (aL v :: rest) M2) : AW X pc lv (a1 :: a0 :: rest) M :=
  rc_SLR (As := [a0, a1]) B hd hv hl hc hdn rfl hrs rfl kk
theorem rc_SL3 {md : ax_Md} {idx d : Nat} {a0 a1 a2 : ax_V} {M2 : ax_M} {v : Int} (B : ax_b X cc own n) (hd : decode cc pc = .ok (.invokestatic idx, 3)) (hv : ax_st md 3) (hl : Cond.methodLink own idx md.1 ∈ ax_big) (hc : CT X.g md d [a0, a1, a2] M (pL v M2)) (hdn : d + 1 ≤ n) (hrs : ax_rs rest ≤ 8) (kk : AW X (pc + 3) lv (aL v :: rest) M2) : AW X pc lv (a2 :: a1 :: a0 :: rest) M :=
  rc_SL (As := [a0, a1, a2]) B hd hv hl hc hdn rfl hrs rfl kk
theorem rc_SLR3 {md : ax_Md} {idx d : Nat} {a0 a1 a2 : ax_V} {F : ax_M → Prop} {v : Int} (B : ax_b X cc own n) (hd : decode cc pc = .ok (.invokestatic idx, 3)) (hv : ax_st md 3) (hl : Cond.methodLink own idx md.1 ∈ ax_big) (hc : CT X.g md d [a0, a1, a2] M (pLR v F)) (hdn : d + 1 ≤ n) (hrs : ax_rs rest ≤ 8) (kk : ∀ M2, F M2 → AW X (pc + 3) lv (aL v :: rest) M2) : AW X pc lv (a2 :: a1 :: a0 :: rest) M :=
  rc_SLR (As := [a0, a1, a2]) B hd hv hl hc hdn rfl hrs rfl kk
theorem rc_SL4 {md : ax_Md} {idx d : Nat} {a0 a1 a2 a3 : ax_V} {M2 : ax_M} {v : Int} (B : ax_b X cc own n) (hd : decode cc pc = .ok (.invokestatic idx, 3)) (hv : ax_st md 4) (hl : Cond.methodLink own idx md.1 ∈ ax_big) (hc : CT X.g md d [a0, a1, a2, a3] M (pL v M2)) (hdn : d + 1 ≤ n) (hrs : ax_rs rest ≤ 8) (kk : AW X (pc + 3) lv (aL v :: rest) M2) : AW X pc lv (a3 :: a2 :: a1 :: a0 :: rest) M :=
  rc_SL (As := [a0, a1, a2, a3]) B hd hv hl hc hdn rfl hrs rfl kk
theorem rc_SLR4 {md : ax_Md} {idx d : Nat} {a0 a1 a2 a3 : ax_V} {F : ax_M → Prop} {v : Int} (B : ax_b X cc own n) (hd : decode cc pc = .ok (.invokestatic idx, 3)) (hv : ax_st md 4) (hl : Cond.methodLink own idx md.1 ∈ ax_big) (hc : CT X.g md d [a0, a1, a2, a3] M (pLR v F)) (hdn : d + 1 ≤ n) (hrs : ax_rs rest ≤ 8) (kk : ∀ M2, F M2 → AW X (pc + 3) lv (aL v :: rest) M2) : AW X pc lv (a3 :: a2 :: a1 :: a0 :: rest) M :=
  rc_SLR (As := [a0, a1, a2, a3]) B hd hv hl hc hdn rfl hrs rfl kk
theorem rc_SL5 {md : ax_Md} {idx d : Nat} {a0 a1 a2 a3 a4 : ax_V} {M2 : ax_M} {v : Int} (B : ax_b X cc own n) (hd : decode cc pc = .ok (.invokestatic idx, 3)) (hv : ax_st md 5) (hl : Cond.methodLink own idx md.1 ∈ ax_big) (hc : CT X.g md d [a0, a1, a2, a3, a4] M (pL v M2)) (hdn : d + 1 ≤ n) (hrs : ax_rs rest ≤ 8) (kk : AW X (pc + 3) lv (aL v :: rest) M2) : AW X pc lv (a4 :: a3 :: a2 :: a1 :: a0 :: rest) M :=
  rc_SL (As := [a0, a1, a2, a3, a4]) B hd hv hl hc hdn rfl hrs rfl kk
theorem rc_SLR5 {md : ax_Md} {idx d : Nat} {a0 a1 a2 a3 a4 : ax_V} {F : ax_M → Prop} {v : Int} (B : ax_b X cc own n) (hd : decode cc pc = .ok (.invokestatic idx, 3)) (hv : ax_st md 5) (hl : Cond.methodLink own idx md.1 ∈ ax_big) (hc : CT X.g md d [a0, a1, a2, a3, a4] M (pLR v F)) (hdn : d + 1 ≤ n) (hrs : ax_rs rest ≤ 8) (kk : ∀ M2, F M2 → AW X (pc + 3) lv (aL v :: rest) M2) : AW X pc lv (a4 :: a3 :: a2 :: a1 :: a0 :: rest) M :=
  rc_SLR (As := [a0, a1, a2, a3, a4]) B hd hv hl hc hdn rfl hrs rfl kk
theorem rc_SL6 {md : ax_Md} {idx d : Nat} {a0 a1 a2 a3 a4 a5 : ax_V} {M2 : ax_M} {v : Int} (B : ax_b X cc own n) (hd : decode cc pc = .ok (.invokestatic idx, 3)) (hv : ax_st md 6) (hl : Cond.methodLink own idx md.1 ∈ ax_big) (hc : CT X.g md d [a0, a1, a2, a3, a4, a5] M (pL v M2)) (hdn : d + 1 ≤ n) (hrs : ax_rs rest ≤ 8) (kk : AW X (pc + 3) lv (aL v :: rest) M2) : AW X pc lv (a5 :: a4 :: a3 :: a2 :: a1 :: a0 :: rest) M :=
  rc_SL (As := [a0, a1, a2, a3, a4, a5]) B hd hv hl hc hdn rfl hrs rfl kk
theorem rc_SLR6 {md : ax_Md} {idx d : Nat} {a0 a1 a2 a3 a4 a5 : ax_V} {F : ax_M → Prop} {v : Int} (B : ax_b X cc own n) (hd : decode cc pc = .ok (.invokestatic idx, 3)) (hv : ax_st md 6) (hl : Cond.methodLink own idx md.1 ∈ ax_big) (hc : CT X.g md d [a0, a1, a2, a3, a4, a5] M (pLR v F)) (hdn : d + 1 ≤ n) (hrs : ax_rs rest ≤ 8) (kk : ∀ M2, F M2 → AW X (pc + 3) lv (aL v :: rest) M2) : AW X pc lv (a5 :: a4 :: a3 :: a2 :: a1 :: a0 :: rest) M :=
  rc_SLR (As := [a0, a1, a2, a3, a4, a5]) B hd hv hl hc hdn rfl hrs rfl kk
theorem rc_SV0 {md : ax_Md} {idx d : Nat} {M2 : ax_M} (B : ax_b X cc own n) (hd : decode cc pc = .ok (.invokestatic idx, 3)) (hv : ax_st md 0) (hl : Cond.methodLink own idx md.1 ∈ ax_big) (hc : CT X.g md d [] M (pV M2)) (hdn : d + 1 ≤ n) (hrs : ax_rs rest ≤ 8) (kk : AW X (pc + 3) lv (rest) M2) : AW X pc lv (rest) M :=
  rc_SV (As := []) B hd hv hl hc hdn rfl hrs rfl kk
theorem rc_SVR0 {md : ax_Md} {idx d : Nat} {F : ax_M → Prop} (B : ax_b X cc own n) (hd : decode cc pc = .ok (.invokestatic idx, 3)) (hv : ax_st md 0) (hl : Cond.methodLink own idx md.1 ∈ ax_big) (hc : CT X.g md d [] M (pVR F)) (hdn : d + 1 ≤ n) (hrs : ax_rs rest ≤ 8) (kk : ∀ M2, F M2 → AW X (pc + 3) lv (rest) M2) : AW X pc lv (rest) M :=
  rc_SVR (As := []) B hd hv hl hc hdn rfl hrs rfl kk
theorem rc_SV1 {md : ax_Md} {idx d : Nat} {a0 : ax_V} {M2 : ax_M} (B : ax_b X cc own n) (hd : decode cc pc = .ok (.invokestatic idx, 3)) (hv : ax_st md 1) (hl : Cond.methodLink own idx md.1 ∈ ax_big) (hc : CT X.g md d [a0] M (pV M2)) (hdn : d + 1 ≤ n) (hrs : ax_rs rest ≤ 8) (kk : AW X (pc + 3) lv (rest) M2) : AW X pc lv (a0 :: rest) M :=
  rc_SV (As := [a0]) B hd hv hl hc hdn rfl hrs rfl kk
theorem rc_SVR1 {md : ax_Md} {idx d : Nat} {a0 : ax_V} {F : ax_M → Prop} (B : ax_b X cc own n) (hd : decode cc pc = .ok (.invokestatic idx, 3)) (hv : ax_st md 1) (hl : Cond.methodLink own idx md.1 ∈ ax_big) (hc : CT X.g md d [a0] M (pVR F)) (hdn : d + 1 ≤ n) (hrs : ax_rs rest ≤ 8) (kk : ∀ M2, F M2 → AW X (pc + 3) lv (rest) M2) : AW X pc lv (a0 :: rest) M :=
  rc_SVR (As := [a0]) B hd hv hl hc hdn rfl hrs rfl kk
theorem rc_SV2 {md : ax_Md} {idx d : Nat} {a0 a1 : ax_V} {M2 : ax_M} (B : ax_b X cc own n) (hd : decode cc pc = .ok (.invokestatic idx, 3)) (hv : ax_st md 2) (hl : Cond.methodLink own idx md.1 ∈ ax_big) (hc : CT X.g md d [a0, a1] M (pV M2)) (hdn : d + 1 ≤ n) (hrs : ax_rs rest ≤ 8) (kk : AW X (pc + 3) lv (rest) M2) : AW X pc lv (a1 :: a0 :: rest) M :=
  rc_SV (As := [a0, a1]) B hd hv hl hc hdn rfl hrs rfl kk
theorem rc_SVR2 {md : ax_Md} {idx d : Nat} {a0 a1 : ax_V} {F : ax_M → Prop} (B : ax_b X cc own n) (hd : decode cc pc = .ok (.invokestatic idx, 3)) (hv : ax_st md 2) (hl : Cond.methodLink own idx md.1 ∈ ax_big) (hc : CT X.g md d [a0, a1] M (pVR F)) (hdn : d + 1 ≤ n) (hrs : ax_rs rest ≤ 8) (kk : ∀ M2, F M2 → AW X (pc + 3) lv (rest) M2) : AW X pc lv (a1 :: a0 :: rest) M :=
  rc_SVR (As := [a0, a1]) B hd hv hl hc hdn rfl hrs rfl kk
theorem rc_SV3 {md : ax_Md} {idx d : Nat} {a0 a1 a2 : ax_V} {M2 : ax_M} (B : ax_b X cc own n) (hd : decode cc pc = .ok (.invokestatic idx, 3)) (hv : ax_st md 3) (hl : Cond.methodLink own idx md.1 ∈ ax_big) (hc : CT X.g md d [a0, a1, a2] M (pV M2)) (hdn : d + 1 ≤ n) (hrs : ax_rs rest ≤ 8) (kk : AW X (pc + 3) lv (rest) M2) : AW X pc lv (a2 :: a1 :: a0 :: rest) M :=
  rc_SV (As := [a0, a1, a2]) B hd hv hl hc hdn rfl hrs rfl kk
theorem rc_SVR3 {md : ax_Md} {idx d : Nat} {a0 a1 a2 : ax_V} {F : ax_M → Prop} (B : ax_b X cc own n) (hd : decode cc pc = .ok (.invokestatic idx, 3)) (hv : ax_st md 3) (hl : Cond.methodLink own idx md.1 ∈ ax_big) (hc : CT X.g md d [a0, a1, a2] M (pVR F)) (hdn : d + 1 ≤ n) (hrs : ax_rs rest ≤ 8) (kk : ∀ M2, F M2 → AW X (pc + 3) lv (rest) M2) : AW X pc lv (a2 :: a1 :: a0 :: rest) M :=
  rc_SVR (As := [a0, a1, a2]) B hd hv hl hc hdn rfl hrs rfl kk
theorem rc_SV4 {md : ax_Md} {idx d : Nat} {a0 a1 a2 a3 : ax_V} {M2 : ax_M} (B : ax_b X cc own n) (hd : decode cc pc = .ok (.invokestatic idx, 3)) (hv : ax_st md 4) (hl : Cond.methodLink own idx md.1 ∈ ax_big) (hc : CT X.g md d [a0, a1, a2, a3] M (pV M2)) (hdn : d + 1 ≤ n) (hrs : ax_rs rest ≤ 8) (kk : AW X (pc + 3) lv (rest) M2) : AW X pc lv (a3 :: a2 :: a1 :: a0 :: rest) M :=
  rc_SV (As := [a0, a1, a2, a3]) B hd hv hl hc hdn rfl hrs rfl kk
theorem rc_SVR4 {md : ax_Md} {idx d : Nat} {a0 a1 a2 a3 : ax_V} {F : ax_M → Prop} (B : ax_b X cc own n) (hd : decode cc pc = .ok (.invokestatic idx, 3)) (hv : ax_st md 4) (hl : Cond.methodLink own idx md.1 ∈ ax_big) (hc : CT X.g md d [a0, a1, a2, a3] M (pVR F)) (hdn : d + 1 ≤ n) (hrs : ax_rs rest ≤ 8) (kk : ∀ M2, F M2 → AW X (pc + 3) lv (rest) M2) : AW X pc lv (a3 :: a2 :: a1 :: a0 :: rest) M :=
  rc_SVR (As := [a0, a1, a2, a3]) B hd hv hl hc hdn rfl hrs rfl kk
theorem rc_SV5 {md : ax_Md} {idx d : Nat} {a0 a1 a2 a3 a4 : ax_V} {M2 : ax_M} (B : ax_b X cc own n) (hd : decode cc pc = .ok (.invokestatic idx, 3)) (hv : ax_st md 5) (hl : Cond.methodLink own idx md.1 ∈ ax_big) (hc : CT X.g md d [a0, a1, a2, a3, a4] M (pV M2)) (hdn : d + 1 ≤ n) (hrs : ax_rs rest ≤ 8) (kk : AW X (pc + 3) lv (rest) M2) : AW X pc lv (a4 :: a3 :: a2 :: a1 :: a0 :: rest) M :=
  rc_SV (As := [a0, a1, a2, a3, a4]) B hd hv hl hc hdn rfl hrs rfl kk
theorem rc_SVR5 {md : ax_Md} {idx d : Nat} {a0 a1 a2 a3 a4 : ax_V} {F : ax_M → Prop} (B : ax_b X cc own n) (hd : decode cc pc = .ok (.invokestatic idx, 3)) (hv : ax_st md 5) (hl : Cond.methodLink own idx md.1 ∈ ax_big) (hc : CT X.g md d [a0, a1, a2, a3, a4] M (pVR F)) (hdn : d + 1 ≤ n) (hrs : ax_rs rest ≤ 8) (kk : ∀ M2, F M2 → AW X (pc + 3) lv (rest) M2) : AW X pc lv (a4 :: a3 :: a2 :: a1 :: a0 :: rest) M :=
  rc_SVR (As := [a0, a1, a2, a3, a4]) B hd hv hl hc hdn rfl hrs rfl kk
theorem rc_SV6 {md : ax_Md} {idx d : Nat} {a0 a1 a2 a3 a4 a5 : ax_V} {M2 : ax_M} (B : ax_b X cc own n) (hd : decode cc pc = .ok (.invokestatic idx, 3)) (hv : ax_st md 6) (hl : Cond.methodLink own idx md.1 ∈ ax_big) (hc : CT X.g md d [a0, a1, a2, a3, a4, a5] M (pV M2)) (hdn : d + 1 ≤ n) (hrs : ax_rs rest ≤ 8) (kk : AW X (pc + 3) lv (rest) M2) : AW X pc lv (a5 :: a4 :: a3 :: a2 :: a1 :: a0 :: rest) M :=
  rc_SV (As := [a0, a1, a2, a3, a4, a5]) B hd hv hl hc hdn rfl hrs rfl kk
theorem rc_SVR6 {md : ax_Md} {idx d : Nat} {a0 a1 a2 a3 a4 a5 : ax_V} {F : ax_M → Prop} (B : ax_b X cc own n) (hd : decode cc pc = .ok (.invokestatic idx, 3)) (hv : ax_st md 6) (hl : Cond.methodLink own idx md.1 ∈ ax_big) (hc : CT X.g md d [a0, a1, a2, a3, a4, a5] M (pVR F)) (hdn : d + 1 ≤ n) (hrs : ax_rs rest ≤ 8) (kk : ∀ M2, F M2 → AW X (pc + 3) lv (rest) M2) : AW X pc lv (a5 :: a4 :: a3 :: a2 :: a1 :: a0 :: rest) M :=
  rc_SVR (As := [a0, a1, a2, a3, a4, a5]) B hd hv hl hc hdn rfl hrs rfl kk
theorem rc_NI0 {md : ax_Md} {idx d : Nat} {host : String} {M2 : ax_M} {v : Int} (B : ax_b X cc own n) (hd : decode cc pc = .ok (.invokestatic idx, 3)) (hv : ax_st md 0) (hl : Cond.methodLinkNest own idx md.1 host ∈ ax_nw) (hc : CT X.g md d [] M (pI v M2)) (hdn : d + 1 ≤ n) (hrs : ax_rs rest ≤ 8) (kk : AW X (pc + 3) lv (aI v :: rest) M2) : AW X pc lv (rest) M :=
  rc_NI (As := []) B hd hv hl hc hdn rfl hrs rfl kk
theorem rc_NIR0 {md : ax_Md} {idx d : Nat} {host : String} {F : ax_M → Prop} {v : Int} (B : ax_b X cc own n) (hd : decode cc pc = .ok (.invokestatic idx, 3)) (hv : ax_st md 0) (hl : Cond.methodLinkNest own idx md.1 host ∈ ax_nw) (hc : CT X.g md d [] M (pIR v F)) (hdn : d + 1 ≤ n) (hrs : ax_rs rest ≤ 8) (kk : ∀ M2, F M2 → AW X (pc + 3) lv (aI v :: rest) M2) : AW X pc lv (rest) M :=
  rc_NIR (As := []) B hd hv hl hc hdn rfl hrs rfl kk
theorem rc_NI1 {md : ax_Md} {idx d : Nat} {host : String} {a0 : ax_V} {M2 : ax_M} {v : Int} (B : ax_b X cc own n) (hd : decode cc pc = .ok (.invokestatic idx, 3)) (hv : ax_st md 1) (hl : Cond.methodLinkNest own idx md.1 host ∈ ax_nw) (hc : CT X.g md d [a0] M (pI v M2)) (hdn : d + 1 ≤ n) (hrs : ax_rs rest ≤ 8) (kk : AW X (pc + 3) lv (aI v :: rest) M2) : AW X pc lv (a0 :: rest) M :=
  rc_NI (As := [a0]) B hd hv hl hc hdn rfl hrs rfl kk
theorem rc_NIR1 {md : ax_Md} {idx d : Nat} {host : String} {a0 : ax_V} {F : ax_M → Prop} {v : Int} (B : ax_b X cc own n) (hd : decode cc pc = .ok (.invokestatic idx, 3)) (hv : ax_st md 1) (hl : Cond.methodLinkNest own idx md.1 host ∈ ax_nw) (hc : CT X.g md d [a0] M (pIR v F)) (hdn : d + 1 ≤ n) (hrs : ax_rs rest ≤ 8) (kk : ∀ M2, F M2 → AW X (pc + 3) lv (aI v :: rest) M2) : AW X pc lv (a0 :: rest) M :=
  rc_NIR (As := [a0]) B hd hv hl hc hdn rfl hrs rfl kk
theorem rc_NI2 {md : ax_Md} {idx d : Nat} {host : String} {a0 a1 : ax_V} {M2 : ax_M} {v : Int} (B : ax_b X cc own n) (hd : decode cc pc = .ok (.invokestatic idx, 3)) (hv : ax_st md 2) (hl : Cond.methodLinkNest own idx md.1 host ∈ ax_nw) (hc : CT X.g md d [a0, a1] M (pI v M2)) (hdn : d + 1 ≤ n) (hrs : ax_rs rest ≤ 8) (kk : AW X (pc + 3) lv (aI v :: rest) M2) : AW X pc lv (a1 :: a0 :: rest) M :=
  rc_NI (As := [a0, a1]) B hd hv hl hc hdn rfl hrs rfl kk
theorem rc_NIR2 {md : ax_Md} {idx d : Nat} {host : String} {a0 a1 : ax_V} {F : ax_M → Prop} {v : Int} (B : ax_b X cc own n) (hd : decode cc pc = .ok (.invokestatic idx, 3)) (hv : ax_st md 2) (hl : Cond.methodLinkNest own idx md.1 host ∈ ax_nw) (hc : CT X.g md d [a0, a1] M (pIR v F)) (hdn : d + 1 ≤ n) (hrs : ax_rs rest ≤ 8) (kk : ∀ M2, F M2 → AW X (pc + 3) lv (aI v :: rest) M2) : AW X pc lv (a1 :: a0 :: rest) M :=
  rc_NIR (As := [a0, a1]) B hd hv hl hc hdn rfl hrs rfl kk
theorem rc_NI3 {md : ax_Md} {idx d : Nat} {host : String} {a0 a1 a2 : ax_V} {M2 : ax_M} {v : Int} (B : ax_b X cc own n) (hd : decode cc pc = .ok (.invokestatic idx, 3)) (hv : ax_st md 3) (hl : Cond.methodLinkNest own idx md.1 host ∈ ax_nw) (hc : CT X.g md d [a0, a1, a2] M (pI v M2)) (hdn : d + 1 ≤ n) (hrs : ax_rs rest ≤ 8) (kk : AW X (pc + 3) lv (aI v :: rest) M2) : AW X pc lv (a2 :: a1 :: a0 :: rest) M :=
  rc_NI (As := [a0, a1, a2]) B hd hv hl hc hdn rfl hrs rfl kk
theorem rc_NIR3 {md : ax_Md} {idx d : Nat} {host : String} {a0 a1 a2 : ax_V} {F : ax_M → Prop} {v : Int} (B : ax_b X cc own n) (hd : decode cc pc = .ok (.invokestatic idx, 3)) (hv : ax_st md 3) (hl : Cond.methodLinkNest own idx md.1 host ∈ ax_nw) (hc : CT X.g md d [a0, a1, a2] M (pIR v F)) (hdn : d + 1 ≤ n) (hrs : ax_rs rest ≤ 8) (kk : ∀ M2, F M2 → AW X (pc + 3) lv (aI v :: rest) M2) : AW X pc lv (a2 :: a1 :: a0 :: rest) M :=
  rc_NIR (As := [a0, a1, a2]) B hd hv hl hc hdn rfl hrs rfl kk
theorem rc_NI4 {md : ax_Md} {idx d : Nat} {host : String} {a0 a1 a2 a3 : ax_V} {M2 : ax_M} {v : Int} (B : ax_b X cc own n) (hd : decode cc pc = .ok (.invokestatic idx, 3)) (hv : ax_st md 4) (hl : Cond.methodLinkNest own idx md.1 host ∈ ax_nw) (hc : CT X.g md d [a0, a1, a2, a3] M (pI v M2)) (hdn : d + 1 ≤ n) (hrs : ax_rs rest ≤ 8) (kk : AW X (pc + 3) lv (aI v :: rest) M2) : AW X pc lv (a3 :: a2 :: a1 :: a0 :: rest) M :=
  rc_NI (As := [a0, a1, a2, a3]) B hd hv hl hc hdn rfl hrs rfl kk
theorem rc_NIR4 {md : ax_Md} {idx d : Nat} {host : String} {a0 a1 a2 a3 : ax_V} {F : ax_M → Prop} {v : Int} (B : ax_b X cc own n) (hd : decode cc pc = .ok (.invokestatic idx, 3)) (hv : ax_st md 4) (hl : Cond.methodLinkNest own idx md.1 host ∈ ax_nw) (hc : CT X.g md d [a0, a1, a2, a3] M (pIR v F)) (hdn : d + 1 ≤ n) (hrs : ax_rs rest ≤ 8) (kk : ∀ M2, F M2 → AW X (pc + 3) lv (aI v :: rest) M2) : AW X pc lv (a3 :: a2 :: a1 :: a0 :: rest) M :=
  rc_NIR (As := [a0, a1, a2, a3]) B hd hv hl hc hdn rfl hrs rfl kk
theorem rc_NI5 {md : ax_Md} {idx d : Nat} {host : String} {a0 a1 a2 a3 a4 : ax_V} {M2 : ax_M} {v : Int} (B : ax_b X cc own n) (hd : decode cc pc = .ok (.invokestatic idx, 3)) (hv : ax_st md 5) (hl : Cond.methodLinkNest own idx md.1 host ∈ ax_nw) (hc : CT X.g md d [a0, a1, a2, a3, a4] M (pI v M2)) (hdn : d + 1 ≤ n) (hrs : ax_rs rest ≤ 8) (kk : AW X (pc + 3) lv (aI v :: rest) M2) : AW X pc lv (a4 :: a3 :: a2 :: a1 :: a0 :: rest) M :=
  rc_NI (As := [a0, a1, a2, a3, a4]) B hd hv hl hc hdn rfl hrs rfl kk
theorem rc_NIR5 {md : ax_Md} {idx d : Nat} {host : String} {a0 a1 a2 a3 a4 : ax_V} {F : ax_M → Prop} {v : Int} (B : ax_b X cc own n) (hd : decode cc pc = .ok (.invokestatic idx, 3)) (hv : ax_st md 5) (hl : Cond.methodLinkNest own idx md.1 host ∈ ax_nw) (hc : CT X.g md d [a0, a1, a2, a3, a4] M (pIR v F)) (hdn : d + 1 ≤ n) (hrs : ax_rs rest ≤ 8) (kk : ∀ M2, F M2 → AW X (pc + 3) lv (aI v :: rest) M2) : AW X pc lv (a4 :: a3 :: a2 :: a1 :: a0 :: rest) M :=
  rc_NIR (As := [a0, a1, a2, a3, a4]) B hd hv hl hc hdn rfl hrs rfl kk
theorem rc_NI6 {md : ax_Md} {idx d : Nat} {host : String} {a0 a1 a2 a3 a4 a5 : ax_V} {M2 : ax_M} {v : Int} (B : ax_b X cc own n) (hd : decode cc pc = .ok (.invokestatic idx, 3)) (hv : ax_st md 6) (hl : Cond.methodLinkNest own idx md.1 host ∈ ax_nw) (hc : CT X.g md d [a0, a1, a2, a3, a4, a5] M (pI v M2)) (hdn : d + 1 ≤ n) (hrs : ax_rs rest ≤ 8) (kk : AW X (pc + 3) lv (aI v :: rest) M2) : AW X pc lv (a5 :: a4 :: a3 :: a2 :: a1 :: a0 :: rest) M :=
  rc_NI (As := [a0, a1, a2, a3, a4, a5]) B hd hv hl hc hdn rfl hrs rfl kk
theorem rc_NIR6 {md : ax_Md} {idx d : Nat} {host : String} {a0 a1 a2 a3 a4 a5 : ax_V} {F : ax_M → Prop} {v : Int} (B : ax_b X cc own n) (hd : decode cc pc = .ok (.invokestatic idx, 3)) (hv : ax_st md 6) (hl : Cond.methodLinkNest own idx md.1 host ∈ ax_nw) (hc : CT X.g md d [a0, a1, a2, a3, a4, a5] M (pIR v F)) (hdn : d + 1 ≤ n) (hrs : ax_rs rest ≤ 8) (kk : ∀ M2, F M2 → AW X (pc + 3) lv (aI v :: rest) M2) : AW X pc lv (a5 :: a4 :: a3 :: a2 :: a1 :: a0 :: rest) M :=
  rc_NIR (As := [a0, a1, a2, a3, a4, a5]) B hd hv hl hc hdn rfl hrs rfl kk
theorem rc_NL0 {md : ax_Md} {idx d : Nat} {host : String} {M2 : ax_M} {v : Int} (B : ax_b X cc own n) (hd : decode cc pc = .ok (.invokestatic idx, 3)) (hv : ax_st md 0) (hl : Cond.methodLinkNest own idx md.1 host ∈ ax_nw) (hc : CT X.g md d [] M (pL v M2)) (hdn : d + 1 ≤ n) (hrs : ax_rs rest ≤ 8) (kk : AW X (pc + 3) lv (aL v :: rest) M2) : AW X pc lv (rest) M :=
  rc_NL (As := []) B hd hv hl hc hdn rfl hrs rfl kk
theorem rc_NLR0 {md : ax_Md} {idx d : Nat} {host : String} {F : ax_M → Prop} {v : Int} (B : ax_b X cc own n) (hd : decode cc pc = .ok (.invokestatic idx, 3)) (hv : ax_st md 0) (hl : Cond.methodLinkNest own idx md.1 host ∈ ax_nw) (hc : CT X.g md d [] M (pLR v F)) (hdn : d + 1 ≤ n) (hrs : ax_rs rest ≤ 8) (kk : ∀ M2, F M2 → AW X (pc + 3) lv (aL v :: rest) M2) : AW X pc lv (rest) M :=
  rc_NLR (As := []) B hd hv hl hc hdn rfl hrs rfl kk
theorem rc_NL1 {md : ax_Md} {idx d : Nat} {host : String} {a0 : ax_V} {M2 : ax_M} {v : Int} (B : ax_b X cc own n) (hd : decode cc pc = .ok (.invokestatic idx, 3)) (hv : ax_st md 1) (hl : Cond.methodLinkNest own idx md.1 host ∈ ax_nw) (hc : CT X.g md d [a0] M (pL v M2)) (hdn : d + 1 ≤ n) (hrs : ax_rs rest ≤ 8) (kk : AW X (pc + 3) lv (aL v :: rest) M2) : AW X pc lv (a0 :: rest) M :=
  rc_NL (As := [a0]) B hd hv hl hc hdn rfl hrs rfl kk
theorem rc_NLR1 {md : ax_Md} {idx d : Nat} {host : String} {a0 : ax_V} {F : ax_M → Prop} {v : Int} (B : ax_b X cc own n) (hd : decode cc pc = .ok (.invokestatic idx, 3)) (hv : ax_st md 1) (hl : Cond.methodLinkNest own idx md.1 host ∈ ax_nw) (hc : CT X.g md d [a0] M (pLR v F)) (hdn : d + 1 ≤ n) (hrs : ax_rs rest ≤ 8) (kk : ∀ M2, F M2 → AW X (pc + 3) lv (aL v :: rest) M2) : AW X pc lv (a0 :: rest) M :=
  rc_NLR (As := [a0]) B hd hv hl hc hdn rfl hrs rfl kk
theorem rc_NL2 {md : ax_Md} {idx d : Nat} {host : String} {a0 a1 : ax_V} {M2 : ax_M} {v : Int} (B : ax_b X cc own n) (hd : decode cc pc = .ok (.invokestatic idx, 3)) (hv : ax_st md 2) (hl : Cond.methodLinkNest own idx md.1 host ∈ ax_nw) (hc : CT X.g md d [a0, a1] M (pL v M2)) (hdn : d + 1 ≤ n) (hrs : ax_rs rest ≤ 8) (kk : AW X (pc + 3) lv (aL v :: rest) M2) : AW X pc lv (a1 :: a0 :: rest) M :=
  rc_NL (As := [a0, a1]) B hd hv hl hc hdn rfl hrs rfl kk
theorem rc_NLR2 {md : ax_Md} {idx d : Nat} {host : String} {a0 a1 : ax_V} {F : ax_M → Prop} {v : Int} (B : ax_b X cc own n) (hd : decode cc pc = .ok (.invokestatic idx, 3)) (hv : ax_st md 2) (hl : Cond.methodLinkNest own idx md.1 host ∈ ax_nw) (hc : CT X.g md d [a0, a1] M (pLR v F)) (hdn : d + 1 ≤ n) (hrs : ax_rs rest ≤ 8) (kk : ∀ M2, F M2 → AW X (pc + 3) lv (aL v :: rest) M2) : AW X pc lv (a1 :: a0 :: rest) M :=
  rc_NLR (As := [a0, a1]) B hd hv hl hc hdn rfl hrs rfl kk
theorem rc_NL3 {md : ax_Md} {idx d : Nat} {host : String} {a0 a1 a2 : ax_V} {M2 : ax_M} {v : Int} (B : ax_b X cc own n) (hd : decode cc pc = .ok (.invokestatic idx, 3)) (hv : ax_st md 3) (hl : Cond.methodLinkNest own idx md.1 host ∈ ax_nw) (hc : CT X.g md d [a0, a1, a2] M (pL v M2)) (hdn : d + 1 ≤ n) (hrs : ax_rs rest ≤ 8) (kk : AW X (pc + 3) lv (aL v :: rest) M2) : AW X pc lv (a2 :: a1 :: a0 :: rest) M :=
  rc_NL (As := [a0, a1, a2]) B hd hv hl hc hdn rfl hrs rfl kk
theorem rc_NLR3 {md : ax_Md} {idx d : Nat} {host : String} {a0 a1 a2 : ax_V} {F : ax_M → Prop} {v : Int} (B : ax_b X cc own n) (hd : decode cc pc = .ok (.invokestatic idx, 3)) (hv : ax_st md 3) (hl : Cond.methodLinkNest own idx md.1 host ∈ ax_nw) (hc : CT X.g md d [a0, a1, a2] M (pLR v F)) (hdn : d + 1 ≤ n) (hrs : ax_rs rest ≤ 8) (kk : ∀ M2, F M2 → AW X (pc + 3) lv (aL v :: rest) M2) : AW X pc lv (a2 :: a1 :: a0 :: rest) M :=
  rc_NLR (As := [a0, a1, a2]) B hd hv hl hc hdn rfl hrs rfl kk
theorem rc_NL4 {md : ax_Md} {idx d : Nat} {host : String} {a0 a1 a2 a3 : ax_V} {M2 : ax_M} {v : Int} (B : ax_b X cc own n) (hd : decode cc pc = .ok (.invokestatic idx, 3)) (hv : ax_st md 4) (hl : Cond.methodLinkNest own idx md.1 host ∈ ax_nw) (hc : CT X.g md d [a0, a1, a2, a3] M (pL v M2)) (hdn : d + 1 ≤ n) (hrs : ax_rs rest ≤ 8) (kk : AW X (pc + 3) lv (aL v :: rest) M2) : AW X pc lv (a3 :: a2 :: a1 :: a0 :: rest) M :=
  rc_NL (As := [a0, a1, a2, a3]) B hd hv hl hc hdn rfl hrs rfl kk
theorem rc_NLR4 {md : ax_Md} {idx d : Nat} {host : String} {a0 a1 a2 a3 : ax_V} {F : ax_M → Prop} {v : Int} (B : ax_b X cc own n) (hd : decode cc pc = .ok (.invokestatic idx, 3)) (hv : ax_st md 4) (hl : Cond.methodLinkNest own idx md.1 host ∈ ax_nw) (hc : CT X.g md d [a0, a1, a2, a3] M (pLR v F)) (hdn : d + 1 ≤ n) (hrs : ax_rs rest ≤ 8) (kk : ∀ M2, F M2 → AW X (pc + 3) lv (aL v :: rest) M2) : AW X pc lv (a3 :: a2 :: a1 :: a0 :: rest) M :=
  rc_NLR (As := [a0, a1, a2, a3]) B hd hv hl hc hdn rfl hrs rfl kk
theorem rc_NL5 {md : ax_Md} {idx d : Nat} {host : String} {a0 a1 a2 a3 a4 : ax_V} {M2 : ax_M} {v : Int} (B : ax_b X cc own n) (hd : decode cc pc = .ok (.invokestatic idx, 3)) (hv : ax_st md 5) (hl : Cond.methodLinkNest own idx md.1 host ∈ ax_nw) (hc : CT X.g md d [a0, a1, a2, a3, a4] M (pL v M2)) (hdn : d + 1 ≤ n) (hrs : ax_rs rest ≤ 8) (kk : AW X (pc + 3) lv (aL v :: rest) M2) : AW X pc lv (a4 :: a3 :: a2 :: a1 :: a0 :: rest) M :=
  rc_NL (As := [a0, a1, a2, a3, a4]) B hd hv hl hc hdn rfl hrs rfl kk
theorem rc_NLR5 {md : ax_Md} {idx d : Nat} {host : String} {a0 a1 a2 a3 a4 : ax_V} {F : ax_M → Prop} {v : Int} (B : ax_b X cc own n) (hd : decode cc pc = .ok (.invokestatic idx, 3)) (hv : ax_st md 5) (hl : Cond.methodLinkNest own idx md.1 host ∈ ax_nw) (hc : CT X.g md d [a0, a1, a2, a3, a4] M (pLR v F)) (hdn : d + 1 ≤ n) (hrs : ax_rs rest ≤ 8) (kk : ∀ M2, F M2 → AW X (pc + 3) lv (aL v :: rest) M2) : AW X pc lv (a4 :: a3 :: a2 :: a1 :: a0 :: rest) M :=
  rc_NLR (As := [a0, a1, a2, a3, a4]) B hd hv hl hc hdn rfl hrs rfl kk
theorem rc_NL6 {md : ax_Md} {idx d : Nat} {host : String} {a0 a1 a2 a3 a4 a5 : ax_V} {M2 : ax_M} {v : Int} (B : ax_b X cc own n) (hd : decode cc pc = .ok (.invokestatic idx, 3)) (hv : ax_st md 6) (hl : Cond.methodLinkNest own idx md.1 host ∈ ax_nw) (hc : CT X.g md d [a0, a1, a2, a3, a4, a5] M (pL v M2)) (hdn : d + 1 ≤ n) (hrs : ax_rs rest ≤ 8) (kk : AW X (pc + 3) lv (aL v :: rest) M2) : AW X pc lv (a5 :: a4 :: a3 :: a2 :: a1 :: a0 :: rest) M :=
  rc_NL (As := [a0, a1, a2, a3, a4, a5]) B hd hv hl hc hdn rfl hrs rfl kk
theorem rc_NLR6 {md : ax_Md} {idx d : Nat} {host : String} {a0 a1 a2 a3 a4 a5 : ax_V} {F : ax_M → Prop} {v : Int} (B : ax_b X cc own n) (hd : decode cc pc = .ok (.invokestatic idx, 3)) (hv : ax_st md 6) (hl : Cond.methodLinkNest own idx md.1 host ∈ ax_nw) (hc : CT X.g md d [a0, a1, a2, a3, a4, a5] M (pLR v F)) (hdn : d + 1 ≤ n) (hrs : ax_rs rest ≤ 8) (kk : ∀ M2, F M2 → AW X (pc + 3) lv (aL v :: rest) M2) : AW X pc lv (a5 :: a4 :: a3 :: a2 :: a1 :: a0 :: rest) M :=
  rc_NLR (As := [a0, a1, a2, a3, a4, a5]) B hd hv hl hc hdn rfl hrs rfl kk
theorem rc_NV0 {md : ax_Md} {idx d : Nat} {host : String} {M2 : ax_M} (B : ax_b X cc own n) (hd : decode cc pc = .ok (.invokestatic idx, 3)) (hv : ax_st md 0) (hl : Cond.methodLinkNest own idx md.1 host ∈ ax_nw) (hc : CT X.g md d [] M (pV M2)) (hdn : d + 1 ≤ n) (hrs : ax_rs rest ≤ 8) (kk : AW X (pc + 3) lv (rest) M2) : AW X pc lv (rest) M :=
  rc_NV (As := []) B hd hv hl hc hdn rfl hrs rfl kk
theorem rc_NVR0 {md : ax_Md} {idx d : Nat} {host : String} {F : ax_M → Prop} (B : ax_b X cc own n) (hd : decode cc pc = .ok (.invokestatic idx, 3)) (hv : ax_st md 0) (hl : Cond.methodLinkNest own idx md.1 host ∈ ax_nw) (hc : CT X.g md d [] M (pVR F)) (hdn : d + 1 ≤ n) (hrs : ax_rs rest ≤ 8) (kk : ∀ M2, F M2 → AW X (pc + 3) lv (rest) M2) : AW X pc lv (rest) M :=
  rc_NVR (As := []) B hd hv hl hc hdn rfl hrs rfl kk
theorem rc_NV1 {md : ax_Md} {idx d : Nat} {host : String} {a0 : ax_V} {M2 : ax_M} (B : ax_b X cc own n) (hd : decode cc pc = .ok (.invokestatic idx, 3)) (hv : ax_st md 1) (hl : Cond.methodLinkNest own idx md.1 host ∈ ax_nw) (hc : CT X.g md d [a0] M (pV M2)) (hdn : d + 1 ≤ n) (hrs : ax_rs rest ≤ 8) (kk : AW X (pc + 3) lv (rest) M2) : AW X pc lv (a0 :: rest) M :=
  rc_NV (As := [a0]) B hd hv hl hc hdn rfl hrs rfl kk
theorem rc_NVR1 {md : ax_Md} {idx d : Nat} {host : String} {a0 : ax_V} {F : ax_M → Prop} (B : ax_b X cc own n) (hd : decode cc pc = .ok (.invokestatic idx, 3)) (hv : ax_st md 1) (hl : Cond.methodLinkNest own idx md.1 host ∈ ax_nw) (hc : CT X.g md d [a0] M (pVR F)) (hdn : d + 1 ≤ n) (hrs : ax_rs rest ≤ 8) (kk : ∀ M2, F M2 → AW X (pc + 3) lv (rest) M2) : AW X pc lv (a0 :: rest) M :=
  rc_NVR (As := [a0]) B hd hv hl hc hdn rfl hrs rfl kk
theorem rc_NV2 {md : ax_Md} {idx d : Nat} {host : String} {a0 a1 : ax_V} {M2 : ax_M} (B : ax_b X cc own n) (hd : decode cc pc = .ok (.invokestatic idx, 3)) (hv : ax_st md 2) (hl : Cond.methodLinkNest own idx md.1 host ∈ ax_nw) (hc : CT X.g md d [a0, a1] M (pV M2)) (hdn : d + 1 ≤ n) (hrs : ax_rs rest ≤ 8) (kk : AW X (pc + 3) lv (rest) M2) : AW X pc lv (a1 :: a0 :: rest) M :=
  rc_NV (As := [a0, a1]) B hd hv hl hc hdn rfl hrs rfl kk
theorem rc_NVR2 {md : ax_Md} {idx d : Nat} {host : String} {a0 a1 : ax_V} {F : ax_M → Prop} (B : ax_b X cc own n) (hd : decode cc pc = .ok (.invokestatic idx, 3)) (hv : ax_st md 2) (hl : Cond.methodLinkNest own idx md.1 host ∈ ax_nw) (hc : CT X.g md d [a0, a1] M (pVR F)) (hdn : d + 1 ≤ n) (hrs : ax_rs rest ≤ 8) (kk : ∀ M2, F M2 → AW X (pc + 3) lv (rest) M2) : AW X pc lv (a1 :: a0 :: rest) M :=
  rc_NVR (As := [a0, a1]) B hd hv hl hc hdn rfl hrs rfl kk
theorem rc_NV3 {md : ax_Md} {idx d : Nat} {host : String} {a0 a1 a2 : ax_V} {M2 : ax_M} (B : ax_b X cc own n) (hd : decode cc pc = .ok (.invokestatic idx, 3)) (hv : ax_st md 3) (hl : Cond.methodLinkNest own idx md.1 host ∈ ax_nw) (hc : CT X.g md d [a0, a1, a2] M (pV M2)) (hdn : d + 1 ≤ n) (hrs : ax_rs rest ≤ 8) (kk : AW X (pc + 3) lv (rest) M2) : AW X pc lv (a2 :: a1 :: a0 :: rest) M :=
  rc_NV (As := [a0, a1, a2]) B hd hv hl hc hdn rfl hrs rfl kk
theorem rc_NVR3 {md : ax_Md} {idx d : Nat} {host : String} {a0 a1 a2 : ax_V} {F : ax_M → Prop} (B : ax_b X cc own n) (hd : decode cc pc = .ok (.invokestatic idx, 3)) (hv : ax_st md 3) (hl : Cond.methodLinkNest own idx md.1 host ∈ ax_nw) (hc : CT X.g md d [a0, a1, a2] M (pVR F)) (hdn : d + 1 ≤ n) (hrs : ax_rs rest ≤ 8) (kk : ∀ M2, F M2 → AW X (pc + 3) lv (rest) M2) : AW X pc lv (a2 :: a1 :: a0 :: rest) M :=
  rc_NVR (As := [a0, a1, a2]) B hd hv hl hc hdn rfl hrs rfl kk
theorem rc_NV4 {md : ax_Md} {idx d : Nat} {host : String} {a0 a1 a2 a3 : ax_V} {M2 : ax_M} (B : ax_b X cc own n) (hd : decode cc pc = .ok (.invokestatic idx, 3)) (hv : ax_st md 4) (hl : Cond.methodLinkNest own idx md.1 host ∈ ax_nw) (hc : CT X.g md d [a0, a1, a2, a3] M (pV M2)) (hdn : d + 1 ≤ n) (hrs : ax_rs rest ≤ 8) (kk : AW X (pc + 3) lv (rest) M2) : AW X pc lv (a3 :: a2 :: a1 :: a0 :: rest) M :=
  rc_NV (As := [a0, a1, a2, a3]) B hd hv hl hc hdn rfl hrs rfl kk
theorem rc_NVR4 {md : ax_Md} {idx d : Nat} {host : String} {a0 a1 a2 a3 : ax_V} {F : ax_M → Prop} (B : ax_b X cc own n) (hd : decode cc pc = .ok (.invokestatic idx, 3)) (hv : ax_st md 4) (hl : Cond.methodLinkNest own idx md.1 host ∈ ax_nw) (hc : CT X.g md d [a0, a1, a2, a3] M (pVR F)) (hdn : d + 1 ≤ n) (hrs : ax_rs rest ≤ 8) (kk : ∀ M2, F M2 → AW X (pc + 3) lv (rest) M2) : AW X pc lv (a3 :: a2 :: a1 :: a0 :: rest) M :=
  rc_NVR (As := [a0, a1, a2, a3]) B hd hv hl hc hdn rfl hrs rfl kk
theorem rc_NV5 {md : ax_Md} {idx d : Nat} {host : String} {a0 a1 a2 a3 a4 : ax_V} {M2 : ax_M} (B : ax_b X cc own n) (hd : decode cc pc = .ok (.invokestatic idx, 3)) (hv : ax_st md 5) (hl : Cond.methodLinkNest own idx md.1 host ∈ ax_nw) (hc : CT X.g md d [a0, a1, a2, a3, a4] M (pV M2)) (hdn : d + 1 ≤ n) (hrs : ax_rs rest ≤ 8) (kk : AW X (pc + 3) lv (rest) M2) : AW X pc lv (a4 :: a3 :: a2 :: a1 :: a0 :: rest) M :=
  rc_NV (As := [a0, a1, a2, a3, a4]) B hd hv hl hc hdn rfl hrs rfl kk
theorem rc_NVR5 {md : ax_Md} {idx d : Nat} {host : String} {a0 a1 a2 a3 a4 : ax_V} {F : ax_M → Prop} (B : ax_b X cc own n) (hd : decode cc pc = .ok (.invokestatic idx, 3)) (hv : ax_st md 5) (hl : Cond.methodLinkNest own idx md.1 host ∈ ax_nw) (hc : CT X.g md d [a0, a1, a2, a3, a4] M (pVR F)) (hdn : d + 1 ≤ n) (hrs : ax_rs rest ≤ 8) (kk : ∀ M2, F M2 → AW X (pc + 3) lv (rest) M2) : AW X pc lv (a4 :: a3 :: a2 :: a1 :: a0 :: rest) M :=
  rc_NVR (As := [a0, a1, a2, a3, a4]) B hd hv hl hc hdn rfl hrs rfl kk
theorem rc_NV6 {md : ax_Md} {idx d : Nat} {host : String} {a0 a1 a2 a3 a4 a5 : ax_V} {M2 : ax_M} (B : ax_b X cc own n) (hd : decode cc pc = .ok (.invokestatic idx, 3)) (hv : ax_st md 6) (hl : Cond.methodLinkNest own idx md.1 host ∈ ax_nw) (hc : CT X.g md d [a0, a1, a2, a3, a4, a5] M (pV M2)) (hdn : d + 1 ≤ n) (hrs : ax_rs rest ≤ 8) (kk : AW X (pc + 3) lv (rest) M2) : AW X pc lv (a5 :: a4 :: a3 :: a2 :: a1 :: a0 :: rest) M :=
  rc_NV (As := [a0, a1, a2, a3, a4, a5]) B hd hv hl hc hdn rfl hrs rfl kk
theorem rc_NVR6 {md : ax_Md} {idx d : Nat} {host : String} {a0 a1 a2 a3 a4 a5 : ax_V} {F : ax_M → Prop} (B : ax_b X cc own n) (hd : decode cc pc = .ok (.invokestatic idx, 3)) (hv : ax_st md 6) (hl : Cond.methodLinkNest own idx md.1 host ∈ ax_nw) (hc : CT X.g md d [a0, a1, a2, a3, a4, a5] M (pVR F)) (hdn : d + 1 ≤ n) (hrs : ax_rs rest ≤ 8) (kk : ∀ M2, F M2 → AW X (pc + 3) lv (rest) M2) : AW X pc lv (a5 :: a4 :: a3 :: a2 :: a1 :: a0 :: rest) M :=
  rc_NVR (As := [a0, a1, a2, a3, a4, a5]) B hd hv hl hc hdn rfl hrs rfl kk
end AXS
