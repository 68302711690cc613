def allB (f : Int → Bool) (n : Int) : Bool := itI (fun i r => r && f i) true n
theorem allB_iff {f : Int → Bool} {n : Int} (h : 0 ≤ n) : allB f n = true ↔ ∀ i, 0 ≤ i → i < n → f i = true := by
  unfold allB
  have := itI_inv (f := fun i r => r && f i) (a := true) (p := n) (fun k r => r = true ↔ ∀ i, 0 ≤ i → i < k → f i = true) h (by constructor; intro _ i h0 h1; omega; intro _; rfl) (fun k r h0 h1 q => by
    constructor
    · intro w i a b
      have w' : (r && f k) = true := w
      rw [Bool.and_eq_true] at w'
      rcases Int.lt_or_eq_of_le (show i ≤ k by omega) with z | z
      · exact q.mp w'.1 i a z
      · rw [z]; exact w'.2
    · intro w
      show (r && f k) = true
      rw [Bool.and_eq_true]
      exact ⟨q.mpr (fun i a b => w i a (by omega)), w k h0 (by omega)⟩)
  exact this
theorem allB_t {f : Int → Bool} {n : Int} (h : 0 ≤ n) (w : ∀ i, 0 ≤ i → i < n → f i = true) : allB f n = true := (allB_iff h).mpr w
theorem allB_f {f : Int → Bool} {n : Int} (i : Int) (h0 : 0 ≤ i) (h1 : i < n) (w : f i = false) : allB f n = false := by
  cases e : allB f n with
  | false => rfl
  | true => rw [(allB_iff (by omega)).mp e i h0 h1] at w; cases w
theorem p2_s {k : Int} (h : 0 ≤ k) : p2 (k + 1) = 2 * p2 k := by
  unfold p2
  rw [show (k + 1).toNat = k.toNat + 1 by omega, Nat.pow_succ]
  omega
theorem mulB {a b A B : Int} (ha : 0 ≤ a ∧ a ≤ A) (hb : 0 ≤ b ∧ b ≤ B) : 0 ≤ a * b ∧ a * b ≤ A * B :=
  ⟨Int.mul_nonneg ha.1 hb.1, Int.mul_le_mul ha.2 hb.2 hb.1 (by omega)⟩
theorem gcd_st {x y : Int} (hx : 0 ≤ x) (hy : 0 < y) : Int.gcd y (x % y) = Int.gcd x y := by
  obtain ⟨a, rfl⟩ := Int.eq_ofNat_of_zero_le hx
  obtain ⟨b, rfl⟩ := Int.eq_ofNat_of_zero_le (Int.le_of_lt hy)
  have e : ((a : Int) % (b : Int)) = ((a % b : Nat) : Int) := rfl
  rw [e]
  show Nat.gcd b (a % b) = Nat.gcd a b
  rw [Nat.gcd_comm a b, Nat.gcd_rec b a, Nat.gcd_comm]
theorem gcd_0 {x : Int} (hx : 0 ≤ x) : ((Int.gcd x 0 : Nat) : Int) = x := by
  rw [Int.gcd_zero_right]
  omega
/-! odds -/
def oTop (V : ax_M) (d h : Int) : Int := itI (fun p t => if tb (cm V d h) p = true ∧ lik V d h < V 60 3 then t * (16 - V 58 p) else t) 1 8
def oBot (V : ax_M) (d h : Int) : Int := itI (fun p t => if tb (cm V d h) p = true ∧ lik V d h < V 60 3 then t * 16 else t) 1 8
def odV (V : ax_M) (d h w : Int) : Int := if lik V d h = -3 then -9223372036854775808 - (-3) else lowV (oTop V d h) (oBot V d h) w
theorem oTop_r (V : ax_M) (d h : Int) (hV : ∀ p, 0 ≤ p → p < 8 → 0 ≤ V 58 p ∧ V 58 p ≤ 16) : 0 ≤ oTop V d h ∧ oTop V d h ≤ 4294967296 := by
  unfold oTop
  have := itI_inv (f := fun p t => if tb (cm V d h) p = true ∧ lik V d h < V 60 3 then t * (16 - V 58 p) else t) (a := 1) (p := 8) (fun i x => 0 ≤ x ∧ x ≤ p2 (4 * i)) (by decide) (by decide) (fun i x h0 h1 q => by
    have m := hV i h0 h1
    have e : p2 (4 * (i + 1)) = 16 * p2 (4 * i) := by
      rw [show 4 * (i + 1) = 4 * i + 1 + 1 + 1 + 1 by omega, p2_s (by omega), p2_s (by omega), p2_s (by omega), p2_s (by omega)]
      omega
    show 0 ≤ (if _ then x * (16 - V 58 i) else x) ∧ (if _ then x * (16 - V 58 i) else x) ≤ _
    split
    · have := mulB (A := p2 (4 * i)) (B := 16) q (show 0 ≤ 16 - V 58 i ∧ 16 - V 58 i ≤ 16 by omega)
      omega
    · have := p2_pos (4 * i)
      omega)
  have e : p2 (4 * 8) = 4294967296 := by decide
  omega
theorem oBot_r (V : ax_M) (d h : Int) : 1 ≤ oBot V d h ∧ oBot V d h ≤ 4294967296 := by
  unfold oBot
  have := itI_inv (f := fun p t => if tb (cm V d h) p = true ∧ lik V d h < V 60 3 then t * 16 else t) (a := 1) (p := 8) (fun i x => 1 ≤ x ∧ x ≤ p2 (4 * i)) (by decide) (by decide) (fun i x h0 h1 q => by
    have e : p2 (4 * (i + 1)) = 16 * p2 (4 * i) := by
      rw [show 4 * (i + 1) = 4 * i + 1 + 1 + 1 + 1 by omega, p2_s (by omega), p2_s (by omega), p2_s (by omega), p2_s (by omega)]
      omega
    rw [e]
    have q2 := p2_pos (4 * i)
    split
    · constructor
      · omega
      · omega
    · omega)
  have e : p2 (4 * 8) = 4294967296 := by decide
  omega
/-! binomials -/
def chI (n k j : Int) : Int := itI (fun j b => b * (n - k + (j + 1)) / (j + 1)) 1 j
theorem chI_r {n k j : Int} (hn : 0 ≤ n ∧ n ≤ 8) (hk : 0 ≤ k ∧ k ≤ n) (hj : 0 ≤ j ∧ j ≤ k) : 1 ≤ chI n k j ∧ chI n k j ≤ 1000 := by
  have key : ∀ a b c : Fin 9, b.val ≤ a.val → c.val ≤ b.val → 1 ≤ chI (a.val : Nat) (b.val : Nat) (c.val : Nat) ∧ chI (a.val : Nat) (b.val : Nat) (c.val : Nat) ≤ 1000 := by decide +kernel
  have := key ⟨n.toNat, by omega⟩ ⟨k.toNat, by omega⟩ ⟨j.toNat, by omega⟩ (by show k.toNat ≤ n.toNat; omega) (by show j.toNat ≤ k.toNat; omega)
  simp only [Int.toNat_of_nonneg hn.1, Int.toNat_of_nonneg hk.1, Int.toNat_of_nonneg hj.1] at this
  exact this
/-! hats -/
def arF (V : ax_M) (a b : Int) : Bool := decide (V 65 a = V 65 b ∧ (V 67 a - V 67 b = 0 ∧ V 66 a - V 66 b ≠ 0 ∨ (V 67 a - V 67 b = 1 ∨ V 67 a - V 67 b = -1) ∧ (V 66 a - V 66 b > 2 ∨ V 66 a - V 66 b < -2)))
def okH (V : ax_M) (set : Int) : Bool := allB (fun a => allB (fun b => tb set a || tb set b || !arF V a b) a) (V 9 26)
def htS (V : ax_M) (set best : Int) : Int := if best = -1 ∨ on set < on best then (if okH V set = true then set else best) else best
def htB (V : ax_M) : Int := itI (htS V) (-1) (p2 (V 9 26))
/-! spared -/
def rcS (V : ax_M) (k r : Int) : Int := nO r (if V 68 k < V 9 2 ∧ V 69 k < V 9 2 ∧ tb r (V 68 k) = true then p2 (V 69 k) else 0)
def rch (V : ax_M) (set : Int) : Int := itI (fun _ r => itI (rcS V) r (V 9 30)) set 8
def spV (V : ax_M) (set : Int) : Int := wth V (nD (rch V set) set)
/-! deeds of a set together in an hour -/
def apP (V : ax_M) (d e : Int) : Bool := decide (V 54 (V 47 d) = 1 ∧ V 54 (V 47 e) = 1 ∧ V 48 d = V 48 e)
def apR (V : ax_M) (d e : Int) : Bool := decide (V 53 (V 47 d) = 1 ∧ V 53 (V 47 e) = 1 ∧ V 49 d ≠ V 49 e)
def apr (V : ax_M) (d e h : Int) : Bool := decide (nA (cm V d h) (cm V e h) ≠ 0) || (apP V d e || apR V d e)
def okD (V : ax_M) (set h d : Int) : Bool := !tb set d || (decide (cm V d h ≠ -3) && allB (fun e => !tb set e || !apr V d e h) d)
def okT (V : ax_M) (set h : Int) : Bool := allB (okD V set h) (V 9 2)
def sT (V : ax_M) (set h n : Int) : Int := itI (fun d s => s + if tb set d = true then prc V (cm V d h) else 0) 0 n
def tT (V : ax_M) (set h n : Int) : Bool := !allB (fun d => !(tb set d && trn V d h)) n
def cT (V : ax_M) (set h : Int) : Int := if okT V set h = true then sT V set h (V 9 2) + (if tT V set h (V 9 2) = true then V 60 0 else 0) else 1000000
/-! a plan that is a sheet -/
def inP (V : ax_M) (s : Int) : Bool := allB (fun d => decide (-1 ≤ V 73 (60 * s + d) ∧ V 73 (60 * s + d) ≤ 7)) (V 9 2)
def hsP (V : ax_M) (s h n : Int) : Int := itI (fun d b => nO b (if V 73 (60 * s + d) = h then p2 d else 0)) 0 n
def okP (V : ax_M) (s : Int) : Bool := inP V s && allB (fun h => decide (cT V (hsP V s h (V 9 2)) h < 1000000)) 8
def csP (V : ax_M) (s n : Int) : Int := itI (fun h c => c + cT V (hsP V s h (V 9 2)) h) 0 n
def pcV (V : ax_M) (s : Int) : Int := if okP V s = true then csP V s 8 else -3
theorem allB_s {f : Int → Bool} {n : Int} (h : 0 ≤ n) : allB f (n + 1) = (allB f n && f n) := by
  unfold allB
  rw [itI_s _ _ h]
theorem tT_s (V : ax_M) (set h : Int) {n : Int} (hn : 0 ≤ n) : tT V set h (n + 1) = (tT V set h n || (tb set n && trn V n h)) := by
  unfold tT
  rw [allB_s hn, Bool.not_and, Bool.not_not]
theorem nO_0 {a : Int} (h : 0 ≤ a) : nO a 0 = a := by
  unfold nO
  simp
  omega
theorem nA_ne {a b : Int} : nA a b ≠ 0 ↔ ∃ k : Int, 0 ≤ k ∧ tb a k = true ∧ tb b k = true := by
  constructor
  · intro h
    unfold nA at h
    obtain ⟨i, hi⟩ := Nat.exists_testBit_of_ne_zero (x := a.toNat &&& b.toNat) (by omega)
    rw [Nat.testBit_and, Bool.and_eq_true] at hi
    exact ⟨(i : Int), by omega, by simpa [tb] using hi.1, by simpa [tb] using hi.2⟩
  · rintro ⟨k, h0, h1, h2⟩ h
    have := tb_nA a b k
    rw [h, tb_0, h1, h2] at this
    cases this
theorem tb_lt {a k : Int} (n : Nat) (ha : 0 ≤ a ∧ a < ((2 ^ n : Nat) : Int)) (h : tb a k = true) : k < n := by
  unfold tb at h
  rcases Int.lt_or_le k n with q | q
  · exact q
  · rw [Nat.testBit_lt_two_pow (Nat.lt_of_lt_of_le (show a.toNat < 2 ^ n by omega) (Nat.pow_le_pow_right (by omega) (show n ≤ k.toNat by omega)))] at h
    cases h
def whoC (V : ax_M) (set h d who : Int) : Prop := ∀ k, 0 ≤ k → (tb who k = true ↔ ∃ j, 0 ≤ j ∧ j < d ∧ tb set j = true ∧ tb (cm V j h) k = true)
theorem whoC_0 (V : ax_M) (set h : Int) : whoC V set h 0 0 := fun k _ => by
  rw [tb_0]
  constructor
  · intro q; cases q
  · rintro ⟨j, h0, h1, -⟩; omega
theorem whoC_n {V : ax_M} {set h d who : Int} (hw : whoC V set h d who) (hs : tb set d = false) : whoC V set h (d + 1) who := fun k hk => by
  rw [hw k hk]
  constructor
  · rintro ⟨j, h0, h1, h2, h3⟩; exact ⟨j, h0, by omega, h2, h3⟩
  · rintro ⟨j, h0, h1, h2, h3⟩
    rcases Int.lt_or_eq_of_le (show j ≤ d by omega) with q | q
    · exact ⟨j, h0, q, h2, h3⟩
    · rw [q, hs] at h2; cases h2
theorem whoC_s {V : ax_M} {set h d who : Int} (hd : 0 ≤ d) (hw : whoC V set h d who) (hs : tb set d = true) : whoC V set h (d + 1) (nO who (cm V d h)) := fun k hk => by
  rw [tb_nO, Bool.or_eq_true, hw k hk]
  constructor
  · rintro (⟨j, h0, h1, h2, h3⟩ | q)
    · exact ⟨j, h0, by omega, h2, h3⟩
    · exact ⟨d, hd, by omega, hs, q⟩
  · rintro ⟨j, h0, h1, h2, h3⟩
    rcases Int.lt_or_eq_of_le (show j ≤ d by omega) with q | q
    · exact Or.inl ⟨j, h0, q, h2, h3⟩
    · right; rw [q] at h3; exact h3
theorem whoC_a {V : ax_M} {set h d who : Int} (hw : whoC V set h d who) : nA (cm V d h) who ≠ 0 ↔ ∃ j, 0 ≤ j ∧ j < d ∧ tb set j = true ∧ nA (cm V d h) (cm V j h) ≠ 0 := by
  rw [nA_ne]
  constructor
  · rintro ⟨k, hk, h1, h2⟩
    obtain ⟨j, a, b, c, e⟩ := (hw k hk).mp h2
    exact ⟨j, a, b, c, nA_ne.mpr ⟨k, hk, h1, e⟩⟩
  · rintro ⟨j, a, b, c, e⟩
    obtain ⟨k, hk, h1, h2⟩ := nA_ne.mp e
    exact ⟨k, hk, h1, (hw k hk).mpr ⟨j, a, b, c, h2⟩⟩
theorem okD_n {V : ax_M} {set h d : Int} (hs : tb set d = false) : okD V set h d = true := by
  unfold okD
  rw [hs]
  rfl
theorem okD_t {V : ax_M} {set h d : Int} (hd : 0 ≤ d) (hc : cm V d h ≠ -3) (ha : ∀ j, 0 ≤ j → j < d → tb set j = true → apr V d j h = false) : okD V set h d = true := by
  unfold okD
  rw [decide_eq_true hc, Bool.true_and, allB_t hd (fun j h0 h1 => by
    cases q : tb set j with
    | false => rfl
    | true => rw [ha j h0 h1 q]; rfl), Bool.or_true]
theorem okD_f1 {V : ax_M} {set h d : Int} (hs : tb set d = true) (hc : cm V d h = -3) : okD V set h d = false := by
  unfold okD
  rw [hs, decide_eq_false (fun q => q hc)]
  rfl
theorem okD_f2 {V : ax_M} {set h d : Int} (hs : tb set d = true) (j : Int) (h0 : 0 ≤ j) (h1 : j < d) (h2 : tb set j = true) (ha : apr V d j h = true) : okD V set h d = false := by
  unfold okD
  rw [hs, allB_f j h0 h1 (by rw [h2, ha]; rfl), Bool.and_false]
  rfl
theorem okT_f {V : ax_M} {set h : Int} (d : Int) (h0 : 0 ≤ d) (h1 : d < V 9 2) (w : okD V set h d = false) : cT V set h = 1000000 := by
  unfold cT okT
  rw [allB_f d h0 h1 w]
  rfl
theorem sT_r {V : ax_M} {set h n : Int} (hn : 0 ≤ n) (hV : ∀ p, 0 ≤ p → p < 8 → 0 ≤ V 57 p ∧ V 57 p ≤ 99) : 0 ≤ sT V set h n ∧ sT V set h n ≤ 792 * n := by
  unfold sT
  refine itI_inv (fun i x => 0 ≤ x ∧ x ≤ 792 * i) hn (by omega) (fun i x h0 h1 q => ?_)
  have := prc_r V (cm V i h) hV
  show 0 ≤ x + (if tb set i = true then prc V (cm V i h) else 0) ∧ x + (if tb set i = true then prc V (cm V i h) else 0) ≤ _
  split <;> omega
theorem cT_r {V : ax_M} {set h : Int} (hn : 0 ≤ V 9 2 ∧ V 9 2 ≤ 8) (hV : ∀ p, 0 ≤ p → p < 8 → 0 ≤ V 57 p ∧ V 57 p ≤ 99) (hr : 0 ≤ V 60 0 ∧ V 60 0 ≤ 999) : 0 ≤ cT V set h ∧ (cT V set h ≤ 10000 ∨ cT V set h = 1000000) := by
  unfold cT
  have := sT_r (set := set) (h := h) hn.1 hV
  split
  · split <;> omega
  · omega
theorem okH_all {V : ax_M} {set : Int} (hn : 0 ≤ V 9 26) (h : ∀ a, 0 ≤ a → a < V 9 26 → tb set a = true) : okH V set = true := by
  unfold okH
  refine allB_t hn (fun a h0 h1 => allB_t h0 (fun b h2 h3 => ?_))
  rw [h a h0 h1]
  rfl
theorem tb_all {n a : Int} (hn : 0 ≤ n ∧ n ≤ 30) (h0 : 0 ≤ a) : tb (p2 n - 1) a = decide (a < n) := by
  unfold tb p2
  rw [show (((2 ^ n.toNat : Nat) : Int) - 1).toNat = 2 ^ n.toNat - 1 by omega, Nat.testBit_two_pow_sub_one]
  apply decide_eq_decide.mpr
  omega
