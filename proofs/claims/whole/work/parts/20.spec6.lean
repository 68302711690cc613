/-! what each call answers of the state S, and what it makes of it -/
def SI (S : ax_M) : Prop := S 45 1 ≤ 40 ∧ S 60 1 ≤ 1
abbrev isD (S : ax_M) (d : Int) : Prop := 0 ≤ d ∧ d ≤ vw S 9 2 - 1
abbrev isH (h : Int) : Prop := 0 ≤ h ∧ h ≤ 7
def LB : Int := -9223372036854775808
def okTy (S : ax_M) (x b : Int) : Prop := ((0 ≤ x ∧ x ≤ 1) ∧ (0 ≤ b ∧ b ≤ 255)) ∧ S 45 x ≠ (if x = 0 then 80 else 40)
def vType (S : ax_M) (x b : Int) : Int := if (0 ≤ x ∧ x ≤ 1) ∧ (0 ≤ b ∧ b ≤ 255) then (if S 45 x = (if x = 0 then 80 else 40) then -4 else S 45 x + 1) else -2
def sType (S : ax_M) (x b : Int) : ax_M := if (0 ≤ x ∧ x ≤ 1) ∧ (0 ≤ b ∧ b ≤ 255) then (if S 45 x = (if x = 0 then 80 else 40) then S else ms (ms S 46 (80 * x + S 45 x) b) 45 x (S 45 x + 1)) else S
def vWipe (S : ax_M) (x : Int) : Int := if 0 ≤ x ∧ x ≤ 1 then S 45 x else -2
def sWipe (S : ax_M) (x : Int) : ax_M := if 0 ≤ x ∧ x ≤ 1 then ms S 45 x 0 else S
def vFault (S : ax_M) (x : Int) : Int := if 0 ≤ x ∧ x ≤ 1 then (if x = 0 then qd S 0 7 else qr S 5 2) else -2
def dOf (V : ax_M) (d w : Int) : Int := if w = 0 then V 47 d else if w = 1 then V 48 d else if w = 2 then V 49 d else if w = 3 then V 50 d else V 51 d
def vDeed (S : ax_M) (d w : Int) : Int := if isD S d ∧ (0 ≤ w ∧ w ≤ 4) then dOf (vw S) d w else -2
def rOf (V : ax_M) (k w : Int) : Int := if w = 0 then V 52 k else if w = 1 then V 53 k else V 54 k
def vRule (S : ax_M) (k w : Int) : Int := if (0 ≤ k ∧ k ≤ 3) ∧ (0 ≤ w ∧ w ≤ 2) then rOf (vw S) k w else -2
def pmx (w : Int) : Int := if w = 0 then 7 else if w = 1 then 8 else if w = 2 then 99 else 16
def smx (w : Int) : Int := if w = 0 then 99 else if w = 1 then 1 else if w = 2 then 999 else 10
def vPers (S : ax_M) (p w v : Int) : Int := if (0 ≤ p ∧ p ≤ 7) ∧ (0 ≤ w ∧ w ≤ 3) ∧ (0 ≤ v ∧ v ≤ pmx w) then (if w = 0 then S 55 p else if w = 1 then S 56 p else if w = 2 then S 57 p else S 58 p) else -2
def sPers (S : ax_M) (p w v : Int) : ax_M := if (0 ≤ p ∧ p ≤ 7) ∧ (0 ≤ w ∧ w ≤ 3) ∧ (0 ≤ v ∧ v ≤ pmx w) then (if w = 0 then ms S 55 p v else if w = 1 then ms S 56 p v else if w = 2 then ms S 57 p v else ms S 58 p v) else S
def vWea (S : ax_M) (h v : Int) : Int := if isH h ∧ (0 ≤ v ∧ v ≤ 1) then S 59 h else -2
def sWea (S : ax_M) (h v : Int) : ax_M := if isH h ∧ (0 ≤ v ∧ v ≤ 1) then ms S 59 h v else S
def vSet (S : ax_M) (w v : Int) : Int := if (0 ≤ w ∧ w ≤ 3) ∧ (0 ≤ v ∧ v ≤ smx w) then S 60 w else -2
def sSet (S : ax_M) (w v : Int) : ax_M := if (0 ≤ w ∧ w ≤ 3) ∧ (0 ≤ v ∧ v ≤ smx w) then ms S 60 w v else S
def mee (S : ax_M) (f : Int) : ax_M := ms S 9 38 f
/-- how many items of a sheet can be weather, from the first on -/
def rdOk (S : ax_M) (s h : Int) : Bool := decide (h < S 72 s ∧ h < 8 ∧ 0 ≤ S 73 (60 * s + h) ∧ S 73 (60 * s + h) ≤ 1)
def rdN (S : ax_M) (s : Int) : Int := itI (fun h n => if n = h ∧ rdOk S s h = true then n + 1 else n) 0 8
def vRead (S : ax_M) (s : Int) : Int := if 0 ≤ s ∧ s ≤ 3 then (if S 70 s = 0 then -10 - 1 else rdN S s) else -2
def rdS (S : ax_M) (s n : Int) : ax_M := itI (fun h S1 => ms S1 59 h (S 73 (60 * s + h))) S n
def sRead (S : ax_M) (s : Int) : ax_M := if 0 ≤ s ∧ s ≤ 3 then (if S 70 s = 0 then mee S 1 else rdS S s (rdN S s)) else S
def vCan (S : ax_M) (d h : Int) : Int := if isD S d ∧ isH h then bi (decide (cm (vw S) d h ≠ -3)) else -2
def vHours (S : ax_M) (d : Int) : Int := if isD S d then hrs (vw S) d else -2
def vComes (S : ax_M) (d h : Int) : Int := if isD S d ∧ isH h then cm (vw S) d h else -2
def vCosts (S : ax_M) (d h : Int) : Int := if isD S d ∧ isH h then cst (vw S) d h else -2
def vAsk (S : ax_M) (p h : Int) : Int := if (0 ≤ p ∧ p ≤ 7) ∧ isH h then askd (vw S) p h else -2
def crS (V : ax_M) (c : Int) (bm : Int × Int) : Int × Int := if bm.2 < askd V (c / 8) (c % 8) then (c, askd V (c / 8) (c % 8)) else bm
def crB (V : ax_M) (n : Int) : Int × Int := itI (crS V) (-1, 0) n
def crO (V : ax_M) (w : Int) : Int := if w = 2 then (crB V 64).2 else if (crB V 64).1 = -1 then -1 else if w = 0 then (crB V 64).1 / 8 else (crB V 64).1 % 8
def vCrowd (S : ax_M) (w : Int) : Int := if 0 ≤ w ∧ w ≤ 2 then crO (vw S) w else -2
def vLik (S : ax_M) (d h : Int) : Int := if isD S d ∧ isH h then lik (vw S) d h else -2
def vOdds (S : ax_M) (d h w : Int) : Int := if isD S d ∧ isH h ∧ (0 ≤ w ∧ w ≤ 1) then odV (vw S) d h w else -9223372036854775808 - (-2)
def okSn (p x h : Int) : Prop := (0 ≤ p ∧ p ≤ 7) ∧ (0 ≤ x ∧ x ≤ 5) ∧ isH h
def vSeen (S : ax_M) (p x h : Int) : Int := if (0 ≤ p ∧ p ≤ 7) ∧ (0 ≤ x ∧ x ≤ 5) ∧ isH h then (if S 9 26 = 10 then -4 else S 9 26) else -2
def sSeen (S : ax_M) (p x h : Int) : ax_M := if (0 ≤ p ∧ p ≤ 7) ∧ (0 ≤ x ∧ x ≤ 5) ∧ isH h then (if S 9 26 = 10 then S else ms (ms (ms (ms S 65 (S 9 26) p) 66 (S 9 26) x) 67 (S 9 26) h) 9 26 (S 9 26 + 1)) else S
abbrev isS (S : ax_M) (a : Int) : Prop := 0 ≤ a ∧ a ≤ S 9 26 - 1
def vFalse (S : ax_M) (a b : Int) : Int := if isS S a ∧ isS S b ∧ a ≠ b then bi (arF S a b) else -2
def vHats (S : ax_M) (w : Int) : Int := if 0 ≤ w ∧ w ≤ 1 then (if w = 0 then on (htB S) else htB S) else -2
def vAft (S : ax_M) (d e : Int) : Int := if (0 ≤ d ∧ d ≤ 7) ∧ (0 ≤ e ∧ e ≤ 7) ∧ d ≠ e then (if S 9 30 = 10 then -4 else S 9 30 + 1) else -2
def sAft (S : ax_M) (d e : Int) : ax_M := if (0 ≤ d ∧ d ≤ 7) ∧ (0 ≤ e ∧ e ≤ 7) ∧ d ≠ e then (if S 9 30 = 10 then S else ms (ms (ms S 68 (S 9 30) d) 69 (S 9 30) e) 9 30 (S 9 30 + 1)) else S
def vForg (S : ax_M) (w : Int) : Int := if 0 ≤ w ∧ w ≤ 1 then (if w = 0 then S 9 26 else S 9 30) else -2
def sForg (S : ax_M) (w : Int) : ax_M := if 0 ≤ w ∧ w ≤ 1 then (if w = 0 then ms S 9 26 0 else ms S 9 30 0) else S
def vSpar (S : ax_M) (x : Int) : Int := if 0 ≤ x ∧ x ≤ p2 (vw S 9 2) - 1 then spV (vw S) x else -2
def beS (V : ax_M) (d : Int) (bm : Int × Int) : Int × Int := if bm.2 < V 50 d + spV V (p2 d) then (d, V 50 d + spV V (p2 d)) else bm
def beB (V : ax_M) (n : Int) : Int × Int := itI (beS V) (-1, 0) n
def vBest (S : ax_M) : Int := (beB (vw S) (vw S 9 2)).1
def nev (V : ax_M) (n : Int) : Int := itI (fun d s => s + if hrs V d = 0 then 1 else 0) 0 n
def rgV (V : ax_M) (m w : Int) : Int := if V 9 2 < m then -9223372036854775808 - (-3) else lowV (chV (nev V (V 9 2)) m) (chV (V 9 2) m) w
def vRegr (S : ax_M) (m w : Int) : Int := if (0 ≤ m ∧ m ≤ 8) ∧ (0 ≤ w ∧ w ≤ 1) then rgV (vw S) m w else -9223372036854775808 - (-2)
/-! sheets -/
def zer (S : ax_M) (s n : Int) : ax_M := itI (fun i S1 => ms S1 73 (60 * s + i) 0) S n
def vSheet (S : ax_M) (s f n : Int) : Int := if (0 ≤ s ∧ s ≤ 3) ∧ (0 ≤ f ∧ f ≤ 2) ∧ n ≤ 60 then (if n < 0 then -10 - 5 else n) else -2
def sSheet (S : ax_M) (s f n : Int) : ax_M := if (0 ≤ s ∧ s ≤ 3) ∧ (0 ≤ f ∧ f ≤ 2) ∧ n ≤ 60 then (if n < 0 then mee S 5 else zer (ms (ms (ms S 70 s 1) 71 s f) 72 s n) s 60) else S
def vLose (S : ax_M) (s : Int) : Int := if 0 ≤ s ∧ s ≤ 3 then (if S 70 s = 0 then -10 - 1 else S 72 s) else -2
def sLose (S : ax_M) (s : Int) : ax_M := if 0 ≤ s ∧ s ≤ 3 then (if S 70 s = 0 then mee S 1 else ms S 70 s 0) else S
def lkV (S : ax_M) (s f i : Int) : Int := if S 70 s = 0 then 1 else if S 71 s ≠ f then 3 else if 0 ≤ i ∧ i ≤ S 72 s - 1 then 0 else 2
def kpV (S : ax_M) (s v : Int) : Int := if S 71 s = 0 then ax_b8 v else if S 71 s = 1 then ax_s16 v else v
def kpS (S : ax_M) (s i v : Int) : ax_M := ms S 73 (60 * s + i) (kpV S s v)
def vPut (S : ax_M) (s f i : Int) : Int := if (0 ≤ s ∧ s ≤ 3) ∧ (0 ≤ f ∧ f ≤ 2) then (if 0 < lkV S s f i then -10 - lkV S s f i else 1) else -2
def sPut (S : ax_M) (s f i v : Int) : ax_M := if (0 ≤ s ∧ s ≤ 3) ∧ (0 ≤ f ∧ f ≤ 2) then (if 0 < lkV S s f i then mee S (lkV S s f i) else kpS S s i v) else S
def vGet (S : ax_M) (s f i : Int) : Int := if (0 ≤ s ∧ s ≤ 3) ∧ (0 ≤ f ∧ f ≤ 2) then (if 0 < lkV S s f i then -2147483648 else S 73 (60 * s + i)) else -2147483648
def sGet (S : ax_M) (s f i : Int) : ax_M := if (0 ≤ s ∧ s ≤ 3) ∧ (0 ≤ f ∧ f ≤ 2) then (if 0 < lkV S s f i then mee S (lkV S s f i) else S) else S
def cpF (S : ax_M) (s i t j n : Int) : Int := if S 70 s = 0 ∨ S 70 t = 0 then 1 else if S 71 s ≠ S 71 t then 4 else if i < 0 ∨ j < 0 ∨ n < 0 ∨ i + n > S 72 s ∨ j + n > S 72 t then 2 else 0
def vCopy (S : ax_M) (s i t j n : Int) : Int := if (0 ≤ s ∧ s ≤ 3) ∧ (0 ≤ t ∧ t ≤ 3) then (if cpF S s i t j n = 0 then 1 else -10 - cpF S s i t j n) else -2
def sCopy (S : ax_M) (s i t j n : Int) : ax_M := if (0 ≤ s ∧ s ≤ 3) ∧ (0 ≤ t ∧ t ≤ 3) then (if cpF S s i t j n = 0 then mc S 73 (60 * s + i) 73 (60 * t + j) n else mee S (cpF S s i t j n)) else S
def raN (S : ax_M) : Int := itI (fun h s => s + S 59 h) 0 8
def plO (S : ax_M) (s w : Int) : Int := if S 72 s < vw S 9 2 then -3 else if w = 0 then (if pcV (vw S) s = -3 then 0 else 1) else if pcV (vw S) s = -3 then -3 else if w = 1 then itI (fun d a => a + if S 73 (60 * s + d) = -1 then 0 else vw S 50 d) 0 (vw S 9 2) else pcV (vw S) s
def vPlan (S : ax_M) (s w : Int) : Int := if (0 ≤ s ∧ s ≤ 3) ∧ (0 ≤ w ∧ w ≤ 2) then (if S 70 s = 0 then -10 - 1 else plO S s w) else -2
def sPlan (S : ax_M) (s w : Int) : ax_M := if (0 ≤ s ∧ s ≤ 3) ∧ (0 ≤ w ∧ w ≤ 2) then (if S 70 s = 0 then mee S 1 else S) else S
def vCount (S : ax_M) (w : Int) : Int := if w = 0 then vw S 9 2 else if w = 1 then S 45 0 else if w = 2 then S 45 1 else if w = 3 then vw S 9 8 else if w = 4 then S 9 26 else if w = 5 then S 9 30 else if w = 6 then wth (vw S) (p2 (vw S 9 2) - 1) else if w = 7 then raN S else if w = 8 then S 9 38 else -2
/-- the state over the reference's other cells -/
def ov (S M : ax_M) : ax_M := fun k i => if isB k i = true then S k i else M k i
theorem ov_ag {S M : ax_M} (h : bs S M) : AgM (ov S M) M := by
  intro k i _
  unfold ov
  split
  · next q => exact h k i q
  · rfl
theorem ov_26 (S M : ax_M) : ov S M 9 26 = S 9 26 := rfl
theorem ov_arF (S M : ax_M) (a b : Int) : arF (ov S M) a b = arF S a b := rfl
theorem ov_htB (S M : ax_M) : htB (ov S M) = htB S := rfl
theorem b8_r (v : Int) : -2147483648 ≤ ax_b8 v ∧ ax_b8 v ≤ 2147483647 := by
  unfold ax_b8
  have h1 := Int32.le_toInt (ax_i v).toInt8.toInt32
  have h2 := Int32.toInt_lt (ax_i v).toInt8.toInt32
  constructor <;> omega
theorem s16_r (v : Int) : -2147483648 ≤ ax_s16 v ∧ ax_s16 v ≤ 2147483647 := by
  unfold ax_s16
  have h1 := Int32.le_toInt (ax_i v).toInt16.toInt32
  have h2 := Int32.toInt_lt (ax_i v).toInt16.toInt32
  constructor <;> omega
theorem bs_mc {S M : ax_M} (h : bs S M) (a b n : Int) : bs (mc S 73 a 73 b n) (mc M 73 a 73 b n) := fun k i e => by
  unfold mc
  split
  · exact h 73 _ (by simp [isB])
  · exact h k i e
