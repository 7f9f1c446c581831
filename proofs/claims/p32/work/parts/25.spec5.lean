/-! what each call answers: the number of its exception (or 0), its answer, and the state behind it -/
abbrev Abs : Type := Int × Int × (Int → Int) × (Int → Int) × (Int → Int) × (Int → Int) × (Int → Int)
abbrev Rs : Type := Int × Int × Abs
abbrev restsR (r : Int → Int) : Prop := ∀ j : Nat, j < 262 → r (6 + (j : Int)) = tickR r (6 + (j : Int))
def restL : Nat → (Int → Int) → Int → Int
  | 0, _, _ => -1
  | f + 1, r, m => if restsR r then m else restL f (tickR r) (m + 1)
def beatL (v : Int) : Nat → (Int → Int) → Int → Int → Int
  | 0, _, _, _ => -1
  | f + 1, r, m, b => if r (6 + 7 * v + 3) = 0 ∧ 0 < tickR r (6 + 7 * v + 3) then (if b = -1 then beatL v f (tickR r) (m + 1) m else m - b) else beatL v f (tickR r) (m + 1) b
def beatR (r : Int → Int) (v : Int) : Int := beatL v 200 (runR r 100) 1 (-1)
def ruleRow (n : Int → Int) (x y q : Int) : Int → Int := runR (upr (upr n (6 + 7 * x + 2) (q % 2)) (6 + 7 * y + 2) (q / 2)) 60
def ruleL (n : Int → Int) (x y v : Int) : Nat → Int → Int → Int
  | 0, _, b => b
  | f + 1, q, b => if restsR (ruleRow n x y q) then ruleL n x y v f (q + 1) (iOr b (if 0 < ruleRow n x y q (6 + 7 * v + 3) then iShl 1 q else 0)) else -1
def leakB (n : Int → Int) (e l v : Int) : Int := beatR (upr n (76 + 12 * e + 5) l) v
def suspI (n : Int → Int) (v b e : Int) : Nat → Int → Int
  | 0, _ => 0
  | f + 1, l => if leakB n e l v = b then 1 else suspI n v b e f (l + 1)
def suspD (n : Int → Int) (v b : Int) : Nat → Int → Int
  | 0, _ => -1
  | f + 1, e => if n (76 + 12 * e + 5) = 0 ∧ suspI n v b e 30 1 = 1 then e else suspD n v b f (e + 1)
def hasR (n : Int → Int) (e : Int) : Int := n (6 + 7 * n (76 + 12 * e + 0) + (3 + n (76 + 12 * e + 1)))
def spareR (n : Int → Int) (e : Int) : Int := if needR n e = -1 then -99 else hasR n e - needR n e
def tightL (n : Int → Int) : Nat → Int → Int → Int → Int
  | 0, _, b, _ => b
  | f + 1, e, b, l => if 0 < hasR n e ∧ (b = -1 ∨ spareR n e < l) then tightL n f (e + 1) e (spareR n e) else tightL n f (e + 1) b l
def keysR (n : Int → Int) : Nat → Int
  | 0 => 0
  | m + 1 => iOr (keysR n m) (if n (6 + 7 * (m : Int) + 0) = 0 ∧ n (6 + 7 * (m : Int) + 2) = 1 then iShl 1 (m : Int) else 0)
def cntR (n : Int → Int) (v e : Int) : Nat → Int
  | 0 => 0
  | m + 1 => cntR n v e m + (if n (76 + 12 * (m : Int) + e) = v then 1 else 0)
theorem cntR_b (n : Int → Int) (v e : Int) : ∀ m : Nat, 0 ≤ cntR n v e m ∧ cntR n v e m ≤ m
  | 0 => by simp [cntR]
  | m + 1 => by
    have := cntR_b n v e m
    rw [cntR]
    split <;> omega
def cmdS (r : Int → Int) (h q : Int) : Int × (Int → Int) :=
  if h = 1 then (if 1 ≤ q ∧ q ≤ 99 then (1, runR r q.toNat) else (0, r))
  else if h = 2 then (if q % 1000 = 0 ∧ q / 1000 % 10 < 2 ∧ isK r (q / 10000) then (1, upr r (6 + 7 * (q / 10000) + 2) (if q / 1000 % 10 = 1 then 1 else 0)) else (0, r))
  else if h = 3 then (if q % 1000 < 100 ∧ (0 ≤ q / 1000 ∧ q / 1000 < r 1) ∧ (0 ≤ q % 100 ∧ q % 100 ≤ 30) then (1, upr r (76 + 12 * (q / 1000) + 5) (q % 100)) else (0, r))
  else if h = 4 then (if q % 10000 < 100 ∧ (0 ≤ q / 10000 ∧ q / 10000 < r 0) ∧ (10 ≤ q % 100 ∧ q % 100 ≤ 99) then (1, upr r (6 + 7 * (q / 10000) + 1) (q % 100)) else (0, r))
  else if h = 5 then (if q % 10000 < 100 ∧ (q / 10000 = 0 ∧ (0 ≤ q % 100 ∧ q % 100 ≤ 9) ∨ q / 10000 = 1 ∧ (5 ≤ q % 100 ∧ q % 100 ≤ 90)) then (1, upr r (4 + q / 10000) (q % 100)) else (0, r))
  else if h = 6 then (if q % 1000 < 100 ∧ (0 ≤ q / 10000 ∧ q / 10000 < r 0) ∧ (0 ≤ q / 1000 % 10 ∧ q / 1000 % 10 ≤ 1) ∧ q % 100 ≤ r (6 + 7 * (q / 10000) + (3 + q / 1000 % 10)) then (1, r) else (0, r))
  else if h = 7 then (if q % 1000 < 10 ∧ (0 ≤ q / 10000 ∧ q / 10000 < r 0) ∧ (0 ≤ q / 1000 % 10 ∧ q / 1000 % 10 ≤ 1) ∧ (if worksR r (q / 10000) (5 + q / 1000 % 10) then (1 : Int) else 0) = q % 10 then (1, r) else (0, r))
  else if h = 8 then (if q = 0 ∧ restsR r then (1, r) else (0, r))
  else if h = 9 then (if q % 10000 < 10 ∧ (0 ≤ q / 10000 ∧ q / 10000 < r 0) ∧ r (6 + 7 * (q / 10000) + 2) = q % 10 then (1, r) else (0, r))
  else (0, r)
def grpZ (z m q : Int) : Int := z / 1000000 ^ (m - 1 - q).toNat % 1000000
def scrL (z m : Int) : Nat → (Int → Int) → Int → Int
  | 0, _, _ => -1
  | f + 1, r, q => if (cmdS r (grpZ z m q / 100000) (grpZ z m q % 100000)).1 = 1 then scrL z m f (cmdS r (grpZ z m q / 100000) (grpZ z m q % 100000)).2 (q + 1) else q
def turnD (r : Int → Int) (q : Int) : Int → Int := if canD r (q % 10) (q / 16 % 2) (q / 32 % 10) (q / 512 % 2) (1 + q / 1024 % 6) then ductR r (q % 10) (q / 16 % 2) (q / 32 % 10) (q / 512 % 2) (1 + q / 1024 % 6) else r
def turnR (r : Int → Int) (x : Int) : Int → Int :=
  if x % 8 = 0 then (if r 0 < 10 then valveR r (x / 8 % 5) (10 + x / 8 / 8 % 90) else r)
  else if x % 8 = 1 ∨ x % 8 = 2 then turnD r (x / 8)
  else if x % 8 = 3 then (if isK r (x / 8 % 10) then upr r (6 + 7 * (x / 8 % 10) + 2) (if x / 8 / 16 % 2 = 1 then 1 else 0) else r)
  else if x % 8 = 4 then (if 0 ≤ x / 8 % 16 ∧ x / 8 % 16 < r 1 then (if x / 8 / 512 % 2 = 0 then upr r (76 + 12 * (x / 8 % 16) + 5) (x / 8 / 16 % 31) else removeR r (x / 8 % 16)) else r)
  else if x % 8 = 5 then (if 0 ≤ x / 8 % 10 ∧ x / 8 % 10 < r 0 then upr r (6 + 7 * (x / 8 % 10) + 1) (10 + x / 8 / 16 % 90) else r)
  else runR r (1 + x / 8 % 20).toNat
def simX (z : Int) : Nat → Int
  | 0 => z
  | m + 1 => simX z m * 6364136223846793005 + 1442695040888963407
def simR (n : Int → Int) (z : Int) : Nat → Int → Int
  | 0 => n
  | m + 1 => turnR (simR n z m) (lUsh (simX z (m + 1)) 33)
def simA (r : Int → Int) : Int := 1000 * livelyR r (r 0).toNat + allPR r (r 0).toNat % 1000
def aboutR (n : Int → Int) (w : Int) : Int := if w = 3 then livelyR n (n 0).toNat else if w = 4 then allPR n (n 0).toNat else if w = 5 then keysR n (n 0).toNat else if w = 6 then n 3 else n w
def valveOfR (n : Int → Int) (v w : Int) : Int := if w < 3 then n (6 + 7 * v + w) else cntR n v (if w = 3 then 0 else 2) (n 1).toNat
def remA (a : Int) : Int := if a = 14 then 14 else a + 1
def shlN (d : Int → Int) (m : Int) : Int → Int := fun q => if 0 ≤ q ∧ q < m then d (q + 268) else d q
abbrev shlR (d : Int → Int) : Int → Int := shlN d 3484
def remD (a : Int) (n d : Int → Int) : Int → Int := if a = 14 then cpyr n (shlR d) 0 3484 268 else cpyr n d 0 (268 * a) 268
def diffR (x y : Int → Int) : Nat → Int
  | 0 => 0
  | n + 1 => diffR x y n + (if x (6 + 7 * (n : Int) + 3) = y (6 + 7 * (n : Int) + 3) then 0 else 1) + (if x (6 + 7 * (n : Int) + 4) = y (6 + 7 * (n : Int) + 4) then 0 else 1)
theorem diffR_b (x y : Int → Int) : ∀ n : Nat, 0 ≤ diffR x y n ∧ diffR x y n ≤ 2 * n
  | 0 => by simp [diffR]
  | n + 1 => by
    have := diffR_b x y n
    rw [diffR]
    split <;> split <;> omega

def op_append (s a : Int) (t n d k i : Int → Int) (c : Int) : Rs := if ¬ (0 ≤ c ∧ c ≤ 255) then (1, 0, (s, a, t, n, d, k, i)) else if s = 120 then (2, 0, (s, a, t, n, d, k, i)) else (0, s + 1, (s + 1, a, upr t s c, n, d, k, i))
def op_clearText (s a : Int) (t n d k i : Int → Int) : Rs := (0, s, (0, a, t, n, d, k, i))
def op_errorPosition (s a : Int) (t n d k i : Int → Int) : Rs := (0, errR t s, (s, a, t, n, d, k, i))
def op_load (s a : Int) (t n d k i : Int → Int) : Rs := if ¬ errR t s = -1 then (1, 0, (s, a, t, n, d, k, i)) else (0, (readT t s).2.2, (s, 0, t, (readT t s).2.1, d, k, upr (upr i 0 0) 1 0))
def op_about (s a : Int) (t n d k i : Int → Int) (w : Int) : Rs := if ¬ (0 ≤ w ∧ w ≤ 6) then (1, 0, (s, a, t, n, d, k, i)) else (0, aboutR n w, (s, a, t, n, d, k, i))
def op_valveOf (s a : Int) (t n d k i : Int → Int) (v w : Int) : Rs := if ¬ (0 ≤ v ∧ v < n 0) then (1, 0, (s, a, t, n, d, k, i)) else if ¬ (0 ≤ w ∧ w ≤ 4) then (2, 0, (s, a, t, n, d, k, i)) else (0, valveOfR n v w, (s, a, t, n, d, k, i))
def op_leg (s a : Int) (t n d k i : Int → Int) (v g : Int) : Rs := if ¬ ((0 ≤ v ∧ v < n 0) ∧ (0 ≤ g ∧ g ≤ 1)) then (1, 0, (s, a, t, n, d, k, i)) else (0, n (6 + 7 * v + (3 + g)), (s, a, t, n, d, k, i))
def op_push (s a : Int) (t n d k i : Int → Int) (v g w : Int) : Rs := if ¬ ((0 ≤ v ∧ v < n 0) ∧ (0 ≤ g ∧ g ≤ 1)) then (1, 0, (s, a, t, n, d, k, i)) else if ¬ (0 ≤ w ∧ w ≤ 1) then (2, 0, (s, a, t, n, d, k, i)) else (0, if w = 0 then n (6 + 7 * v + (5 + g)) else if worksR n v (5 + g) then 1 else 0, (s, a, t, n, d, k, i))
def op_ductOf (s a : Int) (t n d k i : Int → Int) (e w : Int) : Rs := if ¬ (0 ≤ e ∧ e < n 1) then (1, 0, (s, a, t, n, d, k, i)) else if ¬ (0 ≤ w ∧ w ≤ 7) then (2, 0, (s, a, t, n, d, k, i)) else (0, if w < 6 then n (76 + 12 * e + w) else if w = 6 then outR n e else needR n e, (s, a, t, n, d, k, i))
def op_setting (s a : Int) (t n d k i : Int → Int) (w : Int) : Rs := if ¬ (0 ≤ w ∧ w ≤ 1) then (1, 0, (s, a, t, n, d, k, i)) else (0, n (4 + w), (s, a, t, n, d, k, i))
def op_valve (s a : Int) (t n d k i : Int → Int) (c v : Int) : Rs := if ¬ ((0 ≤ c ∧ c ≤ 4) ∧ (10 ≤ v ∧ v ≤ 99)) then (1, 0, (s, a, t, n, d, k, i)) else if ¬ n 0 < 10 then (2, 0, (s, a, t, n, d, k, i)) else (0, n 0, (s, remA a, t, valveR n c v, remD a n d, k, i))
def op_duct (s a : Int) (t n d k i : Int → Int) (c g y q m : Int) : Rs := if ¬ (((0 ≤ c ∧ c < n 0) ∧ (0 ≤ g ∧ g ≤ 1)) ∧ ((0 ≤ y ∧ y < n 0) ∧ (0 ≤ q ∧ q ≤ 1))) then (1, 0, (s, a, t, n, d, k, i)) else if ¬ (1 ≤ m ∧ m ≤ 6) then (2, 0, (s, a, t, n, d, k, i)) else if ¬ n 1 < 16 then (3, 0, (s, a, t, n, d, k, i)) else (0, n 1, (s, remA a, t, ductR n c g y q m, remD a n d, k, i))
def op_remove (s a : Int) (t n d k i : Int → Int) (e : Int) : Rs := if ¬ (0 ≤ e ∧ e < n 1) then (1, 0, (s, a, t, n, d, k, i)) else (0, n 1 - 1, (s, remA a, t, removeR n e, remD a n d, k, i))
def op_press (s a : Int) (t n d k i : Int → Int) (v b : Int) : Rs := if ¬ (0 ≤ v ∧ v < n 0) then (1, 0, (s, a, t, n, d, k, i)) else if ¬ n (6 + 7 * v + 0) = 0 then (2, 0, (s, a, t, n, d, k, i)) else (0, if n (6 + 7 * v + 2) = b then 0 else 1, (s, remA a, t, upr n (6 + 7 * v + 2) b, remD a n d, k, i))
def op_leak (s a : Int) (t n d k i : Int → Int) (e l : Int) : Rs := if ¬ (0 ≤ e ∧ e < n 1) then (1, 0, (s, a, t, n, d, k, i)) else if ¬ (0 ≤ l ∧ l ≤ 30) then (2, 0, (s, a, t, n, d, k, i)) else (0, n (76 + 12 * e + 5), (s, remA a, t, upr n (76 + 12 * e + 5) l, remD a n d, k, i))
def op_feed (s a : Int) (t n d k i : Int → Int) (v m : Int) : Rs := if ¬ (0 ≤ v ∧ v < n 0) then (1, 0, (s, a, t, n, d, k, i)) else if ¬ (10 ≤ m ∧ m ≤ 99) then (2, 0, (s, a, t, n, d, k, i)) else (0, n (6 + 7 * v + 1), (s, remA a, t, upr n (6 + 7 * v + 1) m, remD a n d, k, i))
def op_set (s a : Int) (t n d k i : Int → Int) (w v : Int) : Rs := if ¬ (w = 0 ∧ (0 ≤ v ∧ v ≤ 9) ∨ w = 1 ∧ (5 ≤ v ∧ v ≤ 90)) then (1, 0, (s, a, t, n, d, k, i)) else (0, n (4 + w), (s, remA a, t, upr n (4 + w) v, remD a n d, k, i))
def op_ticks (s a : Int) (t n d k i : Int → Int) (m : Int) : Rs := if ¬ (1 ≤ m ∧ m ≤ 99) then (1, 0, (s, a, t, n, d, k, i)) else (0, diffR (runR n m.toNat) n (n 0).toNat, (s, remA a, t, runR n m.toNat, remD a n d, k, i))
def op_undo (s a : Int) (t n d k i : Int → Int) : Rs := if a = 0 then (1, 0, (s, a, t, n, d, k, i)) else (0, a - 1, (s, a - 1, t, blk d (268 * (a - 1)), d, k, i))
def op_restIn (s a : Int) (t n d k i : Int → Int) : Rs := (0, restL 301 n 0, (s, a, t, n, d, k, i))
def op_beat (s a : Int) (t n d k i : Int → Int) (v : Int) : Rs := if ¬ (0 ≤ v ∧ v < n 0) then (1, 0, (s, a, t, n, d, k, i)) else (0, beatR n v, (s, a, t, n, d, k, i))
def op_rule (s a : Int) (t n d k i : Int → Int) (c y v : Int) : Rs := if ¬ ((0 ≤ c ∧ c < n 0) ∧ (0 ≤ y ∧ y < n 0) ∧ (0 ≤ v ∧ v < n 0)) then (1, 0, (s, a, t, n, d, k, i)) else if ¬ (¬ c = y ∧ n (6 + 7 * c + 0) = 0 ∧ n (6 + 7 * y + 0) = 0) then (2, 0, (s, a, t, n, d, k, i)) else (0, ruleL n c y v 4 0 0, (s, a, t, n, d, k, i))
def op_ifLeak (s a : Int) (t n d k i : Int → Int) (e l v : Int) : Rs := if ¬ ((0 ≤ e ∧ e < n 1) ∧ (0 ≤ v ∧ v < n 0)) then (1, 0, (s, a, t, n, d, k, i)) else if ¬ (0 ≤ l ∧ l ≤ 30) then (2, 0, (s, a, t, n, d, k, i)) else (0, leakB n e l v, (s, a, t, n, d, k, i))
def op_suspect (s a : Int) (t n d k i : Int → Int) (v b : Int) : Rs := if ¬ (0 ≤ v ∧ v < n 0) then (1, 0, (s, a, t, n, d, k, i)) else if ¬ (b = -1 ∨ (1 ≤ b ∧ b ≤ 200)) then (2, 0, (s, a, t, n, d, k, i)) else (0, suspD n v b (n 1).toNat 0, (s, a, t, n, d, k, i))
def op_tightest (s a : Int) (t n d k i : Int → Int) : Rs := (0, tightL n (n 1).toNat 0 (-1) 0, (s, a, t, n, d, k, i))
def op_runScript (s a : Int) (t n d k i : Int → Int) (m b : Int) : Rs := if ¬ ((1 ≤ m ∧ m ≤ 3) ∧ (0 ≤ b ∧ b ≤ 1000000 ^ m.toNat - 1)) then (1, 0, (s, a, t, n, d, k, i)) else (0, scrL b m m.toNat n 0, (s, a, t, n, d, k, i))
def op_simulate (s a : Int) (t n d k i : Int → Int) (b m : Int) : Rs := if ¬ (1 ≤ m ∧ m ≤ 60) then (1, 0, (s, a, t, n, d, k, i)) else (0, simA (simR n b m.toNat), (s, a, t, n, d, k, i))
def op_save (s a : Int) (t n d k i : Int → Int) (q : Int) : Rs := if ¬ (0 ≤ q ∧ q ≤ 1) then (1, 0, (s, a, t, n, d, k, i)) else (0, n 2, (s, a, t, n, d, cpyr n k 0 (268 * q) 268, upr i q 1))
def op_restore (s a : Int) (t n d k i : Int → Int) (q : Int) : Rs := if ¬ (0 ≤ q ∧ q ≤ 1) then (1, 0, (s, a, t, n, d, k, i)) else if i q = 0 then (2, 0, (s, a, t, n, d, k, i)) else (0, blk k (268 * q) 2, (s, 0, t, blk k (268 * q), d, k, i))
