/-! THE INVARIANT. The numbers that images keep, as the reference lays them out, are the state (f : Nat → Int); the class's cells stand for such an f.
WF f: f is in order. SC δ f σ: the scene at cell 28 + δ (0: now, 101: the image) stands for f. -/
abbrev cNone : Int := -1000000005
abbrev gMm : Type := Nat → Nat → Int
/-- a part's numbers: kind, pier, strength, share, flaw, slack, hand, month, stands, break, side, found -/
def WPart (g : Nat → Int) (cnt : Int) : Prop :=
  (0 ≤ g 0 ∧ g 0 ≤ 4) ∧ (0 ≤ g 1 ∧ g 1 ≤ cnt) ∧ (1 ≤ g 2 ∧ g 2 ≤ 999) ∧ (1 ≤ g 3 ∧ g 3 ≤ 9) ∧ (0 ≤ g 4 ∧ g 4 ≤ 99) ∧ (0 ≤ g 5 ∧ g 5 ≤ 99) ∧ (0 ≤ g 6 ∧ g 6 ≤ 5) ∧ (0 ≤ g 7 ∧ g 7 ≤ 599) ∧ (g 8 = 0 ∨ g 8 = 1) ∧ (0 ≤ g 9 ∧ g 9 ≤ 5) ∧ (g 10 = 0 ∨ g 10 = 1) ∧ (g 11 = 0 ∨ g 11 = 1) ∧ (g 0 = 4 → g 8 = 0) ∧ (g 0 ≠ 4 → g 11 = 0) ∧ (g 0 = 4 → g 4 = 0 ∧ g 5 = 0)
def CPart (h g : Nat → Int) : Prop :=
  h 0 = g 0 ∧ h 1 = g 1 ∧ h 2 = g 2 ∧ h 3 = g 3 ∧ h 4 = g 4 ∧ h 5 = g 5 ∧ h 6 = g 6 ∧ h 7 = g 7 ∧ h 8 = g 9 ∧ h 9 = g 10 ∧ h 10 = g 8 ∧ h 11 = g 11
/-- part p of f -/
def gpt (f : Nat → Int) (p : Nat) : Nat → Int := fun j => f (120 + 12 * p + j)
def WB (f : Nat → Int) : Prop :=
  (2 ≤ f 0 ∧ f 0 ≤ 12) ∧ (0 ≤ f 1 ∧ f 1 ≤ 40) ∧
  (∀ k : Nat, (k : Int) < f 0 → (0 ≤ f (20 + 3 * k) ∧ f (20 + 3 * k) ≤ 99) ∧ (0 ≤ f (20 + 3 * k + 1) ∧ f (20 + 3 * k + 1) ≤ 99) ∧ (f (20 + 3 * k + 2) = 0 ∨ f (20 + 3 * k + 2) = 1)) ∧
  (∀ p : Nat, (p : Int) < f 1 → WPart (gpt f p) (f 0)) ∧
  (0 ≤ f 9 ∧ f 9 ≤ 99) ∧ (0 ≤ f 10 ∧ f 10 ≤ 99) ∧ (f 11 = -1 ∨ 0 ≤ f 11 ∧ f 11 < f 0) ∧ (f 12 = 0 ∨ f 12 = 1)
/-- none is -1 there, NONE here -/
def CNone (h g : Int) : Prop := h = (if g < 0 then cNone else g)
def CB (b : Nat) (f : Nat → Int) (σ : gMm) : Prop :=
  σ b 8 = f 0 ∧ σ b 9 = f 1 ∧
  (∀ k : Nat, (k : Int) < f 0 → σ (b + 1) k = f (20 + 3 * k) ∧ σ (b + 2) k = f (20 + 3 * k + 1) ∧ σ (b + 3) k = f (20 + 3 * k + 2)) ∧
  (∀ p : Nat, (p : Int) < f 1 → CPart (σ (b + 9 + p)) (gpt f p)) ∧
  σ b 10 = f 9 ∧ σ b 11 = f 10 ∧ CNone (σ b 12) (f 11) ∧ σ b 13 = f 12
/-- names of a key: p m; w g; s f k; o x -/
def gnm (key v : Int) : Option Int :=
  if key = 0 then (if v = 112 then some 0 else if v = 109 then some 1 else none)
  else if key = 1 then (if v = 119 then some 0 else if v = 103 then some 1 else none)
  else if key = 2 then (if v = 115 then some 0 else if v = 102 then some 1 else if v = 107 then some 2 else none)
  else (if v = 111 then some 0 else if v = 120 then some 1 else none)
/-- how many values lie on the pile behind n steps -/
def gdep (w v : Nat → Int) : Nat → Int
  | 0 => 0
  | n + 1 => gdep w v n + (if w n = 2 then (if v n = 33 then 0 else -1) else 1)
def gsgn (v : Int) : Prop := v = 33 ∨ v = 124 ∨ v = 38 ∨ v = 60 ∨ v = 61 ∨ v = 62 ∨ v = 43 ∨ v = 45 ∨ v = 42 ∨ v = 47
/-- text t of f: its steps -/
def gtw (f : Nat → Int) (t : Nat) : Nat → Int := fun k => f (930 + 200 * t + 4 + 2 * k)
def gtv (f : Nat → Int) (t : Nat) : Nat → Int := fun k => f (930 + 200 * t + 4 + 2 * k + 1)
def WCode (key : Int) (w v : Nat → Int) (n : Int) : Prop :=
  (∀ k : Nat, (k : Int) < n → (w k = 0 ∧ 0 ≤ v k ∧ v k ≤ 9999 ∨ w k = 1 ∧ (gnm key (v k)).isSome = true ∨ w k = 2 ∧ gsgn (v k)) ∧ (w k = 2 → v k = 33 → 1 ≤ gdep w v k) ∧ (w k = 2 → v k ≠ 33 → 2 ≤ gdep w v k)) ∧ gdep w v n.toNat = 1
def WT (f : Nat → Int) : Prop :=
  (0 ≤ f 2 ∧ f 2 ≤ 12) ∧ ∀ t : Nat, (t : Int) < f 2 → (0 ≤ f (930 + 200 * t) ∧ f (930 + 200 * t) ≤ 3) ∧ (0 ≤ f (930 + 200 * t + 1) ∧ f (930 + 200 * t + 1) ≤ 599) ∧ (0 ≤ f (930 + 200 * t + 2) ∧ f (930 + 200 * t + 2) ≤ 96) ∧ (1 ≤ f (930 + 200 * t + 3) ∧ f (930 + 200 * t + 3) ≤ 96) ∧ WCode (f (930 + 200 * t)) (gtw f t) (gtv f t) (f (930 + 200 * t + 3))
/-- a step as the class keeps it -/
def gcd1 (key w v : Int) : Int := if w = 0 then v else if w = 1 then 10000 + (gnm key v).getD 0 else 20000 + v
def CT (c : Nat) (f : Nat → Int) (σ : gMm) : Prop :=
  σ c 6 = f 2 ∧ ∀ t : Nat, (t : Int) < f 2 → σ (c + 14) t = f (930 + 200 * t + 3) ∧ σ (c + 15) t = f (930 + 200 * t) ∧ σ (c + 16) t = f (930 + 200 * t + 1) ∧ σ (c + 17) t = f (930 + 200 * t + 2) ∧ ∀ k : Nat, (k : Int) < f (930 + 200 * t + 3) → σ (c + 2 + t) k = gcd1 (f (930 + 200 * t)) (gtw f t k) (gtv f t k)
def WG (f : Nat → Int) : Prop := (f 13 = -1 ∨ 0 ≤ f 13 ∧ f 13 ≤ 59) ∧ (1 ≤ f 14 ∧ f 14 ≤ 20) ∧ ∀ j : Nat, j < 60 → 0 ≤ f (60 + j) ∧ f (60 + j) ≤ 99
def CG (c : Nat) (f : Nat → Int) (σ : gMm) : Prop := CNone (σ c 1) (f 13) ∧ σ c 2 = f 14 ∧ ∀ j : Nat, j < 60 → σ (c + 1) j = f (60 + j)
def WS (f : Nat → Int) : Prop := ∀ i : Nat, i < 8 → ∀ j : Nat, j < 2 → 0 ≤ f (800 + 2 * i + j) ∧ f (800 + 2 * i + j) ≤ 63
def CS (c : Nat) (f : Nat → Int) (σ : gMm) : Prop := ∀ i : Nat, i < 8 → ∀ j : Nat, j < 2 → σ (c + 2 + i) j = f (800 + 2 * i + j)
def WW (f : Nat → Int) : Prop :=
  (0 ≤ f 3 ∧ f 3 ≤ 30) ∧ (∀ i : Nat, (i : Int) < f 3 → (0 ≤ f (600 + 4 * i) ∧ f (600 + 4 * i) ≤ 9999) ∧ (0 ≤ f (600 + 4 * i + 1) ∧ f (600 + 4 * i + 1) ≤ 7) ∧ (0 ≤ f (600 + 4 * i + 2) ∧ f (600 + 4 * i + 2) ≤ 7) ∧ (0 ≤ f (600 + 4 * i + 3) ∧ f (600 + 4 * i + 3) ≤ 9)) ∧
  ∀ a : Nat, a < 8 → ∀ b : Nat, b < 10 → f (720 + 10 * a + b) = -1 ∨ 0 ≤ f (720 + 10 * a + b) ∧ f (720 + 10 * a + b) ≤ 9999
/-- the order of n words by days, of one day by numbers -/
def gord (day : Nat → Int) (n : Nat) (o : Nat → Nat) : Prop := (∀ i, i < n → o i < n) ∧ ∀ i j, i < j → j < n → day (o i) < day (o j) ∨ day (o i) = day (o j) ∧ o i < o j
def CW (c : Nat) (f : Nat → Int) (σ : gMm) : Prop :=
  σ c 5 = f 3 ∧ (∃ o : Nat → Nat, gord (fun i => f (600 + 4 * i)) (f 3).toNat o ∧ ∀ i : Nat, (i : Int) < f 3 → σ (c + 1) i = f (600 + 4 * o i) ∧ σ (c + 2) i = f (600 + 4 * o i + 1) ∧ σ (c + 3) i = f (600 + 4 * o i + 2) ∧ σ (c + 4) i = f (600 + 4 * o i + 3)) ∧
  ∀ a : Nat, a < 8 → ∀ b : Nat, b < 10 → σ (c + 6 + a) b = if f (720 + 10 * a + b) < 0 then 10000 else f (720 + 10 * a + b)
def gsm (g : Nat → Int) : Nat → Int
  | 0 => 0
  | n + 1 => gsm g n + g n
def WP (f : Nat → Int) : Prop :=
  (0 ≤ f 4 ∧ f 4 ≤ 8) ∧ (∀ k : Nat, (k : Int) < f 4 → (0 ≤ f (820 + 3 * k) ∧ f (820 + 3 * k) ≤ 999) ∧ (0 ≤ f (820 + 3 * k + 1) ∧ f (820 + 3 * k + 1) ≤ 999) ∧ (0 ≤ f (820 + 3 * k + 2) ∧ f (820 + 3 * k + 2) ≤ 999)) ∧
  (0 ≤ f 5 ∧ f 5 ≤ 16) ∧ ∀ k : Nat, (k : Int) < f 5 → 0 ≤ f (850 + 4 * k) ∧ f (850 + 4 * k) ≤ f (850 + 4 * k + 2) ∧ f (850 + 4 * k + 2) ≤ 999 ∧ 0 ≤ f (850 + 4 * k + 1) ∧ f (850 + 4 * k + 1) < f (850 + 4 * k + 3) ∧ f (850 + 4 * k + 3) ≤ 99999
def gspd (f : Nat → Int) (k : Nat) : Int := (3600 * (f (850 + 4 * k + 2) - f (850 + 4 * k))).tdiv (f (850 + 4 * k + 3) - f (850 + 4 * k + 1))
def CP (c : Nat) (f : Nat → Int) (σ : gMm) : Prop :=
  σ c 1 = f 4 ∧ σ c 2 = gsm (fun k => f (820 + 3 * k)) (f 4).toNat ∧ σ c 3 = gsm (fun k => f (820 + 3 * k + 1) + f (820 + 3 * k + 2)) (f 4).toNat ∧ σ c 4 = f 5 ∧ ∀ k : Nat, (k : Int) < f 5 → σ (c + 1) k = gspd f k
def WR (f : Nat → Int) : Prop :=
  (0 ≤ f 6 ∧ f 6 ≤ 8) ∧ (∀ i : Nat, (i : Int) < f 6 → 0 ≤ f (920 + i) ∧ f (920 + i) < f 1 ∧ (gpt f (f (920 + i)).toNat 0 = 2 ∨ gpt f (f (920 + i)).toNat 0 = 3)) ∧ ∀ i j : Nat, i < j → (j : Int) < f 6 → f (920 + i) ≠ f (920 + j)
def CR (c : Nat) (f : Nat → Int) (σ : gMm) : Prop := σ c 1 = f 6 ∧ ∀ i : Nat, (i : Int) < f 6 → σ (c + 1) i = f (920 + i)
def WM (f : Nat → Int) : Prop := (0 ≤ f 7 ∧ f 7 ≤ 599) ∧ (0 ≤ f 8 ∧ f 8 ≤ 99)
def CM (c : Nat) (f : Nat → Int) (σ : gMm) : Prop := σ c 7 = f 7 ∧ σ c 8 = f 8
def WF (f : Nat → Int) : Prop := WB f ∧ WT f ∧ WG f ∧ WS f ∧ WW f ∧ WP f ∧ WR f ∧ WM f
def SC (δ : Nat) (f : Nat → Int) (σ : gMm) : Prop := CB (29 + δ) f σ ∧ CT (78 + δ) f σ ∧ CG (97 + δ) f σ ∧ CS (99 + δ) f σ ∧ CW (109 + δ) f σ ∧ CP (123 + δ) f σ ∧ CR (125 + δ) f σ ∧ CM (28 + δ) f σ
def RTape (σ : gMm) : Prop := σ 279 1 = σ 293 9 ∧ (0 ≤ σ 293 9 ∧ σ 293 9 ≤ 96) ∧ ∀ i : Nat, (i : Int) < σ 293 9 → σ 280 i = σ 301 i ∧ 0 ≤ σ 301 i ∧ σ 301 i ≤ 255
def RTest (σ : gMm) : Prop := ∀ t : Nat, t < 6 → σ 290 t = σ 297 t ∧ (σ 297 t = -1 ∨ σ 297 t = 0 ∨ σ 297 t = 1) ∧ (σ 297 t ≠ -1 → σ 291 t = σ 298 t) ∧ (0 ≤ σ 298 t ∧ σ 298 t ≤ 24) ∧
  ∀ j : Nat, j < 24 → σ (284 + t) j = σ 299 (24 * t + j) ∧ (σ 297 t = 0 → σ 299 (24 * t + j) = cNone ∨ -100000 ≤ σ 299 (24 * t + j) ∧ σ 299 (24 * t + j) ≤ 100000) ∧ (σ 297 t = 1 → -32768 ≤ σ 299 (24 * t + j) ∧ σ 299 (24 * t + j) ≤ 32767)
def RWait (σ : gMm) : Prop := σ 27 7 = σ 293 27 ∧ (0 ≤ σ 293 27 ∧ σ 293 27 ≤ 60) ∧ ∀ i : Nat, (i : Int) < σ 293 27 → σ 292 i = σ 307 i
def RImg (σ : gMm) : Prop := σ 27 8 = σ 293 3 ∧ (σ 293 3 = 0 ∨ σ 293 3 = 1) ∧ (σ 293 3 = 1 → WF (σ 295) ∧ SC 101 (σ 295) σ)
def Inv (σ : gMm) : Prop := WF (σ 294) ∧ SC 0 (σ 294) σ ∧ RTape σ ∧ RTest σ ∧ RWait σ ∧ RImg σ
