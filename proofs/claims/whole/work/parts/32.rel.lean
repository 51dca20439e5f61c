/-! ===== what the two parts of a state tell: R a roll, ν a row of money =====
R 0 0 lands, R 0 1 players, R 0 2 sessions, R 0 3 lines, R 0 4 lead, R 0 5 keep; R 1 l rate, R 2 s members, R 3 s seats, R 4 (8 s + k) member, R 5 (8 s + k) his role -/
abbrev RT : Type := Nat → Nat → Nat
abbrev NU : Type := Nat → Int32
def MR (σ : ST) (R : RT) : Prop := σ.1 850 0 0 = nI (R 0 0) ∧ σ.1 851 0 0 = nI (R 0 1) ∧ σ.1 852 0 0 = nI (R 0 2) ∧ σ.1 853 0 0 = nI (R 0 3) ∧ σ.1 848 0 0 = nI (R 0 4) ∧ σ.1 849 0 0 = nI (R 0 5) ∧ (∀ l, l < R 0 0 → σ.1 29 0 l = nI (R 1 l)) ∧ (∀ s, s < R 0 2 → σ.1 32 0 s = nI (R 2 s)) ∧ (∀ s, s < R 0 2 → σ.1 33 0 s = nI (R 3 s)) ∧ (∀ s k, s < R 0 2 → k < R 2 s → σ.1 30 0 (8 * s + k) = nI (R 4 (8 * s + k))) ∧ (∀ s k, s < R 0 2 → k < R 2 s → σ.1 31 0 (8 * s + k) = nI (R 5 (8 * s + k)))
def CR (σ : ST) (r : Nat) (R : RT) : Prop := σ.1 529 r 0 = nI (R 0 0) ∧ σ.1 530 r 0 = nI (R 0 1) ∧ σ.1 531 r 0 = nI (R 0 2) ∧ σ.1 528 r 0 = nI (R 0 3) ∧ σ.1 532 r 0 = nI (R 0 4) ∧ σ.1 533 r 0 = nI (R 0 5) ∧ (∀ l, l < R 0 0 → σ.1 13 r l = nI (R 1 l)) ∧ (∀ s, s < R 0 2 → σ.1 17 r s = nI (R 2 s)) ∧ (∀ s, s < R 0 2 → σ.1 18 r s = nI (R 3 s)) ∧ (∀ s k, s < R 0 2 → k < R 2 s → σ.1 19 r (8 * s + k) = nI (R 4 (8 * s + k))) ∧ (∀ s k, s < R 0 2 → k < R 2 s → σ.1 20 r (8 * s + k) = nI (R 5 (8 * s + k)))
def RO (R : RT) : Prop := R 0 0 ≤ 6 ∧ R 0 1 ≤ 16 ∧ R 0 2 ≤ 8 ∧ R 0 3 ≤ 900 ∧ R 0 4 ≤ 100 ∧ (1 ≤ R 0 5 ∧ R 0 5 ≤ 9) ∧ (∀ l, l < R 0 0 → 1 ≤ R 1 l ∧ R 1 l ≤ 999) ∧ (∀ s, s < R 0 2 → R 2 s ≤ 8 ∧ R 3 s ≤ 5 ∧ 1 ≤ R 2 s + R 3 s) ∧ (∀ s k, s < R 0 2 → k < R 2 s → R 4 (8 * s + k) < R 0 1 ∧ R 5 (8 * s + k) < 2) ∧ (∀ s k j, s < R 0 2 → j < R 2 s → k < j → R 4 (8 * s + k) ≠ R 4 (8 * s + j)) ∧ (0 < R 0 1 → 0 < R 0 0)
/-- whose a seat is, as the class has it -/
def hol (x : Int32) : Int32 := if x = -nI 1 then -nI 2 else x
def WR (σ : ST) (i : Nat) (R : RT) (ν : NU) : Prop := (∀ l, l < R 0 0 → σ.1 24 i l = ν (2660 + l)) ∧ (∀ l, l < R 0 0 → σ.1 25 i l = ν (2666 + l)) ∧ (∀ p, p < R 0 1 → σ.1 26 i p = ν (2672 + p)) ∧ (∀ j, j < 5 * R 0 2 → σ.1 27 i j = hol (ν (2604 + j)))
def BR (σ : ST) (i : Nat) (R : RT) (ν : NU) : Prop := WR σ i R ν ∧ (∀ l, l < 6 → σ.1 0 i l = ν (192 + l)) ∧ (∀ l, l < 6 → σ.1 1 i l = ν (198 + l)) ∧ (∀ s, s < 8 → σ.1 2 i s = ν (2652 + s)) ∧ (∀ s, s < 8 → σ.1 3 i s = ν (2644 + s)) ∧ (∀ j, j < 96 → σ.1 4 i j = ν (96 + j)) ∧ (∀ j, j < 96 → σ.1 5 i j = ν j - ν (96 + j)) ∧ (∀ j, j < 240 → σ.1 6 i j = ν (2364 + j)) ∧ (∀ j, j < 2160 → σ.1 7 i j = ν (204 + j)) ∧ σ.1 209 i 0 = ν 2688
/-- homes are lands, a seat is open or a player's who isn't of the session otherwise -/
def HO (R : RT) (ν : NU) : Prop := (∀ p, p < R 0 1 → ∃ h, h < R 0 0 ∧ ν (2672 + p) = nI h) ∧ (∀ s t, s < R 0 2 → t < R 3 s → ν (2604 + 5 * s + t) = -nI 1 ∨ ∃ p, p < R 0 1 ∧ ν (2604 + 5 * s + t) = nI p ∧ ∀ k, k < R 2 s → R 4 (8 * s + k) ≠ p)
/-- nothing lies outside lands, players, seats and the years for which one keeps -/
def ZO (R : RT) (ν : NU) : Prop := (∀ p l, p < 16 → l < 6 → R 0 1 ≤ p ∨ R 0 0 ≤ l → ν (6 * p + l) = nI 0 ∧ ν (96 + 6 * p + l) = nI 0) ∧ (∀ l, l < 6 → R 0 0 ≤ l → ν (192 + l) = nI 0 ∧ ν (198 + l) = nI 0) ∧ (∀ l s t a, l < 6 → s < 8 → t < 5 → a < 9 → R 0 0 ≤ l ∨ R 0 2 ≤ s ∨ R 3 s ≤ t ∨ R 0 5 ≤ a → ν (204 + 9 * (5 * (8 * l + s) + t) + a) = nI 0) ∧ (∀ l s t, l < 6 → s < 8 → t < 5 → R 0 0 ≤ l ∨ R 0 2 ≤ s ∨ R 3 s ≤ t → ν (2364 + 5 * (8 * l + s) + t) = nI 0)
/-! what is asked -/
def b01 (b : Bool) : Int32 := if b then nI 1 else nI 0
def hrl (ν : NU) (l role : Nat) : Bool := decide ((ν (2666 + l) >>> (nI role &&& nI 31)) &&& nI 1 = nI 1)
def pay (ν : NU) (l o role : Nat) : Bool := hrl ν l role && (decide (l = o) || (decide (ν (2660 + l) = nI 0) || (decide (ν (2660 + l) = nI 1) && (!decide (ν (2660 + o) = nI 2) && hrl ν o role))))
def keptP (ν : NU) (l s t : Nat) : Int32 := sI (fun a => ν (204 + 9 * (5 * (8 * l + s) + t) + a)) 9
def mbr (R : RT) (p s : Nat) : Nat → Bool := fun k => decide (R 4 (8 * s + k) = p)
def own (ν : NU) (s : Nat) (x : Int32) : Nat → Bool := fun t => decide (ν (2604 + 5 * s + t) = x)
def roleP (R : RT) (ν : NU) (p s : Nat) : Int32 := if fd (mbr R p s) (R 2 s) < R 2 s then nI (R 5 (8 * s + fd (mbr R p s) (R 2 s))) else if fd (own ν s (nI p)) (R 3 s) < R 3 s then nI 2 else -nI 2
def seatP (R : RT) (ν : NU) (s : Nat) : Int32 := if fd (own ν s (-nI 1)) (R 3 s) < R 3 s then nI (fd (own ν s (-nI 1)) (R 3 s)) else -nI 1
def answ (ν : NU) (a b : Nat) : Bool := (pay ν a b 0 || pay ν a b 1) && (pay ν b a 0 || pay ν b a 1)
theorem n01 : (nI 0 = nI 1) = False := eq_false (by decide)
theorem n10 : (nI 1 = nI 0) = False := eq_false (by decide)
theorem and1n (x : Int32) : x &&& nI 1 = nI 0 ∨ x &&& nI 1 = nI 1 := and1 x
theorem b01_0 (b : Bool) : (b01 b = nI 0) = (b = false) := by
  cases b
  · exact (eq_true rfl).trans (eq_true rfl).symm
  · exact (n10).trans (by simp)
theorem b01_t : b01 true = nI 1 := rfl
theorem b01_f : b01 false = nI 0 := rfl
