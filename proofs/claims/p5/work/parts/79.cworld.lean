/-- the class: where its objects and arrays stand behind the object -/
def CW (g : (Nat → Nat × Nat) × (Nat → Nat → Option Nat) × Nat × Nat) (x : Nat) : Prop :=
  (g.1 x = (9, 0)) ∧
  (g.1 (x + 1) = (102, 4)) ∧
  (g.1 (x + 2) = (102, 4)) ∧
  (g.1 (x + 3) = (6, 0)) ∧
  (g.1 (x + 4) = (100, 44)) ∧
  (g.1 (x + 5) = (6, 0)) ∧
  (g.1 (x + 6) = (100, 44)) ∧
  (g.1 (x + 7) = (6, 0)) ∧
  (g.1 (x + 8) = (100, 44)) ∧
  (g.1 (x + 9) = (1, 0)) ∧
  (g.1 (x + 10) = (2, 0)) ∧
  (g.1 (x + 11) = (2, 0)) ∧
  (g.1 (x + 339) = (8, 0)) ∧
  (g.1 (x + 340) = (100, 72)) ∧
  (g.1 (x + 359) = (104, 3)) ∧
  (g.1 (x + 360) = (2, 0)) ∧
  (g.1 (x + 361) = (2, 0)) ∧
  (g.1 (x + 362) = (100, 6)) ∧
  (SK g (x + 12)) ∧
  (PK g (x + 341)) ∧
  (∀ i, i < 4 → g.1 (x + (363 + 6 * i)) = (4, 0)) ∧
  (∀ i, i < 4 → g.1 (x + (364 + 6 * i)) = (100, 8)) ∧
  (∀ i, i < 4 → g.1 (x + (365 + 6 * i)) = (100, 60)) ∧
  (∀ i, i < 4 → g.1 (x + (366 + 6 * i)) = (4, 0)) ∧
  (∀ i, i < 4 → g.1 (x + (367 + 6 * i)) = (100, 8)) ∧
  (∀ i, i < 4 → g.1 (x + (368 + 6 * i)) = (100, 60)) ∧
  (∀ i, i < 3 → g.1 (x + (387 + 2 * i)) = (7, 0)) ∧
  (∀ i, i < 3 → g.1 (x + (388 + 2 * i)) = (100, 40)) ∧
  (g.2.1 x 0 = some (x + 1)) ∧
  (g.2.1 x 2 = some (x + 2)) ∧
  (g.2.1 x 4 = some (x + 3)) ∧
  (g.2.1 x 5 = some (x + 5)) ∧
  (g.2.1 x 6 = some (x + 7)) ∧
  (g.2.1 x 7 = some (x + 9)) ∧
  (g.2.1 x 8 = some (x + 12)) ∧
  (g.2.1 x 9 = some (x + 339)) ∧
  (g.2.1 x 10 = some (x + 341)) ∧
  (g.2.1 x 11 = some (x + 359)) ∧
  (g.2.1 x 12 = some (x + 360)) ∧
  (g.2.1 x 13 = some (x + 361)) ∧
  (g.2.1 x 14 = some (x + 362)) ∧
  (g.2.1 (x + 3) 1 = some (x + 4)) ∧
  (g.2.1 (x + 5) 1 = some (x + 6)) ∧
  (g.2.1 (x + 7) 1 = some (x + 8)) ∧
  (g.2.1 (x + 9) 0 = some (x + 10)) ∧
  (g.2.1 (x + 9) 1 = some (x + 11)) ∧
  (g.2.1 (x + 339) 1 = some (x + 340)) ∧
  (∀ i, i < 4 → g.2.1 (x + 1) i = some (x + (363 + 6 * i))) ∧
  (∀ i, i < 4 → g.2.1 (x + (363 + 6 * i)) 5 = some (x + (364 + 6 * i))) ∧
  (∀ i, i < 4 → g.2.1 (x + (363 + 6 * i)) 6 = some (x + (365 + 6 * i))) ∧
  (∀ i, i < 4 → g.2.1 (x + 2) i = some (x + (366 + 6 * i))) ∧
  (∀ i, i < 4 → g.2.1 (x + (366 + 6 * i)) 5 = some (x + (367 + 6 * i))) ∧
  (∀ i, i < 4 → g.2.1 (x + (366 + 6 * i)) 6 = some (x + (368 + 6 * i))) ∧
  (∀ i, i < 3 → g.2.1 (x + 359) i = some (x + (387 + 2 * i))) ∧
  (∀ i, i < 3 → g.2.1 (x + (387 + 2 * i)) 1 = some (x + (388 + 2 * i)))
theorem CW.X0 {g : (Nat → Nat × Nat) × (Nat → Nat → Option Nat) × Nat × Nat} {x : Nat} (h : CW g x) : g.1 x = (9, 0) := h.1
theorem CW.X1 {g : (Nat → Nat × Nat) × (Nat → Nat → Option Nat) × Nat × Nat} {x : Nat} (h : CW g x) : g.1 (x + 1) = (102, 4) := h.2.1
theorem CW.X2 {g : (Nat → Nat × Nat) × (Nat → Nat → Option Nat) × Nat × Nat} {x : Nat} (h : CW g x) : g.1 (x + 2) = (102, 4) := h.2.2.1
theorem CW.X3 {g : (Nat → Nat × Nat) × (Nat → Nat → Option Nat) × Nat × Nat} {x : Nat} (h : CW g x) : g.1 (x + 3) = (6, 0) := h.2.2.2.1
theorem CW.X4 {g : (Nat → Nat × Nat) × (Nat → Nat → Option Nat) × Nat × Nat} {x : Nat} (h : CW g x) : g.1 (x + 4) = (100, 44) := h.2.2.2.2.1
theorem CW.X5 {g : (Nat → Nat × Nat) × (Nat → Nat → Option Nat) × Nat × Nat} {x : Nat} (h : CW g x) : g.1 (x + 5) = (6, 0) := h.2.2.2.2.2.1
theorem CW.X6 {g : (Nat → Nat × Nat) × (Nat → Nat → Option Nat) × Nat × Nat} {x : Nat} (h : CW g x) : g.1 (x + 6) = (100, 44) := h.2.2.2.2.2.2.1
theorem CW.X7 {g : (Nat → Nat × Nat) × (Nat → Nat → Option Nat) × Nat × Nat} {x : Nat} (h : CW g x) : g.1 (x + 7) = (6, 0) := h.2.2.2.2.2.2.2.1
theorem CW.X8 {g : (Nat → Nat × Nat) × (Nat → Nat → Option Nat) × Nat × Nat} {x : Nat} (h : CW g x) : g.1 (x + 8) = (100, 44) := h.2.2.2.2.2.2.2.2.1
theorem CW.X9 {g : (Nat → Nat × Nat) × (Nat → Nat → Option Nat) × Nat × Nat} {x : Nat} (h : CW g x) : g.1 (x + 9) = (1, 0) := h.2.2.2.2.2.2.2.2.2.1
theorem CW.X10 {g : (Nat → Nat × Nat) × (Nat → Nat → Option Nat) × Nat × Nat} {x : Nat} (h : CW g x) : g.1 (x + 10) = (2, 0) := h.2.2.2.2.2.2.2.2.2.2.1
theorem CW.X11 {g : (Nat → Nat × Nat) × (Nat → Nat → Option Nat) × Nat × Nat} {x : Nat} (h : CW g x) : g.1 (x + 11) = (2, 0) := h.2.2.2.2.2.2.2.2.2.2.2.1
theorem CW.X339 {g : (Nat → Nat × Nat) × (Nat → Nat → Option Nat) × Nat × Nat} {x : Nat} (h : CW g x) : g.1 (x + 339) = (8, 0) := h.2.2.2.2.2.2.2.2.2.2.2.2.1
theorem CW.X340 {g : (Nat → Nat × Nat) × (Nat → Nat → Option Nat) × Nat × Nat} {x : Nat} (h : CW g x) : g.1 (x + 340) = (100, 72) := h.2.2.2.2.2.2.2.2.2.2.2.2.2.1
theorem CW.X359 {g : (Nat → Nat × Nat) × (Nat → Nat → Option Nat) × Nat × Nat} {x : Nat} (h : CW g x) : g.1 (x + 359) = (104, 3) := h.2.2.2.2.2.2.2.2.2.2.2.2.2.2.1
theorem CW.X360 {g : (Nat → Nat × Nat) × (Nat → Nat → Option Nat) × Nat × Nat} {x : Nat} (h : CW g x) : g.1 (x + 360) = (2, 0) := h.2.2.2.2.2.2.2.2.2.2.2.2.2.2.2.1
theorem CW.X361 {g : (Nat → Nat × Nat) × (Nat → Nat → Option Nat) × Nat × Nat} {x : Nat} (h : CW g x) : g.1 (x + 361) = (2, 0) := h.2.2.2.2.2.2.2.2.2.2.2.2.2.2.2.2.1
theorem CW.X362 {g : (Nat → Nat × Nat) × (Nat → Nat → Option Nat) × Nat × Nat} {x : Nat} (h : CW g x) : g.1 (x + 362) = (100, 6) := h.2.2.2.2.2.2.2.2.2.2.2.2.2.2.2.2.2.1
theorem CW.XS {g : (Nat → Nat × Nat) × (Nat → Nat → Option Nat) × Nat × Nat} {x : Nat} (h : CW g x) : SK g (x + 12) := h.2.2.2.2.2.2.2.2.2.2.2.2.2.2.2.2.2.2.1
theorem CW.XP {g : (Nat → Nat × Nat) × (Nat → Nat → Option Nat) × Nat × Nat} {x : Nat} (h : CW g x) : PK g (x + 341) := h.2.2.2.2.2.2.2.2.2.2.2.2.2.2.2.2.2.2.2.1
theorem CW.KR {g : (Nat → Nat × Nat) × (Nat → Nat → Option Nat) × Nat × Nat} {x : Nat} (h : CW g x) : ∀ i, i < 4 → g.1 (x + (363 + 6 * i)) = (4, 0) := h.2.2.2.2.2.2.2.2.2.2.2.2.2.2.2.2.2.2.2.2.1
theorem CW.KRs {g : (Nat → Nat × Nat) × (Nat → Nat → Option Nat) × Nat × Nat} {x : Nat} (h : CW g x) : ∀ i, i < 4 → g.1 (x + (364 + 6 * i)) = (100, 8) := h.2.2.2.2.2.2.2.2.2.2.2.2.2.2.2.2.2.2.2.2.2.1
theorem CW.KRt {g : (Nat → Nat × Nat) × (Nat → Nat → Option Nat) × Nat × Nat} {x : Nat} (h : CW g x) : ∀ i, i < 4 → g.1 (x + (365 + 6 * i)) = (100, 60) := h.2.2.2.2.2.2.2.2.2.2.2.2.2.2.2.2.2.2.2.2.2.2.1
theorem CW.KI {g : (Nat → Nat × Nat) × (Nat → Nat → Option Nat) × Nat × Nat} {x : Nat} (h : CW g x) : ∀ i, i < 4 → g.1 (x + (366 + 6 * i)) = (4, 0) := h.2.2.2.2.2.2.2.2.2.2.2.2.2.2.2.2.2.2.2.2.2.2.2.1
theorem CW.KIs {g : (Nat → Nat × Nat) × (Nat → Nat → Option Nat) × Nat × Nat} {x : Nat} (h : CW g x) : ∀ i, i < 4 → g.1 (x + (367 + 6 * i)) = (100, 8) := h.2.2.2.2.2.2.2.2.2.2.2.2.2.2.2.2.2.2.2.2.2.2.2.2.1
theorem CW.KIt {g : (Nat → Nat × Nat) × (Nat → Nat → Option Nat) × Nat × Nat} {x : Nat} (h : CW g x) : ∀ i, i < 4 → g.1 (x + (368 + 6 * i)) = (100, 60) := h.2.2.2.2.2.2.2.2.2.2.2.2.2.2.2.2.2.2.2.2.2.2.2.2.2.1
theorem CW.KT {g : (Nat → Nat × Nat) × (Nat → Nat → Option Nat) × Nat × Nat} {x : Nat} (h : CW g x) : ∀ i, i < 3 → g.1 (x + (387 + 2 * i)) = (7, 0) := h.2.2.2.2.2.2.2.2.2.2.2.2.2.2.2.2.2.2.2.2.2.2.2.2.2.2.1
theorem CW.KTp {g : (Nat → Nat × Nat) × (Nat → Nat → Option Nat) × Nat × Nat} {x : Nat} (h : CW g x) : ∀ i, i < 3 → g.1 (x + (388 + 2 * i)) = (100, 40) := h.2.2.2.2.2.2.2.2.2.2.2.2.2.2.2.2.2.2.2.2.2.2.2.2.2.2.2.1
theorem CW.R0 {g : (Nat → Nat × Nat) × (Nat → Nat → Option Nat) × Nat × Nat} {x : Nat} (h : CW g x) : g.2.1 x 0 = some (x + 1) := h.2.2.2.2.2.2.2.2.2.2.2.2.2.2.2.2.2.2.2.2.2.2.2.2.2.2.2.2.1
theorem CW.R2 {g : (Nat → Nat × Nat) × (Nat → Nat → Option Nat) × Nat × Nat} {x : Nat} (h : CW g x) : g.2.1 x 2 = some (x + 2) := h.2.2.2.2.2.2.2.2.2.2.2.2.2.2.2.2.2.2.2.2.2.2.2.2.2.2.2.2.2.1
theorem CW.R4 {g : (Nat → Nat × Nat) × (Nat → Nat → Option Nat) × Nat × Nat} {x : Nat} (h : CW g x) : g.2.1 x 4 = some (x + 3) := h.2.2.2.2.2.2.2.2.2.2.2.2.2.2.2.2.2.2.2.2.2.2.2.2.2.2.2.2.2.2.1
theorem CW.R5 {g : (Nat → Nat × Nat) × (Nat → Nat → Option Nat) × Nat × Nat} {x : Nat} (h : CW g x) : g.2.1 x 5 = some (x + 5) := h.2.2.2.2.2.2.2.2.2.2.2.2.2.2.2.2.2.2.2.2.2.2.2.2.2.2.2.2.2.2.2.1
theorem CW.R6 {g : (Nat → Nat × Nat) × (Nat → Nat → Option Nat) × Nat × Nat} {x : Nat} (h : CW g x) : g.2.1 x 6 = some (x + 7) := h.2.2.2.2.2.2.2.2.2.2.2.2.2.2.2.2.2.2.2.2.2.2.2.2.2.2.2.2.2.2.2.2.1
theorem CW.R7 {g : (Nat → Nat × Nat) × (Nat → Nat → Option Nat) × Nat × Nat} {x : Nat} (h : CW g x) : g.2.1 x 7 = some (x + 9) := h.2.2.2.2.2.2.2.2.2.2.2.2.2.2.2.2.2.2.2.2.2.2.2.2.2.2.2.2.2.2.2.2.2.1
theorem CW.R8 {g : (Nat → Nat × Nat) × (Nat → Nat → Option Nat) × Nat × Nat} {x : Nat} (h : CW g x) : g.2.1 x 8 = some (x + 12) := h.2.2.2.2.2.2.2.2.2.2.2.2.2.2.2.2.2.2.2.2.2.2.2.2.2.2.2.2.2.2.2.2.2.2.1
theorem CW.R9 {g : (Nat → Nat × Nat) × (Nat → Nat → Option Nat) × Nat × Nat} {x : Nat} (h : CW g x) : g.2.1 x 9 = some (x + 339) := h.2.2.2.2.2.2.2.2.2.2.2.2.2.2.2.2.2.2.2.2.2.2.2.2.2.2.2.2.2.2.2.2.2.2.2.1
theorem CW.R10 {g : (Nat → Nat × Nat) × (Nat → Nat → Option Nat) × Nat × Nat} {x : Nat} (h : CW g x) : g.2.1 x 10 = some (x + 341) := h.2.2.2.2.2.2.2.2.2.2.2.2.2.2.2.2.2.2.2.2.2.2.2.2.2.2.2.2.2.2.2.2.2.2.2.2.1
theorem CW.R11 {g : (Nat → Nat × Nat) × (Nat → Nat → Option Nat) × Nat × Nat} {x : Nat} (h : CW g x) : g.2.1 x 11 = some (x + 359) := h.2.2.2.2.2.2.2.2.2.2.2.2.2.2.2.2.2.2.2.2.2.2.2.2.2.2.2.2.2.2.2.2.2.2.2.2.2.1
theorem CW.R12 {g : (Nat → Nat × Nat) × (Nat → Nat → Option Nat) × Nat × Nat} {x : Nat} (h : CW g x) : g.2.1 x 12 = some (x + 360) := h.2.2.2.2.2.2.2.2.2.2.2.2.2.2.2.2.2.2.2.2.2.2.2.2.2.2.2.2.2.2.2.2.2.2.2.2.2.2.1
theorem CW.R13 {g : (Nat → Nat × Nat) × (Nat → Nat → Option Nat) × Nat × Nat} {x : Nat} (h : CW g x) : g.2.1 x 13 = some (x + 361) := h.2.2.2.2.2.2.2.2.2.2.2.2.2.2.2.2.2.2.2.2.2.2.2.2.2.2.2.2.2.2.2.2.2.2.2.2.2.2.2.1
theorem CW.R14 {g : (Nat → Nat × Nat) × (Nat → Nat → Option Nat) × Nat × Nat} {x : Nat} (h : CW g x) : g.2.1 x 14 = some (x + 362) := h.2.2.2.2.2.2.2.2.2.2.2.2.2.2.2.2.2.2.2.2.2.2.2.2.2.2.2.2.2.2.2.2.2.2.2.2.2.2.2.2.1
theorem CW.Rc {g : (Nat → Nat × Nat) × (Nat → Nat → Option Nat) × Nat × Nat} {x : Nat} (h : CW g x) : g.2.1 (x + 3) 1 = some (x + 4) := h.2.2.2.2.2.2.2.2.2.2.2.2.2.2.2.2.2.2.2.2.2.2.2.2.2.2.2.2.2.2.2.2.2.2.2.2.2.2.2.2.2.1
theorem CW.Ri {g : (Nat → Nat × Nat) × (Nat → Nat → Option Nat) × Nat × Nat} {x : Nat} (h : CW g x) : g.2.1 (x + 5) 1 = some (x + 6) := h.2.2.2.2.2.2.2.2.2.2.2.2.2.2.2.2.2.2.2.2.2.2.2.2.2.2.2.2.2.2.2.2.2.2.2.2.2.2.2.2.2.2.1
theorem CW.Rt {g : (Nat → Nat × Nat) × (Nat → Nat → Option Nat) × Nat × Nat} {x : Nat} (h : CW g x) : g.2.1 (x + 7) 1 = some (x + 8) := h.2.2.2.2.2.2.2.2.2.2.2.2.2.2.2.2.2.2.2.2.2.2.2.2.2.2.2.2.2.2.2.2.2.2.2.2.2.2.2.2.2.2.2.1
theorem CW.Ru {g : (Nat → Nat × Nat) × (Nat → Nat → Option Nat) × Nat × Nat} {x : Nat} (h : CW g x) : g.2.1 (x + 9) 0 = some (x + 10) := h.2.2.2.2.2.2.2.2.2.2.2.2.2.2.2.2.2.2.2.2.2.2.2.2.2.2.2.2.2.2.2.2.2.2.2.2.2.2.2.2.2.2.2.2.1
theorem CW.Rd {g : (Nat → Nat × Nat) × (Nat → Nat → Option Nat) × Nat × Nat} {x : Nat} (h : CW g x) : g.2.1 (x + 9) 1 = some (x + 11) := h.2.2.2.2.2.2.2.2.2.2.2.2.2.2.2.2.2.2.2.2.2.2.2.2.2.2.2.2.2.2.2.2.2.2.2.2.2.2.2.2.2.2.2.2.2.1
theorem CW.Rl {g : (Nat → Nat × Nat) × (Nat → Nat → Option Nat) × Nat × Nat} {x : Nat} (h : CW g x) : g.2.1 (x + 339) 1 = some (x + 340) := h.2.2.2.2.2.2.2.2.2.2.2.2.2.2.2.2.2.2.2.2.2.2.2.2.2.2.2.2.2.2.2.2.2.2.2.2.2.2.2.2.2.2.2.2.2.2.1
theorem CW.RR {g : (Nat → Nat × Nat) × (Nat → Nat → Option Nat) × Nat × Nat} {x : Nat} (h : CW g x) : ∀ i, i < 4 → g.2.1 (x + 1) i = some (x + (363 + 6 * i)) := h.2.2.2.2.2.2.2.2.2.2.2.2.2.2.2.2.2.2.2.2.2.2.2.2.2.2.2.2.2.2.2.2.2.2.2.2.2.2.2.2.2.2.2.2.2.2.2.1
theorem CW.RRs {g : (Nat → Nat × Nat) × (Nat → Nat → Option Nat) × Nat × Nat} {x : Nat} (h : CW g x) : ∀ i, i < 4 → g.2.1 (x + (363 + 6 * i)) 5 = some (x + (364 + 6 * i)) := h.2.2.2.2.2.2.2.2.2.2.2.2.2.2.2.2.2.2.2.2.2.2.2.2.2.2.2.2.2.2.2.2.2.2.2.2.2.2.2.2.2.2.2.2.2.2.2.2.1
theorem CW.RRt {g : (Nat → Nat × Nat) × (Nat → Nat → Option Nat) × Nat × Nat} {x : Nat} (h : CW g x) : ∀ i, i < 4 → g.2.1 (x + (363 + 6 * i)) 6 = some (x + (365 + 6 * i)) := h.2.2.2.2.2.2.2.2.2.2.2.2.2.2.2.2.2.2.2.2.2.2.2.2.2.2.2.2.2.2.2.2.2.2.2.2.2.2.2.2.2.2.2.2.2.2.2.2.2.1
theorem CW.RI {g : (Nat → Nat × Nat) × (Nat → Nat → Option Nat) × Nat × Nat} {x : Nat} (h : CW g x) : ∀ i, i < 4 → g.2.1 (x + 2) i = some (x + (366 + 6 * i)) := h.2.2.2.2.2.2.2.2.2.2.2.2.2.2.2.2.2.2.2.2.2.2.2.2.2.2.2.2.2.2.2.2.2.2.2.2.2.2.2.2.2.2.2.2.2.2.2.2.2.2.1
theorem CW.RIs {g : (Nat → Nat × Nat) × (Nat → Nat → Option Nat) × Nat × Nat} {x : Nat} (h : CW g x) : ∀ i, i < 4 → g.2.1 (x + (366 + 6 * i)) 5 = some (x + (367 + 6 * i)) := h.2.2.2.2.2.2.2.2.2.2.2.2.2.2.2.2.2.2.2.2.2.2.2.2.2.2.2.2.2.2.2.2.2.2.2.2.2.2.2.2.2.2.2.2.2.2.2.2.2.2.2.1
theorem CW.RIt {g : (Nat → Nat × Nat) × (Nat → Nat → Option Nat) × Nat × Nat} {x : Nat} (h : CW g x) : ∀ i, i < 4 → g.2.1 (x + (366 + 6 * i)) 6 = some (x + (368 + 6 * i)) := h.2.2.2.2.2.2.2.2.2.2.2.2.2.2.2.2.2.2.2.2.2.2.2.2.2.2.2.2.2.2.2.2.2.2.2.2.2.2.2.2.2.2.2.2.2.2.2.2.2.2.2.2.1
theorem CW.RT {g : (Nat → Nat × Nat) × (Nat → Nat → Option Nat) × Nat × Nat} {x : Nat} (h : CW g x) : ∀ i, i < 3 → g.2.1 (x + 359) i = some (x + (387 + 2 * i)) := h.2.2.2.2.2.2.2.2.2.2.2.2.2.2.2.2.2.2.2.2.2.2.2.2.2.2.2.2.2.2.2.2.2.2.2.2.2.2.2.2.2.2.2.2.2.2.2.2.2.2.2.2.2.1
theorem CW.RTp {g : (Nat → Nat × Nat) × (Nat → Nat → Option Nat) × Nat × Nat} {x : Nat} (h : CW g x) : ∀ i, i < 3 → g.2.1 (x + (387 + 2 * i)) 1 = some (x + (388 + 2 * i)) := h.2.2.2.2.2.2.2.2.2.2.2.2.2.2.2.2.2.2.2.2.2.2.2.2.2.2.2.2.2.2.2.2.2.2.2.2.2.2.2.2.2.2.2.2.2.2.2.2.2.2.2.2.2.2
/-- a refusal of the class: what it answers, and what it counts -/
def cno (w : jS) (x j : Nat) (y : jV) (v : Option jV) (w1 : jS) : Prop := v = some y ∧ w1 = jW w (x + 362) j (w.1 (x + 362) j + 1)
set_option maxHeartbeats 4000000 in
set_option maxRecDepth 20000 in
theorem C_refuse {w : jS} {x : Nat} (hX : CW w.2 x) {y : Int} {j : Nat} (hj : j < 6) (hy : y = -1 - (j : Int)) : jCall 130 [jO x, jI y] w (fun v w1 => v = some (jI y) ∧ w1 = jW w (x + 362) j (w.1 (x + 362) j + 1)) := by
  have mt : jtb 130 = jT130 := rfl
  show jWp 130 0 [some (jO x), some (jI y), none] [] 0 0 w _
  refine jWp.blk mt 5 ?_
  show jWp 130 5 [some (jO x), some (jI y), some (jI ((-1) - y))] [jI ((-1) - y)] 0 0 w _
  refine jWp.ifz (pc' := 8) mt rfl rfl (b32_id (by omega) (by omega)) (fun h1 => ?_) (fun h1 => ?_)
  · have h1 : ((-1) - y) < 0 := h1
    refine jWp.blk mt 1 ?_
    show jWp 130 28 [some (jO x), some (jI y), some (jI ((-1) - y))] [jI y] 0 0 w _
    refine jWp.ireti mt rfl ⟨rfl, rfl⟩ rfl ?_
    first
    | (exfalso; omega)
    | exact ⟨rfl, rfl⟩
  · have h1 : 0 ≤ ((-1) - y) := h1
    refine jWp.blk mt 2 ?_
    show _ ∧ jWp 130 10 [some (jO x), some (jI y), some (jI ((-1) - y))] [jO x, jI ((-1) - y)] 0 0 w _
    refine ⟨rfl, ?_⟩
    refine jWp.getR (pc' := 13) (o := (x + 362)) mt rfl rfl (jtg hX.X0) hX.R14 ?_
    show jWp 130 13 [some (jO x), some (jI y), some (jI ((-1) - y))] [jO (x + 362), jI ((-1) - y)] 0 0 w _
    refine jWp.alen (pc' := 14) (n := 6) mt rfl rfl (jird_of hX.X362) (by rw [hX.X362]) ?_
    show jWp 130 14 [some (jO x), some (jI y), some (jI ((-1) - y))] [jI 6, jI ((-1) - y)] 0 0 w _
    refine jWp.icmp (pc' := 17) mt rfl rfl (b32_id (by omega) (by omega)) (show b32 6 = 6 by decide) (fun h2 => ?_) (fun h2 => ?_)
    · have h2 : 6 ≤ ((-1) - y) := h2
      refine jWp.blk mt 1 ?_
      show jWp 130 28 [some (jO x), some (jI y), some (jI ((-1) - y))] [jI y] 0 0 w _
      refine jWp.ireti mt rfl ⟨rfl, rfl⟩ rfl ?_
      first
      | (exfalso; omega)
      | exact ⟨rfl, rfl⟩
    · have h2 : ((-1) - y) < 6 := h2
      refine jWp.blk mt 1 ?_
      show _ ∧ jWp 130 18 [some (jO x), some (jI y), some (jI ((-1) - y))] [jO x] 0 0 w _
      refine ⟨rfl, ?_⟩
      refine jWp.getR (pc' := 21) (o := (x + 362)) mt rfl rfl (jtg hX.X0) hX.R14 ?_
      show jWp 130 21 [some (jO x), some (jI y), some (jI ((-1) - y))] [jO (x + 362)] 0 0 w _
      refine jWp.blk mt 2 ?_
      show _ ∧ jWp 130 23 [some (jO x), some (jI y), some (jI ((-1) - y))] [jI ((-1) - y), jO (x + 362), jI ((-1) - y), jO (x + 362)] 0 0 w _
      refine ⟨rfl, ?_⟩
      refine jWp.iald (pc' := 24) (j := j) mt rfl rfl (jird_of hX.X362) (by rw [b32_id (by omega) (by omega)]; omega) (jlt hX.X362 (by omega)) ?_
      show jWp 130 24 [some (jO x), some (jI y), some (jI ((-1) - y))] [jI (w.1 (x + 362) j), jI ((-1) - y), jO (x + 362)] 0 0 w _
      refine jWp.blk mt 2 ?_
      show jWp 130 26 [some (jO x), some (jI y), some (jI ((-1) - y))] [jI ((w.1 (x + 362) j) + 1), jI ((-1) - y), jO (x + 362)] 0 0 w _
      refine jWp.iast (pc' := 27) (j := j) mt rfl rfl (jtg hX.X362) (by rw [b32_id (by omega) (by omega)]; omega) (jlt hX.X362 (by omega)) ?_
      show jWp 130 27 [some (jO x), some (jI y), some (jI ((-1) - y))] [] 0 0 (jW w (x + 362) j ((w.1 (x + 362) j) + 1)) _
      refine jWp.blk mt 1 ?_
      show jWp 130 28 [some (jO x), some (jI y), some (jI ((-1) - y))] [jI y] 0 0 (jW w (x + 362) j ((w.1 (x + 362) j) + 1)) _
      refine jWp.ireti mt rfl ⟨rfl, rfl⟩ rfl ?_
      first
      | (exfalso; omega)
      | exact ⟨rfl, rfl⟩
set_option maxHeartbeats 4000000 in
set_option maxRecDepth 20000 in
theorem C_refuse2 {w : jS} {x : Nat} (hX : CW w.2 x) {y : Int} (hj : -14 ≤ y ∧ y ≤ -7) : jCall 130 [jO x, jI y] w (jvi y w) := by
  have mt : jtb 130 = jT130 := rfl
  show jWp 130 0 [some (jO x), some (jI y), none] [] 0 0 w _
  refine jWp.blk mt 5 ?_
  show jWp 130 5 [some (jO x), some (jI y), some (jI ((-1) - y))] [jI ((-1) - y)] 0 0 w _
  refine jWp.ifz (pc' := 8) mt rfl rfl (b32_id (by omega) (by omega)) (fun h1 => ?_) (fun h1 => ?_)
  · have h1 : ((-1) - y) < 0 := h1
    refine jWp.blk mt 1 ?_
    show jWp 130 28 [some (jO x), some (jI y), some (jI ((-1) - y))] [jI y] 0 0 w _
    refine jWp.ireti mt rfl ⟨rfl, rfl⟩ rfl ?_
    first
    | (exfalso; omega)
    | exact ⟨rfl, rfl⟩
  · have h1 : 0 ≤ ((-1) - y) := h1
    refine jWp.blk mt 2 ?_
    show _ ∧ jWp 130 10 [some (jO x), some (jI y), some (jI ((-1) - y))] [jO x, jI ((-1) - y)] 0 0 w _
    refine ⟨rfl, ?_⟩
    refine jWp.getR (pc' := 13) (o := (x + 362)) mt rfl rfl (jtg hX.X0) hX.R14 ?_
    show jWp 130 13 [some (jO x), some (jI y), some (jI ((-1) - y))] [jO (x + 362), jI ((-1) - y)] 0 0 w _
    refine jWp.alen (pc' := 14) (n := 6) mt rfl rfl (jird_of hX.X362) (by rw [hX.X362]) ?_
    show jWp 130 14 [some (jO x), some (jI y), some (jI ((-1) - y))] [jI 6, jI ((-1) - y)] 0 0 w _
    refine jWp.icmp (pc' := 17) mt rfl rfl (b32_id (by omega) (by omega)) (show b32 6 = 6 by decide) (fun h2 => ?_) (fun h2 => ?_)
    · have h2 : 6 ≤ ((-1) - y) := h2
      refine jWp.blk mt 1 ?_
      show jWp 130 28 [some (jO x), some (jI y), some (jI ((-1) - y))] [jI y] 0 0 w _
      refine jWp.ireti mt rfl ⟨rfl, rfl⟩ rfl ?_
      first
      | (exfalso; omega)
      | exact ⟨rfl, rfl⟩
    · have h2 : ((-1) - y) < 6 := h2
      exfalso; omega
set_option maxHeartbeats 4000000 in
set_option maxRecDepth 20000 in
theorem C_far {w : jS} {x : Nat} (hX : CW w.2 x) {y : Int} {j : Nat} (hj : j < 6) (hy : y = -1 - (j : Int)) : jCall 131 [jO x, jI y] w (fun v w1 => v = some (jI (1000000000 - y)) ∧ w1 = jW w (x + 362) j (w.1 (x + 362) j + 1)) := by
  have mt : jtb 131 = jT131 := rfl
  show jWp 131 0 [some (jO x), some (jI y)] [] 0 0 w _
  refine jWp.blk mt 3 ?_
  show _ ∧ jWp 131 5 [some (jO x), some (jI y)] [jI y, jO x, jI 1000000000] 0 0 w _
  refine ⟨rfl, ?_⟩
  refine jWp.callv (as := [jO x, jI y]) (rest := [jI 1000000000]) mt rfl rfl rfl ⟨rfl, jtg hX.X0⟩ ?_
  refine jCall.mono (C_refuse hX hj hy) (fun v9 w9 h9 => ?_)
  obtain ⟨rfl, h9⟩ := h9
  subst h9
  show jWp 131 8 [some (jO x), some (jI y)] [jI y, jI 1000000000] 0 0 (jW w (x + 362) j (w.1 (x + 362) j + 1)) _
  refine jWp.blk mt 1 ?_
  show jWp 131 9 [some (jO x), some (jI y)] [jI (1000000000 - y)] 0 0 (jW w (x + 362) j (w.1 (x + 362) j + 1)) _
  refine jWp.ireti mt rfl ⟨rfl, rfl⟩ rfl ?_
  exact ⟨rfl, rfl⟩
set_option maxHeartbeats 4000000 in
set_option maxRecDepth 20000 in
theorem C_far2 {w : jS} {x : Nat} (hX : CW w.2 x) {y : Int} (hj : -14 ≤ y ∧ y ≤ -7) : jCall 131 [jO x, jI y] w (jvi (1000000000 - y) w) := by
  have mt : jtb 131 = jT131 := rfl
  show jWp 131 0 [some (jO x), some (jI y)] [] 0 0 w _
  refine jWp.blk mt 3 ?_
  show _ ∧ jWp 131 5 [some (jO x), some (jI y)] [jI y, jO x, jI 1000000000] 0 0 w _
  refine ⟨rfl, ?_⟩
  refine jWp.callv (as := [jO x, jI y]) (rest := [jI 1000000000]) mt rfl rfl rfl ⟨rfl, jtg hX.X0⟩ ?_
  refine jCall.mono (C_refuse2 hX hj) (fun v9 w9 h9 => ?_)
  obtain ⟨rfl, h9⟩ := h9
  subst w9
  show jWp 131 8 [some (jO x), some (jI y)] [jI y, jI 1000000000] 0 0 w _
  refine jWp.blk mt 1 ?_
  show jWp 131 9 [some (jO x), some (jI y)] [jI (1000000000 - y)] 0 0 w _
  refine jWp.ireti mt rfl ⟨rfl, rfl⟩ rfl ?_
  exact ⟨rfl, rfl⟩
set_option maxHeartbeats 4000000 in
set_option maxRecDepth 20000 in
theorem C_farther {w : jS} {x : Nat} (hX : CW w.2 x) {y : Int} {j : Nat} (hj : j < 6) (hy : y = -1 - (j : Int)) : jCall 132 [jO x, jI y] w (fun v w1 => v = some (jJ (4000000000000000000 - y)) ∧ w1 = jW w (x + 362) j (w.1 (x + 362) j + 1)) := by
  have mt : jtb 132 = jT132 := rfl
  show jWp 132 0 [some (jO x), some (jI y)] [] 0 0 w _
  refine jWp.blk mt 3 ?_
  show _ ∧ jWp 132 5 [some (jO x), some (jI y)] [jI y, jO x, jJ 4000000000000000000] 0 0 w _
  refine ⟨rfl, ?_⟩
  refine jWp.callv (as := [jO x, jI y]) (rest := [jJ 4000000000000000000]) mt rfl rfl rfl ⟨rfl, jtg hX.X0⟩ ?_
  refine jCall.mono (C_refuse hX hj hy) (fun v9 w9 h9 => ?_)
  obtain ⟨rfl, h9⟩ := h9
  subst h9
  show jWp 132 8 [some (jO x), some (jI y)] [jI y, jJ 4000000000000000000] 0 0 (jW w (x + 362) j (w.1 (x + 362) j + 1)) _
  refine jWp.i2l (pc' := 9) mt rfl rfl (b32_id (by omega) (by omega)) ?_
  show jWp 132 9 [some (jO x), some (jI y)] [jJ y, jJ 4000000000000000000] 0 0 (jW w (x + 362) j (w.1 (x + 362) j + 1)) _
  refine jWp.blk mt 1 ?_
  show jWp 132 10 [some (jO x), some (jI y)] [jJ (4000000000000000000 - y)] 0 0 (jW w (x + 362) j (w.1 (x + 362) j + 1)) _
  refine jWp.lret mt rfl ⟨rfl, rfl⟩ rfl ?_
  exact ⟨rfl, rfl⟩
set_option maxHeartbeats 4000000 in
set_option maxRecDepth 20000 in
theorem C_farther2 {w : jS} {x : Nat} (hX : CW w.2 x) {y : Int} (hj : -14 ≤ y ∧ y ≤ -7) : jCall 132 [jO x, jI y] w (jvj (4000000000000000000 - y) w) := by
  have mt : jtb 132 = jT132 := rfl
  show jWp 132 0 [some (jO x), some (jI y)] [] 0 0 w _
  refine jWp.blk mt 3 ?_
  show _ ∧ jWp 132 5 [some (jO x), some (jI y)] [jI y, jO x, jJ 4000000000000000000] 0 0 w _
  refine ⟨rfl, ?_⟩
  refine jWp.callv (as := [jO x, jI y]) (rest := [jJ 4000000000000000000]) mt rfl rfl rfl ⟨rfl, jtg hX.X0⟩ ?_
  refine jCall.mono (C_refuse2 hX hj) (fun v9 w9 h9 => ?_)
  obtain ⟨rfl, h9⟩ := h9
  subst w9
  show jWp 132 8 [some (jO x), some (jI y)] [jI y, jJ 4000000000000000000] 0 0 w _
  refine jWp.i2l (pc' := 9) mt rfl rfl (b32_id (by omega) (by omega)) ?_
  show jWp 132 9 [some (jO x), some (jI y)] [jJ y, jJ 4000000000000000000] 0 0 w _
  refine jWp.blk mt 1 ?_
  show jWp 132 10 [some (jO x), some (jI y)] [jJ (4000000000000000000 - y)] 0 0 w _
  refine jWp.lret mt rfl ⟨rfl, rfl⟩ rfl ?_
  exact ⟨rfl, rfl⟩
set_option maxHeartbeats 4000000 in
set_option maxRecDepth 20000 in
theorem C_value {w : jS} {x : Nat} (hX : CW w.2 x) {n : Nat} {q : Nat → Int} {g : Prop} (hQ : zQ q n) (hn0 : w.1 (x + 3) 0 = (n : Int)) (hRR : cR g (w.1 (x + 4)) q n) {i p : Int} (hri : r32 i) (hrp : r32 p) : jCall 105 [jO x, jI i, jI p] w (fun v w1 => ((¬ (0 ≤ i ∧ i < (n : Int))) → cno w x 0 (jI (-1)) v w1) ∧ (¬ (¬ (0 ≤ i ∧ i < (n : Int))) → (¬ (0 ≤ p ∧ p ≤ 1)) → cno w x 1 (jI (-2)) v w1) ∧ (¬ (¬ (0 ≤ i ∧ i < (n : Int))) → ¬ (¬ (0 ≤ p ∧ p ≤ 1)) → v = some (jI (q ((if p = 0 then 21 else 25) + i.toNat))) ∧ w1 = w)) := by
  have mt : jtb 105 = jT105 := rfl
  have hn2 := hQ.S.n2
  have hn4 := hQ.S.n4
  have hri1 : -2147483648 ≤ i ∧ i < 2147483648 := hri
  have hrp1 : -2147483648 ≤ p ∧ p < 2147483648 := hrp
  show jWp 105 0 [some (jO x), some (jI i), some (jI p)] [] 0 0 w _
  refine jWp.blk mt 1 ?_
  show _ ∧ jWp 105 1 [some (jO x), some (jI i), some (jI p)] [jO x] 0 0 w _
  refine ⟨rfl, ?_⟩
  refine jWp.getR (pc' := 4) (o := (x + 3)) mt rfl rfl (jtg hX.X0) hX.R4 ?_
  show jWp 105 4 [some (jO x), some (jI i), some (jI p)] [jO (x + 3)] 0 0 w _
  refine jWp.blk mt 1 ?_
  show jWp 105 5 [some (jO x), some (jI i), some (jI p)] [jI i, jO (x + 3)] 0 0 w _
  refine jWp.callv (as := [jO (x + 3), jI i]) (rest := []) mt rfl rfl rfl ⟨rfl, jtg hX.X3⟩ ?_
  refine jCall.mono (E_has (w := w) (s := x + 3) (n := n) hX.X3 hn0 hn4 hri) (fun v9 w9 h9 => ?_)
  rcases h9 with ⟨rfl, h9, h1⟩ | ⟨rfl, h9, h1⟩ <;> subst w9
  · have h1 : 0 ≤ i ∧ i < (n : Int) := h1
    show jWp 105 8 [some (jO x), some (jI i), some (jI p)] [jI 1] 0 0 w _
    obtain ⟨i1, rfl⟩ : ∃ i1 : Nat, i = (i1 : Int) := ⟨i.toNat, by omega⟩
    show jWp 105 8 [some (jO x), some (jI (i1 : Int)), some (jI p)] [jI 1] 0 0 w _
    refine jWp.ifc (b := true) mt rfl (by decide) rfl ?_
    show jWp 105 17 [some (jO x), some (jI (i1 : Int)), some (jI p)] [] 0 0 w _
    refine jWp.blk mt 1 ?_
    show jWp 105 18 [some (jO x), some (jI (i1 : Int)), some (jI p)] [jI p] 0 0 w _
    refine jWp.ifz (pc' := 21) mt rfl rfl (b32_id (by omega) (by omega)) (fun h2 => ?_) (fun h2 => ?_)
    · have h2 : p = 0 := h2
      refine jWp.blk mt 1 ?_
      show jWp 105 34 [some (jO x), some (jI (i1 : Int)), some (jI p)] [jI p] 0 0 w _
      refine jWp.ifz (pc' := 37) mt rfl rfl (b32_id (by omega) (by omega)) (fun h3 => ?_) (fun h3 => ?_)
      · have h3 : p ≠ 0 := h3
        refine jWp.blk mt 1 ?_
        show _ ∧ jWp 105 49 [some (jO x), some (jI (i1 : Int)), some (jI p)] [jO x] 0 0 w _
        refine ⟨rfl, ?_⟩
        refine jWp.getR (pc' := 52) (o := (x + 3)) mt rfl rfl (jtg hX.X0) hX.R4 ?_
        show jWp 105 52 [some (jO x), some (jI (i1 : Int)), some (jI p)] [jO (x + 3)] 0 0 w _
        refine jWp.blk mt 1 ?_
        show jWp 105 53 [some (jO x), some (jI (i1 : Int)), some (jI p)] [jI (i1 : Int), jO (x + 3)] 0 0 w _
        refine jWp.callv (as := [jO (x + 3), jI (i1 : Int)]) (rest := []) mt rfl rfl rfl ⟨rfl, jtg hX.X3⟩ ?_
        refine jCall.mono ((by have h := E_su (w := w) (sc := x + 4) (n := n) (i := i1) hX.X3 hX.X4 hX.Rc hn0 hn4 (by omega); rw [show w.1 (x + 4) (4 + i1) = q (25 + i1) from (hRR.1 _ (by omega)).trans (cz_d hn4 (by omega))] at h; exact h)) (fun v9 w9 h9 => ?_)
        obtain ⟨rfl, h9⟩ := h9
        subst w9
        show jWp 105 56 [some (jO x), some (jI (i1 : Int)), some (jI p)] [jI (q (25 + i1))] 0 0 w _
        refine jWp.ireti mt rfl ⟨rfl, rfl⟩ rfl ?_
        refine ⟨fun c0 => ?_, fun c0 c1 => ?_, fun c0 c1 => ?_⟩
        all_goals first
        | (exfalso; omega)
        | exact ⟨rfl, rfl⟩
        | exact ⟨by rw [if_pos (by omega)]; rfl, rfl⟩
        | exact ⟨by rw [if_neg (by omega)]; rfl, rfl⟩
      · have h3 : p = 0 := h3
        refine jWp.blk mt 1 ?_
        show _ ∧ jWp 105 38 [some (jO x), some (jI (i1 : Int)), some (jI p)] [jO x] 0 0 w _
        refine ⟨rfl, ?_⟩
        refine jWp.getR (pc' := 41) (o := (x + 3)) mt rfl rfl (jtg hX.X0) hX.R4 ?_
        show jWp 105 41 [some (jO x), some (jI (i1 : Int)), some (jI p)] [jO (x + 3)] 0 0 w _
        refine jWp.blk mt 1 ?_
        show jWp 105 42 [some (jO x), some (jI (i1 : Int)), some (jI p)] [jI (i1 : Int), jO (x + 3)] 0 0 w _
        refine jWp.callv (as := [jO (x + 3), jI (i1 : Int)]) (rest := []) mt rfl rfl rfl ⟨rfl, jtg hX.X3⟩ ?_
        refine jCall.mono ((by have h := E_sa (w := w) (sc := x + 4) (n := n) (i := i1) hX.X3 hX.X4 hX.Rc hn0 hn4 (by omega); rw [show w.1 (x + 4) i1 = q (21 + i1) from (hRR.1 _ (by omega)).trans (cz_u hn4 (by omega))] at h; exact h)) (fun v9 w9 h9 => ?_)
        obtain ⟨rfl, h9⟩ := h9
        subst w9
        show jWp 105 45 [some (jO x), some (jI (i1 : Int)), some (jI p)] [jI (q (21 + i1))] 0 0 w _
        refine jWp.blk mt 1 ?_
        show jWp 105 56 [some (jO x), some (jI (i1 : Int)), some (jI p)] [jI (q (21 + i1))] 0 0 w _
        refine jWp.ireti mt rfl ⟨rfl, rfl⟩ rfl ?_
        refine ⟨fun c0 => ?_, fun c0 c1 => ?_, fun c0 c1 => ?_⟩
        all_goals first
        | (exfalso; omega)
        | exact ⟨rfl, rfl⟩
        | exact ⟨by rw [if_pos (by omega)]; rfl, rfl⟩
        | exact ⟨by rw [if_neg (by omega)]; rfl, rfl⟩
    · have h2 : p ≠ 0 := h2
      refine jWp.blk mt 2 ?_
      show jWp 105 23 [some (jO x), some (jI (i1 : Int)), some (jI p)] [jI 1, jI p] 0 0 w _
      refine jWp.icmp (pc' := 26) mt rfl rfl (b32_id (by omega) (by omega)) (show b32 1 = 1 by decide) (fun h4 => ?_) (fun h4 => ?_)
      · have h4 : p = 1 := h4
        refine jWp.blk mt 1 ?_
        show jWp 105 34 [some (jO x), some (jI (i1 : Int)), some (jI p)] [jI p] 0 0 w _
        refine jWp.ifz (pc' := 37) mt rfl rfl (b32_id (by omega) (by omega)) (fun h5 => ?_) (fun h5 => ?_)
        · have h5 : p ≠ 0 := h5
          refine jWp.blk mt 1 ?_
          show _ ∧ jWp 105 49 [some (jO x), some (jI (i1 : Int)), some (jI p)] [jO x] 0 0 w _
          refine ⟨rfl, ?_⟩
          refine jWp.getR (pc' := 52) (o := (x + 3)) mt rfl rfl (jtg hX.X0) hX.R4 ?_
          show jWp 105 52 [some (jO x), some (jI (i1 : Int)), some (jI p)] [jO (x + 3)] 0 0 w _
          refine jWp.blk mt 1 ?_
          show jWp 105 53 [some (jO x), some (jI (i1 : Int)), some (jI p)] [jI (i1 : Int), jO (x + 3)] 0 0 w _
          refine jWp.callv (as := [jO (x + 3), jI (i1 : Int)]) (rest := []) mt rfl rfl rfl ⟨rfl, jtg hX.X3⟩ ?_
          refine jCall.mono ((by have h := E_su (w := w) (sc := x + 4) (n := n) (i := i1) hX.X3 hX.X4 hX.Rc hn0 hn4 (by omega); rw [show w.1 (x + 4) (4 + i1) = q (25 + i1) from (hRR.1 _ (by omega)).trans (cz_d hn4 (by omega))] at h; exact h)) (fun v9 w9 h9 => ?_)
          obtain ⟨rfl, h9⟩ := h9
          subst w9
          show jWp 105 56 [some (jO x), some (jI (i1 : Int)), some (jI p)] [jI (q (25 + i1))] 0 0 w _
          refine jWp.ireti mt rfl ⟨rfl, rfl⟩ rfl ?_
          refine ⟨fun c0 => ?_, fun c0 c1 => ?_, fun c0 c1 => ?_⟩
          all_goals first
          | (exfalso; omega)
          | exact ⟨rfl, rfl⟩
          | exact ⟨by rw [if_pos (by omega)]; rfl, rfl⟩
          | exact ⟨by rw [if_neg (by omega)]; rfl, rfl⟩
        · have h5 : p = 0 := h5
          refine jWp.blk mt 1 ?_
          show _ ∧ jWp 105 38 [some (jO x), some (jI (i1 : Int)), some (jI p)] [jO x] 0 0 w _
          refine ⟨rfl, ?_⟩
          refine jWp.getR (pc' := 41) (o := (x + 3)) mt rfl rfl (jtg hX.X0) hX.R4 ?_
          show jWp 105 41 [some (jO x), some (jI (i1 : Int)), some (jI p)] [jO (x + 3)] 0 0 w _
          refine jWp.blk mt 1 ?_
          show jWp 105 42 [some (jO x), some (jI (i1 : Int)), some (jI p)] [jI (i1 : Int), jO (x + 3)] 0 0 w _
          refine jWp.callv (as := [jO (x + 3), jI (i1 : Int)]) (rest := []) mt rfl rfl rfl ⟨rfl, jtg hX.X3⟩ ?_
          refine jCall.mono ((by have h := E_sa (w := w) (sc := x + 4) (n := n) (i := i1) hX.X3 hX.X4 hX.Rc hn0 hn4 (by omega); rw [show w.1 (x + 4) i1 = q (21 + i1) from (hRR.1 _ (by omega)).trans (cz_u hn4 (by omega))] at h; exact h)) (fun v9 w9 h9 => ?_)
          obtain ⟨rfl, h9⟩ := h9
          subst w9
          show jWp 105 45 [some (jO x), some (jI (i1 : Int)), some (jI p)] [jI (q (21 + i1))] 0 0 w _
          refine jWp.blk mt 1 ?_
          show jWp 105 56 [some (jO x), some (jI (i1 : Int)), some (jI p)] [jI (q (21 + i1))] 0 0 w _
          refine jWp.ireti mt rfl ⟨rfl, rfl⟩ rfl ?_
          refine ⟨fun c0 => ?_, fun c0 c1 => ?_, fun c0 c1 => ?_⟩
          all_goals first
          | (exfalso; omega)
          | exact ⟨rfl, rfl⟩
          | exact ⟨by rw [if_pos (by omega)]; rfl, rfl⟩
          | exact ⟨by rw [if_neg (by omega)]; rfl, rfl⟩
      · have h4 : p ≠ 1 := h4
        refine jWp.blk mt 2 ?_
        show _ ∧ jWp 105 29 [some (jO x), some (jI (i1 : Int)), some (jI p)] [jI (-2), jO x] 0 0 w _
        refine ⟨rfl, ?_⟩
        refine jWp.callv (as := [jO x, jI (-2)]) (rest := []) mt rfl rfl rfl ⟨rfl, jtg hX.X0⟩ ?_
        refine jCall.mono (C_refuse (w := w) (j := 1) hX (by decide) (by decide)) (fun v9 w9 h9 => ?_)
        obtain ⟨rfl, h9⟩ := h9
        subst h9
        show jWp 105 32 [some (jO x), some (jI (i1 : Int)), some (jI p)] [jI (-2)] 0 0 (jW w (x + 362) 1 ((w.1 (x + 362) 1) + 1)) _
        refine jWp.ireti mt rfl ⟨rfl, rfl⟩ rfl ?_
        refine ⟨fun c0 => ?_, fun c0 c1 => ?_, fun c0 c1 => ?_⟩
        all_goals first
        | (exfalso; omega)
        | exact ⟨rfl, rfl⟩
        | exact ⟨by rw [if_pos (by omega)]; rfl, rfl⟩
        | exact ⟨by rw [if_neg (by omega)]; rfl, rfl⟩
  · have h1 : ¬ (0 ≤ i ∧ i < (n : Int)) := h1
    show jWp 105 8 [some (jO x), some (jI i), some (jI p)] [jI 0] 0 0 w _
    refine jWp.ifc (b := false) mt rfl (by decide) rfl ?_
    show jWp 105 11 [some (jO x), some (jI i), some (jI p)] [] 0 0 w _
    refine jWp.blk mt 2 ?_
    show _ ∧ jWp 105 13 [some (jO x), some (jI i), some (jI p)] [jI (-1), jO x] 0 0 w _
    refine ⟨rfl, ?_⟩
    refine jWp.callv (as := [jO x, jI (-1)]) (rest := []) mt rfl rfl rfl ⟨rfl, jtg hX.X0⟩ ?_
    refine jCall.mono (C_refuse (w := w) (j := 0) hX (by decide) (by decide)) (fun v9 w9 h9 => ?_)
    obtain ⟨rfl, h9⟩ := h9
    subst h9
    show jWp 105 16 [some (jO x), some (jI i), some (jI p)] [jI (-1)] 0 0 (jW w (x + 362) 0 ((w.1 (x + 362) 0) + 1)) _
    refine jWp.ireti mt rfl ⟨rfl, rfl⟩ rfl ?_
    refine ⟨fun c0 => ?_, fun c0 c1 => ?_, fun c0 c1 => ?_⟩
    all_goals first
    | (exfalso; omega)
    | exact ⟨rfl, rfl⟩
    | exact ⟨by rw [if_pos (by omega)]; rfl, rfl⟩
    | exact ⟨by rw [if_neg (by omega)]; rfl, rfl⟩
set_option maxHeartbeats 4000000 in
set_option maxRecDepth 20000 in
theorem C_entry {w : jS} {x : Nat} (hX : CW w.2 x) {n : Nat} {q : Nat → Int} {g : Prop} (hQ : zQ q n) (hn0 : w.1 (x + 3) 0 = (n : Int)) (hRR : cR g (w.1 (x + 4)) q n) {i j : Int} (hri : r32 i) (hrj : r32 j) : jCall 104 [jO x, jI i, jI j] w (fun v w1 => ((¬ (0 ≤ i ∧ i < (n : Int)) ∨ ¬ (0 ≤ j ∧ j < (n : Int))) → cno w x 0 (jI (1000000000 - (-1))) v w1) ∧ (¬ (¬ (0 ≤ i ∧ i < (n : Int)) ∨ ¬ (0 ≤ j ∧ j < (n : Int))) → v = some (jI (q (1 + (4 * i.toNat + j.toNat)))) ∧ w1 = w)) := by
  have mt : jtb 104 = jT104 := rfl
  have hn2 := hQ.S.n2
  have hn4 := hQ.S.n4
  have hri1 : -2147483648 ≤ i ∧ i < 2147483648 := hri
  show jWp 104 0 [some (jO x), some (jI i), some (jI j)] [] 0 0 w _
  refine jWp.blk mt 1 ?_
  show _ ∧ jWp 104 1 [some (jO x), some (jI i), some (jI j)] [jO x] 0 0 w _
  refine ⟨rfl, ?_⟩
  refine jWp.getR (pc' := 4) (o := (x + 3)) mt rfl rfl (jtg hX.X0) hX.R4 ?_
  show jWp 104 4 [some (jO x), some (jI i), some (jI j)] [jO (x + 3)] 0 0 w _
  refine jWp.blk mt 1 ?_
  show jWp 104 5 [some (jO x), some (jI i), some (jI j)] [jI i, jO (x + 3)] 0 0 w _
  refine jWp.callv (as := [jO (x + 3), jI i]) (rest := []) mt rfl rfl rfl ⟨rfl, jtg hX.X3⟩ ?_
  refine jCall.mono (E_has (w := w) (s := x + 3) (n := n) hX.X3 hn0 hn4 hri) (fun v9 w9 h9 => ?_)
  rcases h9 with ⟨rfl, h9, h1⟩ | ⟨rfl, h9, h1⟩ <;> subst w9
  · have h1 : 0 ≤ i ∧ i < (n : Int) := h1
    show jWp 104 8 [some (jO x), some (jI i), some (jI j)] [jI 1] 0 0 w _
    obtain ⟨i1, rfl⟩ : ∃ i1 : Nat, i = (i1 : Int) := ⟨i.toNat, by omega⟩
    show jWp 104 8 [some (jO x), some (jI (i1 : Int)), some (jI j)] [jI 1] 0 0 w _
    refine jWp.ifc (b := false) mt rfl (by decide) rfl ?_
    show jWp 104 11 [some (jO x), some (jI (i1 : Int)), some (jI j)] [] 0 0 w _
    refine jWp.blk mt 1 ?_
    show _ ∧ jWp 104 12 [some (jO x), some (jI (i1 : Int)), some (jI j)] [jO x] 0 0 w _
    refine ⟨rfl, ?_⟩
    refine jWp.getR (pc' := 15) (o := (x + 3)) mt rfl rfl (jtg hX.X0) hX.R4 ?_
    show jWp 104 15 [some (jO x), some (jI (i1 : Int)), some (jI j)] [jO (x + 3)] 0 0 w _
    refine jWp.blk mt 1 ?_
    show jWp 104 16 [some (jO x), some (jI (i1 : Int)), some (jI j)] [jI j, jO (x + 3)] 0 0 w _
    refine jWp.callv (as := [jO (x + 3), jI j]) (rest := []) mt rfl rfl rfl ⟨rfl, jtg hX.X3⟩ ?_
    refine jCall.mono (E_has (w := w) (s := x + 3) (n := n) hX.X3 hn0 hn4 hrj) (fun v9 w9 h9 => ?_)
    rcases h9 with ⟨rfl, h9, h2⟩ | ⟨rfl, h9, h2⟩ <;> subst w9
    · have h2 : 0 ≤ j ∧ j < (n : Int) := h2
      show jWp 104 19 [some (jO x), some (jI (i1 : Int)), some (jI j)] [jI 1] 0 0 w _
      obtain ⟨j1, rfl⟩ : ∃ j1 : Nat, j = (j1 : Int) := ⟨j.toNat, by omega⟩
      show jWp 104 19 [some (jO x), some (jI (i1 : Int)), some (jI (j1 : Int))] [jI 1] 0 0 w _
      refine jWp.ifc (b := true) mt rfl (by decide) rfl ?_
      show jWp 104 28 [some (jO x), some (jI (i1 : Int)), some (jI (j1 : Int))] [] 0 0 w _
      refine jWp.blk mt 1 ?_
      show _ ∧ jWp 104 29 [some (jO x), some (jI (i1 : Int)), some (jI (j1 : Int))] [jO x] 0 0 w _
      refine ⟨rfl, ?_⟩
      refine jWp.getR (pc' := 32) (o := (x + 3)) mt rfl rfl (jtg hX.X0) hX.R4 ?_
      show jWp 104 32 [some (jO x), some (jI (i1 : Int)), some (jI (j1 : Int))] [jO (x + 3)] 0 0 w _
      refine jWp.blk mt 2 ?_
      show jWp 104 34 [some (jO x), some (jI (i1 : Int)), some (jI (j1 : Int))] [jI (j1 : Int), jI (i1 : Int), jO (x + 3)] 0 0 w _
      refine jWp.callv (as := [jO (x + 3), jI (i1 : Int), jI (j1 : Int)]) (rest := []) mt rfl rfl rfl ⟨rfl, jtg hX.X3⟩ ?_
      refine jCall.mono ((by have h := E_sb (w := w) (sc := x + 4) (i := i1) (j := j1) hX.X3 hX.X4 hX.Rc (by omega) (by omega); rw [show w.1 (x + 4) (8 + (4 * i1 + j1)) = q (1 + (4 * i1 + j1)) from (hRR.1 _ (by omega)).trans (cz_b (by omega))] at h; exact h)) (fun v9 w9 h9 => ?_)
      obtain ⟨rfl, h9⟩ := h9
      subst w9
      show jWp 104 37 [some (jO x), some (jI (i1 : Int)), some (jI (j1 : Int))] [jI (q (1 + (4 * i1 + j1)))] 0 0 w _
      refine jWp.ireti mt rfl ⟨rfl, rfl⟩ rfl ?_
      refine ⟨fun c0 => ?_, fun c0 => ?_⟩
      all_goals first
      | (exfalso; omega)
      | exact ⟨rfl, rfl⟩
    · have h2 : ¬ (0 ≤ j ∧ j < (n : Int)) := h2
      show jWp 104 19 [some (jO x), some (jI (i1 : Int)), some (jI j)] [jI 0] 0 0 w _
      refine jWp.ifc (b := false) mt rfl (by decide) rfl ?_
      show jWp 104 22 [some (jO x), some (jI (i1 : Int)), some (jI j)] [] 0 0 w _
      refine jWp.blk mt 2 ?_
      show _ ∧ jWp 104 24 [some (jO x), some (jI (i1 : Int)), some (jI j)] [jI (-1), jO x] 0 0 w _
      refine ⟨rfl, ?_⟩
      refine jWp.callv (as := [jO x, jI (-1)]) (rest := []) mt rfl rfl rfl ⟨rfl, jtg hX.X0⟩ ?_
      refine jCall.mono (C_far (w := w) (j := 0) hX (by decide) (by decide)) (fun v9 w9 h9 => ?_)
      obtain ⟨rfl, h9⟩ := h9
      subst h9
      show jWp 104 27 [some (jO x), some (jI (i1 : Int)), some (jI j)] [jI (1000000000 - (-1))] 0 0 (jW w (x + 362) 0 ((w.1 (x + 362) 0) + 1)) _
      refine jWp.ireti mt rfl ⟨rfl, rfl⟩ rfl ?_
      refine ⟨fun c0 => ?_, fun c0 => ?_⟩
      all_goals first
      | (exfalso; omega)
      | exact ⟨rfl, rfl⟩
  · have h1 : ¬ (0 ≤ i ∧ i < (n : Int)) := h1
    show jWp 104 8 [some (jO x), some (jI i), some (jI j)] [jI 0] 0 0 w _
    refine jWp.ifc (b := true) mt rfl (by decide) rfl ?_
    show jWp 104 22 [some (jO x), some (jI i), some (jI j)] [] 0 0 w _
    refine jWp.blk mt 2 ?_
    show _ ∧ jWp 104 24 [some (jO x), some (jI i), some (jI j)] [jI (-1), jO x] 0 0 w _
    refine ⟨rfl, ?_⟩
    refine jWp.callv (as := [jO x, jI (-1)]) (rest := []) mt rfl rfl rfl ⟨rfl, jtg hX.X0⟩ ?_
    refine jCall.mono (C_far (w := w) (j := 0) hX (by decide) (by decide)) (fun v9 w9 h9 => ?_)
    obtain ⟨rfl, h9⟩ := h9
    subst h9
    show jWp 104 27 [some (jO x), some (jI i), some (jI j)] [jI (1000000000 - (-1))] 0 0 (jW w (x + 362) 0 ((w.1 (x + 362) 0) + 1)) _
    refine jWp.ireti mt rfl ⟨rfl, rfl⟩ rfl ?_
    refine ⟨fun c0 => ?_, fun c0 => ?_⟩
    all_goals first
    | (exfalso; omega)
    | exact ⟨rfl, rfl⟩
theorem cR_d {g : Prop} {C q : Nat → Int} {n i j : Nat} (hR : cR g C q n) (gg : g) (h4 : n ≤ 4) (hi : i < n) (hj : j < n) : C (28 + (4 * i + j)) = q (29 + 4 * i + j) := (hR.2.1 gg _ (by omega) (by omega)).trans (cz_g h4 hi hj)
set_option maxHeartbeats 4000000 in
set_option maxRecDepth 20000 in
theorem C_power {w : jS} {x : Nat} (hX : CW w.2 x) {n : Nat} {q : Nat → Int} {g : Prop} (hQ : zQ q n) (hn0 : w.1 (x + 3) 0 = (n : Int)) (hRR : cR g (w.1 (x + 4)) q n) {i j : Int} (hri : r32 i) (hrj : r32 j) : jCall 106 [jO x, jI i, jI j] w (fun v w1 => ((¬ (0 ≤ i ∧ i < (n : Int)) ∨ ¬ (0 ≤ j ∧ j < (n : Int))) → cno w x 0 (jI (1000000000 - (-1))) v w1) ∧ (¬ (¬ (0 ≤ i ∧ i < (n : Int)) ∨ ¬ (0 ≤ j ∧ j < (n : Int))) → w1 = w ∧ ∃ y, v = some (jI y) ∧ (g → y = q (29 + 4 * i.toNat + j.toNat)))) := by
  have mt : jtb 106 = jT106 := rfl
  have hn2 := hQ.S.n2
  have hn4 := hQ.S.n4
  have hri1 : -2147483648 ≤ i ∧ i < 2147483648 := hri
  show jWp 106 0 [some (jO x), some (jI i), some (jI j)] [] 0 0 w _
  refine jWp.blk mt 1 ?_
  show _ ∧ jWp 106 1 [some (jO x), some (jI i), some (jI j)] [jO x] 0 0 w _
  refine ⟨rfl, ?_⟩
  refine jWp.getR (pc' := 4) (o := (x + 3)) mt rfl rfl (jtg hX.X0) hX.R4 ?_
  show jWp 106 4 [some (jO x), some (jI i), some (jI j)] [jO (x + 3)] 0 0 w _
  refine jWp.blk mt 1 ?_
  show jWp 106 5 [some (jO x), some (jI i), some (jI j)] [jI i, jO (x + 3)] 0 0 w _
  refine jWp.callv (as := [jO (x + 3), jI i]) (rest := []) mt rfl rfl rfl ⟨rfl, jtg hX.X3⟩ ?_
  refine jCall.mono (E_has (w := w) (s := x + 3) (n := n) hX.X3 hn0 hn4 hri) (fun v9 w9 h9 => ?_)
  rcases h9 with ⟨rfl, h9, h1⟩ | ⟨rfl, h9, h1⟩ <;> subst w9
  · have h1 : 0 ≤ i ∧ i < (n : Int) := h1
    show jWp 106 8 [some (jO x), some (jI i), some (jI j)] [jI 1] 0 0 w _
    obtain ⟨i1, rfl⟩ : ∃ i1 : Nat, i = (i1 : Int) := ⟨i.toNat, by omega⟩
    show jWp 106 8 [some (jO x), some (jI (i1 : Int)), some (jI j)] [jI 1] 0 0 w _
    refine jWp.ifc (b := false) mt rfl (by decide) rfl ?_
    show jWp 106 11 [some (jO x), some (jI (i1 : Int)), some (jI j)] [] 0 0 w _
    refine jWp.blk mt 1 ?_
    show _ ∧ jWp 106 12 [some (jO x), some (jI (i1 : Int)), some (jI j)] [jO x] 0 0 w _
    refine ⟨rfl, ?_⟩
    refine jWp.getR (pc' := 15) (o := (x + 3)) mt rfl rfl (jtg hX.X0) hX.R4 ?_
    show jWp 106 15 [some (jO x), some (jI (i1 : Int)), some (jI j)] [jO (x + 3)] 0 0 w _
    refine jWp.blk mt 1 ?_
    show jWp 106 16 [some (jO x), some (jI (i1 : Int)), some (jI j)] [jI j, jO (x + 3)] 0 0 w _
    refine jWp.callv (as := [jO (x + 3), jI j]) (rest := []) mt rfl rfl rfl ⟨rfl, jtg hX.X3⟩ ?_
    refine jCall.mono (E_has (w := w) (s := x + 3) (n := n) hX.X3 hn0 hn4 hrj) (fun v9 w9 h9 => ?_)
    rcases h9 with ⟨rfl, h9, h2⟩ | ⟨rfl, h9, h2⟩ <;> subst w9
    · have h2 : 0 ≤ j ∧ j < (n : Int) := h2
      show jWp 106 19 [some (jO x), some (jI (i1 : Int)), some (jI j)] [jI 1] 0 0 w _
      obtain ⟨j1, rfl⟩ : ∃ j1 : Nat, j = (j1 : Int) := ⟨j.toNat, by omega⟩
      show jWp 106 19 [some (jO x), some (jI (i1 : Int)), some (jI (j1 : Int))] [jI 1] 0 0 w _
      refine jWp.ifc (b := true) mt rfl (by decide) rfl ?_
      show jWp 106 28 [some (jO x), some (jI (i1 : Int)), some (jI (j1 : Int))] [] 0 0 w _
      refine jWp.blk mt 1 ?_
      show _ ∧ jWp 106 29 [some (jO x), some (jI (i1 : Int)), some (jI (j1 : Int))] [jO x] 0 0 w _
      refine ⟨rfl, ?_⟩
      refine jWp.getR (pc' := 32) (o := (x + 3)) mt rfl rfl (jtg hX.X0) hX.R4 ?_
      show jWp 106 32 [some (jO x), some (jI (i1 : Int)), some (jI (j1 : Int))] [jO (x + 3)] 0 0 w _
      refine jWp.blk mt 2 ?_
      show jWp 106 34 [some (jO x), some (jI (i1 : Int)), some (jI (j1 : Int))] [jI (j1 : Int), jI (i1 : Int), jO (x + 3)] 0 0 w _
      refine jWp.callv (as := [jO (x + 3), jI (i1 : Int), jI (j1 : Int)]) (rest := []) mt rfl rfl rfl ⟨rfl, jtg hX.X3⟩ ?_
      refine jCall.mono (E_sd (w := w) (sc := x + 4) (n := n) (i := i1) (j := j1) hX.X3 hX.X4 hX.Rc hn0 hn4 (by omega) (by omega)) (fun v9 w9 h9 => ?_)
      obtain ⟨rfl, h9⟩ := h9
      subst w9
      show jWp 106 37 [some (jO x), some (jI (i1 : Int)), some (jI (j1 : Int))] [jI (w.1 (x + 4) (28 + (4 * i1 + j1)))] 0 0 w _
      refine jWp.ireti mt rfl ⟨rfl, rfl⟩ rfl ?_
      refine ⟨fun c0 => ?_, fun c0 => ?_⟩
      all_goals first
      | (exfalso; omega)
      | exact ⟨rfl, rfl⟩
      | exact ⟨rfl, _, rfl, fun gg => cR_d hRR gg hn4 (by omega) (by omega)⟩
    · have h2 : ¬ (0 ≤ j ∧ j < (n : Int)) := h2
      show jWp 106 19 [some (jO x), some (jI (i1 : Int)), some (jI j)] [jI 0] 0 0 w _
      refine jWp.ifc (b := false) mt rfl (by decide) rfl ?_
      show jWp 106 22 [some (jO x), some (jI (i1 : Int)), some (jI j)] [] 0 0 w _
      refine jWp.blk mt 2 ?_
      show _ ∧ jWp 106 24 [some (jO x), some (jI (i1 : Int)), some (jI j)] [jI (-1), jO x] 0 0 w _
      refine ⟨rfl, ?_⟩
      refine jWp.callv (as := [jO x, jI (-1)]) (rest := []) mt rfl rfl rfl ⟨rfl, jtg hX.X0⟩ ?_
      refine jCall.mono (C_far (w := w) (j := 0) hX (by decide) (by decide)) (fun v9 w9 h9 => ?_)
      obtain ⟨rfl, h9⟩ := h9
      subst h9
      show jWp 106 27 [some (jO x), some (jI (i1 : Int)), some (jI j)] [jI (1000000000 - (-1))] 0 0 (jW w (x + 362) 0 ((w.1 (x + 362) 0) + 1)) _
      refine jWp.ireti mt rfl ⟨rfl, rfl⟩ rfl ?_
      refine ⟨fun c0 => ?_, fun c0 => ?_⟩
      all_goals first
      | (exfalso; omega)
      | exact ⟨rfl, rfl⟩
      | exact ⟨rfl, _, rfl, fun gg => cR_d hRR gg hn4 (by omega) (by omega)⟩
  · have h1 : ¬ (0 ≤ i ∧ i < (n : Int)) := h1
    show jWp 106 8 [some (jO x), some (jI i), some (jI j)] [jI 0] 0 0 w _
    refine jWp.ifc (b := true) mt rfl (by decide) rfl ?_
    show jWp 106 22 [some (jO x), some (jI i), some (jI j)] [] 0 0 w _
    refine jWp.blk mt 2 ?_
    show _ ∧ jWp 106 24 [some (jO x), some (jI i), some (jI j)] [jI (-1), jO x] 0 0 w _
    refine ⟨rfl, ?_⟩
    refine jWp.callv (as := [jO x, jI (-1)]) (rest := []) mt rfl rfl rfl ⟨rfl, jtg hX.X0⟩ ?_
    refine jCall.mono (C_far (w := w) (j := 0) hX (by decide) (by decide)) (fun v9 w9 h9 => ?_)
    obtain ⟨rfl, h9⟩ := h9
    subst h9
    show jWp 106 27 [some (jO x), some (jI i), some (jI j)] [jI (1000000000 - (-1))] 0 0 (jW w (x + 362) 0 ((w.1 (x + 362) 0) + 1)) _
    refine jWp.ireti mt rfl ⟨rfl, rfl⟩ rfl ?_
    refine ⟨fun c0 => ?_, fun c0 => ?_⟩
    all_goals first
    | (exfalso; omega)
    | exact ⟨rfl, rfl⟩
    | exact ⟨rfl, _, rfl, fun gg => cR_d hRR gg hn4 (by omega) (by omega)⟩
set_option maxHeartbeats 4000000 in
set_option maxRecDepth 20000 in
theorem C_whole {w : jS} {x : Nat} (hX : CW w.2 x) {n : Nat} {q : Nat → Int} {g : Prop} (hQ : zQ q n) (hn0 : w.1 (x + 3) 0 = (n : Int)) (hRR : cR g (w.1 (x + 4)) q n) {i : Int} (hri : r32 i) : jCall 110 [jO x, jI i] w (fun v w1 => ((¬ (0 ≤ i ∧ i < (n : Int))) → cno w x 0 (jI (-1)) v w1) ∧ (¬ (¬ (0 ≤ i ∧ i < (n : Int))) → w1 = w ∧ ∃ y, v = some (jI y) ∧ (y = 0 ∨ y = 1) ∧ (q (25 + i.toNat) = 1 → y = 1))) := by
  have mt : jtb 110 = jT110 := rfl
  have hn2 := hQ.S.n2
  have hn4 := hQ.S.n4
  have hri1 : -2147483648 ≤ i ∧ i < 2147483648 := hri
  show jWp 110 0 [some (jO x), some (jI i)] [] 0 0 w _
  refine jWp.blk mt 1 ?_
  show _ ∧ jWp 110 1 [some (jO x), some (jI i)] [jO x] 0 0 w _
  refine ⟨rfl, ?_⟩
  refine jWp.getR (pc' := 4) (o := (x + 3)) mt rfl rfl (jtg hX.X0) hX.R4 ?_
  show jWp 110 4 [some (jO x), some (jI i)] [jO (x + 3)] 0 0 w _
  refine jWp.blk mt 1 ?_
  show jWp 110 5 [some (jO x), some (jI i)] [jI i, jO (x + 3)] 0 0 w _
  refine jWp.callv (as := [jO (x + 3), jI i]) (rest := []) mt rfl rfl rfl ⟨rfl, jtg hX.X3⟩ ?_
  refine jCall.mono (E_has (w := w) (s := x + 3) (n := n) hX.X3 hn0 hn4 hri) (fun v9 w9 h9 => ?_)
  rcases h9 with ⟨rfl, h9, h1⟩ | ⟨rfl, h9, h1⟩ <;> subst w9
  · have h1 : 0 ≤ i ∧ i < (n : Int) := h1
    show jWp 110 8 [some (jO x), some (jI i)] [jI 1] 0 0 w _
    obtain ⟨i1, rfl⟩ : ∃ i1 : Nat, i = (i1 : Int) := ⟨i.toNat, by omega⟩
    show jWp 110 8 [some (jO x), some (jI (i1 : Int))] [jI 1] 0 0 w _
    refine jWp.ifc (b := true) mt rfl (by decide) rfl ?_
    show jWp 110 17 [some (jO x), some (jI (i1 : Int))] [] 0 0 w _
    refine jWp.blk mt 1 ?_
    show _ ∧ jWp 110 18 [some (jO x), some (jI (i1 : Int))] [jO x] 0 0 w _
    refine ⟨rfl, ?_⟩
    refine jWp.getR (pc' := 21) (o := (x + 3)) mt rfl rfl (jtg hX.X0) hX.R4 ?_
    show jWp 110 21 [some (jO x), some (jI (i1 : Int))] [jO (x + 3)] 0 0 w _
    refine jWp.blk mt 1 ?_
    show jWp 110 22 [some (jO x), some (jI (i1 : Int))] [jI (i1 : Int), jO (x + 3)] 0 0 w _
    refine jWp.callv (as := [jO (x + 3), jI (i1 : Int)]) (rest := []) mt rfl rfl rfl ⟨rfl, jtg hX.X3⟩ ?_
    refine jCall.mono (C_isWhole (w := w) (s := x + 3) (sc := x + 4) (n := n) (q := q) hX.X3 hX.X4 hX.Rc hn0 hn4 hQ hRR.1 (i := i1) (by omega)) (fun v9 w9 h9 => ?_)
    obtain ⟨h9, yw, rfl, hyw, hyx⟩ := h9
    subst w9
    show jWp 110 25 [some (jO x), some (jI (i1 : Int))] [jI yw] 0 0 w _
    refine jWp.ifz (pc' := 28) mt rfl rfl (b32_id (by omega) (by omega)) (fun h2 => ?_) (fun h2 => ?_)
    · have h2 : yw = 0 := h2
      refine jWp.blk mt 1 ?_
      show jWp 110 33 [some (jO x), some (jI (i1 : Int))] [jI 0] 0 0 w _
      refine jWp.ireti mt rfl ⟨rfl, rfl⟩ rfl ?_
      refine ⟨fun c0 => ?_, fun c0 => ?_⟩
      all_goals first
      | (exfalso; omega)
      | exact ⟨rfl, rfl⟩
      | exact ⟨rfl, _, rfl, by first | exact Or.inl rfl | exact Or.inr rfl, fun z => by first | rfl | (have := hyx z; omega)⟩
    · have h2 : yw ≠ 0 := h2
      refine jWp.blk mt 2 ?_
      show jWp 110 33 [some (jO x), some (jI (i1 : Int))] [jI 1] 0 0 w _
      refine jWp.ireti mt rfl ⟨rfl, rfl⟩ rfl ?_
      refine ⟨fun c0 => ?_, fun c0 => ?_⟩
      all_goals first
      | (exfalso; omega)
      | exact ⟨rfl, rfl⟩
      | exact ⟨rfl, _, rfl, by first | exact Or.inl rfl | exact Or.inr rfl, fun z => by first | rfl | (have := hyx z; omega)⟩
  · have h1 : ¬ (0 ≤ i ∧ i < (n : Int)) := h1
    show jWp 110 8 [some (jO x), some (jI i)] [jI 0] 0 0 w _
    refine jWp.ifc (b := false) mt rfl (by decide) rfl ?_
    show jWp 110 11 [some (jO x), some (jI i)] [] 0 0 w _
    refine jWp.blk mt 2 ?_
    show _ ∧ jWp 110 13 [some (jO x), some (jI i)] [jI (-1), jO x] 0 0 w _
    refine ⟨rfl, ?_⟩
    refine jWp.callv (as := [jO x, jI (-1)]) (rest := []) mt rfl rfl rfl ⟨rfl, jtg hX.X0⟩ ?_
    refine jCall.mono (C_refuse (w := w) (j := 0) hX (by decide) (by decide)) (fun v9 w9 h9 => ?_)
    obtain ⟨rfl, h9⟩ := h9
    subst h9
    show jWp 110 16 [some (jO x), some (jI i)] [jI (-1)] 0 0 (jW w (x + 362) 0 ((w.1 (x + 362) 0) + 1)) _
    refine jWp.ireti mt rfl ⟨rfl, rfl⟩ rfl ?_
    refine ⟨fun c0 => ?_, fun c0 => ?_⟩
    all_goals first
    | (exfalso; omega)
    | exact ⟨rfl, rfl⟩
    | exact ⟨rfl, _, rfl, by first | exact Or.inl rfl | exact Or.inr rfl, fun z => by first | rfl | (have := hyx z; omega)⟩
set_option maxHeartbeats 4000000 in
set_option maxRecDepth 20000 in
theorem C_sinks {w : jS} {x : Nat} (hX : CW w.2 x) {n : Nat} {q : Nat → Int} {g : Prop} (hQ : zQ q n) (hn0 : w.1 (x + 3) 0 = (n : Int)) (hRR : cR g (w.1 (x + 4)) q n) {a : Int} (hra : r32 a) : jCall 111 [jO x, jI a] w (fun v w1 => ((¬ (0 ≤ a ∧ a ≤ 1)) → cno w x 1 (jI (-2)) v w1) ∧ (¬ (¬ (0 ≤ a ∧ a ≤ 1)) → v = some (jI (zbt (zsi q a n) n)) ∧ w1 = w)) := by
  have mt : jtb 111 = jT111 := rfl
  have hn2 := hQ.S.n2
  have hn4 := hQ.S.n4
  have hra1 : -2147483648 ≤ a ∧ a < 2147483648 := hra
  show jWp 111 0 [some (jO x), some (jI a)] [] 0 0 w _
  refine jWp.blk mt 1 ?_
  show jWp 111 1 [some (jO x), some (jI a)] [jI a] 0 0 w _
  refine jWp.ifz (pc' := 4) mt rfl rfl (b32_id (by omega) (by omega)) (fun h1 => ?_) (fun h1 => ?_)
  · have h1 : a = 0 := h1
    refine jWp.blk mt 1 ?_
    show _ ∧ jWp 111 17 [some (jO x), some (jI a)] [jO x] 0 0 w _
    refine ⟨rfl, ?_⟩
    refine jWp.getR (pc' := 20) (o := (x + 3)) mt rfl rfl (jtg hX.X0) hX.R4 ?_
    show jWp 111 20 [some (jO x), some (jI a)] [jO (x + 3)] 0 0 w _
    refine jWp.blk mt 1 ?_
    show jWp 111 21 [some (jO x), some (jI a)] [jI a, jO (x + 3)] 0 0 w _
    refine jWp.ifz (pc' := 24) mt rfl rfl (b32_id (by omega) (by omega)) (fun h2 => ?_) (fun h2 => ?_)
    · have h2 : a ≠ 0 := h2
      refine jWp.blk mt 1 ?_
      show jWp 111 29 [some (jO x), some (jI a)] [jI 1, jO (x + 3)] 0 0 w _
      refine jWp.callv (as := [jO (x + 3), jI 1]) (rest := []) mt rfl rfl rfl ⟨rfl, jtg hX.X3⟩ ?_
      refine jCall.mono (C_without (w := w) (s := x + 3) (sc := x + 4) (n := n) (q := q) (a := a) hX.X3 hX.X4 hX.Rc hn0 hn4 hQ hRR.1 (by omega)) (fun v9 w9 h9 => ?_)
      obtain ⟨rfl, h9⟩ := h9
      subst w9
      show jWp 111 32 [some (jO x), some (jI a)] [jI (zbt (zsi q a n) n)] 0 0 w _
      refine jWp.ireti mt rfl ⟨rfl, rfl⟩ rfl ?_
      refine ⟨fun c0 => ?_, fun c0 => ?_⟩
      all_goals first
      | (exfalso; omega)
      | exact ⟨rfl, rfl⟩
    · have h2 : a = 0 := h2
      refine jWp.blk mt 2 ?_
      show jWp 111 29 [some (jO x), some (jI a)] [jI (-1), jO (x + 3)] 0 0 w _
      refine jWp.callv (as := [jO (x + 3), jI (-1)]) (rest := []) mt rfl rfl rfl ⟨rfl, jtg hX.X3⟩ ?_
      refine jCall.mono (C_without (w := w) (s := x + 3) (sc := x + 4) (n := n) (q := q) (a := a) hX.X3 hX.X4 hX.Rc hn0 hn4 hQ hRR.1 (by omega)) (fun v9 w9 h9 => ?_)
      obtain ⟨rfl, h9⟩ := h9
      subst w9
      show jWp 111 32 [some (jO x), some (jI a)] [jI (zbt (zsi q a n) n)] 0 0 w _
      refine jWp.ireti mt rfl ⟨rfl, rfl⟩ rfl ?_
      refine ⟨fun c0 => ?_, fun c0 => ?_⟩
      all_goals first
      | (exfalso; omega)
      | exact ⟨rfl, rfl⟩
  · have h1 : a ≠ 0 := h1
    refine jWp.blk mt 2 ?_
    show jWp 111 6 [some (jO x), some (jI a)] [jI 1, jI a] 0 0 w _
    refine jWp.icmp (pc' := 9) mt rfl rfl (b32_id (by omega) (by omega)) (show b32 1 = 1 by decide) (fun h3 => ?_) (fun h3 => ?_)
    · have h3 : a = 1 := h3
      refine jWp.blk mt 1 ?_
      show _ ∧ jWp 111 17 [some (jO x), some (jI a)] [jO x] 0 0 w _
      refine ⟨rfl, ?_⟩
      refine jWp.getR (pc' := 20) (o := (x + 3)) mt rfl rfl (jtg hX.X0) hX.R4 ?_
      show jWp 111 20 [some (jO x), some (jI a)] [jO (x + 3)] 0 0 w _
      refine jWp.blk mt 1 ?_
      show jWp 111 21 [some (jO x), some (jI a)] [jI a, jO (x + 3)] 0 0 w _
      refine jWp.ifz (pc' := 24) mt rfl rfl (b32_id (by omega) (by omega)) (fun h4 => ?_) (fun h4 => ?_)
      · have h4 : a ≠ 0 := h4
        refine jWp.blk mt 1 ?_
        show jWp 111 29 [some (jO x), some (jI a)] [jI 1, jO (x + 3)] 0 0 w _
        refine jWp.callv (as := [jO (x + 3), jI 1]) (rest := []) mt rfl rfl rfl ⟨rfl, jtg hX.X3⟩ ?_
        refine jCall.mono (C_without (w := w) (s := x + 3) (sc := x + 4) (n := n) (q := q) (a := a) hX.X3 hX.X4 hX.Rc hn0 hn4 hQ hRR.1 (by omega)) (fun v9 w9 h9 => ?_)
        obtain ⟨rfl, h9⟩ := h9
        subst w9
        show jWp 111 32 [some (jO x), some (jI a)] [jI (zbt (zsi q a n) n)] 0 0 w _
        refine jWp.ireti mt rfl ⟨rfl, rfl⟩ rfl ?_
        refine ⟨fun c0 => ?_, fun c0 => ?_⟩
        all_goals first
        | (exfalso; omega)
        | exact ⟨rfl, rfl⟩
      · have h4 : a = 0 := h4
        refine jWp.blk mt 2 ?_
        show jWp 111 29 [some (jO x), some (jI a)] [jI (-1), jO (x + 3)] 0 0 w _
        refine jWp.callv (as := [jO (x + 3), jI (-1)]) (rest := []) mt rfl rfl rfl ⟨rfl, jtg hX.X3⟩ ?_
        refine jCall.mono (C_without (w := w) (s := x + 3) (sc := x + 4) (n := n) (q := q) (a := a) hX.X3 hX.X4 hX.Rc hn0 hn4 hQ hRR.1 (by omega)) (fun v9 w9 h9 => ?_)
        obtain ⟨rfl, h9⟩ := h9
        subst w9
        show jWp 111 32 [some (jO x), some (jI a)] [jI (zbt (zsi q a n) n)] 0 0 w _
        refine jWp.ireti mt rfl ⟨rfl, rfl⟩ rfl ?_
        refine ⟨fun c0 => ?_, fun c0 => ?_⟩
        all_goals first
        | (exfalso; omega)
        | exact ⟨rfl, rfl⟩
    · have h3 : a ≠ 1 := h3
      refine jWp.blk mt 2 ?_
      show _ ∧ jWp 111 12 [some (jO x), some (jI a)] [jI (-2), jO x] 0 0 w _
      refine ⟨rfl, ?_⟩
      refine jWp.callv (as := [jO x, jI (-2)]) (rest := []) mt rfl rfl rfl ⟨rfl, jtg hX.X0⟩ ?_
      refine jCall.mono (C_refuse (w := w) (j := 1) hX (by decide) (by decide)) (fun v9 w9 h9 => ?_)
      obtain ⟨rfl, h9⟩ := h9
      subst h9
      show jWp 111 15 [some (jO x), some (jI a)] [jI (-2)] 0 0 (jW w (x + 362) 1 ((w.1 (x + 362) 1) + 1)) _
      refine jWp.ireti mt rfl ⟨rfl, rfl⟩ rfl ?_
      refine ⟨fun c0 => ?_, fun c0 => ?_⟩
      all_goals first
      | (exfalso; omega)
      | exact ⟨rfl, rfl⟩
