/-! ===== by program: the first cells of the world ===== -/
def stT : List (Nat × Nat) := [(8, 0), (105, 6), (5, 0), (100, 54), (100, 54), (2, 0), (1, 0), (100, 35), (106, 12), (7, 0), (100, 60), (100, 60), (107, 12), (100, 4)]
def stR0 : List (Nat × Nat × Nat) := [(0, 0, 1), (0, 6, 2), (0, 7, 5), (0, 8, 6), (0, 9, 8), (0, 11, 9), (0, 12, 12), (0, 14, 13), (2, 0, 3), (2, 1, 4), (6, 0, 7), (9, 0, 10), (9, 1, 11)]
def ST (B : Nat) (M : AMem) : Prop := (∀ k, k < 14 → mT M (B + k) = stT.getD k (0, 0)) ∧ (∀ e ∈ stR0, mR M (B + e.1) e.2.1 = some (B + e.2.2)) ∧ B + 14 ≤ mN M
theorem tT0 {B : Nat} {M : AMem} (h : ST B M) : mT M (B) = (8, 0) := h.1 0 (by decide)
theorem tT1 {B : Nat} {M : AMem} (h : ST B M) : mT M (B + 1) = (105, 6) := h.1 1 (by decide)
theorem tT2 {B : Nat} {M : AMem} (h : ST B M) : mT M (B + 2) = (5, 0) := h.1 2 (by decide)
theorem tT3 {B : Nat} {M : AMem} (h : ST B M) : mT M (B + 3) = (100, 54) := h.1 3 (by decide)
theorem tT4 {B : Nat} {M : AMem} (h : ST B M) : mT M (B + 4) = (100, 54) := h.1 4 (by decide)
theorem tT5 {B : Nat} {M : AMem} (h : ST B M) : mT M (B + 5) = (2, 0) := h.1 5 (by decide)
theorem tT6 {B : Nat} {M : AMem} (h : ST B M) : mT M (B + 6) = (1, 0) := h.1 6 (by decide)
theorem tT7 {B : Nat} {M : AMem} (h : ST B M) : mT M (B + 7) = (100, 35) := h.1 7 (by decide)
theorem tT8 {B : Nat} {M : AMem} (h : ST B M) : mT M (B + 8) = (106, 12) := h.1 8 (by decide)
theorem tT9 {B : Nat} {M : AMem} (h : ST B M) : mT M (B + 9) = (7, 0) := h.1 9 (by decide)
theorem tT10 {B : Nat} {M : AMem} (h : ST B M) : mT M (B + 10) = (100, 60) := h.1 10 (by decide)
theorem tT11 {B : Nat} {M : AMem} (h : ST B M) : mT M (B + 11) = (100, 60) := h.1 11 (by decide)
theorem tT12 {B : Nat} {M : AMem} (h : ST B M) : mT M (B + 12) = (107, 12) := h.1 12 (by decide)
theorem tT13 {B : Nat} {M : AMem} (h : ST B M) : mT M (B + 13) = (100, 4) := h.1 13 (by decide)
theorem tR0_0 {B : Nat} {M : AMem} (h : ST B M) : mR M (B) 0 = some (B + 1) := h.2.1 (0, 0, 1) (List.mem_of_getElem? (i := 0) rfl)
theorem tR0_6 {B : Nat} {M : AMem} (h : ST B M) : mR M (B) 6 = some (B + 2) := h.2.1 (0, 6, 2) (List.mem_of_getElem? (i := 1) rfl)
theorem tR0_7 {B : Nat} {M : AMem} (h : ST B M) : mR M (B) 7 = some (B + 5) := h.2.1 (0, 7, 5) (List.mem_of_getElem? (i := 2) rfl)
theorem tR0_8 {B : Nat} {M : AMem} (h : ST B M) : mR M (B) 8 = some (B + 6) := h.2.1 (0, 8, 6) (List.mem_of_getElem? (i := 3) rfl)
theorem tR0_9 {B : Nat} {M : AMem} (h : ST B M) : mR M (B) 9 = some (B + 8) := h.2.1 (0, 9, 8) (List.mem_of_getElem? (i := 4) rfl)
theorem tR0_11 {B : Nat} {M : AMem} (h : ST B M) : mR M (B) 11 = some (B + 9) := h.2.1 (0, 11, 9) (List.mem_of_getElem? (i := 5) rfl)
theorem tR0_12 {B : Nat} {M : AMem} (h : ST B M) : mR M (B) 12 = some (B + 12) := h.2.1 (0, 12, 12) (List.mem_of_getElem? (i := 6) rfl)
theorem tR0_14 {B : Nat} {M : AMem} (h : ST B M) : mR M (B) 14 = some (B + 13) := h.2.1 (0, 14, 13) (List.mem_of_getElem? (i := 7) rfl)
theorem tR2_0 {B : Nat} {M : AMem} (h : ST B M) : mR M (B + 2) 0 = some (B + 3) := h.2.1 (2, 0, 3) (List.mem_of_getElem? (i := 8) rfl)
theorem tR2_1 {B : Nat} {M : AMem} (h : ST B M) : mR M (B + 2) 1 = some (B + 4) := h.2.1 (2, 1, 4) (List.mem_of_getElem? (i := 9) rfl)
theorem tR6_0 {B : Nat} {M : AMem} (h : ST B M) : mR M (B + 6) 0 = some (B + 7) := h.2.1 (6, 0, 7) (List.mem_of_getElem? (i := 10) rfl)
theorem tR9_0 {B : Nat} {M : AMem} (h : ST B M) : mR M (B + 9) 0 = some (B + 10) := h.2.1 (9, 0, 10) (List.mem_of_getElem? (i := 11) rfl)
theorem tR9_1 {B : Nat} {M : AMem} (h : ST B M) : mR M (B + 9) 1 = some (B + 11) := h.2.1 (9, 1, 11) (List.mem_of_getElem? (i := 12) rfl)
theorem ST_stI {B a : Nat} {M : AMem} {f : Nat → Int32} : ST B (stI M a f) = ST B M := rfl
theorem ST_stL {B a : Nat} {M : AMem} {f : Nat → Int64} : ST B (stL M a f) = ST B M := rfl
theorem ST_stD {B a : Nat} {M : AMem} {f : Nat → UInt64} : ST B (stD M a f) = ST B M := rfl
