/-! ===== the worlds that the two constructors make ===== -/
def GX : List GE := [.inl (7, [.ref 1, .ref 2, .ref 3, .ref 4, .ref 6, .ref 8, .ref 11, .ref 12, .ref 13, .ref 14, .ref 21, .int 2, .int 0, .int 0, .int 0, .int 0, .int 0]),
  .inr (.inr (14, [some 24, some 29, some 34, some 39, some 44, some 49, some 54, some 59])),
  .inr (.inr (12, [some 64, some 71, some 78, some 85, some 92, some 99, some 106, some 113, some 120, some 127])),
  .inr (.inr (13, [some 134, some 138, some 142, some 146, some 150, some 154, some 158, some 162, some 166, some 170])),
  .inl (5, [.ref 5, .int 0, .int 0]),
  .inr (.inl (9, List.replicate 80 0)),
  .inl (2, [.ref 7, .int 0]),
  .inr (.inl (9, List.replicate 48 0)),
  .inl (1, [.ref 9, .ref 10, .int 0, .int 0]),
  .inr (.inl (9, List.replicate 8 0)),
  .inr (.inl (9, List.replicate 8 0)),
  .inr (.inl (9, [1, 2, 3, 5, 8, 12, 18, 25, 35, 50])),
  .inr (.inl (9, [0, 0, 0, 0, 0])),
  .inr (.inl (9, List.replicate 9 0)),
  .inl (0, [.ref 15, .ref 16, .int (-1), .int 1, .int 0, .int 0, .int 0, .int (-1), .int 0, .int 0, .int 0, .int 0, .int 0, .int 0]),
  .inr (.inr (11, [some 17, some 18, some 19, some 20])),
  .inr (.inl (9, [0, 0, 0])),
  .inl (6, [.int 0, .int (-1), .int 0, .int 0, .int 0, .int 0]),
  .inl (6, [.int 0, .int (-1), .int 0, .int 0, .int 0, .int 0]),
  .inl (6, [.int 0, .int (-1), .int 0, .int 0, .int 0, .int 0]),
  .inl (6, [.int 0, .int (-1), .int 0, .int 0, .int 0, .int 0]),
  .inl (1, [.ref 22, .ref 23, .int 0, .int 0]),
  .inr (.inl (9, List.replicate 8 0)),
  .inr (.inl (9, List.replicate 8 0)),
  .inl (4, [.ref 25, .ref 26, .ref 27, .ref 28, .int 100, .int 0, .int 0, .int 4]),
  .inr (.inl (9, List.replicate 48 (-9999))),
  .inr (.inl (9, List.replicate 48 150)),
  .inr (.inl (9, List.replicate 24 0)),
  .inr (.inl (9, List.replicate 24 0)),
  .inl (4, [.ref 30, .ref 31, .ref 32, .ref 33, .int 100, .int 0, .int 0, .int (-1)]),
  .inr (.inl (9, List.replicate 48 (-9999))),
  .inr (.inl (9, List.replicate 48 150)),
  .inr (.inl (9, List.replicate 24 0)),
  .inr (.inl (9, List.replicate 24 0)),
  .inl (4, [.ref 35, .ref 36, .ref 37, .ref 38, .int 100, .int 0, .int 0, .int (-1)]),
  .inr (.inl (9, List.replicate 48 (-9999))),
  .inr (.inl (9, List.replicate 48 150)),
  .inr (.inl (9, List.replicate 24 0)),
  .inr (.inl (9, List.replicate 24 0)),
  .inl (4, [.ref 40, .ref 41, .ref 42, .ref 43, .int 100, .int 0, .int 0, .int (-1)]),
  .inr (.inl (9, List.replicate 48 (-9999))),
  .inr (.inl (9, List.replicate 48 150)),
  .inr (.inl (9, List.replicate 24 0)),
  .inr (.inl (9, List.replicate 24 0)),
  .inl (4, [.ref 45, .ref 46, .ref 47, .ref 48, .int 100, .int 0, .int 0, .int (-1)]),
  .inr (.inl (9, List.replicate 48 (-9999))),
  .inr (.inl (9, List.replicate 48 150)),
  .inr (.inl (9, List.replicate 24 0)),
  .inr (.inl (9, List.replicate 24 0)),
  .inl (4, [.ref 50, .ref 51, .ref 52, .ref 53, .int 100, .int 0, .int 0, .int (-1)]),
  .inr (.inl (9, List.replicate 48 (-9999))),
  .inr (.inl (9, List.replicate 48 150)),
  .inr (.inl (9, List.replicate 24 0)),
  .inr (.inl (9, List.replicate 24 0)),
  .inl (4, [.ref 55, .ref 56, .ref 57, .ref 58, .int 100, .int 0, .int 0, .int (-1)]),
  .inr (.inl (9, List.replicate 48 (-9999))),
  .inr (.inl (9, List.replicate 48 150)),
  .inr (.inl (9, List.replicate 24 0)),
  .inr (.inl (9, List.replicate 24 0)),
  .inl (4, [.ref 60, .ref 61, .ref 62, .ref 63, .int 100, .int 0, .int 0, .int (-1)]),
  .inr (.inl (9, List.replicate 48 (-9999))),
  .inr (.inl (9, List.replicate 48 150)),
  .inr (.inl (9, List.replicate 24 0)),
  .inr (.inl (9, List.replicate 24 0)),
  .inl (0, [.ref 65, .ref 66, .int 0, .int 1, .int 0, .int 0, .int 0, .int (-1), .int 0, .int 0, .int 0, .int 0, .int 0, .int 0]),
  .inr (.inr (11, [some 67, some 68, some 69, some 70])),
  .inr (.inl (9, [0, 0, 0])),
  .inl (6, [.int 0, .int (-1), .int 0, .int 0, .int 0, .int 0]),
  .inl (6, [.int 0, .int (-1), .int 0, .int 0, .int 0, .int 0]),
  .inl (6, [.int 0, .int (-1), .int 0, .int 0, .int 0, .int 0]),
  .inl (6, [.int 0, .int (-1), .int 0, .int 0, .int 0, .int 0]),
  .inl (0, [.ref 72, .ref 73, .int 1, .int 1, .int 0, .int 0, .int 0, .int (-1), .int 0, .int 0, .int 0, .int 0, .int 0, .int 0]),
  .inr (.inr (11, [some 74, some 75, some 76, some 77])),
  .inr (.inl (9, [0, 0, 0])),
  .inl (6, [.int 0, .int (-1), .int 0, .int 0, .int 0, .int 0]),
  .inl (6, [.int 0, .int (-1), .int 0, .int 0, .int 0, .int 0]),
  .inl (6, [.int 0, .int (-1), .int 0, .int 0, .int 0, .int 0]),
  .inl (6, [.int 0, .int (-1), .int 0, .int 0, .int 0, .int 0]),
  .inl (0, [.ref 79, .ref 80, .int 2, .int 1, .int 0, .int 0, .int 0, .int (-1), .int 0, .int 0, .int 0, .int 0, .int 0, .int 0]),
  .inr (.inr (11, [some 81, some 82, some 83, some 84])),
  .inr (.inl (9, [0, 0, 0])),
  .inl (6, [.int 0, .int (-1), .int 0, .int 0, .int 0, .int 0]),
  .inl (6, [.int 0, .int (-1), .int 0, .int 0, .int 0, .int 0]),
  .inl (6, [.int 0, .int (-1), .int 0, .int 0, .int 0, .int 0]),
  .inl (6, [.int 0, .int (-1), .int 0, .int 0, .int 0, .int 0]),
  .inl (0, [.ref 86, .ref 87, .int 3, .int 1, .int 0, .int 0, .int 0, .int (-1), .int 0, .int 0, .int 0, .int 0, .int 0, .int 0]),
  .inr (.inr (11, [some 88, some 89, some 90, some 91])),
  .inr (.inl (9, [0, 0, 0])),
  .inl (6, [.int 0, .int (-1), .int 0, .int 0, .int 0, .int 0]),
  .inl (6, [.int 0, .int (-1), .int 0, .int 0, .int 0, .int 0]),
  .inl (6, [.int 0, .int (-1), .int 0, .int 0, .int 0, .int 0]),
  .inl (6, [.int 0, .int (-1), .int 0, .int 0, .int 0, .int 0]),
  .inl (0, [.ref 93, .ref 94, .int 4, .int 1, .int 0, .int 0, .int 0, .int (-1), .int 0, .int 0, .int 0, .int 0, .int 0, .int 0]),
  .inr (.inr (11, [some 95, some 96, some 97, some 98])),
  .inr (.inl (9, [0, 0, 0])),
  .inl (6, [.int 0, .int (-1), .int 0, .int 0, .int 0, .int 0]),
  .inl (6, [.int 0, .int (-1), .int 0, .int 0, .int 0, .int 0]),
  .inl (6, [.int 0, .int (-1), .int 0, .int 0, .int 0, .int 0]),
  .inl (6, [.int 0, .int (-1), .int 0, .int 0, .int 0, .int 0]),
  .inl (0, [.ref 100, .ref 101, .int 5, .int 1, .int 0, .int 0, .int 0, .int (-1), .int 0, .int 0, .int 0, .int 0, .int 0, .int 0]),
  .inr (.inr (11, [some 102, some 103, some 104, some 105])),
  .inr (.inl (9, [0, 0, 0])),
  .inl (6, [.int 0, .int (-1), .int 0, .int 0, .int 0, .int 0]),
  .inl (6, [.int 0, .int (-1), .int 0, .int 0, .int 0, .int 0]),
  .inl (6, [.int 0, .int (-1), .int 0, .int 0, .int 0, .int 0]),
  .inl (6, [.int 0, .int (-1), .int 0, .int 0, .int 0, .int 0]),
  .inl (0, [.ref 107, .ref 108, .int 6, .int 1, .int 0, .int 0, .int 0, .int (-1), .int 0, .int 0, .int 0, .int 0, .int 0, .int 0]),
  .inr (.inr (11, [some 109, some 110, some 111, some 112])),
  .inr (.inl (9, [0, 0, 0])),
  .inl (6, [.int 0, .int (-1), .int 0, .int 0, .int 0, .int 0]),
  .inl (6, [.int 0, .int (-1), .int 0, .int 0, .int 0, .int 0]),
  .inl (6, [.int 0, .int (-1), .int 0, .int 0, .int 0, .int 0]),
  .inl (6, [.int 0, .int (-1), .int 0, .int 0, .int 0, .int 0]),
  .inl (0, [.ref 114, .ref 115, .int 7, .int 1, .int 0, .int 0, .int 0, .int (-1), .int 0, .int 0, .int 0, .int 0, .int 0, .int 0]),
  .inr (.inr (11, [some 116, some 117, some 118, some 119])),
  .inr (.inl (9, [0, 0, 0])),
  .inl (6, [.int 0, .int (-1), .int 0, .int 0, .int 0, .int 0]),
  .inl (6, [.int 0, .int (-1), .int 0, .int 0, .int 0, .int 0]),
  .inl (6, [.int 0, .int (-1), .int 0, .int 0, .int 0, .int 0]),
  .inl (6, [.int 0, .int (-1), .int 0, .int 0, .int 0, .int 0]),
  .inl (0, [.ref 121, .ref 122, .int 8, .int 1, .int 0, .int 0, .int 0, .int (-1), .int 0, .int 0, .int 0, .int 0, .int 0, .int 0]),
  .inr (.inr (11, [some 123, some 124, some 125, some 126])),
  .inr (.inl (9, [0, 0, 0])),
  .inl (6, [.int 0, .int (-1), .int 0, .int 0, .int 0, .int 0]),
  .inl (6, [.int 0, .int (-1), .int 0, .int 0, .int 0, .int 0]),
  .inl (6, [.int 0, .int (-1), .int 0, .int 0, .int 0, .int 0]),
  .inl (6, [.int 0, .int (-1), .int 0, .int 0, .int 0, .int 0]),
  .inl (0, [.ref 128, .ref 129, .int 9, .int 1, .int 0, .int 0, .int 0, .int (-1), .int 0, .int 0, .int 0, .int 0, .int 0, .int 0]),
  .inr (.inr (11, [some 130, some 131, some 132, some 133])),
  .inr (.inl (9, [0, 0, 0])),
  .inl (6, [.int 0, .int (-1), .int 0, .int 0, .int 0, .int 0]),
  .inl (6, [.int 0, .int (-1), .int 0, .int 0, .int 0, .int 0]),
  .inl (6, [.int 0, .int (-1), .int 0, .int 0, .int 0, .int 0]),
  .inl (6, [.int 0, .int (-1), .int 0, .int 0, .int 0, .int 0]),
  .inl (3, [.ref 135, .ref 136, .ref 137, .int 0, .int 0, .int 0, .int 0, .int 0]),
  .inr (.inl (9, [0, 0, 0])),
  .inr (.inl (9, [0, 0, 0])),
  .inr (.inl (9, [0, 0, 0])),
  .inl (3, [.ref 139, .ref 140, .ref 141, .int 0, .int 0, .int 0, .int 0, .int 0]),
  .inr (.inl (9, [0, 0, 0])),
  .inr (.inl (9, [0, 0, 0])),
  .inr (.inl (9, [0, 0, 0])),
  .inl (3, [.ref 143, .ref 144, .ref 145, .int 0, .int 0, .int 0, .int 0, .int 0]),
  .inr (.inl (9, [0, 0, 0])),
  .inr (.inl (9, [0, 0, 0])),
  .inr (.inl (9, [0, 0, 0])),
  .inl (3, [.ref 147, .ref 148, .ref 149, .int 0, .int 0, .int 0, .int 0, .int 0]),
  .inr (.inl (9, [0, 0, 0])),
  .inr (.inl (9, [0, 0, 0])),
  .inr (.inl (9, [0, 0, 0])),
  .inl (3, [.ref 151, .ref 152, .ref 153, .int 0, .int 0, .int 0, .int 0, .int 0]),
  .inr (.inl (9, [0, 0, 0])),
  .inr (.inl (9, [0, 0, 0])),
  .inr (.inl (9, [0, 0, 0])),
  .inl (3, [.ref 155, .ref 156, .ref 157, .int 0, .int 0, .int 0, .int 0, .int 0]),
  .inr (.inl (9, [0, 0, 0])),
  .inr (.inl (9, [0, 0, 0])),
  .inr (.inl (9, [0, 0, 0])),
  .inl (3, [.ref 159, .ref 160, .ref 161, .int 0, .int 0, .int 0, .int 0, .int 0]),
  .inr (.inl (9, [0, 0, 0])),
  .inr (.inl (9, [0, 0, 0])),
  .inr (.inl (9, [0, 0, 0])),
  .inl (3, [.ref 163, .ref 164, .ref 165, .int 0, .int 0, .int 0, .int 0, .int 0]),
  .inr (.inl (9, [0, 0, 0])),
  .inr (.inl (9, [0, 0, 0])),
  .inr (.inl (9, [0, 0, 0])),
  .inl (3, [.ref 167, .ref 168, .ref 169, .int 0, .int 0, .int 0, .int 0, .int 0]),
  .inr (.inl (9, [0, 0, 0])),
  .inr (.inl (9, [0, 0, 0])),
  .inr (.inl (9, [0, 0, 0])),
  .inl (3, [.ref 171, .ref 172, .ref 173, .int 0, .int 0, .int 0, .int 0, .int 0]),
  .inr (.inl (9, [0, 0, 0])),
  .inr (.inl (9, [0, 0, 0])),
  .inr (.inl (9, [0, 0, 0]))]
def GM : List GE := [.inl (8, [.int 0, .int 2, .int 0, .int 0, .int 0, .int 0, .int 0, .int 0, .int 0, .ref 1, .ref 2, .ref 3, .ref 4, .ref 5, .ref 6, .ref 7, .ref 8, .ref 9, .ref 10, .ref 11, .ref 12, .ref 13, .ref 14, .ref 15, .ref 16, .ref 17, .ref 18, .ref 19, .ref 20, .ref 21, .ref 22, .ref 23, .ref 24, .ref 25, .ref 26, .ref 27, .ref 28, .ref 29, .int 0, .ref 30, .ref 31, .ref 32, .ref 33, .ref 34, .ref 35, .ref 36, .ref 37, .ref 38, .ref 39, .ref 40, .ref 41, .int 0, .int 0, .int 0, .ref 42]),
  .inr (.inl (9, [4] ++ List.replicate 7 0)),
  .inr (.inl (9, List.replicate 8 0)),
  .inr (.inl (9, List.replicate 8 100)),
  .inr (.inl (9, List.replicate 8 0)),
  .inr (.inl (9, List.replicate 8 0)),
  .inr (.inl (9, List.replicate 8 0)),
  .inr (.inl (9, List.replicate 384 (-9999))),
  .inr (.inl (9, [1, 2, 3, 5, 8, 12, 18, 25, 35, 50])),
  .inr (.inl (9, List.replicate 11 0)),
  .inr (.inl (9, List.replicate 11 0)),
  .inr (.inl (9, List.replicate 11 0)),
  .inr (.inl (9, List.replicate 11 0)),
  .inr (.inl (9, List.replicate 11 0)),
  .inr (.inl (9, List.replicate 11 0)),
  .inr (.inl (9, List.replicate 11 0)),
  .inr (.inl (9, List.replicate 11 0)),
  .inr (.inl (9, List.replicate 11 0)),
  .inr (.inl (9, List.replicate 11 0)),
  .inr (.inl (10, List.replicate 11 0)),
  .inr (.inl (10, List.replicate 11 0)),
  .inr (.inl (9, List.replicate 33 0)),
  .inr (.inl (9, List.replicate 44 0)),
  .inr (.inl (9, List.replicate 44 0)),
  .inr (.inl (9, List.replicate 44 0)),
  .inr (.inl (9, List.replicate 44 0)),
  .inr (.inl (9, List.replicate 44 0)),
  .inr (.inl (9, List.replicate 44 0)),
  .inr (.inl (9, List.replicate 256 0)),
  .inr (.inl (9, List.replicate 256 0)),
  .inr (.inl (9, List.replicate 10 0)),
  .inr (.inl (9, List.replicate 10 0)),
  .inr (.inl (9, List.replicate 10 0)),
  .inr (.inl (9, List.replicate 10 0)),
  .inr (.inl (9, List.replicate 10 0)),
  .inr (.inl (9, List.replicate 30 0)),
  .inr (.inl (9, List.replicate 30 0)),
  .inr (.inl (9, List.replicate 30 0)),
  .inr (.inl (9, List.replicate 80 0)),
  .inr (.inl (9, List.replicate 48 0)),
  .inr (.inl (9, List.replicate 48 0)),
  .inr (.inl (9, List.replicate 9 0)),
  .inr (.inl (9, List.replicate 8 0)),
  .inr (.inl (9, [1, 2, 3, 5, 8, 12, 18, 25, 35, 50]))]
def veq : Value → Value → Bool
  | .int a, .int b => decide (a = b)
  | .ref a, .ref b => decide (a = b)
  | .null, .null => true
  | _, _ => false
theorem veq_e {a b : Value} (h : veq a b = true) : a = b := by
  unfold veq at h
  split at h
  · rw [of_decide_eq_true h]
  · rw [of_decide_eq_true h]
  · rfl
  · cases h
def leq {α : Type} (f : α → α → Bool) : List α → List α → Bool
  | [], [] => true
  | a :: l, b :: m => f a b && leq f l m
  | _, _ => false
theorem leq_e {α : Type} {f : α → α → Bool} (hf : ∀ a b, f a b = true → a = b) : ∀ {l m : List α}, leq f l m = true → l = m
  | [], [], _ => rfl
  | a :: l, b :: m, h => by
    have h : (f a b && leq f l m) = true := h
    simp only [Bool.and_eq_true] at h
    rw [hf a b h.1, leq_e hf h.2]
  | [], _ :: _, h => by cases h
  | _ :: _, [], h => by cases h
def geq : GE → GE → Bool
  | .inl x, .inl y => decide (x.1 = y.1) && leq veq x.2 y.2
  | .inr (.inl x), .inr (.inl y) => decide (x.1 = y.1) && leq (fun a b => decide (a = b)) x.2 y.2
  | .inr (.inr x), .inr (.inr y) => decide (x.1 = y.1) && leq (fun a b => decide (a = b)) x.2 y.2
  | _, _ => false
theorem geq_e {a b : GE} (h : geq a b = true) : a = b := by
  rcases a with ⟨a1, a2⟩ | ⟨a1, a2⟩ | ⟨a1, a2⟩ <;> rcases b with ⟨b1, b2⟩ | ⟨b1, b2⟩ | ⟨b1, b2⟩
  · have h : (decide (a1 = b1) && leq veq a2 b2) = true := h
    simp only [Bool.and_eq_true, decide_eq_true_eq] at h
    rw [h.1, leq_e (fun a b => veq_e) h.2]
  · cases h
  · cases h
  · cases h
  · have h : (decide (a1 = b1) && leq (fun a b => decide (a = b)) a2 b2) = true := h
    simp only [Bool.and_eq_true, decide_eq_true_eq] at h
    rw [h.1, leq_e (fun a b e => of_decide_eq_true e) h.2]
  · cases h
  · cases h
  · cases h
  · have h : (decide (a1 = b1) && leq (fun a b => decide (a = b)) a2 b2) = true := h
    simp only [Bool.and_eq_true, decide_eq_true_eq] at h
    rw [h.1, leq_e (fun a b e => of_decide_eq_true e) h.2]
def isG (r : Option (List GE)) (G : List GE) : Bool := match r with
  | some x => leq geq x G
  | none => false
theorem isG_e {r : Option (List GE)} {G : List GE} (h : isG r G = true) : r = some G := by
  unfold isG at h
  split at h
  · rw [leq_e (fun a b => geq_e) h]
  · cases h
set_option maxRecDepth 1000000 in
theorem run_M0 : isG (gexec 1500 8 0 [.ref 0, .null, .null] [] [.inl (8, dF 8)] 0 0) GM = true := by decide +kernel

