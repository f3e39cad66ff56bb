/-! what stands behind both constructors -/
def cSH (sh : Nat → Nat × Nat) : Nat → Nat × Nat := (va_up (va_up (va_up (va_up (va_up (va_up (va_up (va_up (va_up (va_up (va_up (va_up (va_up (va_up (va_up (va_up (va_up (va_up (va_up (va_up (va_up (va_up (va_up (va_up (va_up (va_up (va_up (va_up (va_up (va_up (va_up (va_up (va_up (va_up (va_up (va_up (va_up (va_up (va_up (va_up (va_up (va_up (va_up (va_up (va_up (va_up (va_up (va_up (va_up (va_up (va_up (va_up (va_up (va_up (va_up (va_up (va_up (va_up (va_up (va_up (va_up (va_up sh 65 (9, 0)) 66 (8, 0)) 67 (12, 1 * 100)) 68 (8, 0)) 69 (12, 8 * 4)) 70 (8, 0)) 71 (12, 1 * 5)) 72 (8, 0)) 73 (12, 5 * 6)) 74 (8, 0)) 75 (12, 3 * 6)) 76 (8, 0)) 77 (12, 1 * 6)) 78 (8, 0)) 79 (12, 2 * 8)) 80 (12, 6)) 81 (9, 0)) 82 (8, 0)) 83 (12, 1 * 100)) 84 (8, 0)) 85 (12, 8 * 4)) 86 (8, 0)) 87 (12, 1 * 5)) 88 (8, 0)) 89 (12, 5 * 6)) 90 (8, 0)) 91 (12, 3 * 6)) 92 (8, 0)) 93 (12, 1 * 6)) 94 (8, 0)) 95 (12, 2 * 8)) 96 (12, 6)) 97 (6, 0)) 98 (12, 100)) 99 (12, 100)) 100 (3, 0)) 101 (7, 0)) 102 (12, 4)) 103 (12, 4)) 104 (12, 4)) 105 (12, 40)) 106 (12, 4)) 107 (12, 40)) 108 (12, 48)) 109 (5, 0)) 110 (12, 4)) 111 (12, 4)) 112 (7, 0)) 113 (12, 4)) 114 (12, 4)) 115 (12, 4)) 116 (12, 4)) 117 (13, 100)) 118 (1, 0)) 119 (7, 0)) 120 (12, 5)) 121 (12, 5)) 122 (12, 5)) 123 (12, 5)) 124 (12, 5)) 125 (0, 0)) 126 (12, 20))
def cPP (P : Nat → Nat → Option Nat) : Nat → Nat → Option Nat := (xrp (xrp (va_up (va_up (xrp (xrp (xrp (va_up (xrp (va_up (xrp (xrp (va_up (xrp (va_up (xrp (va_up (va_up (va_up (xrp (xrp (xrp (va_up (xrp (va_up (xrp (xrp (va_up (xrp (va_up (xrp (va_up (va_up (xrp (va_up (xrp (va_up (va_up (xrp (xrp (xrp (va_up (xrp (va_up (xrp (va_up (xrp (va_up (xrp (xrp (va_up (xrp (va_up (xrp (va_up (va_up (va_up (xrp (xrp (xrp (va_up (xrp (va_up (va_up (xrp (xrp (va_up (xrp (xrp (xrp (va_up (va_up (xrp (xrp (va_up (va_up (xrp (xrp (va_up (va_up (xrp (xrp (va_up (va_up (xrp (xrp (va_up (va_up (xrp (xrp (va_up (va_up (xrp (xrp (va_up (va_up (va_up (xrp (xrp (va_up (xrp (xrp (xrp (va_up (va_up (xrp (xrp (va_up (va_up (xrp (xrp (va_up (va_up (xrp (xrp (va_up (va_up (xrp (xrp (va_up (va_up (xrp (xrp (va_up (va_up (xrp (xrp (va_up (va_up (va_up P 65 (fun _ => none)) 66 (fun _ => none)) 67 (fun _ => none)) 66 2 (some 67)) 65 0 (some 66)) 68 (fun _ => none)) 69 (fun _ => none)) 68 2 (some 69)) 65 1 (some 68)) 70 (fun _ => none)) 71 (fun _ => none)) 70 2 (some 71)) 65 2 (some 70)) 72 (fun _ => none)) 73 (fun _ => none)) 72 2 (some 73)) 65 3 (some 72)) 74 (fun _ => none)) 75 (fun _ => none)) 74 2 (some 75)) 65 4 (some 74)) 76 (fun _ => none)) 77 (fun _ => none)) 76 2 (some 77)) 65 5 (some 76)) 78 (fun _ => none)) 79 (fun _ => none)) 78 2 (some 79)) 65 6 (some 78)) 65 8 none) 80 (fun _ => none)) 65 10 (some 80)) 64 0 (some 65)) 81 (fun _ => none)) 82 (fun _ => none)) 83 (fun _ => none)) 82 2 (some 83)) 81 0 (some 82)) 84 (fun _ => none)) 85 (fun _ => none)) 84 2 (some 85)) 81 1 (some 84)) 86 (fun _ => none)) 87 (fun _ => none)) 86 2 (some 87)) 81 2 (some 86)) 88 (fun _ => none)) 89 (fun _ => none)) 88 2 (some 89)) 81 3 (some 88)) 90 (fun _ => none)) 91 (fun _ => none)) 90 2 (some 91)) 81 4 (some 90)) 92 (fun _ => none)) 93 (fun _ => none)) 92 2 (some 93)) 81 5 (some 92)) 94 (fun _ => none)) 95 (fun _ => none)) 94 2 (some 95)) 81 6 (some 94)) 81 8 none) 96 (fun _ => none)) 81 10 (some 96)) 64 1 (some 81)) 97 (fun _ => none)) 98 (fun _ => none)) 97 1 (some 98)) 99 (fun _ => none)) 97 4 (some 99)) 97 0 (some 66)) 64 3 (some 97)) 100 (fun _ => none)) 101 (fun _ => none)) 102 (fun _ => none)) 101 0 (some 102)) 103 (fun _ => none)) 101 1 (some 103)) 104 (fun _ => none)) 101 2 (some 104)) 100 1 (some 101)) 105 (fun _ => none)) 100 2 (some 105)) 106 (fun _ => none)) 100 3 (some 106)) 107 (fun _ => none)) 100 5 (some 107)) 108 (fun _ => none)) 100 6 (some 108)) 100 0 (some 65)) 64 4 (some 100)) 109 (fun _ => none)) 110 (fun _ => none)) 109 1 (some 110)) 111 (fun _ => none)) 109 2 (some 111)) 112 (fun _ => none)) 113 (fun _ => none)) 112 0 (some 113)) 114 (fun _ => none)) 112 1 (some 114)) 115 (fun _ => none)) 112 2 (some 115)) 109 3 (some 112)) 116 (fun _ => none)) 109 4 (some 116)) 117 (fun _ => none)) 109 5 (some 117)) 109 0 (some 65)) 64 5 (some 109)) 118 (fun _ => none)) 119 (fun _ => none)) 120 (fun _ => none)) 119 0 (some 120)) 121 (fun _ => none)) 119 1 (some 121)) 122 (fun _ => none)) 119 2 (some 122)) 118 1 (some 119)) 123 (fun _ => none)) 118 2 (some 123)) 124 (fun _ => none)) 118 3 (some 124)) 118 0 (some 70)) 64 6 (some 118)) 125 (fun _ => none)) 126 (fun _ => none)) 125 0 (some 126)) 64 7 (some 125))
def cII (I : Nat → Nat → Int32) : Nat → Nat → Int32 := (xup (xup (xup (xup (va_up (va_up (va_up (va_up (va_up (va_up (va_up (va_up (va_up (va_up (va_up (va_up (va_up (va_up (va_up (va_up (va_up (va_up (va_up (va_up (xup (va_up (va_up (va_up (va_up (va_up (va_up (va_up (xup (xup (xup (va_up (xup (xup (va_up (va_up (xup (va_up (xup (xup (va_up (xup (xup (xup (va_up (va_up (xup (xup (xup (va_up (va_up (xup (xup (xup (va_up (va_up (xup (xup (xup (va_up (va_up (xup (xup (xup (va_up (va_up (xup (xup (xup (va_up (va_up (xup (xup (xup (va_up (va_up (va_up (xup (xup (va_up (xup (xup (xup (va_up (va_up (xup (xup (xup (va_up (va_up (xup (xup (xup (va_up (va_up (xup (xup (xup (va_up (va_up (xup (xup (xup (va_up (va_up (xup (xup (xup (va_up (va_up (xup (xup (xup (va_up (va_up I 65 (fun _ => 0)) 66 (fun _ => 0)) 66 3 0) 66 0 (nI 1)) 66 1 (nI 100)) 67 (fun _ => 0)) 68 (fun _ => 0)) 68 3 0) 68 0 (nI 8)) 68 1 (nI 4)) 69 (fun _ => 0)) 70 (fun _ => 0)) 70 3 0) 70 0 (nI 1)) 70 1 (nI 5)) 71 (fun _ => 0)) 72 (fun _ => 0)) 72 3 0) 72 0 (nI 5)) 72 1 (nI 6)) 73 (fun _ => 0)) 74 (fun _ => 0)) 74 3 0) 74 0 (nI 3)) 74 1 (nI 6)) 75 (fun _ => 0)) 76 (fun _ => 0)) 76 3 0) 76 0 (nI 1)) 76 1 (nI 6)) 77 (fun _ => 0)) 78 (fun _ => 0)) 78 3 0) 78 0 (nI 2)) 78 1 (nI 8)) 79 (fun _ => 0)) 65 7 0) 65 9 0) 80 (fun _ => 0)) 81 (fun _ => 0)) 82 (fun _ => 0)) 82 3 0) 82 0 (nI 1)) 82 1 (nI 100)) 83 (fun _ => 0)) 84 (fun _ => 0)) 84 3 0) 84 0 (nI 8)) 84 1 (nI 4)) 85 (fun _ => 0)) 86 (fun _ => 0)) 86 3 0) 86 0 (nI 1)) 86 1 (nI 5)) 87 (fun _ => 0)) 88 (fun _ => 0)) 88 3 0) 88 0 (nI 5)) 88 1 (nI 6)) 89 (fun _ => 0)) 90 (fun _ => 0)) 90 3 0) 90 0 (nI 3)) 90 1 (nI 6)) 91 (fun _ => 0)) 92 (fun _ => 0)) 92 3 0) 92 0 (nI 1)) 92 1 (nI 6)) 93 (fun _ => 0)) 94 (fun _ => 0)) 94 3 0) 94 0 (nI 2)) 94 1 (nI 8)) 95 (fun _ => 0)) 81 7 0) 81 9 0) 96 (fun _ => 0)) 64 2 0) 97 (fun _ => 0)) 98 (fun _ => 0)) 97 2 0) 97 3 0) 99 (fun _ => 0)) 97 5 0) 97 6 0) 97 7 0) 100 (fun _ => 0)) 101 (fun _ => 0)) 102 (fun _ => 0)) 103 (fun _ => 0)) 104 (fun _ => 0)) 105 (fun _ => 0)) 106 (fun _ => 0)) 100 4 0) 107 (fun _ => 0)) 108 (fun _ => 0)) 109 (fun _ => 0)) 110 (fun _ => 0)) 111 (fun _ => 0)) 112 (fun _ => 0)) 113 (fun _ => 0)) 114 (fun _ => 0)) 115 (fun _ => 0)) 116 (fun _ => 0)) 117 (fun _ => 0)) 118 (fun _ => 0)) 119 (fun _ => 0)) 120 (fun _ => 0)) 121 (fun _ => 0)) 122 (fun _ => 0)) 123 (fun _ => 0)) 124 (fun _ => 0)) 125 (fun _ => 0)) 126 (fun _ => 0)) 125 1 0) 125 2 0) 125 3 0) 125 4 0)
def mSH (sh : Nat → Nat × Nat) : Nat → Nat × Nat := (va_up (va_up (va_up (va_up (va_up (va_up (va_up (va_up (va_up (va_up (va_up (va_up (va_up (va_up (va_up (va_up sh 128 (12, 932)) 129 (12, 932)) 130 (12, 6)) 131 (13, 64)) 132 (12, 4)) 133 (12, 40)) 134 (12, 4)) 135 (12, 40)) 136 (12, 4)) 137 (12, 4)) 138 (12, 4)) 139 (12, 4)) 140 (13, 100)) 141 (12, 5)) 142 (12, 5)) 143 (12, 20))
def mPP (P : Nat → Nat → Option Nat) : Nat → Nat → Option Nat := (xrp (va_up (xrp (va_up (xrp (va_up (xrp (va_up (xrp (va_up (xrp (va_up (xrp (va_up (xrp (va_up (xrp (va_up (xrp (va_up (xrp (va_up (xrp (va_up (xrp (va_up (xrp (va_up (xrp (va_up (xrp (va_up P 128 (fun _ => none)) 127 1 (some 128)) 129 (fun _ => none)) 127 2 (some 129)) 130 (fun _ => none)) 127 9 (some 130)) 131 (fun _ => none)) 127 10 (some 131)) 132 (fun _ => none)) 127 11 (some 132)) 133 (fun _ => none)) 127 12 (some 133)) 134 (fun _ => none)) 127 13 (some 134)) 135 (fun _ => none)) 127 15 (some 135)) 136 (fun _ => none)) 127 20 (some 136)) 137 (fun _ => none)) 127 21 (some 137)) 138 (fun _ => none)) 127 22 (some 138)) 139 (fun _ => none)) 127 23 (some 139)) 140 (fun _ => none)) 127 26 (some 140)) 141 (fun _ => none)) 127 27 (some 141)) 142 (fun _ => none)) 127 28 (some 142)) 143 (fun _ => none)) 127 29 (some 143))
def mII (I : Nat → Nat → Int32) : Nat → Nat → Int32 := (xup (va_up (va_up (va_up (va_up (va_up (va_up (va_up (va_up (va_up (va_up (va_up (va_up (va_up (va_up (va_up (va_up I 128 (fun _ => 0)) 129 (fun _ => 0)) 130 (fun _ => 0)) 131 (fun _ => 0)) 132 (fun _ => 0)) 133 (fun _ => 0)) 134 (fun _ => 0)) 135 (fun _ => 0)) 136 (fun _ => 0)) 137 (fun _ => 0)) 138 (fun _ => 0)) 139 (fun _ => 0)) 140 (fun _ => 0)) 141 (fun _ => 0)) 142 (fun _ => 0)) 143 (fun _ => 0)) 128 8 (-1))
def stS (sh : Nat → Nat × Nat) : Nat → Nat × Nat := mSH (va_up (cSH (va_up sh 64 (10, 0))) 127 (11, 0))
def stQ (P : Nat → Nat → Option Nat) : Nat → Nat → Option Nat := mPP (va_up (cPP (va_up P 64 (fun _ => none))) 127 (fun _ => none))
def stI (I : Nat → Nat → Int32) : Nat → Nat → Int32 := mII (va_up (cII (va_up I 64 (fun _ => 0))) 127 (fun _ => 0))
theorem m_C_new {g : xG} {sh : Nat → Nat × Nat} {P : Nat → Nat → Option Nat} {I : Nat → Nat → Int32} (hw : (sh 64).1 = 10) : xMet g Y_C_init 4 62 1056 [.ref 64] (65, sh, P, I) (fun r σ => r = none ∧ σ = (127, cSH sh, cPP P, cII I)) := m_C_init (nx := 0) hw
theorem m_M_new {g : xG} {sh : Nat → Nat × Nat} {P : Nat → Nat → Option Nat} {I : Nat → Nat → Int32} (hw : (sh 127).1 = 11) : xMet g Y_M_init 1 16 2168 [.ref 127] (128, sh, P, I) (fun r σ => r = none ∧ σ = (144, mSH sh, mPP P, mII I)) := m_M_init (nx := 0) hw
set_option maxRecDepth 100000 in
theorem st_sh {sh : Nat → Nat × Nat} : ∀ i, i < 80 → stS sh (64 + i) = xShT.getD i (0, 0)
  | 0, _ => rfl
  | 1, _ => rfl
  | 2, _ => rfl
  | 3, _ => rfl
  | 4, _ => rfl
  | 5, _ => rfl
  | 6, _ => rfl
  | 7, _ => rfl
  | 8, _ => rfl
  | 9, _ => rfl
  | 10, _ => rfl
  | 11, _ => rfl
  | 12, _ => rfl
  | 13, _ => rfl
  | 14, _ => rfl
  | 15, _ => rfl
  | 16, _ => rfl
  | 17, _ => rfl
  | 18, _ => rfl
  | 19, _ => rfl
  | 20, _ => rfl
  | 21, _ => rfl
  | 22, _ => rfl
  | 23, _ => rfl
  | 24, _ => rfl
  | 25, _ => rfl
  | 26, _ => rfl
  | 27, _ => rfl
  | 28, _ => rfl
  | 29, _ => rfl
  | 30, _ => rfl
  | 31, _ => rfl
  | 32, _ => rfl
  | 33, _ => rfl
  | 34, _ => rfl
  | 35, _ => rfl
  | 36, _ => rfl
  | 37, _ => rfl
  | 38, _ => rfl
  | 39, _ => rfl
  | 40, _ => rfl
  | 41, _ => rfl
  | 42, _ => rfl
  | 43, _ => rfl
  | 44, _ => rfl
  | 45, _ => rfl
  | 46, _ => rfl
  | 47, _ => rfl
  | 48, _ => rfl
  | 49, _ => rfl
  | 50, _ => rfl
  | 51, _ => rfl
  | 52, _ => rfl
  | 53, _ => rfl
  | 54, _ => rfl
  | 55, _ => rfl
  | 56, _ => rfl
  | 57, _ => rfl
  | 58, _ => rfl
  | 59, _ => rfl
  | 60, _ => rfl
  | 61, _ => rfl
  | 62, _ => rfl
  | 63, _ => rfl
  | 64, _ => rfl
  | 65, _ => rfl
  | 66, _ => rfl
  | 67, _ => rfl
  | 68, _ => rfl
  | 69, _ => rfl
  | 70, _ => rfl
  | 71, _ => rfl
  | 72, _ => rfl
  | 73, _ => rfl
  | 74, _ => rfl
  | 75, _ => rfl
  | 76, _ => rfl
  | 77, _ => rfl
  | 78, _ => rfl
  | 79, _ => rfl
  | i + 80, h => absurd h (by omega)
set_option maxRecDepth 100000 in
theorem st_pt {P : Nat → Nat → Option Nat} : ∀ q ∈ xPtT, stQ P q.1 q.2.1 = some q.2.2 := List.forall_mem_cons.mpr ⟨rfl, List.forall_mem_cons.mpr ⟨rfl, List.forall_mem_cons.mpr ⟨rfl, List.forall_mem_cons.mpr ⟨rfl, List.forall_mem_cons.mpr ⟨rfl, List.forall_mem_cons.mpr ⟨rfl, List.forall_mem_cons.mpr ⟨rfl, List.forall_mem_cons.mpr ⟨rfl, List.forall_mem_cons.mpr ⟨rfl, List.forall_mem_cons.mpr ⟨rfl, List.forall_mem_cons.mpr ⟨rfl, List.forall_mem_cons.mpr ⟨rfl, List.forall_mem_cons.mpr ⟨rfl, List.forall_mem_cons.mpr ⟨rfl, List.forall_mem_cons.mpr ⟨rfl, List.forall_mem_cons.mpr ⟨rfl, List.forall_mem_cons.mpr ⟨rfl, List.forall_mem_cons.mpr ⟨rfl, List.forall_mem_cons.mpr ⟨rfl, List.forall_mem_cons.mpr ⟨rfl, List.forall_mem_cons.mpr ⟨rfl, List.forall_mem_cons.mpr ⟨rfl, List.forall_mem_cons.mpr ⟨rfl, List.forall_mem_cons.mpr ⟨rfl, List.forall_mem_cons.mpr ⟨rfl, List.forall_mem_cons.mpr ⟨rfl, List.forall_mem_cons.mpr ⟨rfl, List.forall_mem_cons.mpr ⟨rfl, List.forall_mem_cons.mpr ⟨rfl, List.forall_mem_cons.mpr ⟨rfl, List.forall_mem_cons.mpr ⟨rfl, List.forall_mem_cons.mpr ⟨rfl, List.forall_mem_cons.mpr ⟨rfl, List.forall_mem_cons.mpr ⟨rfl, List.forall_mem_cons.mpr ⟨rfl, List.forall_mem_cons.mpr ⟨rfl, List.forall_mem_cons.mpr ⟨rfl, List.forall_mem_cons.mpr ⟨rfl, List.forall_mem_cons.mpr ⟨rfl, List.forall_mem_cons.mpr ⟨rfl, List.forall_mem_cons.mpr ⟨rfl, List.forall_mem_cons.mpr ⟨rfl, List.forall_mem_cons.mpr ⟨rfl, List.forall_mem_cons.mpr ⟨rfl, List.forall_mem_cons.mpr ⟨rfl, List.forall_mem_cons.mpr ⟨rfl, List.forall_mem_cons.mpr ⟨rfl, List.forall_mem_cons.mpr ⟨rfl, List.forall_mem_cons.mpr ⟨rfl, List.forall_mem_cons.mpr ⟨rfl, List.forall_mem_cons.mpr ⟨rfl, List.forall_mem_cons.mpr ⟨rfl, List.forall_mem_cons.mpr ⟨rfl, List.forall_mem_cons.mpr ⟨rfl, List.forall_mem_cons.mpr ⟨rfl, List.forall_mem_cons.mpr ⟨rfl, List.forall_mem_cons.mpr ⟨rfl, List.forall_mem_cons.mpr ⟨rfl, List.forall_mem_cons.mpr ⟨rfl, List.forall_mem_cons.mpr ⟨rfl, List.forall_mem_cons.mpr ⟨rfl, List.forall_mem_cons.mpr ⟨rfl, List.forall_mem_cons.mpr ⟨rfl, List.forall_mem_cons.mpr ⟨rfl, List.forall_mem_cons.mpr ⟨rfl, List.forall_mem_cons.mpr ⟨rfl, List.forall_mem_cons.mpr ⟨rfl, List.forall_mem_cons.mpr ⟨rfl, List.forall_mem_cons.mpr ⟨rfl, List.forall_mem_cons.mpr ⟨rfl, List.forall_mem_cons.mpr ⟨rfl, List.forall_mem_cons.mpr ⟨rfl, List.forall_mem_cons.mpr ⟨rfl, List.forall_mem_cons.mpr ⟨rfl, List.forall_mem_cons.mpr ⟨rfl, List.forall_mem_cons.mpr ⟨rfl, List.forall_mem_cons.mpr ⟨rfl, List.forall_mem_cons.mpr ⟨rfl, List.forall_mem_cons.mpr ⟨rfl, List.forall_mem_cons.mpr ⟨rfl, List.forall_mem_cons.mpr ⟨rfl, List.forall_mem_cons.mpr ⟨rfl, fun _ h => absurd h List.not_mem_nil⟩⟩⟩⟩⟩⟩⟩⟩⟩⟩⟩⟩⟩⟩⟩⟩⟩⟩⟩⟩⟩⟩⟩⟩⟩⟩⟩⟩⟩⟩⟩⟩⟩⟩⟩⟩⟩⟩⟩⟩⟩⟩⟩⟩⟩⟩⟩⟩⟩⟩⟩⟩⟩⟩⟩⟩⟩⟩⟩⟩⟩⟩⟩⟩⟩⟩⟩⟩⟩⟩⟩⟩⟩⟩⟩⟩⟩⟩⟩⟩⟩⟩
theorem st_fx {sh : Nat → Nat × Nat} {P : Nat → Nat → Option Nat} : xFx (stS sh) (stQ P) := ⟨st_sh, st_pt⟩
def st0 : Nat → Int32 := fun j => if j = 8 then -1 else 0
theorem st_s {I : Nat → Nat → Int32} : stI I 128 = st0 := by
  funext j
  show (if j = 8 then (-1 : Int32) else 0) = if j = 8 then -1 else 0
  rfl
theorem st_RI : RI st0 := by
  have h0 : ∀ i, i < 8 → cN st0 i = 0 := fun i hi => by
    unfold cN st0
    rw [if_neg (by omega)]; rfl
  have hz : ∀ i, i < 8 → st0 i = 0 := fun i hi => if_neg (by omega)
  refine ⟨fun i hi => by rw [h0 i hi, hz i hi]; rfl, ?_, ⟨0, by decide, rfl⟩, ?_, ?_, ?_⟩
  · rw [h0 0 (by decide), h0 1 (by decide), h0 2 (by decide), h0 3 (by decide), h0 4 (by decide), h0 5 (by decide), h0 6 (by decide), h0 7 (by decide)]
    decide
  · intro c hc; rw [h0 0 (by decide)] at hc; exact absurd hc (Nat.not_lt_zero _)
  · exact ⟨fun a ha => by rw [h0 2 (by decide)] at ha; exact absurd ha (Nat.not_lt_zero _), Or.inl rfl⟩
  · refine ⟨fun i hi => ?_, fun i hi => ?_, fun i hi => ?_, fun i hi => ?_, fun i hi => ?_, fun i hi => ?_⟩
    · rw [h0 1 (by decide)] at hi; exact absurd hi (Nat.not_lt_zero _)
    · rw [h0 3 (by decide)] at hi; exact absurd hi (Nat.not_lt_zero _)
    · rw [h0 4 (by decide)] at hi; exact absurd hi (Nat.not_lt_zero _)
    · rw [h0 5 (by decide)] at hi; exact absurd hi (Nat.not_lt_zero _)
    · rw [h0 6 (by decide)] at hi; exact absurd hi (Nat.not_lt_zero _)
    · rw [h0 7 (by decide)] at hi; exact absurd hi (Nat.not_lt_zero _)
set_option maxRecDepth 100000 in
theorem st_WN {sh : Nat → Nat × Nat} {P : Nat → Nat → Option Nat} {I : Nat → Nat → Int32} : xWN 144 (stS sh) (stQ P) (stI I) st0 := by
  refine ⟨⟨⟨rfl, rfl, rfl, rfl, rfl, rfl, Nat.zero_le _, by decide, by decide, by decide, by decide⟩, ⟨rfl, rfl, rfl, rfl, rfl, rfl, Nat.zero_le _, by decide, by decide, by decide, by decide⟩, ⟨rfl, rfl, rfl, rfl, rfl, rfl, Nat.zero_le _, by decide, by decide, by decide, by decide⟩, ⟨rfl, rfl, rfl, rfl, rfl, rfl, Nat.zero_le _, by decide, by decide, by decide, by decide⟩, ⟨rfl, rfl, rfl, rfl, rfl, rfl, Nat.zero_le _, by decide, by decide, by decide, by decide⟩, ⟨rfl, rfl, rfl, rfl, rfl, rfl, Nat.zero_le _, by decide, by decide, by decide, by decide⟩, ⟨rfl, rfl, rfl, rfl, rfl, rfl, Nat.zero_le _, by decide, by decide, by decide, by decide⟩⟩, ⟨fun i h => absurd h (Nat.not_lt_zero i), fun i h => absurd h (Nat.not_lt_zero i), fun i h => absurd h (Nat.not_lt_zero i), fun i h => absurd h (Nat.not_lt_zero i), fun i h => absurd h (Nat.not_lt_zero i), fun i h => absurd h (Nat.not_lt_zero i), fun i h => absurd h (Nat.not_lt_zero i)⟩, rfl, rfl, Or.inl ⟨rfl, rfl⟩⟩
set_option maxRecDepth 100000 in
theorem st_KE {sh : Nat → Nat × Nat} {P : Nat → Nat → Option Nat} {I : Nat → Nat → Int32} : xKE (stS sh) (stQ P) (stI I) := ⟨0, 0, 0, 0, 0, 0, 0, ⟨rfl, rfl, rfl, rfl, rfl, rfl, Nat.zero_le _, by decide, by decide, by decide, by decide⟩, ⟨rfl, rfl, rfl, rfl, rfl, rfl, Nat.zero_le _, by decide, by decide, by decide, by decide⟩, ⟨rfl, rfl, rfl, rfl, rfl, rfl, Nat.zero_le _, by decide, by decide, by decide, by decide⟩, ⟨rfl, rfl, rfl, rfl, rfl, rfl, Nat.zero_le _, by decide, by decide, by decide, by decide⟩, ⟨rfl, rfl, rfl, rfl, rfl, rfl, Nat.zero_le _, by decide, by decide, by decide, by decide⟩, ⟨rfl, rfl, rfl, rfl, rfl, rfl, Nat.zero_le _, by decide, by decide, by decide, by decide⟩, ⟨rfl, rfl, rfl, rfl, rfl, rfl, Nat.zero_le _, by decide, by decide, by decide, by decide⟩⟩
set_option maxRecDepth 100000 in
/-- what else the law's loop starts from: no image is kept, nothing has run -/
theorem st_els {I : Nat → Nat → Int32} : stI I 64 2 = 0 ∧ stI I 127 3 = 0 ∧ stI I 125 1 = 0 ∧ stI I 127 30 = 0 := ⟨rfl, rfl, rfl, rfl⟩