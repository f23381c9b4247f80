def let9 {α1 α2 α3 α4 α5 α6 α7 α8 α9 γ : Type} (p : α1 × α2 × α3 × α4 × α5 × α6 × α7 × α8 × α9) (k : α1 → α2 → α3 → α4 → α5 → α6 → α7 → α8 → α9 → γ) : γ := k (p.1) (p.2.1) (p.2.2.1) (p.2.2.2.1) (p.2.2.2.2.1) (p.2.2.2.2.2.1) (p.2.2.2.2.2.2.1) (p.2.2.2.2.2.2.2.1) (p.2.2.2.2.2.2.2.2)
theorem let9_mk {α1 α2 α3 α4 α5 α6 α7 α8 α9 γ : Type} (a1 : α1) (a2 : α2) (a3 : α3) (a4 : α4) (a5 : α5) (a6 : α6) (a7 : α7) (a8 : α8) (a9 : α9) (k : α1 → α2 → α3 → α4 → α5 → α6 → α7 → α8 → α9 → γ) : let9 (a1, a2, a3, a4, a5, a6, a7, a8, a9) k = k a1 a2 a3 a4 a5 a6 a7 a8 a9 := rfl
def sel9 {α1 α2 α3 α4 α5 α6 α7 α8 α9 ρ γ : Type} (s : (α1 × α2 × α3 × α4 × α5 × α6 × α7 × α8 × α9) ⊕ ρ) (k : α1 → α2 → α3 → α4 → α5 → α6 → α7 → α8 → α9 → γ) (g : ρ → γ) : γ := match s with
  | .inl p => k (p.1) (p.2.1) (p.2.2.1) (p.2.2.2.1) (p.2.2.2.2.1) (p.2.2.2.2.2.1) (p.2.2.2.2.2.2.1) (p.2.2.2.2.2.2.2.1) (p.2.2.2.2.2.2.2.2)
  | .inr r => g r
theorem sel9_inl {α1 α2 α3 α4 α5 α6 α7 α8 α9 ρ γ : Type} (a1 : α1) (a2 : α2) (a3 : α3) (a4 : α4) (a5 : α5) (a6 : α6) (a7 : α7) (a8 : α8) (a9 : α9) (k : α1 → α2 → α3 → α4 → α5 → α6 → α7 → α8 → α9 → γ) (g : ρ → γ) : sel9 (.inl (a1, a2, a3, a4, a5, a6, a7, a8, a9)) k g = k a1 a2 a3 a4 a5 a6 a7 a8 a9 := rfl
theorem sel9_inr {α1 α2 α3 α4 α5 α6 α7 α8 α9 ρ γ : Type} (r : ρ) (k : α1 → α2 → α3 → α4 → α5 → α6 → α7 → α8 → α9 → γ) (g : ρ → γ) : sel9 (.inr r) k g = g r := rfl
def let10 {α1 α2 α3 α4 α5 α6 α7 α8 α9 α10 γ : Type} (p : α1 × α2 × α3 × α4 × α5 × α6 × α7 × α8 × α9 × α10) (k : α1 → α2 → α3 → α4 → α5 → α6 → α7 → α8 → α9 → α10 → γ) : γ := k (p.1) (p.2.1) (p.2.2.1) (p.2.2.2.1) (p.2.2.2.2.1) (p.2.2.2.2.2.1) (p.2.2.2.2.2.2.1) (p.2.2.2.2.2.2.2.1) (p.2.2.2.2.2.2.2.2.1) (p.2.2.2.2.2.2.2.2.2)
theorem let10_mk {α1 α2 α3 α4 α5 α6 α7 α8 α9 α10 γ : Type} (a1 : α1) (a2 : α2) (a3 : α3) (a4 : α4) (a5 : α5) (a6 : α6) (a7 : α7) (a8 : α8) (a9 : α9) (a10 : α10) (k : α1 → α2 → α3 → α4 → α5 → α6 → α7 → α8 → α9 → α10 → γ) : let10 (a1, a2, a3, a4, a5, a6, a7, a8, a9, a10) k = k a1 a2 a3 a4 a5 a6 a7 a8 a9 a10 := rfl
def sel10 {α1 α2 α3 α4 α5 α6 α7 α8 α9 α10 ρ γ : Type} (s : (α1 × α2 × α3 × α4 × α5 × α6 × α7 × α8 × α9 × α10) ⊕ ρ) (k : α1 → α2 → α3 → α4 → α5 → α6 → α7 → α8 → α9 → α10 → γ) (g : ρ → γ) : γ := match s with
  | .inl p => k (p.1) (p.2.1) (p.2.2.1) (p.2.2.2.1) (p.2.2.2.2.1) (p.2.2.2.2.2.1) (p.2.2.2.2.2.2.1) (p.2.2.2.2.2.2.2.1) (p.2.2.2.2.2.2.2.2.1) (p.2.2.2.2.2.2.2.2.2)
  | .inr r => g r
theorem sel10_inl {α1 α2 α3 α4 α5 α6 α7 α8 α9 α10 ρ γ : Type} (a1 : α1) (a2 : α2) (a3 : α3) (a4 : α4) (a5 : α5) (a6 : α6) (a7 : α7) (a8 : α8) (a9 : α9) (a10 : α10) (k : α1 → α2 → α3 → α4 → α5 → α6 → α7 → α8 → α9 → α10 → γ) (g : ρ → γ) : sel10 (.inl (a1, a2, a3, a4, a5, a6, a7, a8, a9, a10)) k g = k a1 a2 a3 a4 a5 a6 a7 a8 a9 a10 := rfl
theorem sel10_inr {α1 α2 α3 α4 α5 α6 α7 α8 α9 α10 ρ γ : Type} (r : ρ) (k : α1 → α2 → α3 → α4 → α5 → α6 → α7 → α8 → α9 → α10 → γ) (g : ρ → γ) : sel10 (.inr r) k g = g r := rfl
def let11 {α1 α2 α3 α4 α5 α6 α7 α8 α9 α10 α11 γ : Type} (p : α1 × α2 × α3 × α4 × α5 × α6 × α7 × α8 × α9 × α10 × α11) (k : α1 → α2 → α3 → α4 → α5 → α6 → α7 → α8 → α9 → α10 → α11 → γ) : γ := k (p.1) (p.2.1) (p.2.2.1) (p.2.2.2.1) (p.2.2.2.2.1) (p.2.2.2.2.2.1) (p.2.2.2.2.2.2.1) (p.2.2.2.2.2.2.2.1) (p.2.2.2.2.2.2.2.2.1) (p.2.2.2.2.2.2.2.2.2.1) (p.2.2.2.2.2.2.2.2.2.2)
theorem let11_mk {α1 α2 α3 α4 α5 α6 α7 α8 α9 α10 α11 γ : Type} (a1 : α1) (a2 : α2) (a3 : α3) (a4 : α4) (a5 : α5) (a6 : α6) (a7 : α7) (a8 : α8) (a9 : α9) (a10 : α10) (a11 : α11) (k : α1 → α2 → α3 → α4 → α5 → α6 → α7 → α8 → α9 → α10 → α11 → γ) : let11 (a1, a2, a3, a4, a5, a6, a7, a8, a9, a10, a11) k = k a1 a2 a3 a4 a5 a6 a7 a8 a9 a10 a11 := rfl
def sel11 {α1 α2 α3 α4 α5 α6 α7 α8 α9 α10 α11 ρ γ : Type} (s : (α1 × α2 × α3 × α4 × α5 × α6 × α7 × α8 × α9 × α10 × α11) ⊕ ρ) (k : α1 → α2 → α3 → α4 → α5 → α6 → α7 → α8 → α9 → α10 → α11 → γ) (g : ρ → γ) : γ := match s with
  | .inl p => k (p.1) (p.2.1) (p.2.2.1) (p.2.2.2.1) (p.2.2.2.2.1) (p.2.2.2.2.2.1) (p.2.2.2.2.2.2.1) (p.2.2.2.2.2.2.2.1) (p.2.2.2.2.2.2.2.2.1) (p.2.2.2.2.2.2.2.2.2.1) (p.2.2.2.2.2.2.2.2.2.2)
  | .inr r => g r
theorem sel11_inl {α1 α2 α3 α4 α5 α6 α7 α8 α9 α10 α11 ρ γ : Type} (a1 : α1) (a2 : α2) (a3 : α3) (a4 : α4) (a5 : α5) (a6 : α6) (a7 : α7) (a8 : α8) (a9 : α9) (a10 : α10) (a11 : α11) (k : α1 → α2 → α3 → α4 → α5 → α6 → α7 → α8 → α9 → α10 → α11 → γ) (g : ρ → γ) : sel11 (.inl (a1, a2, a3, a4, a5, a6, a7, a8, a9, a10, a11)) k g = k a1 a2 a3 a4 a5 a6 a7 a8 a9 a10 a11 := rfl
theorem sel11_inr {α1 α2 α3 α4 α5 α6 α7 α8 α9 α10 α11 ρ γ : Type} (r : ρ) (k : α1 → α2 → α3 → α4 → α5 → α6 → α7 → α8 → α9 → α10 → α11 → γ) (g : ρ → γ) : sel11 (.inr r) k g = g r := rfl
def let12 {α1 α2 α3 α4 α5 α6 α7 α8 α9 α10 α11 α12 γ : Type} (p : α1 × α2 × α3 × α4 × α5 × α6 × α7 × α8 × α9 × α10 × α11 × α12) (k : α1 → α2 → α3 → α4 → α5 → α6 → α7 → α8 → α9 → α10 → α11 → α12 → γ) : γ := k (p.1) (p.2.1) (p.2.2.1) (p.2.2.2.1) (p.2.2.2.2.1) (p.2.2.2.2.2.1) (p.2.2.2.2.2.2.1) (p.2.2.2.2.2.2.2.1) (p.2.2.2.2.2.2.2.2.1) (p.2.2.2.2.2.2.2.2.2.1) (p.2.2.2.2.2.2.2.2.2.2.1) (p.2.2.2.2.2.2.2.2.2.2.2)
theorem let12_mk {α1 α2 α3 α4 α5 α6 α7 α8 α9 α10 α11 α12 γ : Type} (a1 : α1) (a2 : α2) (a3 : α3) (a4 : α4) (a5 : α5) (a6 : α6) (a7 : α7) (a8 : α8) (a9 : α9) (a10 : α10) (a11 : α11) (a12 : α12) (k : α1 → α2 → α3 → α4 → α5 → α6 → α7 → α8 → α9 → α10 → α11 → α12 → γ) : let12 (a1, a2, a3, a4, a5, a6, a7, a8, a9, a10, a11, a12) k = k a1 a2 a3 a4 a5 a6 a7 a8 a9 a10 a11 a12 := rfl
def sel12 {α1 α2 α3 α4 α5 α6 α7 α8 α9 α10 α11 α12 ρ γ : Type} (s : (α1 × α2 × α3 × α4 × α5 × α6 × α7 × α8 × α9 × α10 × α11 × α12) ⊕ ρ) (k : α1 → α2 → α3 → α4 → α5 → α6 → α7 → α8 → α9 → α10 → α11 → α12 → γ) (g : ρ → γ) : γ := match s with
  | .inl p => k (p.1) (p.2.1) (p.2.2.1) (p.2.2.2.1) (p.2.2.2.2.1) (p.2.2.2.2.2.1) (p.2.2.2.2.2.2.1) (p.2.2.2.2.2.2.2.1) (p.2.2.2.2.2.2.2.2.1) (p.2.2.2.2.2.2.2.2.2.1) (p.2.2.2.2.2.2.2.2.2.2.1) (p.2.2.2.2.2.2.2.2.2.2.2)
  | .inr r => g r
theorem sel12_inl {α1 α2 α3 α4 α5 α6 α7 α8 α9 α10 α11 α12 ρ γ : Type} (a1 : α1) (a2 : α2) (a3 : α3) (a4 : α4) (a5 : α5) (a6 : α6) (a7 : α7) (a8 : α8) (a9 : α9) (a10 : α10) (a11 : α11) (a12 : α12) (k : α1 → α2 → α3 → α4 → α5 → α6 → α7 → α8 → α9 → α10 → α11 → α12 → γ) (g : ρ → γ) : sel12 (.inl (a1, a2, a3, a4, a5, a6, a7, a8, a9, a10, a11, a12)) k g = k a1 a2 a3 a4 a5 a6 a7 a8 a9 a10 a11 a12 := rfl
theorem sel12_inr {α1 α2 α3 α4 α5 α6 α7 α8 α9 α10 α11 α12 ρ γ : Type} (r : ρ) (k : α1 → α2 → α3 → α4 → α5 → α6 → α7 → α8 → α9 → α10 → α11 → α12 → γ) (g : ρ → γ) : sel12 (.inr r) k g = g r := rfl
def let13 {α1 α2 α3 α4 α5 α6 α7 α8 α9 α10 α11 α12 α13 γ : Type} (p : α1 × α2 × α3 × α4 × α5 × α6 × α7 × α8 × α9 × α10 × α11 × α12 × α13) (k : α1 → α2 → α3 → α4 → α5 → α6 → α7 → α8 → α9 → α10 → α11 → α12 → α13 → γ) : γ := k (p.1) (p.2.1) (p.2.2.1) (p.2.2.2.1) (p.2.2.2.2.1) (p.2.2.2.2.2.1) (p.2.2.2.2.2.2.1) (p.2.2.2.2.2.2.2.1) (p.2.2.2.2.2.2.2.2.1) (p.2.2.2.2.2.2.2.2.2.1) (p.2.2.2.2.2.2.2.2.2.2.1) (p.2.2.2.2.2.2.2.2.2.2.2.1) (p.2.2.2.2.2.2.2.2.2.2.2.2)
theorem let13_mk {α1 α2 α3 α4 α5 α6 α7 α8 α9 α10 α11 α12 α13 γ : Type} (a1 : α1) (a2 : α2) (a3 : α3) (a4 : α4) (a5 : α5) (a6 : α6) (a7 : α7) (a8 : α8) (a9 : α9) (a10 : α10) (a11 : α11) (a12 : α12) (a13 : α13) (k : α1 → α2 → α3 → α4 → α5 → α6 → α7 → α8 → α9 → α10 → α11 → α12 → α13 → γ) : let13 (a1, a2, a3, a4, a5, a6, a7, a8, a9, a10, a11, a12, a13) k = k a1 a2 a3 a4 a5 a6 a7 a8 a9 a10 a11 a12 a13 := rfl
def sel13 {α1 α2 α3 α4 α5 α6 α7 α8 α9 α10 α11 α12 α13 ρ γ : Type} (s : (α1 × α2 × α3 × α4 × α5 × α6 × α7 × α8 × α9 × α10 × α11 × α12 × α13) ⊕ ρ) (k : α1 → α2 → α3 → α4 → α5 → α6 → α7 → α8 → α9 → α10 → α11 → α12 → α13 → γ) (g : ρ → γ) : γ := match s with
  | .inl p => k (p.1) (p.2.1) (p.2.2.1) (p.2.2.2.1) (p.2.2.2.2.1) (p.2.2.2.2.2.1) (p.2.2.2.2.2.2.1) (p.2.2.2.2.2.2.2.1) (p.2.2.2.2.2.2.2.2.1) (p.2.2.2.2.2.2.2.2.2.1) (p.2.2.2.2.2.2.2.2.2.2.1) (p.2.2.2.2.2.2.2.2.2.2.2.1) (p.2.2.2.2.2.2.2.2.2.2.2.2)
  | .inr r => g r
theorem sel13_inl {α1 α2 α3 α4 α5 α6 α7 α8 α9 α10 α11 α12 α13 ρ γ : Type} (a1 : α1) (a2 : α2) (a3 : α3) (a4 : α4) (a5 : α5) (a6 : α6) (a7 : α7) (a8 : α8) (a9 : α9) (a10 : α10) (a11 : α11) (a12 : α12) (a13 : α13) (k : α1 → α2 → α3 → α4 → α5 → α6 → α7 → α8 → α9 → α10 → α11 → α12 → α13 → γ) (g : ρ → γ) : sel13 (.inl (a1, a2, a3, a4, a5, a6, a7, a8, a9, a10, a11, a12, a13)) k g = k a1 a2 a3 a4 a5 a6 a7 a8 a9 a10 a11 a12 a13 := rfl
theorem sel13_inr {α1 α2 α3 α4 α5 α6 α7 α8 α9 α10 α11 α12 α13 ρ γ : Type} (r : ρ) (k : α1 → α2 → α3 → α4 → α5 → α6 → α7 → α8 → α9 → α10 → α11 → α12 → α13 → γ) (g : ρ → γ) : sel13 (.inr r) k g = g r := rfl
def let14 {α1 α2 α3 α4 α5 α6 α7 α8 α9 α10 α11 α12 α13 α14 γ : Type} (p : α1 × α2 × α3 × α4 × α5 × α6 × α7 × α8 × α9 × α10 × α11 × α12 × α13 × α14) (k : α1 → α2 → α3 → α4 → α5 → α6 → α7 → α8 → α9 → α10 → α11 → α12 → α13 → α14 → γ) : γ := k (p.1) (p.2.1) (p.2.2.1) (p.2.2.2.1) (p.2.2.2.2.1) (p.2.2.2.2.2.1) (p.2.2.2.2.2.2.1) (p.2.2.2.2.2.2.2.1) (p.2.2.2.2.2.2.2.2.1) (p.2.2.2.2.2.2.2.2.2.1) (p.2.2.2.2.2.2.2.2.2.2.1) (p.2.2.2.2.2.2.2.2.2.2.2.1) (p.2.2.2.2.2.2.2.2.2.2.2.2.1) (p.2.2.2.2.2.2.2.2.2.2.2.2.2)
theorem let14_mk {α1 α2 α3 α4 α5 α6 α7 α8 α9 α10 α11 α12 α13 α14 γ : Type} (a1 : α1) (a2 : α2) (a3 : α3) (a4 : α4) (a5 : α5) (a6 : α6) (a7 : α7) (a8 : α8) (a9 : α9) (a10 : α10) (a11 : α11) (a12 : α12) (a13 : α13) (a14 : α14) (k : α1 → α2 → α3 → α4 → α5 → α6 → α7 → α8 → α9 → α10 → α11 → α12 → α13 → α14 → γ) : let14 (a1, a2, a3, a4, a5, a6, a7, a8, a9, a10, a11, a12, a13, a14) k = k a1 a2 a3 a4 a5 a6 a7 a8 a9 a10 a11 a12 a13 a14 := rfl
def sel14 {α1 α2 α3 α4 α5 α6 α7 α8 α9 α10 α11 α12 α13 α14 ρ γ : Type} (s : (α1 × α2 × α3 × α4 × α5 × α6 × α7 × α8 × α9 × α10 × α11 × α12 × α13 × α14) ⊕ ρ) (k : α1 → α2 → α3 → α4 → α5 → α6 → α7 → α8 → α9 → α10 → α11 → α12 → α13 → α14 → γ) (g : ρ → γ) : γ := match s with
  | .inl p => k (p.1) (p.2.1) (p.2.2.1) (p.2.2.2.1) (p.2.2.2.2.1) (p.2.2.2.2.2.1) (p.2.2.2.2.2.2.1) (p.2.2.2.2.2.2.2.1) (p.2.2.2.2.2.2.2.2.1) (p.2.2.2.2.2.2.2.2.2.1) (p.2.2.2.2.2.2.2.2.2.2.1) (p.2.2.2.2.2.2.2.2.2.2.2.1) (p.2.2.2.2.2.2.2.2.2.2.2.2.1) (p.2.2.2.2.2.2.2.2.2.2.2.2.2)
  | .inr r => g r
theorem sel14_inl {α1 α2 α3 α4 α5 α6 α7 α8 α9 α10 α11 α12 α13 α14 ρ γ : Type} (a1 : α1) (a2 : α2) (a3 : α3) (a4 : α4) (a5 : α5) (a6 : α6) (a7 : α7) (a8 : α8) (a9 : α9) (a10 : α10) (a11 : α11) (a12 : α12) (a13 : α13) (a14 : α14) (k : α1 → α2 → α3 → α4 → α5 → α6 → α7 → α8 → α9 → α10 → α11 → α12 → α13 → α14 → γ) (g : ρ → γ) : sel14 (.inl (a1, a2, a3, a4, a5, a6, a7, a8, a9, a10, a11, a12, a13, a14)) k g = k a1 a2 a3 a4 a5 a6 a7 a8 a9 a10 a11 a12 a13 a14 := rfl
theorem sel14_inr {α1 α2 α3 α4 α5 α6 α7 α8 α9 α10 α11 α12 α13 α14 ρ γ : Type} (r : ρ) (k : α1 → α2 → α3 → α4 → α5 → α6 → α7 → α8 → α9 → α10 → α11 → α12 → α13 → α14 → γ) (g : ρ → γ) : sel14 (.inr r) k g = g r := rfl

abbrev xT3 (cI cP cA : ClassId) : List (ClassId × FieldType) := [(cI, .int), (cP, .object RX2), (cA, .array .int)]
abbrev cO (x : Nat → Nat) : va_W := [(x 22, .inr (0, [.ref (x 23), .ref (x 44), .ref (x 50)]))]
def lvF (x : Nat → Nat) (j : Nat) : Option Nat := some (x (24 + 4 * j))
def wyF (x : Nat → Nat) (j : Nat) : Option Nat := some (x (45 + j))
def gaF (x : Nat → Nat) (j : Nat) : Option Nat := some (x (59 + j))
def tensV (j : Nat) : Value := .int (nI (10 ^ j))
theorem tens_at (k : Nat) (h : k < 5) : tensV ((nI k).toNatClampNeg) = .int (nI (10 ^ k)) := by rw [nI_clamp (by omega)]; rfl
theorem xN_T {U : State} (h : xN U) : va_Nw (.fieldLinkNest RX0 55 RX5 "TENS" "[I" RX5) U := h.2.2.2.2.2.2.2.2.2.2
def xE (t : Nat) (A : Nat → Prop) (U : State) : Prop := va_Z RX5 "TENS" "[I" (.ref t) A U U.heap ∧ va_T .int t 5 tensV A U U.heap
theorem xE_call {t : Nat} {A B : Nat → Prop} {s U : State} {H : Heap} {locs : List Loc} (hE : xE t A s) (hS : va_S A s.heap H locs) (hFc : ∀ q, B q → A q) (hU : U.heap = H) (hW : s.WarmedH U.vm) : xE t B U := by
  refine ⟨?_, ?_⟩
  · rw [hU]; exact va_Z.moved hW.alike ((hE.1.kept (fun a h1 h2 => hS.2.1 a h1 h2)).narrow hFc)
  · rw [hU]; exact va_T.moved hW.alike ((hE.2.kept (fun a h1 h2 => hS.2.1 a h1 h2)).narrow hFc)
def xPcE (t : Nat) (D : va_G) (cl : List vw_C) (tys : List (ClassId × FieldType)) (ws : va_W) (sz : Nat) (av : List Value) : Array Value → State → Prop := va_Pc av (fun U => U.heap.size = sz ∧ va_P D cl ws U.heap ∧ va_K D cl tys U ∧ va_D (fun _ => True) ws ∧ xN U ∧ xE t (va_A ws sz) U)
theorem xPcE_blind {t : Nat} {D : va_G} {cl : List vw_C} {tys : List (ClassId × FieldType)} {ws : va_W} {sz : Nat} {av : List Value} : FrameBlind (xPcE t D cl tys ws sz av) := by
  intro a U g mk q
  obtain ⟨q0, q1, qP, qK, qD, qN, qE⟩ := q
  exact ⟨q0, q1, qP, va_K.moved (u := U) (U := U.calling g mk a) (Vm.Alike.refl U.vm) qK, qD, xN_same (u := U) (U := U.calling g mk a) rfl qN, va_Z.moved (u := U) (U := U.calling g mk a) (Vm.Alike.refl U.vm) qE.1, va_T.moved (u := U) (U := U.calling g mk a) (Vm.Alike.refl U.vm) qE.2⟩
section XENV
variable {p : Program} {l : Launch} {e : Env} {R : Room} {s : State} {m : MethodId} {args : Array Value} {below : List Frame} {meth : Method} {c : Code} {H : Heap} {locs : List Loc} {cells slots : Nat} {Q : State → Prop}
variable {cc : ByteArray} {pc : Nat} {ls : Array Slot} {rest : List Value} {D : va_G} {cl : List vw_C} {A : Nat → Prop} {tys tysC : List (ClassId × FieldType)} {ws wc wr : va_W}
variable {y : MethodName} {wy Ts : List Cond} {rm : Room} {own C : String} {index maxL nL nA ci k0 b a t : Nat} {ret : Option FieldType} {bytes : ByteArray} {As fs st0 : List Value} {qc : vw_C}
theorem qxe_Vv {S : Type} {post : S → Prop} {wc' ws2 : S → va_W} (isC isR ix : List Nat) (S0 : CallFix p m c cc nL s args Ts own)
    (hM : Met l y wy rm (xPcE t D cl tysC wc H.size (.ref b :: As)) (va_Qv post (mB D cl tysC (va_A wc H.size) wc') (va_A wc H.size)) 0 0 (va_A wc H.size))
    (cw : CallW R s args own C index y bytes maxL ret wy rm 0 0 nA) (hKc : va_K D cl tysC s) (hK : va_K D cl tys s) (hP : va_P D cl ws H) (hD : va_D A ws) (hS : va_S A s.heap H locs) (hA : ∀ q, s.heap.size ≤ q → A q) (hN : xN s) (hE : xE t A s)
    (hC : isC.map (fun i => ws[i]?) = wc.map some) (hR : isR.map (fun i => ws[i]?) = wr.map some) (hnC : va_nd isC = true) (hnR : va_nd isR = true) (hnx : va_nd ix = true) (hdis : ∀ i ∈ isR, i ∉ isC) (hix : ∀ u, ix.map (fun i => (wr ++ wc' u)[i]?) = (ws2 u).map some)
    (hc : cl[ci]? = some qc) (he : ws[k0]? = some (b, .inr (ci, fs))) (hCn : qc.1 = C) (hn : As.length = nA) (hsize : ls.size = nL) (hst : st0 = As.reverse ++ .ref b :: rest) (hW : (rest.map fun v => v.category).sum ≤ 8) (hdg : decode cc pc = .ok (.invokevirtual index, 3)) (hf : cells ≤ R.cells ∧ slots ≤ R.slots)
    (kk : ∀ (u : S) (H1 : Heap) (locs1 : List Loc), post u → va_P D cl (ws2 u) H1 → va_D A (ws2 u) → va_S A s.heap H1 locs1 → W p l e R s m args below meth c H1 locs1 cells slots Q (F0 m (pc + 3) ls rest)) : W p l e R s m args below meth c H locs cells slots Q (F0 m pc ls st0) := by
  have hFc := sfree isC hC hD hS hA
  have hPc : va_P D cl wc H := va_Psub hP isC hC
  have hDc : va_D A wc := hD.sub isC hnC hC
  subst hCn
  refine va_callv (va_runV (As := As) (rest := rest) (b := b) S0 hM cw ⟨xPcE_blind, va_recv hK hP hc he, fun U hU hW => ⟨rfl, by rw [hU], by rw [hU]; exact hPc, va_K.moved hW.alike hKc, hDc.weaken (fun _ _ _ _ => trivial), xN_warm hW hN, xE_call hE hS hFc hU hW⟩⟩ rfl hn hsize hst (lv_room hW) hdg hf) hS (fun q _ h => hFc q h) hFc (fun u t H1 locs1 ht hvm hw hB hz1 hk1 hS1 => ?_)
  obtain ⟨hP1, -, hD1⟩ := hB
  rw [ht] at hP1
  obtain ⟨hP2, hD2⟩ := va_join (wr := wr) (w1 := wc' u) hP hD isC isR hC hR hnR hdis hk1 hFc hP1 hD1
  exact kk u H1 locs1 hw (va_Psub hP2 ix (hix u)) (hD2.sub ix hnx (hix u)) hS1
theorem qxe_Sv {S : Type} {post : S → Prop} {wc' ws2 : S → va_W} (isC isR ix : List Nat) (S0 : CallFix p m c cc nL s args Ts own)
    (hM : Met l y wy rm (xPcE t D cl tysC wc H.size As) (va_Qv post (mB D cl tysC (va_A wc H.size) wc') (va_A wc H.size)) 0 0 (va_A wc H.size))
    (cw : CallB R s args own index y bytes maxL ret wy rm 0 0 nA ∧ (Cond.static y).before args s = true) (hKc : va_K D cl tysC s) (hK : va_K D cl tys s) (hP : va_P D cl ws H) (hD : va_D A ws) (hS : va_S A s.heap H locs) (hA : ∀ q, s.heap.size ≤ q → A q) (hN : xN s) (hE : xE t A s)
    (hC : isC.map (fun i => ws[i]?) = wc.map some) (hR : isR.map (fun i => ws[i]?) = wr.map some) (hnC : va_nd isC = true) (hnR : va_nd isR = true) (hnx : va_nd ix = true) (hdis : ∀ i ∈ isR, i ∉ isC) (hix : ∀ u, ix.map (fun i => (wr ++ wc' u)[i]?) = (ws2 u).map some)
    (hn : As.length = nA) (hsize : ls.size = nL) (hst : st0 = As.reverse ++ rest) (hW : (rest.map fun v => v.category).sum ≤ 8) (hdg : decode cc pc = .ok (.invokestatic index, 3)) (hf : cells ≤ R.cells ∧ slots ≤ R.slots)
    (kk : ∀ (u : S) (H1 : Heap) (locs1 : List Loc), post u → va_P D cl (ws2 u) H1 → va_D A (ws2 u) → va_S A s.heap H1 locs1 → W p l e R s m args below meth c H1 locs1 cells slots Q (F0 m (pc + 3) ls (rest))) : W p l e R s m args below meth c H locs cells slots Q (F0 m pc ls st0) := by
  have hFc := sfree isC hC hD hS hA
  have hPc : va_P D cl wc H := va_Psub hP isC hC
  have hDc : va_D A wc := hD.sub isC hnC hC
  refine va_callv (va_runS (As := As) (rest := rest) S0 hM cw ⟨xPcE_blind, fun U hU hW => ⟨rfl, by rw [hU], by rw [hU]; exact hPc, va_K.moved hW.alike hKc, hDc.weaken (fun _ _ _ _ => trivial), xN_warm hW hN, xE_call hE hS hFc hU hW⟩⟩ rfl hn hsize hst (lv_room hW) hdg hf) hS (fun q _ h => hFc q h) hFc (fun u t H1 locs1 ht hvm hw hB hz1 hk1 hS1 => ?_)
  obtain ⟨hP1, -, hD1⟩ := hB
  rw [ht] at hP1
  obtain ⟨hP2, hD2⟩ := va_join (wr := wr) (w1 := wc' u) hP hD isC isR hC hR hnR hdis hk1 hFc hP1 hD1
  exact kk u H1 locs1 hw (va_Psub hP2 ix (hix u)) (hD2.sub ix hnx (hix u)) hS1

theorem qv_aldq (hexec : p.tables.exec = Jvm.exec) (hb : c.code = cc) (hK : va_K D cl tys s) (hP : va_P D cl ws H) (q0 t0 : Nat) {cA : ClassId} {C : String} {n k : Nat} {f : Nat → Option Nat} {v : Value} (ha : ws[q0]? = some (a, .inl (cA, n, .inr (.inr (.inr (.inr f)))))) (ht : tys[t0]? = some (cA, .object C)) (hk : k < n) (hn : n < 2 ^ 31) (hv : va_rf (f k) = v) (hdg : decode cc pc = .ok (.aaload, 1))
    (kk : W p l e R s m args below meth c H locs cells slots Q (F0 m (pc + 1) ls (v :: rest))) : W p l e R s m args below meth c H locs cells slots Q (F0 m pc ls (.int (nI k) :: .ref a :: rest)) := by
  have hq : (nI k).toNatClampNeg = k := nI_clamp (by omega)
  refine va_aldq hexec hb hK hP q0 t0 ha ht (vp_in_nI hk hn) hdg ?_
  rw [hq, hv]; exact kk
theorem qv_aldA (hexec : p.tables.exec = Jvm.exec) (hb : c.code = cc) (hK : va_K D cl tys s) (hP : va_P D cl ws H) (q0 t0 : Nat) {cA : ClassId} {n k : Nat} {f : Nat → Option Nat} {v : Value} (ha : ws[q0]? = some (a, .inl (cA, n, .inr (.inr (.inr (.inr f)))))) (ht : tys[t0]? = some (cA, .array .int)) (hk : k < n) (hn : n < 2 ^ 31) (hv : va_rf (f k) = v) (hdg : decode cc pc = .ok (.aaload, 1))
    (kk : W p l e R s m args below meth c H locs cells slots Q (F0 m (pc + 1) ls (v :: rest))) : W p l e R s m args below meth c H locs cells slots Q (F0 m pc ls (.int (nI k) :: .ref a :: rest)) := by
  have hq : (nI k).toNatClampNeg = k := nI_clamp (by omega)
  have hin : vp_in (nI k) n := vp_in_nI hk hn
  have hlt : (nI k).toNatClampNeg < n := by rw [hq]; exact hk
  refine W.aald (v := va_rf (f (nI k).toNatClampNeg)) (ty := .array .int) hexec hb (hP q0 _ ha) ((hK.2 t0 _ ht).1 n (fun j => va_rf (f j))) rfl (fun q => by cases q) (by show ¬ (_ < 0 ∨ (arrV _ _ _).slots.size ≤ _); rw [arrV_size]; exact hin) (by show (arrV _ _ _).slots[_]? = _; rw [arrV_read _ _ hlt]) rfl rfl hdg ?_
  rw [hq, hv]; exact kk
end XENV
theorem runAll_gain : ∀ (f : Nat) (n : Int32) (P : pS) (k gn : Nat) (w1 : Nat → Int32), (F_X2_runAll_L4 f n P k gn w1).2.1 ≤ gn + f
  | 0, _, _, _, gn, _ => Nat.le_refl _
  | f + 1, n, P, k, gn, w1 => by
    rw [F_X2_runAll_L4]
    split
    · exact Nat.le_add_right _ _
    · split
      · split
        · have := runAll_gain f n P (k + 1) gn (upd w1 k ((w1 k) + n)); omega
        · have := runAll_gain f n P (k + 1) (gn + 1) (upd (upd w1 k ((w1 k) + n)) k (nI 0)); omega
      · have := runAll_gain f n P (k + 1) gn w1; omega
theorem runAll_in {P P' : pS} {n r : Int32} (e : F_X2_runAll P n = (r, P')) : inB r 9 := by
  unfold F_X2_runAll at e
  simp only [let3] at e
  have g := runAll_gain 7 n P 0 0 (Pwh P)
  split at e
  · rw [← (Prod.mk.inj e).1]; exact inB_nI (by omega) (by decide)
  · rw [← (Prod.mk.inj e).1]; exact inB_nI (by omega) (by decide)
theorem runBall_in {P P' : pS} {n r : Int32} (e : F_X2_runBall P n = (r, P')) : inB r 9 := by
  have z : inB (nI 0) 9 := inB_nI (by decide) (by decide)
  unfold F_X2_runBall at e
  simp only [let1, let2] at e
  split at e
  · rw [← (Prod.mk.inj e).1]; exact z
  · split at e
    · split at e
      · rw [← (Prod.mk.inj e).1]; exact z
      · rw [← (Prod.mk.inj e).1]; exact runAll_in (P' := (F_X2_runAll (Pbo P, Psz P, Pkd P, Plg P, Pwh P, Pnx P, Ppt P, (Pbl P) + (nI 1)) n).2) rfl
    · rw [← (Prod.mk.inj e).1]; exact z
def F_X0_fillWays_L7 : Nat → (pS) → (Nat) → (Nat → Int32) → (Nat) × (Nat → Int32)
  | 0, _, h, f1 => (h, f1)
  | n_7 + 1, P, h, f1 => if 9 < h then (h, f1) else let1 (F_X2_postsBy P (nI h)) (fun r_17 => if r_17 < (nI 4) then (if (F_X5_within ((nI 1) + r_17) (nI 0) (nI 5)) = true then F_X0_fillWays_L7 n_7 P (h + 1) (upd f1 (tN ((nI 1) + r_17)) ((f1 (tN ((nI 1) + r_17))) + (nI 1))) else F_X0_fillWays_L7 n_7 P (h + 1) f1) else (if (F_X5_within (nI 5) (nI 0) (nI 5)) = true then F_X0_fillWays_L7 n_7 P (h + 1) (upd f1 5 ((f1 5) + (nI 1))) else F_X0_fillWays_L7 n_7 P (h + 1) f1))
def F_X0_fillWays (P : pS) (Wy : Nat → Int32) : (Nat → Int32) := let1 (F_J7_fill_53178_v6 Wy (nI 0)) (fun Wy_2 => let2 (F_X0_fillWays_L7 11 P 0 Wy_2) (fun h f1 => f1))
set_option maxHeartbeats 4000000 in
set_option maxRecDepth 100000 in
theorem c_X0_fillWays (l : Launch) (dC : Nat → ClassId) (dI : Nat → Nat → Nat) (b : Nat → Nat) (r : Nat) (cI : ClassId) (sz : Nat) (P : pS) (Wy : Nat → Int32) (pz : inB (Psz P) 6) : Met l yX0_fillWays wsX0_fillWays { frames := 3, cells := 0, slots := 0, locals := 60 } (xPc (dC, dI) vwCl (xT cI) ([(b 0, .inr (2, [.int (Pbo P), .int (Psz P), .ref (b 1), .ref (b 2), .ref (b 3), .int (Pnx P), .int (Ppt P), .int (Pbl P)])), (b 1, .inl (cI, 6, .inl (Pkd P))), (b 2, .inl (cI, 6, .inl (Plg P))), (b 3, .inl (cI, 6, .inl (Pwh P))), (r, .inl (cI, 6, .inl Wy))]) sz [.ref (b 0), .ref r]) (va_Qv (fun (u : (Nat → Int32)) => F_X0_fillWays P Wy = u) (mB (dC, dI) vwCl (xT cI) (va_A ([(b 0, .inr (2, [.int (Pbo P), .int (Psz P), .ref (b 1), .ref (b 2), .ref (b 3), .int (Pnx P), .int (Ppt P), .int (Pbl P)])), (b 1, .inl (cI, 6, .inl (Pkd P))), (b 2, .inl (cI, 6, .inl (Plg P))), (b 3, .inl (cI, 6, .inl (Pwh P))), (r, .inl (cI, 6, .inl Wy))]) sz) (fun u => [(b 0, .inr (2, [.int (Pbo P), .int (Psz P), .ref (b 1), .ref (b 2), .ref (b 3), .int (Pnx P), .int (Ppt P), .int (Pbl P)])), (b 1, .inl (cI, 6, .inl (Pkd P))), (b 2, .inl (cI, 6, .inl (Plg P))), (b 3, .inl (cI, 6, .inl (Pwh P))), (r, .inl (cI, 6, .inl u))])) (va_A ([(b 0, .inr (2, [.int (Pbo P), .int (Psz P), .ref (b 1), .ref (b 2), .ref (b 3), .int (Pnx P), .int (Ppt P), .int (Pbl P)])), (b 1, .inl (cI, 6, .inl (Pkd P))), (b 2, .inl (cI, 6, .inl (Plg P))), (b 3, .inl (cI, 6, .inl (Pwh P))), (r, .inl (cI, 6, .inl Wy))]) sz)) 0 0 (va_A ([(b 0, .inr (2, [.int (Pbo P), .int (Psz P), .ref (b 1), .ref (b 2), .ref (b 3), .int (Pnx P), .int (Ppt P), .int (Pbl P)])), (b 1, .inl (cI, 6, .inl (Pkd P))), (b 2, .inl (cI, 6, .inl (Plg P))), (b 3, .inl (cI, 6, .inl (Pwh P))), (r, .inl (cI, 6, .inl Wy))]) sz) := by
  refine Met.ofW (cc := cX0_fillWays) (maxL := 4) (ret := none) (by decide) rfl ?_
  intro p e s m args below meth c s₁ B hml hv
  obtain ⟨rfl, hsz, hP, hK, hD0, hN⟩ := hv
  have hx := B.exec
  have hb := B.bytes
  have hr := B.returns
  have hts := atoms_spec (ws := wsX0_fillWays) B.pre
  have hown : s.vm.findClass RX0 = some m.cls := findClass_of_methodNamed B.named
  have hlocks := B.notSynchronized
  subst hsz
  have hD := hD0.self (sz := s.heap.size)
  generalize hAe : va_A ([(b 0, .inr (2, [.int (Pbo P), .int (Psz P), .ref (b 1), .ref (b 2), .ref (b 3), .int (Pnx P), .int (Ppt P), .int (Pbl P)])), (b 1, .inl (cI, 6, .inl (Pkd P))), (b 2, .inl (cI, 6, .inl (Plg P))), (b 3, .inl (cI, 6, .inl (Pwh P))), (r, .inl (cI, 6, .inl Wy))]) s.heap.size = A at hD ⊢
  have hA : ∀ q : Nat, s.heap.size ≤ q → A q := fun q h => by rw [← hAe]; exact Or.inr h
  have hS : va_S A s.heap s.heap [] := va_S.rf
  have hN33 := xN_33 hN
  have hl := lv_entry ([.ref (b 0), .ref r]) (n := 4) (Nat.le_of_ble_eq_true rfl)
  rw [lg_entry_eq]
  generalize (lg_sl ([.ref (b 0), .ref r]) ++ List.replicate (4 - (lg_sl ([.ref (b 0), .ref r])).length) Slot.unset).toArray = ls at hl ⊢
  have hl : lv_has ls 4 [(0, .ref (b 0)), (1, .ref r)] := hl
  obtain ⟨OUT, hO⟩ : ∃ z, z = F_X0_fillWays P Wy := ⟨_, rfl⟩
  have hF := hO
  unfold F_X0_fillWays at hF
  have e_pz := tN_eq pz.1
  have b_pz := pz.2
  refine lv_aload_n hx hb dX0_fillWays_0 rfl (lv_at hl 1 rfl) ?_
  refine lv_iconst (v := nI 0) hx hb dX0_fillWays_1 (by decide) ?_
  refine qx_Sv (As := [.ref r, .int (nI 0)]) (rest := []) (wr := [(b 0, .inr (2, [.int (Pbo P), .int (Psz P), .ref (b 1), .ref (b 2), .ref (b 3), .int (Pnx P), .int (Ppt P), .int (Pbl P)])), (b 1, .inl (cI, 6, .inl (Pkd P))), (b 2, .inl (cI, 6, .inl (Plg P))), (b 3, .inl (cI, 6, .inl (Pwh P)))]) (ws2 := fun u => [(b 0, .inr (2, [.int (Pbo P), .int (Psz P), .ref (b 1), .ref (b 2), .ref (b 3), .int (Pnx P), .int (Ppt P), .int (Pbl P)])), (b 1, .inl (cI, 6, .inl (Pkd P))), (b 2, .inl (cI, 6, .inl (Plg P))), (b 3, .inl (cI, 6, .inl (Pwh P))), (r, .inl (cI, 6, .inl u))]) [4] [0, 1, 2, 3] [0, 1, 2, 3, 4] ⟨hx, hb, hml, hown, hts⟩ (c_J7_fill_53178_v6 l dC dI r cI s.heap.size Wy (nI 0) ) (va_cwS 2 hts gX0_fillWays_J7_fill_53178 rfl rfl rfl (by decide +kernel) ⟨Nat.le_of_ble_eq_true rfl, Nat.le_of_ble_eq_true rfl⟩) (hK.sub [0] rfl) hK hP hD hS hA hN rfl rfl (by decide) (by decide) (by decide) (by decide) (fun _ => rfl) rfl hl.1 rfl (Nat.le_of_ble_eq_true rfl) dX0_fillWays_2 ⟨Nat.zero_le _, Nat.zero_le _⟩ (fun u_2 H locs hw_2 hP hD hS => ?_)
  obtain ⟨Wy_2, rfl⟩ : ∃ z, z = u_2 := ⟨_, rfl⟩
  have hP : va_P (dC, dI) vwCl ([(b 0, .inr (2, [.int (Pbo P), .int (Psz P), .ref (b 1), .ref (b 2), .ref (b 3), .int (Pnx P), .int (Ppt P), .int (Pbl P)])), (b 1, .inl (cI, 6, .inl (Pkd P))), (b 2, .inl (cI, 6, .inl (Plg P))), (b 3, .inl (cI, 6, .inl (Pwh P))), (r, .inl (cI, 6, .inl Wy_2))]) H := hP
  have hD : va_D A ([(b 0, .inr (2, [.int (Pbo P), .int (Psz P), .ref (b 1), .ref (b 2), .ref (b 3), .int (Pnx P), .int (Ppt P), .int (Pbl P)])), (b 1, .inl (cI, 6, .inl (Pkd P))), (b 2, .inl (cI, 6, .inl (Plg P))), (b 3, .inl (cI, 6, .inl (Pwh P))), (r, .inl (cI, 6, .inl Wy_2))]) := hD
  rw [hw_2, let1_mk Wy_2] at hF
  refine lv_iconst (v := nI 0) hx hb dX0_fillWays_5 (by decide) ?_
  refine lv_istore_n (lv' := [(2, .int (nI 0)), (0, .ref (b 0)), (1, .ref r)]) hx hb dX0_fillWays_6 rfl hl (by decide) rfl (fun ls hl => ?_)
  have L_7 : ∀ (n_7 : Nat) (h : Nat) (f1 : Nat → Int32) (H : Heap) (locs : List Loc), h ≤ 10 → 10 - h < n_7 → va_P (dC, dI) vwCl ([(b 0, .inr (2, [.int (Pbo P), .int (Psz P), .ref (b 1), .ref (b 2), .ref (b 3), .int (Pnx P), .int (Ppt P), .int (Pbl P)])), (b 1, .inl (cI, 6, .inl (Pkd P))), (b 2, .inl (cI, 6, .inl (Plg P))), (b 3, .inl (cI, 6, .inl (Pwh P))), (r, .inl (cI, 6, .inl f1))]) H → va_D A ([(b 0, .inr (2, [.int (Pbo P), .int (Psz P), .ref (b 1), .ref (b 2), .ref (b 3), .int (Pnx P), .int (Ppt P), .int (Pbl P)])), (b 1, .inl (cI, 6, .inl (Pkd P))), (b 2, .inl (cI, 6, .inl (Plg P))), (b 3, .inl (cI, 6, .inl (Pwh P))), (r, .inl (cI, 6, .inl f1))]) → va_S A s.heap H locs → ∀ (ls : Array Slot), lv_has ls 4 [(2, .int (nI h)), (0, .ref (b 0)), (1, .ref r)] → OUT = let2 (F_X0_fillWays_L7 n_7 P h f1) (fun h f1 => f1) → W p l e (headSpec wsX0_fillWays { frames := 3, cells := 0, slots := 0, locals := 60 }).room s m ([.ref (b 0), .ref r] : List Value).toArray below meth c H locs 0 0 (MQ below (va_Qv (fun (u : (Nat → Int32)) => F_X0_fillWays P Wy = u) (mB (dC, dI) vwCl (xT cI) A (fun u => [(b 0, .inr (2, [.int (Pbo P), .int (Psz P), .ref (b 1), .ref (b 2), .ref (b 3), .int (Pnx P), .int (Ppt P), .int (Pbl P)])), (b 1, .inl (cI, 6, .inl (Pkd P))), (b 2, .inl (cI, 6, .inl (Plg P))), (b 3, .inl (cI, 6, .inl (Pwh P))), (r, .inl (cI, 6, .inl u))])) A) ([.ref (b 0), .ref r] : List Value).toArray s 0 0 A) (F0 m 7 ls []) := by
    intro n_7
    induction n_7 with
    | zero => intro h f1 H locs i0 hmu; exact absurd hmu (Nat.not_lt_zero _)
    | succ n_7 ih_7 =>
      intro h f1 H locs i0 hmu_7 hP hD hS ls hl hF
      rw [F_X0_fillWays_L7] at hF
      refine lv_iload_n hx hb dX0_fillWays_7 rfl (lv_at hl 0 rfl) ?_
      refine lv_bipush (v := nI 9) hx hb dX0_fillWays_8 (by decide) ?_
      refine qv_icmp_gt (tgt := 50) hx hb dX0_fillWays_10 (by decide) (by omega) (by omega) (fun c_10 => ?_) (fun c_10 => ?_)
      · rw [if_pos c_10] at hF
        rw [let2_mk (h : Nat) (f1 : Nat → Int32)] at hF
        have hP9 : va_P (dC, dI) vwCl ([(b 0, .inr (2, [.int (Pbo P), .int (Psz P), .ref (b 1), .ref (b 2), .ref (b 3), .int (Pnx P), .int (Ppt P), .int (Pbl P)])), (b 1, .inl (cI, 6, .inl (Pkd P))), (b 2, .inl (cI, 6, .inl (Plg P))), (b 3, .inl (cI, 6, .inl (Pwh P))), (r, .inl (cI, 6, .inl f1))]) H := hP
        exact W.vret hx hb hr (fun t ht hW => ⟨⟨(f1), rfl, hO.symm.trans hF, by rw [ht]; exact hP9, va_K.moved hW.alike hK, hD⟩, hS.F ht⟩) hS.2.2 dX0_fillWays_50
      · rw [if_neg c_10] at hF
        refine lv_iconst (v := nI 1) hx hb dX0_fillWays_13 (by decide) ?_
        refine lv_iconst (v := nI 4) hx hb dX0_fillWays_14 (by decide) ?_
        refine lv_aload_n hx hb dX0_fillWays_15 rfl (lv_at hl 1 rfl) ?_
        refine lv_iload_n hx hb dX0_fillWays_16 rfl (lv_at hl 0 rfl) ?_
        refine qx_Vi (C := RX2) (As := [.int (nI h)]) (rest := [.int (nI 4), .int (nI 1)]) (ci := 2) (k0 := 0) (wr := [(r, .inl (cI, 6, .inl f1))]) (ws2 := fun u => [(b 0, .inr (2, [.int (Pbo P), .int (Psz P), .ref (b 1), .ref (b 2), .ref (b 3), .int (Pnx P), .int (Ppt P), .int (Pbl P)])), (b 1, .inl (cI, 6, .inl (Pkd P))), (b 2, .inl (cI, 6, .inl (Plg P))), (b 3, .inl (cI, 6, .inl (Pwh P))), (r, .inl (cI, 6, .inl f1))]) [0, 1, 2, 3] [4] [1, 2, 3, 4, 0] ⟨hx, hb, hml, hown, hts⟩ (c_X2_postsBy l dC dI b cI H.size P (nI h) (pz : inB (Psz P) 6)) (cwV 1 hts gX0_fillWays_X2_postsBy rfl rfl rfl (by decide +kernel) ⟨Nat.le_of_ble_eq_true rfl, Nat.le_of_ble_eq_true rfl⟩) (hK.sub [0] rfl) hK hP hD hS hA hN rfl rfl (by decide) (by decide) (by decide) (by decide) (fun _ => rfl) rfl rfl rfl rfl hl.1 rfl (Nat.le_of_ble_eq_true rfl) dX0_fillWays_17 ⟨Nat.zero_le _, Nat.zero_le _⟩ (fun r_17 u_17 H locs hw_17 hP hD hS => ?_)
        have hP : va_P (dC, dI) vwCl ([(b 0, .inr (2, [.int (Pbo P), .int (Psz P), .ref (b 1), .ref (b 2), .ref (b 3), .int (Pnx P), .int (Ppt P), .int (Pbl P)])), (b 1, .inl (cI, 6, .inl (Pkd P))), (b 2, .inl (cI, 6, .inl (Plg P))), (b 3, .inl (cI, 6, .inl (Pwh P))), (r, .inl (cI, 6, .inl f1))]) H := hP
        have hD : va_D A ([(b 0, .inr (2, [.int (Pbo P), .int (Psz P), .ref (b 1), .ref (b 2), .ref (b 3), .int (Pnx P), .int (Ppt P), .int (Pbl P)])), (b 1, .inl (cI, 6, .inl (Pkd P))), (b 2, .inl (cI, 6, .inl (Plg P))), (b 3, .inl (cI, 6, .inl (Pwh P))), (r, .inl (cI, 6, .inl f1))]) := hD
        rw [hw_17, let1_mk r_17] at hF
        refine va_mmin hx hb (hml.trans hl.1.symm) hown (hts (.methodLink RX0 49 Lib.Math.min.name) (by decide +kernel)) (hts (.static Lib.Math.min.name) (by decide +kernel)) (hts (.initialized "java/lang/Math") (by decide +kernel)) (hts (.code Lib.Math.min.name Lib.Math.min.code 2 (some .int)) (by decide +kernel)) (Nat.le_of_ble_eq_true rfl) (Nat.le_of_ble_eq_true rfl) (Nat.zero_le _) (Nat.zero_le _) dX0_fillWays_20 ?_
        by_cases c_20 : r_17 < (nI 4)
        · rw [if_pos c_20] at hF ⊢
          refine lv_iadd hx hb dX0_fillWays_23 ?_
          refine lv_istore_n (lv' := [(3, .int ((nI 1) + r_17)), (2, .int (nI h)), (0, .ref (b 0)), (1, .ref r)]) hx hb dX0_fillWays_24 rfl hl (by decide) rfl (fun ls hl => ?_)
          refine lv_iload_n hx hb dX0_fillWays_25 rfl (lv_at hl 0 rfl) ?_
          refine lv_iconst (v := nI 0) hx hb dX0_fillWays_26 (by decide) ?_
          refine lv_aload_n hx hb dX0_fillWays_27 rfl (lv_at hl 3 rfl) ?_
          refine va_alen (v := nI 6) hx hb hK hP 4 0 rfl rfl rfl dX0_fillWays_28 ?_
          refine lv_iconst (v := nI 1) hx hb dX0_fillWays_29 (by decide) ?_
          refine qv_isub hx hb (5) dX0_fillWays_30 (by omega) ?_
          refine qc_SiN (As := [.int ((nI 1) + r_17), .int (nI 0), .int (nI 5)]) (rest := []) ⟨hx, hb, hml, hown, hts⟩ (c_X5_within l ((nI 1) + r_17) (nI 0) (nI 5)) (va_cnB 3 hts gX0_fillWays_X5_within_n33 rfl rfl rfl hN33 (hts (.initialized RX5) (by decide +kernel)) (by decide +kernel) ⟨Nat.le_of_ble_eq_true rfl, Nat.le_of_ble_eq_true rfl⟩) (hts (.static yX5_within) (by decide +kernel)) rfl hl.1 rfl (Nat.le_of_ble_eq_true rfl) dX0_fillWays_31 ⟨Nat.zero_le _, Nat.zero_le _⟩ (fun r_31 hw_31 => ?_)
          subst hw_31
          refine qv_zif_eq (tgt := 44) hx hb dX0_fillWays_34 (by decide) (fun c_34 => ?_) (fun c_34 => ?_)
          · rw [if_neg c_34] at hF
            refine lv_iinc (v := nI (h + 1)) (lv' := [(2, .int (nI (h + 1))), (3, .int ((nI 1) + r_17)), (0, .ref (b 0)), (1, .ref r)]) hx hb dX0_fillWays_44 hl (k := 1) rfl (qn_inc (c := 1) rfl (by omega)) (by decide) rfl (fun ls hl => ?_)
            refine lv_goto (tgt := 7) hx hb dX0_fillWays_47 (by decide) ?_
            exact ih_7 (h + 1) f1 H locs (by omega) (by omega) hP hD hS ls (lv_sub hl [0, 2, 3] rfl) hF
          · rw [if_pos c_34] at hF
            obtain ⟨f_y, fa_y, fb_y⟩ := within_nat (by decide) (by decide) c_34
            have e_y := tN_eq f_y
            refine lv_aload_n hx hb dX0_fillWays_37 rfl (lv_at hl 3 rfl) ?_
            refine lv_iload_n hx hb dX0_fillWays_38 rfl (lv_at hl 0 rfl) ?_
            refine qv_top (e_y) ?_
            refine lv_dup2_11 hx hb dX0_fillWays_39 rfl rfl ?_
            refine qv_ald (v := f1 (tN ((nI 1) + r_17))) hx hb hK hP 4 0 rfl rfl (by omega) (by decide) (rfl) dX0_fillWays_40 ?_
            refine lv_iconst (v := nI 1) hx hb dX0_fillWays_41 (by decide) ?_
            refine lv_iadd hx hb dX0_fillWays_42 ?_
            refine qv_ast (ws' := [(b 0, .inr (2, [.int (Pbo P), .int (Psz P), .ref (b 1), .ref (b 2), .ref (b 3), .int (Pnx P), .int (Ppt P), .int (Pbl P)])), (b 1, .inl (cI, 6, .inl (Pkd P))), (b 2, .inl (cI, 6, .inl (Plg P))), (b 3, .inl (cI, 6, .inl (Pwh P))), (r, .inl (cI, 6, .inl (upd f1 (tN ((nI 1) + r_17)) ((f1 (tN ((nI 1) + r_17))) + (nI 1)))))]) hx hb hK hP hD hS 4 0 rfl rfl (by omega) (by decide) dX0_fillWays_43 rfl (fun H locs hP hD hS => ?_)
            refine lv_iinc (v := nI (h + 1)) (lv' := [(2, .int (nI (h + 1))), (3, .int ((nI 1) + r_17)), (0, .ref (b 0)), (1, .ref r)]) hx hb dX0_fillWays_44 hl (k := 1) rfl (qn_inc (c := 1) rfl (by omega)) (by decide) rfl (fun ls hl => ?_)
            refine lv_goto (tgt := 7) hx hb dX0_fillWays_47 (by decide) ?_
            exact ih_7 (h + 1) (upd f1 (tN ((nI 1) + r_17)) ((f1 (tN ((nI 1) + r_17))) + (nI 1))) H locs (by omega) (by omega) hP hD hS ls (lv_sub hl [0, 2, 3] rfl) hF
        · rw [if_neg c_20] at hF ⊢
          refine qv_iadd hx hb (5) dX0_fillWays_23 (by omega) ?_
          refine lv_istore_n (lv' := [(3, .int (nI 5)), (2, .int (nI h)), (0, .ref (b 0)), (1, .ref r)]) hx hb dX0_fillWays_24 rfl hl (by decide) rfl (fun ls hl => ?_)
          refine lv_iload_n hx hb dX0_fillWays_25 rfl (lv_at hl 0 rfl) ?_
          refine lv_iconst (v := nI 0) hx hb dX0_fillWays_26 (by decide) ?_
          refine lv_aload_n hx hb dX0_fillWays_27 rfl (lv_at hl 3 rfl) ?_
          refine va_alen (v := nI 6) hx hb hK hP 4 0 rfl rfl rfl dX0_fillWays_28 ?_
          refine lv_iconst (v := nI 1) hx hb dX0_fillWays_29 (by decide) ?_
          refine qv_isub hx hb (5) dX0_fillWays_30 (by omega) ?_
          refine qc_SiN (As := [.int (nI 5), .int (nI 0), .int (nI 5)]) (rest := []) ⟨hx, hb, hml, hown, hts⟩ (c_X5_within l (nI 5) (nI 0) (nI 5)) (va_cnB 3 hts gX0_fillWays_X5_within_n33 rfl rfl rfl hN33 (hts (.initialized RX5) (by decide +kernel)) (by decide +kernel) ⟨Nat.le_of_ble_eq_true rfl, Nat.le_of_ble_eq_true rfl⟩) (hts (.static yX5_within) (by decide +kernel)) rfl hl.1 rfl (Nat.le_of_ble_eq_true rfl) dX0_fillWays_31 ⟨Nat.zero_le _, Nat.zero_le _⟩ (fun r_31 hw_31 => ?_)
          subst hw_31
          refine qv_zif_eq (tgt := 44) hx hb dX0_fillWays_34 (by decide) (fun c_34 => ?_) (fun c_34 => ?_)
          · rw [if_neg c_34] at hF
            refine lv_iinc (v := nI (h + 1)) (lv' := [(2, .int (nI (h + 1))), (3, .int (nI 5)), (0, .ref (b 0)), (1, .ref r)]) hx hb dX0_fillWays_44 hl (k := 1) rfl (qn_inc (c := 1) rfl (by omega)) (by decide) rfl (fun ls hl => ?_)
            refine lv_goto (tgt := 7) hx hb dX0_fillWays_47 (by decide) ?_
            exact ih_7 (h + 1) f1 H locs (by omega) (by omega) hP hD hS ls (lv_sub hl [0, 2, 3] rfl) hF
          · rw [if_pos c_34] at hF
            refine lv_aload_n hx hb dX0_fillWays_37 rfl (lv_at hl 3 rfl) ?_
            refine lv_iload_n hx hb dX0_fillWays_38 rfl (lv_at hl 0 rfl) ?_
            refine lv_dup2_11 hx hb dX0_fillWays_39 rfl rfl ?_
            refine qv_ald (v := f1 5) hx hb hK hP 4 0 rfl rfl (by omega) (by decide) (rfl) dX0_fillWays_40 ?_
            refine lv_iconst (v := nI 1) hx hb dX0_fillWays_41 (by decide) ?_
            refine lv_iadd hx hb dX0_fillWays_42 ?_
            refine qv_ast (ws' := [(b 0, .inr (2, [.int (Pbo P), .int (Psz P), .ref (b 1), .ref (b 2), .ref (b 3), .int (Pnx P), .int (Ppt P), .int (Pbl P)])), (b 1, .inl (cI, 6, .inl (Pkd P))), (b 2, .inl (cI, 6, .inl (Plg P))), (b 3, .inl (cI, 6, .inl (Pwh P))), (r, .inl (cI, 6, .inl (upd f1 5 ((f1 5) + (nI 1)))))]) hx hb hK hP hD hS 4 0 rfl rfl (by omega) (by decide) dX0_fillWays_43 rfl (fun H locs hP hD hS => ?_)
            refine lv_iinc (v := nI (h + 1)) (lv' := [(2, .int (nI (h + 1))), (3, .int (nI 5)), (0, .ref (b 0)), (1, .ref r)]) hx hb dX0_fillWays_44 hl (k := 1) rfl (qn_inc (c := 1) rfl (by omega)) (by decide) rfl (fun ls hl => ?_)
            refine lv_goto (tgt := 7) hx hb dX0_fillWays_47 (by decide) ?_
            exact ih_7 (h + 1) (upd f1 5 ((f1 5) + (nI 1))) H locs (by omega) (by omega) hP hD hS ls (lv_sub hl [0, 2, 3] rfl) hF
  exact L_7 11 0 Wy_2 H locs (by omega) (by omega) hP hD hS ls (lv_sub hl [0, 1, 2] rfl) hF
def F_X0_casesFrom_L8 : Nat → (Nat → Int32) → (Nat) → (Int32) → (Nat) × (Int32)
  | 0, _, k, su => (k, su)
  | n_8 + 1, Cs, k, su => if 20 < k then (k, su) else F_X0_casesFrom_L8 n_8 Cs (k + 1) (su + (Cs k))
def F_X0_casesFrom_L8b : Nat → (Nat → Int32) → (Nat) → (Int32) → (Nat) × (Int32)
  | 0, _, k, su => (k, su)
  | n_8 + 1, Cs, k, su => if 20 < k then (k, su) else F_X0_casesFrom_L8b n_8 Cs (k + 1) (su + (Cs k))
def F_X0_casesFrom (Cs : Nat → Int32) (g0 : Nat) : Int32 := if (nI 0) < (nI g0) then let2 (F_X0_casesFrom_L8 22 Cs g0 (nI 0)) (fun k su => su) else let2 (F_X0_casesFrom_L8b 22 Cs 0 (nI 0)) (fun k su => su)
set_option maxHeartbeats 4000000 in
set_option maxRecDepth 100000 in
theorem c_X0_casesFrom (l : Launch) (dC : Nat → ClassId) (dI : Nat → Nat → Nat) (x : Nat → Nat) (cI : ClassId) (sz : Nat) (Cs : Nat → Int32) (g0 : Nat) (hg : g0 ≤ 20) : Met l yX0_casesFrom wsX0_casesFrom { frames := 1, cells := 0, slots := 0, locals := 13 } (xPc (dC, dI) vwCl (xT cI) ([(x 22, .inr (0, [.ref (x 23), .ref (x 44), .ref (x 50)])), (x 50, .inl (cI, 21, .inl Cs))]) sz [.ref (x 22), .int (nI g0)]) (va_Qi (fun (r : Int32) (u : Unit) => F_X0_casesFrom Cs g0 = r) (mB (dC, dI) vwCl (xT cI) (va_A ([(x 22, .inr (0, [.ref (x 23), .ref (x 44), .ref (x 50)])), (x 50, .inl (cI, 21, .inl Cs))]) sz) (fun u => [(x 22, .inr (0, [.ref (x 23), .ref (x 44), .ref (x 50)])), (x 50, .inl (cI, 21, .inl Cs))])) (va_A ([(x 22, .inr (0, [.ref (x 23), .ref (x 44), .ref (x 50)])), (x 50, .inl (cI, 21, .inl Cs))]) sz)) 0 0 (va_A ([(x 22, .inr (0, [.ref (x 23), .ref (x 44), .ref (x 50)])), (x 50, .inl (cI, 21, .inl Cs))]) sz) := by
  refine Met.ofW (cc := cX0_casesFrom) (maxL := 4) (ret := (some .int)) (by decide) rfl ?_
  intro p e s m args below meth c s₁ B hml hv
  obtain ⟨rfl, hsz, hP, hK, hD0, hN⟩ := hv
  have hx := B.exec
  have hb := B.bytes
  have hr := B.returns
  have hts := atoms_spec (ws := wsX0_casesFrom) B.pre
  have hown : s.vm.findClass RX0 = some m.cls := findClass_of_methodNamed B.named
  have hlocks := B.notSynchronized
  subst hsz
  have hD := hD0.self (sz := s.heap.size)
  generalize hAe : va_A ([(x 22, .inr (0, [.ref (x 23), .ref (x 44), .ref (x 50)])), (x 50, .inl (cI, 21, .inl Cs))]) s.heap.size = A at hD ⊢
  have hA : ∀ q : Nat, s.heap.size ≤ q → A q := fun q h => by rw [← hAe]; exact Or.inr h
  have hS : va_S A s.heap s.heap [] := va_S.rf
  have hin0 : ∀ w ∈ wsX00, w ∈ wsX0_casesFrom := by decide +kernel
  have lk22 := hts (.fieldLink RX0 22 "PostRounders$Chances" "cases" "[I") (by decide +kernel)
  have hl := lv_entry ([.ref (x 22), .int (nI g0)]) (n := 4) (Nat.le_of_ble_eq_true rfl)
  rw [lg_entry_eq]
  generalize (lg_sl ([.ref (x 22), .int (nI g0)]) ++ List.replicate (4 - (lg_sl ([.ref (x 22), .int (nI g0)])).length) Slot.unset).toArray = ls at hl ⊢
  have hl : lv_has ls 4 [(0, .ref (x 22)), (1, .int (nI g0))] := hl
  obtain ⟨OUT, hO⟩ : ∃ z, z = F_X0_casesFrom Cs g0 := ⟨_, rfl⟩
  have hF := hO
  unfold F_X0_casesFrom at hF
  refine lv_iconst (v := nI 0) hx hb dX0_casesFrom_0 (by decide) ?_
  refine lv_istore_n (lv' := [(2, .int (nI 0)), (0, .ref (x 22)), (1, .int (nI g0))]) hx hb dX0_casesFrom_1 rfl hl (by decide) rfl (fun ls hl => ?_)
  refine lv_iconst (v := nI 0) hx hb dX0_casesFrom_2 (by decide) ?_
  refine lv_iload_n hx hb dX0_casesFrom_3 rfl (lv_at hl 2 rfl) ?_
  refine va_mmax hx hb (hml.trans hl.1.symm) hown (hts (.methodLink RX0 69 Lib.Math.max.name) (by decide +kernel)) (hts (.static Lib.Math.max.name) (by decide +kernel)) (hts (.initialized "java/lang/Math") (by decide +kernel)) (hts (.code Lib.Math.max.name Lib.Math.max.code 2 (some .int)) (by decide +kernel)) (Nat.le_of_ble_eq_true rfl) (Nat.le_of_ble_eq_true rfl) (Nat.zero_le _) (Nat.zero_le _) dX0_casesFrom_4 ?_
  by_cases c_4 : (nI 0) < (nI g0)
  · rw [if_pos c_4] at hF ⊢
    have cn_4 := (nI_ltI (by omega) (by omega)).mp c_4
    refine lv_istore_n (lv' := [(3, .int (nI g0)), (2, .int (nI 0)), (0, .ref (x 22)), (1, .int (nI g0))]) hx hb dX0_casesFrom_7 rfl hl (by decide) rfl (fun ls hl => ?_)
    have L_8 : ∀ (n_8 : Nat) (k : Nat) (su : Int32) (H : Heap) (locs : List Loc), k ≤ 21 → 21 - k < n_8 → va_P (dC, dI) vwCl ([(x 22, .inr (0, [.ref (x 23), .ref (x 44), .ref (x 50)])), (x 50, .inl (cI, 21, .inl Cs))]) H → va_D A ([(x 22, .inr (0, [.ref (x 23), .ref (x 44), .ref (x 50)])), (x 50, .inl (cI, 21, .inl Cs))]) → va_S A s.heap H locs → ∀ (ls : Array Slot), lv_has ls 4 [(3, .int (nI k)), (2, .int su), (0, .ref (x 22)), (1, .int (nI g0))] → OUT = let2 (F_X0_casesFrom_L8 n_8 Cs k su) (fun k su => su) → W p l e (headSpec wsX0_casesFrom { frames := 1, cells := 0, slots := 0, locals := 13 }).room s m ([.ref (x 22), .int (nI g0)] : List Value).toArray below meth c H locs 0 0 (MQ below (va_Qi (fun (r : Int32) (u : Unit) => F_X0_casesFrom Cs g0 = r) (mB (dC, dI) vwCl (xT cI) A (fun u => [(x 22, .inr (0, [.ref (x 23), .ref (x 44), .ref (x 50)])), (x 50, .inl (cI, 21, .inl Cs))])) A) ([.ref (x 22), .int (nI g0)] : List Value).toArray s 0 0 A) (F0 m 8 ls []) := by
      intro n_8
      induction n_8 with
      | zero => intro k su H locs i0 hmu; exact absurd hmu (Nat.not_lt_zero _)
      | succ n_8 ih_8 =>
        intro k su H locs i0 hmu_8 hP hD hS ls hl hF
        rw [F_X0_casesFrom_L8] at hF
        refine lv_iload_n hx hb dX0_casesFrom_8 rfl (lv_at hl 0 rfl) ?_
        refine lv_bipush (v := nI 20) hx hb dX0_casesFrom_9 (by decide) ?_
        refine qv_icmp_gt (tgt := 29) hx hb dX0_casesFrom_11 (by decide) (by omega) (by omega) (fun c_11 => ?_) (fun c_11 => ?_)
        · rw [if_pos c_11] at hF
          rw [let2_mk (k : Nat) (su : Int32)] at hF
          refine lv_iload_n hx hb dX0_casesFrom_29 rfl (lv_at hl 1 rfl) ?_
          have hP9 : va_P (dC, dI) vwCl ([(x 22, .inr (0, [.ref (x 23), .ref (x 44), .ref (x 50)])), (x 50, .inl (cI, 21, .inl Cs))]) H := hP
          exact W.iret (v := su) hx hb hr (fun t ht hW => ⟨⟨_, (()), rfl, hO.symm.trans hF, by rw [ht]; exact hP9, va_K.moved hW.alike hK, hD⟩, hS.F ht⟩) hS.2.2 dX0_casesFrom_30
        · rw [if_neg c_11] at hF
          refine lv_iload_n hx hb dX0_casesFrom_14 rfl (lv_at hl 1 rfl) ?_
          refine lv_aload_n hx hb dX0_casesFrom_15 rfl (lv_at hl 2 rfl) ?_
          refine va_get (D := (dC, dI)) (ci := 0) (v := .ref (x 50)) (C := RX0) (T := TX0) (N := 3) hx hb hts hin0 hown hK hP 0 rfl rfl 2 (by decide) lk22 (fun _ h9 => h9) rfl dX0_casesFrom_16 ?_
          refine lv_iload_n hx hb dX0_casesFrom_19 rfl (lv_at hl 0 rfl) ?_
          refine qv_ald (v := Cs k) hx hb hK hP 1 0 rfl rfl (by omega) (by decide) (rfl) dX0_casesFrom_20 ?_
          refine lv_iadd hx hb dX0_casesFrom_21 ?_
          refine lv_istore_n (lv' := [(2, .int (su + (Cs k))), (3, .int (nI k)), (0, .ref (x 22)), (1, .int (nI g0))]) hx hb dX0_casesFrom_22 rfl hl (by decide) rfl (fun ls hl => ?_)
          refine lv_iinc (v := nI (k + 1)) (lv' := [(3, .int (nI (k + 1))), (2, .int (su + (Cs k))), (0, .ref (x 22)), (1, .int (nI g0))]) hx hb dX0_casesFrom_23 hl (k := 1) rfl (qn_inc (c := 1) rfl (by omega)) (by decide) rfl (fun ls hl => ?_)
          refine lv_goto (tgt := 8) hx hb dX0_casesFrom_26 (by decide) ?_
          exact ih_8 (k + 1) (su + (Cs k)) H locs (by omega) (by omega) hP hD hS ls (lv_sub hl [0, 1, 2, 3] rfl) hF
    exact L_8 22 g0 (nI 0) s.heap [] (by omega) (by omega) hP hD hS ls (lv_sub hl [0, 1, 2, 3] rfl) hF
  · rw [if_neg c_4] at hF ⊢
    have cn_4 : ¬ 0 < g0 := fun q => c_4 ((nI_ltI (by omega) (by omega)).mpr q)
    refine lv_istore_n (lv' := [(3, .int (nI 0)), (2, .int (nI 0)), (0, .ref (x 22)), (1, .int (nI g0))]) hx hb dX0_casesFrom_7 rfl hl (by decide) rfl (fun ls hl => ?_)
    have L_8 : ∀ (n_8 : Nat) (k : Nat) (su : Int32) (H : Heap) (locs : List Loc), k ≤ 21 → 21 - k < n_8 → va_P (dC, dI) vwCl ([(x 22, .inr (0, [.ref (x 23), .ref (x 44), .ref (x 50)])), (x 50, .inl (cI, 21, .inl Cs))]) H → va_D A ([(x 22, .inr (0, [.ref (x 23), .ref (x 44), .ref (x 50)])), (x 50, .inl (cI, 21, .inl Cs))]) → va_S A s.heap H locs → ∀ (ls : Array Slot), lv_has ls 4 [(3, .int (nI k)), (2, .int su), (0, .ref (x 22)), (1, .int (nI g0))] → OUT = let2 (F_X0_casesFrom_L8b n_8 Cs k su) (fun k su => su) → W p l e (headSpec wsX0_casesFrom { frames := 1, cells := 0, slots := 0, locals := 13 }).room s m ([.ref (x 22), .int (nI g0)] : List Value).toArray below meth c H locs 0 0 (MQ below (va_Qi (fun (r : Int32) (u : Unit) => F_X0_casesFrom Cs g0 = r) (mB (dC, dI) vwCl (xT cI) A (fun u => [(x 22, .inr (0, [.ref (x 23), .ref (x 44), .ref (x 50)])), (x 50, .inl (cI, 21, .inl Cs))])) A) ([.ref (x 22), .int (nI g0)] : List Value).toArray s 0 0 A) (F0 m 8 ls []) := by
      intro n_8
      induction n_8 with
      | zero => intro k su H locs i0 hmu; exact absurd hmu (Nat.not_lt_zero _)
      | succ n_8 ih_8 =>
        intro k su H locs i0 hmu_8 hP hD hS ls hl hF
        rw [F_X0_casesFrom_L8b] at hF
        refine lv_iload_n hx hb dX0_casesFrom_8 rfl (lv_at hl 0 rfl) ?_
        refine lv_bipush (v := nI 20) hx hb dX0_casesFrom_9 (by decide) ?_
        refine qv_icmp_gt (tgt := 29) hx hb dX0_casesFrom_11 (by decide) (by omega) (by omega) (fun c_11 => ?_) (fun c_11 => ?_)
        · rw [if_pos c_11] at hF
          rw [let2_mk (k : Nat) (su : Int32)] at hF
          refine lv_iload_n hx hb dX0_casesFrom_29 rfl (lv_at hl 1 rfl) ?_
          have hP9 : va_P (dC, dI) vwCl ([(x 22, .inr (0, [.ref (x 23), .ref (x 44), .ref (x 50)])), (x 50, .inl (cI, 21, .inl Cs))]) H := hP
          exact W.iret (v := su) hx hb hr (fun t ht hW => ⟨⟨_, (()), rfl, hO.symm.trans hF, by rw [ht]; exact hP9, va_K.moved hW.alike hK, hD⟩, hS.F ht⟩) hS.2.2 dX0_casesFrom_30
        · rw [if_neg c_11] at hF
          refine lv_iload_n hx hb dX0_casesFrom_14 rfl (lv_at hl 1 rfl) ?_
          refine lv_aload_n hx hb dX0_casesFrom_15 rfl (lv_at hl 2 rfl) ?_
          refine va_get (D := (dC, dI)) (ci := 0) (v := .ref (x 50)) (C := RX0) (T := TX0) (N := 3) hx hb hts hin0 hown hK hP 0 rfl rfl 2 (by decide) lk22 (fun _ h9 => h9) rfl dX0_casesFrom_16 ?_
          refine lv_iload_n hx hb dX0_casesFrom_19 rfl (lv_at hl 0 rfl) ?_
          refine qv_ald (v := Cs k) hx hb hK hP 1 0 rfl rfl (by omega) (by decide) (rfl) dX0_casesFrom_20 ?_
          refine lv_iadd hx hb dX0_casesFrom_21 ?_
          refine lv_istore_n (lv' := [(2, .int (su + (Cs k))), (3, .int (nI k)), (0, .ref (x 22)), (1, .int (nI g0))]) hx hb dX0_casesFrom_22 rfl hl (by decide) rfl (fun ls hl => ?_)
          refine lv_iinc (v := nI (k + 1)) (lv' := [(3, .int (nI (k + 1))), (2, .int (su + (Cs k))), (0, .ref (x 22)), (1, .int (nI g0))]) hx hb dX0_casesFrom_23 hl (k := 1) rfl (qn_inc (c := 1) rfl (by omega)) (by decide) rfl (fun ls hl => ?_)
          refine lv_goto (tgt := 8) hx hb dX0_casesFrom_26 (by decide) ?_
          exact ih_8 (k + 1) (su + (Cs k)) H locs (by omega) (by omega) hP hD hS ls (lv_sub hl [0, 1, 2, 3] rfl) hF
    exact L_8 22 0 (nI 0) s.heap [] (by omega) (by omega) hP hD hS ls (lv_sub hl [0, 1, 2, 3] rfl) hF
def F_X0_sumOfGains_L4 : Nat → (Nat → Int32) → (Nat) → (Int32) → (Nat) × (Int32)
  | 0, _, k, su => (k, su)
  | n_4 + 1, Cs, k, su => if 20 < k then (k, su) else F_X0_sumOfGains_L4 n_4 Cs (k + 1) (su + ((nI k) * (Cs k)))
def F_X0_sumOfGains (Cs : Nat → Int32) : Int32 := let2 (F_X0_sumOfGains_L4 22 Cs 0 (nI 0)) (fun k su => su)
set_option maxHeartbeats 4000000 in
set_option maxRecDepth 100000 in
theorem c_X0_sumOfGains (l : Launch) (dC : Nat → ClassId) (dI : Nat → Nat → Nat) (x : Nat → Nat) (cI : ClassId) (sz : Nat) (Cs : Nat → Int32) : Met l yX0_sumOfGains wsX0_sumOfGains { frames := 0, cells := 0, slots := 0, locals := 0 } (xPc (dC, dI) vwCl (xT cI) ([(x 22, .inr (0, [.ref (x 23), .ref (x 44), .ref (x 50)])), (x 50, .inl (cI, 21, .inl Cs))]) sz [.ref (x 22)]) (va_Qi (fun (r : Int32) (u : Unit) => F_X0_sumOfGains Cs = r) (mB (dC, dI) vwCl (xT cI) (va_A ([(x 22, .inr (0, [.ref (x 23), .ref (x 44), .ref (x 50)])), (x 50, .inl (cI, 21, .inl Cs))]) sz) (fun u => [(x 22, .inr (0, [.ref (x 23), .ref (x 44), .ref (x 50)])), (x 50, .inl (cI, 21, .inl Cs))])) (va_A ([(x 22, .inr (0, [.ref (x 23), .ref (x 44), .ref (x 50)])), (x 50, .inl (cI, 21, .inl Cs))]) sz)) 0 0 (va_A ([(x 22, .inr (0, [.ref (x 23), .ref (x 44), .ref (x 50)])), (x 50, .inl (cI, 21, .inl Cs))]) sz) := by
  refine Met.ofW (cc := cX0_sumOfGains) (maxL := 3) (ret := (some .int)) (by decide) rfl ?_
  intro p e s m args below meth c s₁ B hml hv
  obtain ⟨rfl, hsz, hP, hK, hD0, hN⟩ := hv
  have hx := B.exec
  have hb := B.bytes
  have hr := B.returns
  have hts := atoms_spec (ws := wsX0_sumOfGains) B.pre
  have hown : s.vm.findClass RX0 = some m.cls := findClass_of_methodNamed B.named
  have hlocks := B.notSynchronized
  subst hsz
  have hD := hD0.self (sz := s.heap.size)
  generalize hAe : va_A ([(x 22, .inr (0, [.ref (x 23), .ref (x 44), .ref (x 50)])), (x 50, .inl (cI, 21, .inl Cs))]) s.heap.size = A at hD ⊢
  have hA : ∀ q : Nat, s.heap.size ≤ q → A q := fun q h => by rw [← hAe]; exact Or.inr h
  have hS : va_S A s.heap s.heap [] := va_S.rf
  have hin0 : ∀ w ∈ wsX00, w ∈ wsX0_sumOfGains := by decide +kernel
  have lk22 := hts (.fieldLink RX0 22 "PostRounders$Chances" "cases" "[I") (by decide +kernel)
  have hl := lv_entry ([.ref (x 22)]) (n := 3) (Nat.le_of_ble_eq_true rfl)
  rw [lg_entry_eq]
  generalize (lg_sl ([.ref (x 22)]) ++ List.replicate (3 - (lg_sl ([.ref (x 22)])).length) Slot.unset).toArray = ls at hl ⊢
  have hl : lv_has ls 3 [(0, .ref (x 22))] := hl
  obtain ⟨OUT, hO⟩ : ∃ z, z = F_X0_sumOfGains Cs := ⟨_, rfl⟩
  have hF := hO
  unfold F_X0_sumOfGains at hF
  refine lv_iconst (v := nI 0) hx hb dX0_sumOfGains_0 (by decide) ?_
  refine lv_istore_n (lv' := [(1, .int (nI 0)), (0, .ref (x 22))]) hx hb dX0_sumOfGains_1 rfl hl (by decide) rfl (fun ls hl => ?_)
  refine lv_iconst (v := nI 0) hx hb dX0_sumOfGains_2 (by decide) ?_
  refine lv_istore_n (lv' := [(2, .int (nI 0)), (1, .int (nI 0)), (0, .ref (x 22))]) hx hb dX0_sumOfGains_3 rfl hl (by decide) rfl (fun ls hl => ?_)
  have L_4 : ∀ (n_4 : Nat) (k : Nat) (su : Int32) (H : Heap) (locs : List Loc), k ≤ 21 → 21 - k < n_4 → va_P (dC, dI) vwCl ([(x 22, .inr (0, [.ref (x 23), .ref (x 44), .ref (x 50)])), (x 50, .inl (cI, 21, .inl Cs))]) H → va_D A ([(x 22, .inr (0, [.ref (x 23), .ref (x 44), .ref (x 50)])), (x 50, .inl (cI, 21, .inl Cs))]) → va_S A s.heap H locs → ∀ (ls : Array Slot), lv_has ls 3 [(2, .int (nI k)), (1, .int su), (0, .ref (x 22))] → OUT = let2 (F_X0_sumOfGains_L4 n_4 Cs k su) (fun k su => su) → W p l e (headSpec wsX0_sumOfGains { frames := 0, cells := 0, slots := 0, locals := 0 }).room s m ([.ref (x 22)] : List Value).toArray below meth c H locs 0 0 (MQ below (va_Qi (fun (r : Int32) (u : Unit) => F_X0_sumOfGains Cs = r) (mB (dC, dI) vwCl (xT cI) A (fun u => [(x 22, .inr (0, [.ref (x 23), .ref (x 44), .ref (x 50)])), (x 50, .inl (cI, 21, .inl Cs))])) A) ([.ref (x 22)] : List Value).toArray s 0 0 A) (F0 m 4 ls []) := by
    intro n_4
    induction n_4 with
    | zero => intro k su H locs i0 hmu; exact absurd hmu (Nat.not_lt_zero _)
    | succ n_4 ih_4 =>
      intro k su H locs i0 hmu_4 hP hD hS ls hl hF
      rw [F_X0_sumOfGains_L4] at hF
      refine lv_iload_n hx hb dX0_sumOfGains_4 rfl (lv_at hl 0 rfl) ?_
      refine lv_bipush (v := nI 20) hx hb dX0_sumOfGains_5 (by decide) ?_
      refine qv_icmp_gt (tgt := 27) hx hb dX0_sumOfGains_7 (by decide) (by omega) (by omega) (fun c_7 => ?_) (fun c_7 => ?_)
      · rw [if_pos c_7] at hF
        rw [let2_mk (k : Nat) (su : Int32)] at hF
        refine lv_iload_n hx hb dX0_sumOfGains_27 rfl (lv_at hl 1 rfl) ?_
        have hP9 : va_P (dC, dI) vwCl ([(x 22, .inr (0, [.ref (x 23), .ref (x 44), .ref (x 50)])), (x 50, .inl (cI, 21, .inl Cs))]) H := hP
        exact W.iret (v := su) hx hb hr (fun t ht hW => ⟨⟨_, (()), rfl, hO.symm.trans hF, by rw [ht]; exact hP9, va_K.moved hW.alike hK, hD⟩, hS.F ht⟩) hS.2.2 dX0_sumOfGains_28
      · rw [if_neg c_7] at hF
        refine lv_iload_n hx hb dX0_sumOfGains_10 rfl (lv_at hl 1 rfl) ?_
        refine lv_iload_n hx hb dX0_sumOfGains_11 rfl (lv_at hl 0 rfl) ?_
        refine lv_aload_n hx hb dX0_sumOfGains_12 rfl (lv_at hl 2 rfl) ?_
        refine va_get (D := (dC, dI)) (ci := 0) (v := .ref (x 50)) (C := RX0) (T := TX0) (N := 3) hx hb hts hin0 hown hK hP 0 rfl rfl 2 (by decide) lk22 (fun _ h9 => h9) rfl dX0_sumOfGains_13 ?_
        refine lv_iload_n hx hb dX0_sumOfGains_16 rfl (lv_at hl 0 rfl) ?_
        refine qv_ald (v := Cs k) hx hb hK hP 1 0 rfl rfl (by omega) (by decide) (rfl) dX0_sumOfGains_17 ?_
        refine lv_imul hx hb dX0_sumOfGains_18 ?_
        refine lv_iadd hx hb dX0_sumOfGains_19 ?_
        refine lv_istore_n (lv' := [(1, .int (su + ((nI k) * (Cs k)))), (2, .int (nI k)), (0, .ref (x 22))]) hx hb dX0_sumOfGains_20 rfl hl (by decide) rfl (fun ls hl => ?_)
        refine lv_iinc (v := nI (k + 1)) (lv' := [(2, .int (nI (k + 1))), (1, .int (su + ((nI k) * (Cs k)))), (0, .ref (x 22))]) hx hb dX0_sumOfGains_21 hl (k := 1) rfl (qn_inc (c := 1) rfl (by omega)) (by decide) rfl (fun ls hl => ?_)
        refine lv_goto (tgt := 4) hx hb dX0_sumOfGains_24 (by decide) ?_
        exact ih_4 (k + 1) (su + ((nI k) * (Cs k))) H locs (by omega) (by omega) hP hD hS ls (lv_sub hl [0, 1, 2] rfl) hF
  exact L_4 22 0 (nI 0) s.heap [] (by omega) (by omega) hP hD hS ls (lv_sub hl [0, 1, 2] rfl) hF
def F_X0_spreadLevel_v0 (Cs : Nat → Int32) (gain : Nat) (wt : Int32) : (Nat → Int32) := if (F_X5_within (nI 0) (nI 0) (nI 4)) = true then (if (nI gain) < (nI 20) then (upd Cs gain ((Cs gain) + (wt * (nI 1)))) else (upd Cs 20 ((Cs 20) + (wt * (nI 1))))) else Cs
set_option maxHeartbeats 4000000 in
set_option maxRecDepth 100000 in
theorem c_X0_spreadLevel_v0 (l : Launch) (dC : Nat → ClassId) (dI : Nat → Nat → Nat) (x : Nat → Nat) (cI cP cA : ClassId) (t : Nat) (sz : Nat) (L0 : pS) (Cs : Nat → Int32) (gain : Nat) (wt : Int32) (pz : inB (Psz L0) 6) (hg : gain ≤ 36) : Met l yX0_spreadLevel wsX0_spreadLevel { frames := 1, cells := 0, slots := 0, locals := 22 } (xPcE t (dC, dI) vwCl (xT3 cI cP cA) ([(x 22, .inr (0, [.ref (x 23), .ref (x 44), .ref (x 50)])), (x 23, .inl (cP, 5, .inr (.inr (.inr (.inr (lvF x)))))), (x 24, .inr (2, [.int (Pbo L0), .int (Psz L0), .ref (x 25), .ref (x 26), .ref (x 27), .int (Pnx L0), .int (Ppt L0), .int (Pbl L0)])), (x 25, .inl (cI, 6, .inl (Pkd L0))), (x 26, .inl (cI, 6, .inl (Plg L0))), (x 27, .inl (cI, 6, .inl (Pwh L0))), (x 44, .inl (cA, 5, .inr (.inr (.inr (.inr (wyF x)))))), (x 50, .inl (cI, 21, .inl Cs))]) sz [.ref (x 22), .int (nI 0), .int (nI gain), .int wt]) (va_Qv (fun (u : (Nat → Int32)) => F_X0_spreadLevel_v0 Cs gain wt = u) (mB (dC, dI) vwCl (xT3 cI cP cA) (va_A ([(x 22, .inr (0, [.ref (x 23), .ref (x 44), .ref (x 50)])), (x 23, .inl (cP, 5, .inr (.inr (.inr (.inr (lvF x)))))), (x 24, .inr (2, [.int (Pbo L0), .int (Psz L0), .ref (x 25), .ref (x 26), .ref (x 27), .int (Pnx L0), .int (Ppt L0), .int (Pbl L0)])), (x 25, .inl (cI, 6, .inl (Pkd L0))), (x 26, .inl (cI, 6, .inl (Plg L0))), (x 27, .inl (cI, 6, .inl (Pwh L0))), (x 44, .inl (cA, 5, .inr (.inr (.inr (.inr (wyF x)))))), (x 50, .inl (cI, 21, .inl Cs))]) sz) (fun u => [(x 22, .inr (0, [.ref (x 23), .ref (x 44), .ref (x 50)])), (x 23, .inl (cP, 5, .inr (.inr (.inr (.inr (lvF x)))))), (x 24, .inr (2, [.int (Pbo L0), .int (Psz L0), .ref (x 25), .ref (x 26), .ref (x 27), .int (Pnx L0), .int (Ppt L0), .int (Pbl L0)])), (x 25, .inl (cI, 6, .inl (Pkd L0))), (x 26, .inl (cI, 6, .inl (Plg L0))), (x 27, .inl (cI, 6, .inl (Pwh L0))), (x 44, .inl (cA, 5, .inr (.inr (.inr (.inr (wyF x)))))), (x 50, .inl (cI, 21, .inl u))])) (va_A ([(x 22, .inr (0, [.ref (x 23), .ref (x 44), .ref (x 50)])), (x 23, .inl (cP, 5, .inr (.inr (.inr (.inr (lvF x)))))), (x 24, .inr (2, [.int (Pbo L0), .int (Psz L0), .ref (x 25), .ref (x 26), .ref (x 27), .int (Pnx L0), .int (Ppt L0), .int (Pbl L0)])), (x 25, .inl (cI, 6, .inl (Pkd L0))), (x 26, .inl (cI, 6, .inl (Plg L0))), (x 27, .inl (cI, 6, .inl (Pwh L0))), (x 44, .inl (cA, 5, .inr (.inr (.inr (.inr (wyF x)))))), (x 50, .inl (cI, 21, .inl Cs))]) sz)) 0 0 (va_A ([(x 22, .inr (0, [.ref (x 23), .ref (x 44), .ref (x 50)])), (x 23, .inl (cP, 5, .inr (.inr (.inr (.inr (lvF x)))))), (x 24, .inr (2, [.int (Pbo L0), .int (Psz L0), .ref (x 25), .ref (x 26), .ref (x 27), .int (Pnx L0), .int (Ppt L0), .int (Pbl L0)])), (x 25, .inl (cI, 6, .inl (Pkd L0))), (x 26, .inl (cI, 6, .inl (Plg L0))), (x 27, .inl (cI, 6, .inl (Pwh L0))), (x 44, .inl (cA, 5, .inr (.inr (.inr (.inr (wyF x)))))), (x 50, .inl (cI, 21, .inl Cs))]) sz) := by
  refine Met.ofW (cc := cX0_spreadLevel) (maxL := 9) (ret := none) (by decide) rfl ?_
  intro p e s m args below meth c s₁ B hml hv
  obtain ⟨rfl, hsz, hP, hK, hD0, hN, hE0⟩ := hv
  have hx := B.exec
  have hb := B.bytes
  have hr := B.returns
  have hts := atoms_spec (ws := wsX0_spreadLevel) B.pre
  have hown : s.vm.findClass RX0 = some m.cls := findClass_of_methodNamed B.named
  have hlocks := B.notSynchronized
  subst hsz
  have hD := hD0.self (sz := s.heap.size)
  generalize hAe : va_A ([(x 22, .inr (0, [.ref (x 23), .ref (x 44), .ref (x 50)])), (x 23, .inl (cP, 5, .inr (.inr (.inr (.inr (lvF x)))))), (x 24, .inr (2, [.int (Pbo L0), .int (Psz L0), .ref (x 25), .ref (x 26), .ref (x 27), .int (Pnx L0), .int (Ppt L0), .int (Pbl L0)])), (x 25, .inl (cI, 6, .inl (Pkd L0))), (x 26, .inl (cI, 6, .inl (Plg L0))), (x 27, .inl (cI, 6, .inl (Pwh L0))), (x 44, .inl (cA, 5, .inr (.inr (.inr (.inr (wyF x)))))), (x 50, .inl (cI, 21, .inl Cs))]) s.heap.size = A at hD hE0 ⊢
  have hE := hE0
  have hA : ∀ q : Nat, s.heap.size ≤ q → A q := fun q h => by rw [← hAe]; exact Or.inr h
  have hS : va_S A s.heap s.heap [] := va_S.rf
  have hin0 : ∀ w ∈ wsX00, w ∈ wsX0_spreadLevel := by decide +kernel
  have lk11 := hts (.fieldLink RX0 11 "PostRounders$Chances" "levels" "[LPostRounders$Play;") (by decide +kernel)
  have lk22 := hts (.fieldLink RX0 22 "PostRounders$Chances" "cases" "[I") (by decide +kernel)
  have hN33 := xN_33 hN
  have hl := lv_entry ([.ref (x 22), .int (nI 0), .int (nI gain), .int wt]) (n := 9) (Nat.le_of_ble_eq_true rfl)
  rw [lg_entry_eq]
  generalize (lg_sl ([.ref (x 22), .int (nI 0), .int (nI gain), .int wt]) ++ List.replicate (9 - (lg_sl ([.ref (x 22), .int (nI 0), .int (nI gain), .int wt])).length) Slot.unset).toArray = ls at hl ⊢
  have hl : lv_has ls 9 [(0, .ref (x 22)), (1, .int (nI 0)), (2, .int (nI gain)), (3, .int wt)] := hl
  obtain ⟨OUT, hO⟩ : ∃ z, z = F_X0_spreadLevel_v0 Cs gain wt := ⟨_, rfl⟩
  have hF := hO
  unfold F_X0_spreadLevel_v0 at hF
  have e_pz := tN_eq pz.1
  have b_pz := pz.2
  refine lv_iload_n hx hb dX0_spreadLevel_0 rfl (lv_at hl 1 rfl) ?_
  refine lv_iconst (v := nI 0) hx hb dX0_spreadLevel_1 (by decide) ?_
  refine lv_iconst (v := nI 4) hx hb dX0_spreadLevel_2 (by decide) ?_
  refine qc_SiN (As := [.int (nI 0), .int (nI 0), .int (nI 4)]) (rest := []) ⟨hx, hb, hml, hown, hts⟩ (c_X5_within l (nI 0) (nI 0) (nI 4)) (va_cnB 3 hts gX0_spreadLevel_X5_within_n33 rfl rfl rfl hN33 (hts (.initialized RX5) (by decide +kernel)) (by decide +kernel) ⟨Nat.le_of_ble_eq_true rfl, Nat.le_of_ble_eq_true rfl⟩) (hts (.static yX5_within) (by decide +kernel)) rfl hl.1 rfl (Nat.le_of_ble_eq_true rfl) dX0_spreadLevel_3 ⟨Nat.zero_le _, Nat.zero_le _⟩ (fun r_3 hw_3 => ?_)
  subst hw_3
  refine qv_zif_ne (tgt := 10) hx hb dX0_spreadLevel_6 (by decide) (fun c_6 => ?_) (fun c_6 => ?_)
  · rw [if_pos c_6] at hF
    refine lv_aload_n hx hb dX0_spreadLevel_10 rfl (lv_at hl 0 rfl) ?_
    refine va_get (D := (dC, dI)) (ci := 0) (v := .ref (x 23)) (C := RX0) (T := TX0) (N := 3) hx hb hts hin0 hown hK hP 0 rfl rfl 0 (by decide) lk11 (fun _ h9 => h9) rfl dX0_spreadLevel_11 ?_
    refine lv_iload_n hx hb dX0_spreadLevel_14 rfl (lv_at hl 1 rfl) ?_
    refine qv_aldq (v := .ref (x 24)) hx hb hK hP 1 1 rfl rfl (by decide) (by decide) rfl dX0_spreadLevel_15 ?_
    refine lv_astore (lv' := [(4, .ref (x 24)), (0, .ref (x 22)), (1, .int (nI 0)), (2, .int (nI gain)), (3, .int wt)]) hx hb dX0_spreadLevel_16 hl (by decide) rfl (fun ls hl => ?_)
    refine lv_iload_n hx hb dX0_spreadLevel_18 rfl (lv_at hl 2 rfl) ?_
    refine qv_if_eq (tgt := 30) hx hb dX0_spreadLevel_19 (by decide) (by omega) (fun _ => ?_) (fun c_19 => absurd c_19 (by decide))
    refine lv_aload_n hx hb dX0_spreadLevel_30 rfl (lv_at hl 1 rfl) ?_
    refine va_get (D := (dC, dI)) (ci := 0) (v := .ref (x 50)) (C := RX0) (T := TX0) (N := 3) hx hb hts hin0 hown hK hP 0 rfl rfl 2 (by decide) lk22 (fun _ h9 => h9) rfl dX0_spreadLevel_31 ?_
    refine lv_bipush (v := nI 20) hx hb dX0_spreadLevel_34 (by decide) ?_
    refine lv_iload_n hx hb dX0_spreadLevel_36 rfl (lv_at hl 3 rfl) ?_
    refine va_mmin hx hb (hml.trans hl.1.symm) hown (hts (.methodLink RX0 49 Lib.Math.min.name) (by decide +kernel)) (hts (.static Lib.Math.min.name) (by decide +kernel)) (hts (.initialized "java/lang/Math") (by decide +kernel)) (hts (.code Lib.Math.min.name Lib.Math.min.code 2 (some .int)) (by decide +kernel)) (Nat.le_of_ble_eq_true rfl) (Nat.le_of_ble_eq_true rfl) (Nat.zero_le _) (Nat.zero_le _) dX0_spreadLevel_37 ?_
    by_cases c_37 : (nI gain) < (nI 20)
    · rw [if_pos c_37] at hF ⊢
      have cn_37 := (nI_ltI (by omega) (by omega)).mp c_37
      refine lv_dup2_11 hx hb dX0_spreadLevel_40 rfl rfl ?_
      refine qv_ald (v := Cs gain) hx hb hK hP 7 0 rfl rfl (by omega) (by decide) (rfl) dX0_spreadLevel_41 ?_
      refine lv_iload_n hx hb dX0_spreadLevel_42 rfl (lv_at hl 4 rfl) ?_
      refine va_getsN (v := .ref t) hx hb hE.1 hS hown (va_Nw.use rfl (xN_T hN)) (fun _ h9 => h9) dX0_spreadLevel_43 ?_
      refine lv_iload_n hx hb dX0_spreadLevel_46 rfl (lv_at hl 2 rfl) ?_
      refine va_ti (v := .int (nI 1)) hx hb hE.2 hS (vp_in_nI (n := 0) (by decide) (by decide)) (tens_at 0 (by decide)) dX0_spreadLevel_47 ?_
      refine lv_imul hx hb dX0_spreadLevel_48 ?_
      refine lv_iadd hx hb dX0_spreadLevel_49 ?_
      refine qv_ast (ws' := [(x 22, .inr (0, [.ref (x 23), .ref (x 44), .ref (x 50)])), (x 23, .inl (cP, 5, .inr (.inr (.inr (.inr (lvF x)))))), (x 24, .inr (2, [.int (Pbo L0), .int (Psz L0), .ref (x 25), .ref (x 26), .ref (x 27), .int (Pnx L0), .int (Ppt L0), .int (Pbl L0)])), (x 25, .inl (cI, 6, .inl (Pkd L0))), (x 26, .inl (cI, 6, .inl (Plg L0))), (x 27, .inl (cI, 6, .inl (Pwh L0))), (x 44, .inl (cA, 5, .inr (.inr (.inr (.inr (wyF x)))))), (x 50, .inl (cI, 21, .inl (upd Cs gain ((Cs gain) + (wt * (nI 1))))))]) hx hb hK hP hD hS 7 0 rfl rfl (by omega) (by decide) dX0_spreadLevel_50 rfl (fun H locs hP hD hS => ?_)
      have hP9 : va_P (dC, dI) vwCl ([(x 22, .inr (0, [.ref (x 23), .ref (x 44), .ref (x 50)])), (x 23, .inl (cP, 5, .inr (.inr (.inr (.inr (lvF x)))))), (x 24, .inr (2, [.int (Pbo L0), .int (Psz L0), .ref (x 25), .ref (x 26), .ref (x 27), .int (Pnx L0), .int (Ppt L0), .int (Pbl L0)])), (x 25, .inl (cI, 6, .inl (Pkd L0))), (x 26, .inl (cI, 6, .inl (Plg L0))), (x 27, .inl (cI, 6, .inl (Pwh L0))), (x 44, .inl (cA, 5, .inr (.inr (.inr (.inr (wyF x)))))), (x 50, .inl (cI, 21, .inl (upd Cs gain ((Cs gain) + (wt * (nI 1))))))]) H := hP
      exact W.vret hx hb hr (fun t ht hW => ⟨⟨(upd Cs gain ((Cs gain) + (wt * (nI 1)))), rfl, hO.symm.trans hF, by rw [ht]; exact hP9, va_K.moved hW.alike hK, hD⟩, hS.F ht⟩) hS.2.2 dX0_spreadLevel_51
    · rw [if_neg c_37] at hF ⊢
      have cn_37 : ¬ gain < 20 := fun q => c_37 ((nI_ltI (by omega) (by omega)).mpr q)
      refine lv_dup2_11 hx hb dX0_spreadLevel_40 rfl rfl ?_
      refine qv_ald (v := Cs 20) hx hb hK hP 7 0 rfl rfl (by omega) (by decide) (rfl) dX0_spreadLevel_41 ?_
      refine lv_iload_n hx hb dX0_spreadLevel_42 rfl (lv_at hl 4 rfl) ?_
      refine va_getsN (v := .ref t) hx hb hE.1 hS hown (va_Nw.use rfl (xN_T hN)) (fun _ h9 => h9) dX0_spreadLevel_43 ?_
      refine lv_iload_n hx hb dX0_spreadLevel_46 rfl (lv_at hl 2 rfl) ?_
      refine va_ti (v := .int (nI 1)) hx hb hE.2 hS (vp_in_nI (n := 0) (by decide) (by decide)) (tens_at 0 (by decide)) dX0_spreadLevel_47 ?_
      refine lv_imul hx hb dX0_spreadLevel_48 ?_
      refine lv_iadd hx hb dX0_spreadLevel_49 ?_
      refine qv_ast (ws' := [(x 22, .inr (0, [.ref (x 23), .ref (x 44), .ref (x 50)])), (x 23, .inl (cP, 5, .inr (.inr (.inr (.inr (lvF x)))))), (x 24, .inr (2, [.int (Pbo L0), .int (Psz L0), .ref (x 25), .ref (x 26), .ref (x 27), .int (Pnx L0), .int (Ppt L0), .int (Pbl L0)])), (x 25, .inl (cI, 6, .inl (Pkd L0))), (x 26, .inl (cI, 6, .inl (Plg L0))), (x 27, .inl (cI, 6, .inl (Pwh L0))), (x 44, .inl (cA, 5, .inr (.inr (.inr (.inr (wyF x)))))), (x 50, .inl (cI, 21, .inl (upd Cs 20 ((Cs 20) + (wt * (nI 1))))))]) hx hb hK hP hD hS 7 0 rfl rfl (by omega) (by decide) dX0_spreadLevel_50 rfl (fun H locs hP hD hS => ?_)
      have hP9 : va_P (dC, dI) vwCl ([(x 22, .inr (0, [.ref (x 23), .ref (x 44), .ref (x 50)])), (x 23, .inl (cP, 5, .inr (.inr (.inr (.inr (lvF x)))))), (x 24, .inr (2, [.int (Pbo L0), .int (Psz L0), .ref (x 25), .ref (x 26), .ref (x 27), .int (Pnx L0), .int (Ppt L0), .int (Pbl L0)])), (x 25, .inl (cI, 6, .inl (Pkd L0))), (x 26, .inl (cI, 6, .inl (Plg L0))), (x 27, .inl (cI, 6, .inl (Pwh L0))), (x 44, .inl (cA, 5, .inr (.inr (.inr (.inr (wyF x)))))), (x 50, .inl (cI, 21, .inl (upd Cs 20 ((Cs 20) + (wt * (nI 1))))))]) H := hP
      exact W.vret hx hb hr (fun t ht hW => ⟨⟨(upd Cs 20 ((Cs 20) + (wt * (nI 1)))), rfl, hO.symm.trans hF, by rw [ht]; exact hP9, va_K.moved hW.alike hK, hD⟩, hS.F ht⟩) hS.2.2 dX0_spreadLevel_51
  · rw [if_neg c_6] at hF
    have hP9 : va_P (dC, dI) vwCl ([(x 22, .inr (0, [.ref (x 23), .ref (x 44), .ref (x 50)])), (x 23, .inl (cP, 5, .inr (.inr (.inr (.inr (lvF x)))))), (x 24, .inr (2, [.int (Pbo L0), .int (Psz L0), .ref (x 25), .ref (x 26), .ref (x 27), .int (Pnx L0), .int (Ppt L0), .int (Pbl L0)])), (x 25, .inl (cI, 6, .inl (Pkd L0))), (x 26, .inl (cI, 6, .inl (Plg L0))), (x 27, .inl (cI, 6, .inl (Pwh L0))), (x 44, .inl (cA, 5, .inr (.inr (.inr (.inr (wyF x)))))), (x 50, .inl (cI, 21, .inl Cs))]) s.heap := hP
    exact W.vret hx hb hr (fun t ht hW => ⟨⟨(Cs), rfl, hO.symm.trans hF, by rw [ht]; exact hP9, va_K.moved hW.alike hK, hD⟩, hS.F ht⟩) hS.2.2 dX0_spreadLevel_9
def F_X0_spreadLevel_v1_L80 : Nat → (Nat) → (Int32) → (pS) → (Nat → Int32) → (Nat) → (pS) → (Nat → Int32) → (Nat) × (pS) × (Nat → Int32)
  | 0, _, _, _, _, w, M0, cs => (w, M0, cs)
  | n_80 + 1, gain, wt, L1, W1_64, w, M0, cs => if 6 ≤ w then (w, M0, cs) else (if (W1_64 w) ≤ 0 then F_X0_spreadLevel_v1_L80 n_80 gain wt L1 W1_64 (w + 1) M0 cs else let1 (F_X2_copy M0 L1) (fun L0_99 => let2 (F_X2_runBall L0_99 ((nI w) - (nI 1))) (fun r_108 L0_108 => let1 (F_X0_spreadLevel_v0 cs (gain + tN r_108) (wt * (W1_64 w))) (fun Cs_128 => F_X0_spreadLevel_v1_L80 n_80 gain wt L1 W1_64 (w + 1) L0_108 Cs_128))))
def F_X0_spreadLevel_v1 (L0 : pS) (L1 : pS) (W1 : Nat → Int32) (Cs : Nat → Int32) (gain : Nat) (wt : Int32) : (pS) × (Nat → Int32) × (Nat → Int32) := if (F_X5_within (nI 1) (nI 0) (nI 4)) = true then let1 (F_X2_isDone L1) (fun z_24 => if z_24 = true then (if (nI gain) < (nI 20) then (L0, W1, (upd Cs gain ((Cs gain) + (wt * (nI 10))))) else (L0, W1, (upd Cs 20 ((Cs 20) + (wt * (nI 10)))))) else let1 (F_X0_fillWays L1 W1) (fun W1_64 => let3 (F_X0_spreadLevel_v1_L80 7 gain wt L1 W1_64 0 L0 Cs) (fun w M0 cs => (M0, W1_64, cs)))) else (L0, W1, Cs)
set_option maxHeartbeats 4000000 in
set_option maxRecDepth 100000 in
theorem c_X0_spreadLevel_v1 (l : Launch) (dC : Nat → ClassId) (dI : Nat → Nat → Nat) (x : Nat → Nat) (cI cP cA : ClassId) (t : Nat) (sz : Nat) (L0 : pS) (L1 : pS) (W1 : Nat → Int32) (Cs : Nat → Int32) (gain : Nat) (wt : Int32) (pz : inB (Psz L1) 6) (hg : gain ≤ 27) : Met l yX0_spreadLevel wsX0_spreadLevel { frames := 4, cells := 0, slots := 0, locals := 83 } (xPcE t (dC, dI) vwCl (xT3 cI cP cA) ([(x 22, .inr (0, [.ref (x 23), .ref (x 44), .ref (x 50)])), (x 23, .inl (cP, 5, .inr (.inr (.inr (.inr (lvF x)))))), (x 24, .inr (2, [.int (Pbo L0), .int (Psz L0), .ref (x 25), .ref (x 26), .ref (x 27), .int (Pnx L0), .int (Ppt L0), .int (Pbl L0)])), (x 25, .inl (cI, 6, .inl (Pkd L0))), (x 26, .inl (cI, 6, .inl (Plg L0))), (x 27, .inl (cI, 6, .inl (Pwh L0))), (x 28, .inr (2, [.int (Pbo L1), .int (Psz L1), .ref (x 29), .ref (x 30), .ref (x 31), .int (Pnx L1), .int (Ppt L1), .int (Pbl L1)])), (x 29, .inl (cI, 6, .inl (Pkd L1))), (x 30, .inl (cI, 6, .inl (Plg L1))), (x 31, .inl (cI, 6, .inl (Pwh L1))), (x 44, .inl (cA, 5, .inr (.inr (.inr (.inr (wyF x)))))), (x 46, .inl (cI, 6, .inl W1)), (x 50, .inl (cI, 21, .inl Cs))]) sz [.ref (x 22), .int (nI 1), .int (nI gain), .int wt]) (va_Qv (fun (u : (pS) × (Nat → Int32) × (Nat → Int32)) => F_X0_spreadLevel_v1 L0 L1 W1 Cs gain wt = u) (mB (dC, dI) vwCl (xT3 cI cP cA) (va_A ([(x 22, .inr (0, [.ref (x 23), .ref (x 44), .ref (x 50)])), (x 23, .inl (cP, 5, .inr (.inr (.inr (.inr (lvF x)))))), (x 24, .inr (2, [.int (Pbo L0), .int (Psz L0), .ref (x 25), .ref (x 26), .ref (x 27), .int (Pnx L0), .int (Ppt L0), .int (Pbl L0)])), (x 25, .inl (cI, 6, .inl (Pkd L0))), (x 26, .inl (cI, 6, .inl (Plg L0))), (x 27, .inl (cI, 6, .inl (Pwh L0))), (x 28, .inr (2, [.int (Pbo L1), .int (Psz L1), .ref (x 29), .ref (x 30), .ref (x 31), .int (Pnx L1), .int (Ppt L1), .int (Pbl L1)])), (x 29, .inl (cI, 6, .inl (Pkd L1))), (x 30, .inl (cI, 6, .inl (Plg L1))), (x 31, .inl (cI, 6, .inl (Pwh L1))), (x 44, .inl (cA, 5, .inr (.inr (.inr (.inr (wyF x)))))), (x 46, .inl (cI, 6, .inl W1)), (x 50, .inl (cI, 21, .inl Cs))]) sz) (fun u => [(x 22, .inr (0, [.ref (x 23), .ref (x 44), .ref (x 50)])), (x 23, .inl (cP, 5, .inr (.inr (.inr (.inr (lvF x)))))), (x 24, .inr (2, [.int (Pbo (u.1)), .int (Psz (u.1)), .ref (x 25), .ref (x 26), .ref (x 27), .int (Pnx (u.1)), .int (Ppt (u.1)), .int (Pbl (u.1))])), (x 25, .inl (cI, 6, .inl (Pkd (u.1)))), (x 26, .inl (cI, 6, .inl (Plg (u.1)))), (x 27, .inl (cI, 6, .inl (Pwh (u.1)))), (x 28, .inr (2, [.int (Pbo L1), .int (Psz L1), .ref (x 29), .ref (x 30), .ref (x 31), .int (Pnx L1), .int (Ppt L1), .int (Pbl L1)])), (x 29, .inl (cI, 6, .inl (Pkd L1))), (x 30, .inl (cI, 6, .inl (Plg L1))), (x 31, .inl (cI, 6, .inl (Pwh L1))), (x 44, .inl (cA, 5, .inr (.inr (.inr (.inr (wyF x)))))), (x 46, .inl (cI, 6, .inl (u.2.1))), (x 50, .inl (cI, 21, .inl (u.2.2)))])) (va_A ([(x 22, .inr (0, [.ref (x 23), .ref (x 44), .ref (x 50)])), (x 23, .inl (cP, 5, .inr (.inr (.inr (.inr (lvF x)))))), (x 24, .inr (2, [.int (Pbo L0), .int (Psz L0), .ref (x 25), .ref (x 26), .ref (x 27), .int (Pnx L0), .int (Ppt L0), .int (Pbl L0)])), (x 25, .inl (cI, 6, .inl (Pkd L0))), (x 26, .inl (cI, 6, .inl (Plg L0))), (x 27, .inl (cI, 6, .inl (Pwh L0))), (x 28, .inr (2, [.int (Pbo L1), .int (Psz L1), .ref (x 29), .ref (x 30), .ref (x 31), .int (Pnx L1), .int (Ppt L1), .int (Pbl L1)])), (x 29, .inl (cI, 6, .inl (Pkd L1))), (x 30, .inl (cI, 6, .inl (Plg L1))), (x 31, .inl (cI, 6, .inl (Pwh L1))), (x 44, .inl (cA, 5, .inr (.inr (.inr (.inr (wyF x)))))), (x 46, .inl (cI, 6, .inl W1)), (x 50, .inl (cI, 21, .inl Cs))]) sz)) 0 0 (va_A ([(x 22, .inr (0, [.ref (x 23), .ref (x 44), .ref (x 50)])), (x 23, .inl (cP, 5, .inr (.inr (.inr (.inr (lvF x)))))), (x 24, .inr (2, [.int (Pbo L0), .int (Psz L0), .ref (x 25), .ref (x 26), .ref (x 27), .int (Pnx L0), .int (Ppt L0), .int (Pbl L0)])), (x 25, .inl (cI, 6, .inl (Pkd L0))), (x 26, .inl (cI, 6, .inl (Plg L0))), (x 27, .inl (cI, 6, .inl (Pwh L0))), (x 28, .inr (2, [.int (Pbo L1), .int (Psz L1), .ref (x 29), .ref (x 30), .ref (x 31), .int (Pnx L1), .int (Ppt L1), .int (Pbl L1)])), (x 29, .inl (cI, 6, .inl (Pkd L1))), (x 30, .inl (cI, 6, .inl (Plg L1))), (x 31, .inl (cI, 6, .inl (Pwh L1))), (x 44, .inl (cA, 5, .inr (.inr (.inr (.inr (wyF x)))))), (x 46, .inl (cI, 6, .inl W1)), (x 50, .inl (cI, 21, .inl Cs))]) sz) := by
  refine Met.ofW (cc := cX0_spreadLevel) (maxL := 9) (ret := none) (by decide) rfl ?_
  intro p e s m args below meth c s₁ B hml hv
  obtain ⟨rfl, hsz, hP, hK, hD0, hN, hE0⟩ := hv
  have hx := B.exec
  have hb := B.bytes
  have hr := B.returns
  have hts := atoms_spec (ws := wsX0_spreadLevel) B.pre
  have hown : s.vm.findClass RX0 = some m.cls := findClass_of_methodNamed B.named
  have hlocks := B.notSynchronized
  subst hsz
  have hD := hD0.self (sz := s.heap.size)
  generalize hAe : va_A ([(x 22, .inr (0, [.ref (x 23), .ref (x 44), .ref (x 50)])), (x 23, .inl (cP, 5, .inr (.inr (.inr (.inr (lvF x)))))), (x 24, .inr (2, [.int (Pbo L0), .int (Psz L0), .ref (x 25), .ref (x 26), .ref (x 27), .int (Pnx L0), .int (Ppt L0), .int (Pbl L0)])), (x 25, .inl (cI, 6, .inl (Pkd L0))), (x 26, .inl (cI, 6, .inl (Plg L0))), (x 27, .inl (cI, 6, .inl (Pwh L0))), (x 28, .inr (2, [.int (Pbo L1), .int (Psz L1), .ref (x 29), .ref (x 30), .ref (x 31), .int (Pnx L1), .int (Ppt L1), .int (Pbl L1)])), (x 29, .inl (cI, 6, .inl (Pkd L1))), (x 30, .inl (cI, 6, .inl (Plg L1))), (x 31, .inl (cI, 6, .inl (Pwh L1))), (x 44, .inl (cA, 5, .inr (.inr (.inr (.inr (wyF x)))))), (x 46, .inl (cI, 6, .inl W1)), (x 50, .inl (cI, 21, .inl Cs))]) s.heap.size = A at hD hE0 ⊢
  have hE := hE0
  have hA : ∀ q : Nat, s.heap.size ≤ q → A q := fun q h => by rw [← hAe]; exact Or.inr h
  have hS : va_S A s.heap s.heap [] := va_S.rf
  have hin0 : ∀ w ∈ wsX00, w ∈ wsX0_spreadLevel := by decide +kernel
  have lk11 := hts (.fieldLink RX0 11 "PostRounders$Chances" "levels" "[LPostRounders$Play;") (by decide +kernel)
  have lk19 := hts (.fieldLink RX0 19 "PostRounders$Chances" "ways" "[[I") (by decide +kernel)
  have lk22 := hts (.fieldLink RX0 22 "PostRounders$Chances" "cases" "[I") (by decide +kernel)
  have hN33 := xN_33 hN
  have hl := lv_entry ([.ref (x 22), .int (nI 1), .int (nI gain), .int wt]) (n := 9) (Nat.le_of_ble_eq_true rfl)
  rw [lg_entry_eq]
  generalize (lg_sl ([.ref (x 22), .int (nI 1), .int (nI gain), .int wt]) ++ List.replicate (9 - (lg_sl ([.ref (x 22), .int (nI 1), .int (nI gain), .int wt])).length) Slot.unset).toArray = ls at hl ⊢
  have hl : lv_has ls 9 [(0, .ref (x 22)), (1, .int (nI 1)), (2, .int (nI gain)), (3, .int wt)] := hl
  obtain ⟨OUT, hO⟩ : ∃ z, z = F_X0_spreadLevel_v1 L0 L1 W1 Cs gain wt := ⟨_, rfl⟩
  have hF := hO
  unfold F_X0_spreadLevel_v1 at hF
  have e_pz := tN_eq pz.1
  have b_pz := pz.2
  refine lv_iload_n hx hb dX0_spreadLevel_0 rfl (lv_at hl 1 rfl) ?_
  refine lv_iconst (v := nI 0) hx hb dX0_spreadLevel_1 (by decide) ?_
  refine lv_iconst (v := nI 4) hx hb dX0_spreadLevel_2 (by decide) ?_
  refine qc_SiN (As := [.int (nI 1), .int (nI 0), .int (nI 4)]) (rest := []) ⟨hx, hb, hml, hown, hts⟩ (c_X5_within l (nI 1) (nI 0) (nI 4)) (va_cnB 3 hts gX0_spreadLevel_X5_within_n33 rfl rfl rfl hN33 (hts (.initialized RX5) (by decide +kernel)) (by decide +kernel) ⟨Nat.le_of_ble_eq_true rfl, Nat.le_of_ble_eq_true rfl⟩) (hts (.static yX5_within) (by decide +kernel)) rfl hl.1 rfl (Nat.le_of_ble_eq_true rfl) dX0_spreadLevel_3 ⟨Nat.zero_le _, Nat.zero_le _⟩ (fun r_3 hw_3 => ?_)
  subst hw_3
  refine qv_zif_ne (tgt := 10) hx hb dX0_spreadLevel_6 (by decide) (fun c_6 => ?_) (fun c_6 => ?_)
  · rw [if_pos c_6] at hF
    refine lv_aload_n hx hb dX0_spreadLevel_10 rfl (lv_at hl 0 rfl) ?_
    refine va_get (D := (dC, dI)) (ci := 0) (v := .ref (x 23)) (C := RX0) (T := TX0) (N := 3) hx hb hts hin0 hown hK hP 0 rfl rfl 0 (by decide) lk11 (fun _ h9 => h9) rfl dX0_spreadLevel_11 ?_
    refine lv_iload_n hx hb dX0_spreadLevel_14 rfl (lv_at hl 1 rfl) ?_
    refine qv_aldq (v := .ref (x 28)) hx hb hK hP 1 1 rfl rfl (by decide) (by decide) rfl dX0_spreadLevel_15 ?_
    refine lv_astore (lv' := [(4, .ref (x 28)), (0, .ref (x 22)), (1, .int (nI 1)), (2, .int (nI gain)), (3, .int wt)]) hx hb dX0_spreadLevel_16 hl (by decide) rfl (fun ls hl => ?_)
    refine lv_iload_n hx hb dX0_spreadLevel_18 rfl (lv_at hl 2 rfl) ?_
    refine qv_if_eq (tgt := 30) hx hb dX0_spreadLevel_19 (by decide) (by omega) (fun c_19 => absurd c_19 (by decide)) (fun _ => ?_)
    refine lv_aload hx hb dX0_spreadLevel_22 (lv_at hl 0 rfl) ?_
    refine qx_Vi (C := RX2) (As := []) (rest := []) (ci := 2) (k0 := 6) (wr := [(x 22, .inr (0, [.ref (x 23), .ref (x 44), .ref (x 50)])), (x 23, .inl (cP, 5, .inr (.inr (.inr (.inr (lvF x)))))), (x 24, .inr (2, [.int (Pbo L0), .int (Psz L0), .ref (x 25), .ref (x 26), .ref (x 27), .int (Pnx L0), .int (Ppt L0), .int (Pbl L0)])), (x 25, .inl (cI, 6, .inl (Pkd L0))), (x 26, .inl (cI, 6, .inl (Plg L0))), (x 27, .inl (cI, 6, .inl (Pwh L0))), (x 44, .inl (cA, 5, .inr (.inr (.inr (.inr (wyF x)))))), (x 46, .inl (cI, 6, .inl W1)), (x 50, .inl (cI, 21, .inl Cs))]) (ws2 := fun u => [(x 22, .inr (0, [.ref (x 23), .ref (x 44), .ref (x 50)])), (x 23, .inl (cP, 5, .inr (.inr (.inr (.inr (lvF x)))))), (x 24, .inr (2, [.int (Pbo L0), .int (Psz L0), .ref (x 25), .ref (x 26), .ref (x 27), .int (Pnx L0), .int (Ppt L0), .int (Pbl L0)])), (x 25, .inl (cI, 6, .inl (Pkd L0))), (x 26, .inl (cI, 6, .inl (Plg L0))), (x 27, .inl (cI, 6, .inl (Pwh L0))), (x 28, .inr (2, [.int (Pbo L1), .int (Psz L1), .ref (x 29), .ref (x 30), .ref (x 31), .int (Pnx L1), .int (Ppt L1), .int (Pbl L1)])), (x 29, .inl (cI, 6, .inl (Pkd L1))), (x 30, .inl (cI, 6, .inl (Plg L1))), (x 31, .inl (cI, 6, .inl (Pwh L1))), (x 44, .inl (cA, 5, .inr (.inr (.inr (.inr (wyF x)))))), (x 46, .inl (cI, 6, .inl W1)), (x 50, .inl (cI, 21, .inl Cs))]) [6, 7, 8, 9] [0, 1, 2, 3, 4, 5, 10, 11, 12] [0, 1, 2, 3, 4, 5, 9, 10, 11, 12, 6, 7, 8] ⟨hx, hb, hml, hown, hts⟩ (c_X2_isDone l dC dI (fun i => x (28 + i)) cI s.heap.size L1  ) (cwV 0 hts gX0_spreadLevel_X2_isDone rfl rfl rfl (by decide +kernel) ⟨Nat.le_of_ble_eq_true rfl, Nat.le_of_ble_eq_true rfl⟩) (hK.sub [0] rfl) hK hP hD hS hA hN rfl rfl (by decide) (by decide) (by decide) (by decide) (fun _ => rfl) rfl rfl rfl rfl hl.1 rfl (Nat.le_of_ble_eq_true rfl) dX0_spreadLevel_24 ⟨Nat.zero_le _, Nat.zero_le _⟩ (fun r_24 u_24 H locs hw_24 hP hD hS => ?_)
    have hP : va_P (dC, dI) vwCl ([(x 22, .inr (0, [.ref (x 23), .ref (x 44), .ref (x 50)])), (x 23, .inl (cP, 5, .inr (.inr (.inr (.inr (lvF x)))))), (x 24, .inr (2, [.int (Pbo L0), .int (Psz L0), .ref (x 25), .ref (x 26), .ref (x 27), .int (Pnx L0), .int (Ppt L0), .int (Pbl L0)])), (x 25, .inl (cI, 6, .inl (Pkd L0))), (x 26, .inl (cI, 6, .inl (Plg L0))), (x 27, .inl (cI, 6, .inl (Pwh L0))), (x 28, .inr (2, [.int (Pbo L1), .int (Psz L1), .ref (x 29), .ref (x 30), .ref (x 31), .int (Pnx L1), .int (Ppt L1), .int (Pbl L1)])), (x 29, .inl (cI, 6, .inl (Pkd L1))), (x 30, .inl (cI, 6, .inl (Plg L1))), (x 31, .inl (cI, 6, .inl (Pwh L1))), (x 44, .inl (cA, 5, .inr (.inr (.inr (.inr (wyF x)))))), (x 46, .inl (cI, 6, .inl W1)), (x 50, .inl (cI, 21, .inl Cs))]) H := hP
    have hD : va_D A ([(x 22, .inr (0, [.ref (x 23), .ref (x 44), .ref (x 50)])), (x 23, .inl (cP, 5, .inr (.inr (.inr (.inr (lvF x)))))), (x 24, .inr (2, [.int (Pbo L0), .int (Psz L0), .ref (x 25), .ref (x 26), .ref (x 27), .int (Pnx L0), .int (Ppt L0), .int (Pbl L0)])), (x 25, .inl (cI, 6, .inl (Pkd L0))), (x 26, .inl (cI, 6, .inl (Plg L0))), (x 27, .inl (cI, 6, .inl (Pwh L0))), (x 28, .inr (2, [.int (Pbo L1), .int (Psz L1), .ref (x 29), .ref (x 30), .ref (x 31), .int (Pnx L1), .int (Ppt L1), .int (Pbl L1)])), (x 29, .inl (cI, 6, .inl (Pkd L1))), (x 30, .inl (cI, 6, .inl (Plg L1))), (x 31, .inl (cI, 6, .inl (Pwh L1))), (x 44, .inl (cA, 5, .inr (.inr (.inr (.inr (wyF x)))))), (x 46, .inl (cI, 6, .inl W1)), (x 50, .inl (cI, 21, .inl Cs))]) := hD
    obtain ⟨z_24, hw_24, rfl⟩ := hw_24
    rw [hw_24, let1_mk z_24] at hF
    refine qv_zif_eq (tgt := 52) hx hb dX0_spreadLevel_27 (by decide) (fun c_27 => ?_) (fun c_27 => ?_)
    · rw [if_neg c_27] at hF
      refine lv_aload_n hx hb dX0_spreadLevel_52 rfl (lv_at hl 1 rfl) ?_
      refine va_get (D := (dC, dI)) (ci := 0) (v := .ref (x 44)) (C := RX0) (T := TX0) (N := 3) hx hb hts hin0 hown hK hP 0 rfl rfl 1 (by decide) lk19 (fun _ h9 => h9) rfl dX0_spreadLevel_53 ?_
      refine lv_iload_n hx hb dX0_spreadLevel_56 rfl (lv_at hl 2 rfl) ?_
      refine qv_aldA (v := .ref (x 46)) hx hb hK hP 10 2 rfl rfl (by decide) (by decide) rfl dX0_spreadLevel_57 ?_
      refine lv_astore (lv' := [(5, .ref (x 46)), (4, .ref (x 28)), (0, .ref (x 22)), (1, .int (nI 1)), (2, .int (nI gain)), (3, .int wt)]) hx hb dX0_spreadLevel_58 hl (by decide) rfl (fun ls hl => ?_)
      refine lv_aload hx hb dX0_spreadLevel_60 (lv_at hl 1 rfl) ?_
      refine lv_aload hx hb dX0_spreadLevel_62 (lv_at hl 0 rfl) ?_
      refine qx_Sv (As := [.ref (x 28), .ref (x 46)]) (rest := []) (wr := [(x 22, .inr (0, [.ref (x 23), .ref (x 44), .ref (x 50)])), (x 23, .inl (cP, 5, .inr (.inr (.inr (.inr (lvF x)))))), (x 24, .inr (2, [.int (Pbo L0), .int (Psz L0), .ref (x 25), .ref (x 26), .ref (x 27), .int (Pnx L0), .int (Ppt L0), .int (Pbl L0)])), (x 25, .inl (cI, 6, .inl (Pkd L0))), (x 26, .inl (cI, 6, .inl (Plg L0))), (x 27, .inl (cI, 6, .inl (Pwh L0))), (x 44, .inl (cA, 5, .inr (.inr (.inr (.inr (wyF x)))))), (x 50, .inl (cI, 21, .inl Cs))]) (ws2 := fun u => [(x 22, .inr (0, [.ref (x 23), .ref (x 44), .ref (x 50)])), (x 23, .inl (cP, 5, .inr (.inr (.inr (.inr (lvF x)))))), (x 24, .inr (2, [.int (Pbo L0), .int (Psz L0), .ref (x 25), .ref (x 26), .ref (x 27), .int (Pnx L0), .int (Ppt L0), .int (Pbl L0)])), (x 25, .inl (cI, 6, .inl (Pkd L0))), (x 26, .inl (cI, 6, .inl (Plg L0))), (x 27, .inl (cI, 6, .inl (Pwh L0))), (x 28, .inr (2, [.int (Pbo L1), .int (Psz L1), .ref (x 29), .ref (x 30), .ref (x 31), .int (Pnx L1), .int (Ppt L1), .int (Pbl L1)])), (x 29, .inl (cI, 6, .inl (Pkd L1))), (x 30, .inl (cI, 6, .inl (Plg L1))), (x 31, .inl (cI, 6, .inl (Pwh L1))), (x 44, .inl (cA, 5, .inr (.inr (.inr (.inr (wyF x)))))), (x 46, .inl (cI, 6, .inl u)), (x 50, .inl (cI, 21, .inl Cs))]) [6, 7, 8, 9, 11] [0, 1, 2, 3, 4, 5, 10, 12] [0, 1, 2, 3, 4, 5, 8, 9, 10, 11, 6, 12, 7] ⟨hx, hb, hml, hown, hts⟩ (c_X0_fillWays l dC dI (fun i => x (28 + i)) (x 46) cI H.size L1 W1  (pz : inB (Psz L1) 6)) (va_cwS 2 hts gX0_spreadLevel_X0_fillWays rfl rfl rfl (by decide +kernel) ⟨Nat.le_of_ble_eq_true rfl, Nat.le_of_ble_eq_true rfl⟩) (hK.sub [0] rfl) hK hP hD hS hA hN rfl rfl (by decide) (by decide) (by decide) (by decide) (fun _ => rfl) rfl hl.1 rfl (Nat.le_of_ble_eq_true rfl) dX0_spreadLevel_64 ⟨Nat.zero_le _, Nat.zero_le _⟩ (fun u_64 H locs hw_64 hP hD hS => ?_)
      obtain ⟨W1_64, rfl⟩ : ∃ z, z = u_64 := ⟨_, rfl⟩
      have hP : va_P (dC, dI) vwCl ([(x 22, .inr (0, [.ref (x 23), .ref (x 44), .ref (x 50)])), (x 23, .inl (cP, 5, .inr (.inr (.inr (.inr (lvF x)))))), (x 24, .inr (2, [.int (Pbo L0), .int (Psz L0), .ref (x 25), .ref (x 26), .ref (x 27), .int (Pnx L0), .int (Ppt L0), .int (Pbl L0)])), (x 25, .inl (cI, 6, .inl (Pkd L0))), (x 26, .inl (cI, 6, .inl (Plg L0))), (x 27, .inl (cI, 6, .inl (Pwh L0))), (x 28, .inr (2, [.int (Pbo L1), .int (Psz L1), .ref (x 29), .ref (x 30), .ref (x 31), .int (Pnx L1), .int (Ppt L1), .int (Pbl L1)])), (x 29, .inl (cI, 6, .inl (Pkd L1))), (x 30, .inl (cI, 6, .inl (Plg L1))), (x 31, .inl (cI, 6, .inl (Pwh L1))), (x 44, .inl (cA, 5, .inr (.inr (.inr (.inr (wyF x)))))), (x 46, .inl (cI, 6, .inl W1_64)), (x 50, .inl (cI, 21, .inl Cs))]) H := hP
      have hD : va_D A ([(x 22, .inr (0, [.ref (x 23), .ref (x 44), .ref (x 50)])), (x 23, .inl (cP, 5, .inr (.inr (.inr (.inr (lvF x)))))), (x 24, .inr (2, [.int (Pbo L0), .int (Psz L0), .ref (x 25), .ref (x 26), .ref (x 27), .int (Pnx L0), .int (Ppt L0), .int (Pbl L0)])), (x 25, .inl (cI, 6, .inl (Pkd L0))), (x 26, .inl (cI, 6, .inl (Plg L0))), (x 27, .inl (cI, 6, .inl (Pwh L0))), (x 28, .inr (2, [.int (Pbo L1), .int (Psz L1), .ref (x 29), .ref (x 30), .ref (x 31), .int (Pnx L1), .int (Ppt L1), .int (Pbl L1)])), (x 29, .inl (cI, 6, .inl (Pkd L1))), (x 30, .inl (cI, 6, .inl (Plg L1))), (x 31, .inl (cI, 6, .inl (Pwh L1))), (x 44, .inl (cA, 5, .inr (.inr (.inr (.inr (wyF x)))))), (x 46, .inl (cI, 6, .inl W1_64)), (x 50, .inl (cI, 21, .inl Cs))]) := hD
      rw [hw_64, let1_mk W1_64] at hF
      refine lv_aload_n hx hb dX0_spreadLevel_67 rfl (lv_at hl 2 rfl) ?_
      refine va_get (D := (dC, dI)) (ci := 0) (v := .ref (x 23)) (C := RX0) (T := TX0) (N := 3) hx hb hts hin0 hown hK hP 0 rfl rfl 0 (by decide) lk11 (fun _ h9 => h9) rfl dX0_spreadLevel_68 ?_
      refine lv_iload_n hx hb dX0_spreadLevel_71 rfl (lv_at hl 3 rfl) ?_
      refine lv_iconst (v := nI 1) hx hb dX0_spreadLevel_72 (by decide) ?_
      refine qv_isub hx hb (0) dX0_spreadLevel_73 (by omega) ?_
      refine qv_aldq (v := .ref (x 24)) hx hb hK hP 1 1 rfl rfl (by decide) (by decide) rfl dX0_spreadLevel_74 ?_
      refine lv_astore (lv' := [(6, .ref (x 24)), (5, .ref (x 46)), (4, .ref (x 28)), (0, .ref (x 22)), (1, .int (nI 1)), (2, .int (nI gain)), (3, .int wt)]) hx hb dX0_spreadLevel_75 hl (by decide) rfl (fun ls hl => ?_)
      refine lv_iconst (v := nI 0) hx hb dX0_spreadLevel_77 (by decide) ?_
      refine lv_istore (lv' := [(7, .int (nI 0)), (6, .ref (x 24)), (5, .ref (x 46)), (4, .ref (x 28)), (0, .ref (x 22)), (1, .int (nI 1)), (2, .int (nI gain)), (3, .int wt)]) hx hb dX0_spreadLevel_78 hl (by decide) rfl (fun ls hl => ?_)
      have L_80 : ∀ (n_80 : Nat) (w : Nat) (M0 : pS) (cs : Nat → Int32) (H : Heap) (locs : List Loc), w ≤ 6 → 6 - w < n_80 → va_P (dC, dI) vwCl ([(x 22, .inr (0, [.ref (x 23), .ref (x 44), .ref (x 50)])), (x 23, .inl (cP, 5, .inr (.inr (.inr (.inr (lvF x)))))), (x 24, .inr (2, [.int (Pbo M0), .int (Psz M0), .ref (x 25), .ref (x 26), .ref (x 27), .int (Pnx M0), .int (Ppt M0), .int (Pbl M0)])), (x 25, .inl (cI, 6, .inl (Pkd M0))), (x 26, .inl (cI, 6, .inl (Plg M0))), (x 27, .inl (cI, 6, .inl (Pwh M0))), (x 28, .inr (2, [.int (Pbo L1), .int (Psz L1), .ref (x 29), .ref (x 30), .ref (x 31), .int (Pnx L1), .int (Ppt L1), .int (Pbl L1)])), (x 29, .inl (cI, 6, .inl (Pkd L1))), (x 30, .inl (cI, 6, .inl (Plg L1))), (x 31, .inl (cI, 6, .inl (Pwh L1))), (x 44, .inl (cA, 5, .inr (.inr (.inr (.inr (wyF x)))))), (x 46, .inl (cI, 6, .inl W1_64)), (x 50, .inl (cI, 21, .inl cs))]) H → va_D A ([(x 22, .inr (0, [.ref (x 23), .ref (x 44), .ref (x 50)])), (x 23, .inl (cP, 5, .inr (.inr (.inr (.inr (lvF x)))))), (x 24, .inr (2, [.int (Pbo M0), .int (Psz M0), .ref (x 25), .ref (x 26), .ref (x 27), .int (Pnx M0), .int (Ppt M0), .int (Pbl M0)])), (x 25, .inl (cI, 6, .inl (Pkd M0))), (x 26, .inl (cI, 6, .inl (Plg M0))), (x 27, .inl (cI, 6, .inl (Pwh M0))), (x 28, .inr (2, [.int (Pbo L1), .int (Psz L1), .ref (x 29), .ref (x 30), .ref (x 31), .int (Pnx L1), .int (Ppt L1), .int (Pbl L1)])), (x 29, .inl (cI, 6, .inl (Pkd L1))), (x 30, .inl (cI, 6, .inl (Plg L1))), (x 31, .inl (cI, 6, .inl (Pwh L1))), (x 44, .inl (cA, 5, .inr (.inr (.inr (.inr (wyF x)))))), (x 46, .inl (cI, 6, .inl W1_64)), (x 50, .inl (cI, 21, .inl cs))]) → va_S A s.heap H locs → ∀ (ls : Array Slot), lv_has ls 9 [(7, .int (nI w)), (6, .ref (x 24)), (5, .ref (x 46)), (4, .ref (x 28)), (0, .ref (x 22)), (1, .int (nI 1)), (2, .int (nI gain)), (3, .int wt)] → OUT = let3 (F_X0_spreadLevel_v1_L80 n_80 gain wt L1 W1_64 w M0 cs) (fun w M0 cs => (M0, W1_64, cs)) → W p l e (headSpec wsX0_spreadLevel { frames := 4, cells := 0, slots := 0, locals := 83 }).room s m ([.ref (x 22), .int (nI 1), .int (nI gain), .int wt] : List Value).toArray below meth c H locs 0 0 (MQ below (va_Qv (fun (u : (pS) × (Nat → Int32) × (Nat → Int32)) => F_X0_spreadLevel_v1 L0 L1 W1 Cs gain wt = u) (mB (dC, dI) vwCl (xT3 cI cP cA) A (fun u => [(x 22, .inr (0, [.ref (x 23), .ref (x 44), .ref (x 50)])), (x 23, .inl (cP, 5, .inr (.inr (.inr (.inr (lvF x)))))), (x 24, .inr (2, [.int (Pbo (u.1)), .int (Psz (u.1)), .ref (x 25), .ref (x 26), .ref (x 27), .int (Pnx (u.1)), .int (Ppt (u.1)), .int (Pbl (u.1))])), (x 25, .inl (cI, 6, .inl (Pkd (u.1)))), (x 26, .inl (cI, 6, .inl (Plg (u.1)))), (x 27, .inl (cI, 6, .inl (Pwh (u.1)))), (x 28, .inr (2, [.int (Pbo L1), .int (Psz L1), .ref (x 29), .ref (x 30), .ref (x 31), .int (Pnx L1), .int (Ppt L1), .int (Pbl L1)])), (x 29, .inl (cI, 6, .inl (Pkd L1))), (x 30, .inl (cI, 6, .inl (Plg L1))), (x 31, .inl (cI, 6, .inl (Pwh L1))), (x 44, .inl (cA, 5, .inr (.inr (.inr (.inr (wyF x)))))), (x 46, .inl (cI, 6, .inl (u.2.1))), (x 50, .inl (cI, 21, .inl (u.2.2)))])) A) ([.ref (x 22), .int (nI 1), .int (nI gain), .int wt] : List Value).toArray s 0 0 A) (F0 m 80 ls []) := by
        intro n_80
        induction n_80 with
        | zero => intro w M0 cs H locs i0 hmu; exact absurd hmu (Nat.not_lt_zero _)
        | succ n_80 ih_80 =>
          intro w M0 cs H locs i0 hmu_80 hP hD hS ls hl hF
          rw [F_X0_spreadLevel_v1_L80] at hF
          refine lv_iload hx hb dX0_spreadLevel_80 (lv_at hl 0 rfl) ?_
          refine lv_bipush (v := nI 6) hx hb dX0_spreadLevel_82 (by decide) ?_
          refine qv_icmp_ge (tgt := 137) hx hb dX0_spreadLevel_84 (by decide) (by omega) (by omega) (fun c_84 => ?_) (fun c_84 => ?_)
          · rw [if_pos c_84] at hF
            rw [let3_mk (w : Nat) (M0 : pS) (cs : Nat → Int32)] at hF
            have hP9 : va_P (dC, dI) vwCl ([(x 22, .inr (0, [.ref (x 23), .ref (x 44), .ref (x 50)])), (x 23, .inl (cP, 5, .inr (.inr (.inr (.inr (lvF x)))))), (x 24, .inr (2, [.int (Pbo M0), .int (Psz M0), .ref (x 25), .ref (x 26), .ref (x 27), .int (Pnx M0), .int (Ppt M0), .int (Pbl M0)])), (x 25, .inl (cI, 6, .inl (Pkd M0))), (x 26, .inl (cI, 6, .inl (Plg M0))), (x 27, .inl (cI, 6, .inl (Pwh M0))), (x 28, .inr (2, [.int (Pbo L1), .int (Psz L1), .ref (x 29), .ref (x 30), .ref (x 31), .int (Pnx L1), .int (Ppt L1), .int (Pbl L1)])), (x 29, .inl (cI, 6, .inl (Pkd L1))), (x 30, .inl (cI, 6, .inl (Plg L1))), (x 31, .inl (cI, 6, .inl (Pwh L1))), (x 44, .inl (cA, 5, .inr (.inr (.inr (.inr (wyF x)))))), (x 46, .inl (cI, 6, .inl W1_64)), (x 50, .inl (cI, 21, .inl cs))]) H := hP
            exact W.vret hx hb hr (fun t ht hW => ⟨⟨((M0, W1_64, cs)), rfl, hO.symm.trans hF, by rw [ht]; exact hP9, va_K.moved hW.alike hK, hD⟩, hS.F ht⟩) hS.2.2 dX0_spreadLevel_137
          · rw [if_neg c_84] at hF
            refine lv_aload hx hb dX0_spreadLevel_87 (lv_at hl 2 rfl) ?_
            refine lv_iload hx hb dX0_spreadLevel_89 (lv_at hl 0 rfl) ?_
            refine qv_ald (v := W1_64 w) hx hb hK hP 11 0 rfl rfl (by omega) (by decide) (rfl) dX0_spreadLevel_91 ?_
            refine lv_if_le (tgt := 131) hx hb dX0_spreadLevel_92 (by decide) (fun c_92 => ?_) (fun c_92 => ?_)
            · rw [if_pos c_92] at hF
              refine lv_iinc (v := nI (w + 1)) (lv' := [(7, .int (nI (w + 1))), (6, .ref (x 24)), (5, .ref (x 46)), (4, .ref (x 28)), (0, .ref (x 22)), (1, .int (nI 1)), (2, .int (nI gain)), (3, .int wt)]) hx hb dX0_spreadLevel_131 hl (k := 0) rfl (qn_inc (c := 1) rfl (by omega)) (by decide) rfl (fun ls hl => ?_)
              refine lv_goto (tgt := 80) hx hb dX0_spreadLevel_134 (by decide) ?_
              exact ih_80 (w + 1) M0 cs H locs (by omega) (by omega) hP hD hS ls (lv_sub hl [0, 1, 2, 3, 4, 5, 6, 7] rfl) hF
            · rw [if_neg c_92] at hF
              refine lv_aload hx hb dX0_spreadLevel_95 (lv_at hl 1 rfl) ?_
              refine lv_aload hx hb dX0_spreadLevel_97 (lv_at hl 3 rfl) ?_
              refine qx_Vv (C := RX2) (As := [.ref (x 28)]) (rest := []) (ci := 2) (k0 := 2) (wr := [(x 22, .inr (0, [.ref (x 23), .ref (x 44), .ref (x 50)])), (x 23, .inl (cP, 5, .inr (.inr (.inr (.inr (lvF x)))))), (x 44, .inl (cA, 5, .inr (.inr (.inr (.inr (wyF x)))))), (x 46, .inl (cI, 6, .inl W1_64)), (x 50, .inl (cI, 21, .inl cs))]) (ws2 := fun u => [(x 22, .inr (0, [.ref (x 23), .ref (x 44), .ref (x 50)])), (x 23, .inl (cP, 5, .inr (.inr (.inr (.inr (lvF x)))))), (x 24, .inr (2, [.int (Pbo u), .int (Psz u), .ref (x 25), .ref (x 26), .ref (x 27), .int (Pnx u), .int (Ppt u), .int (Pbl u)])), (x 25, .inl (cI, 6, .inl (Pkd u))), (x 26, .inl (cI, 6, .inl (Plg u))), (x 27, .inl (cI, 6, .inl (Pwh u))), (x 28, .inr (2, [.int (Pbo L1), .int (Psz L1), .ref (x 29), .ref (x 30), .ref (x 31), .int (Pnx L1), .int (Ppt L1), .int (Pbl L1)])), (x 29, .inl (cI, 6, .inl (Pkd L1))), (x 30, .inl (cI, 6, .inl (Plg L1))), (x 31, .inl (cI, 6, .inl (Pwh L1))), (x 44, .inl (cA, 5, .inr (.inr (.inr (.inr (wyF x)))))), (x 46, .inl (cI, 6, .inl W1_64)), (x 50, .inl (cI, 21, .inl cs))]) [2, 3, 4, 5, 6, 7, 8, 9] [0, 1, 10, 11, 12] [0, 1, 5, 6, 7, 8, 9, 10, 11, 12, 2, 3, 4] ⟨hx, hb, hml, hown, hts⟩ (c_X2_copy l dC dI (fun i => x (24 + i)) (fun i => x (28 + i)) cI H.size M0 L1  ) (cwV 1 hts gX0_spreadLevel_X2_copy rfl rfl rfl (by decide +kernel) ⟨Nat.le_of_ble_eq_true rfl, Nat.le_of_ble_eq_true rfl⟩) (hK.sub [0] rfl) hK hP hD hS hA hN rfl rfl (by decide) (by decide) (by decide) (by decide) (fun _ => rfl) rfl rfl rfl rfl hl.1 rfl (Nat.le_of_ble_eq_true rfl) dX0_spreadLevel_99 ⟨Nat.zero_le _, Nat.zero_le _⟩ (fun u_99 H locs hw_99 hP hD hS => ?_)
              obtain ⟨L0_99, rfl⟩ : ∃ z, z = u_99 := ⟨_, rfl⟩
              have hP : va_P (dC, dI) vwCl ([(x 22, .inr (0, [.ref (x 23), .ref (x 44), .ref (x 50)])), (x 23, .inl (cP, 5, .inr (.inr (.inr (.inr (lvF x)))))), (x 24, .inr (2, [.int (Pbo L0_99), .int (Psz L0_99), .ref (x 25), .ref (x 26), .ref (x 27), .int (Pnx L0_99), .int (Ppt L0_99), .int (Pbl L0_99)])), (x 25, .inl (cI, 6, .inl (Pkd L0_99))), (x 26, .inl (cI, 6, .inl (Plg L0_99))), (x 27, .inl (cI, 6, .inl (Pwh L0_99))), (x 28, .inr (2, [.int (Pbo L1), .int (Psz L1), .ref (x 29), .ref (x 30), .ref (x 31), .int (Pnx L1), .int (Ppt L1), .int (Pbl L1)])), (x 29, .inl (cI, 6, .inl (Pkd L1))), (x 30, .inl (cI, 6, .inl (Plg L1))), (x 31, .inl (cI, 6, .inl (Pwh L1))), (x 44, .inl (cA, 5, .inr (.inr (.inr (.inr (wyF x)))))), (x 46, .inl (cI, 6, .inl W1_64)), (x 50, .inl (cI, 21, .inl cs))]) H := hP
              have hD : va_D A ([(x 22, .inr (0, [.ref (x 23), .ref (x 44), .ref (x 50)])), (x 23, .inl (cP, 5, .inr (.inr (.inr (.inr (lvF x)))))), (x 24, .inr (2, [.int (Pbo L0_99), .int (Psz L0_99), .ref (x 25), .ref (x 26), .ref (x 27), .int (Pnx L0_99), .int (Ppt L0_99), .int (Pbl L0_99)])), (x 25, .inl (cI, 6, .inl (Pkd L0_99))), (x 26, .inl (cI, 6, .inl (Plg L0_99))), (x 27, .inl (cI, 6, .inl (Pwh L0_99))), (x 28, .inr (2, [.int (Pbo L1), .int (Psz L1), .ref (x 29), .ref (x 30), .ref (x 31), .int (Pnx L1), .int (Ppt L1), .int (Pbl L1)])), (x 29, .inl (cI, 6, .inl (Pkd L1))), (x 30, .inl (cI, 6, .inl (Plg L1))), (x 31, .inl (cI, 6, .inl (Pwh L1))), (x 44, .inl (cA, 5, .inr (.inr (.inr (.inr (wyF x)))))), (x 46, .inl (cI, 6, .inl W1_64)), (x 50, .inl (cI, 21, .inl cs))]) := hD
              have v_99 : Psz L0_99 = Psz L1 := by rw [← hw_99]; rfl
              rw [hw_99, let1_mk L0_99] at hF
              refine lv_aload hx hb dX0_spreadLevel_102 (lv_at hl 1 rfl) ?_
              refine lv_iload hx hb dX0_spreadLevel_104 (lv_at hl 0 rfl) ?_
              refine lv_iconst (v := nI 1) hx hb dX0_spreadLevel_106 (by decide) ?_
              refine lv_isub hx hb dX0_spreadLevel_107 ?_
              refine qx_Vi (C := RX2) (As := [.int ((nI w) - (nI 1))]) (rest := []) (ci := 2) (k0 := 2) (wr := [(x 22, .inr (0, [.ref (x 23), .ref (x 44), .ref (x 50)])), (x 23, .inl (cP, 5, .inr (.inr (.inr (.inr (lvF x)))))), (x 28, .inr (2, [.int (Pbo L1), .int (Psz L1), .ref (x 29), .ref (x 30), .ref (x 31), .int (Pnx L1), .int (Ppt L1), .int (Pbl L1)])), (x 29, .inl (cI, 6, .inl (Pkd L1))), (x 30, .inl (cI, 6, .inl (Plg L1))), (x 31, .inl (cI, 6, .inl (Pwh L1))), (x 44, .inl (cA, 5, .inr (.inr (.inr (.inr (wyF x)))))), (x 46, .inl (cI, 6, .inl W1_64)), (x 50, .inl (cI, 21, .inl cs))]) (ws2 := fun u => [(x 22, .inr (0, [.ref (x 23), .ref (x 44), .ref (x 50)])), (x 23, .inl (cP, 5, .inr (.inr (.inr (.inr (lvF x)))))), (x 24, .inr (2, [.int (Pbo u), .int (Psz u), .ref (x 25), .ref (x 26), .ref (x 27), .int (Pnx u), .int (Ppt u), .int (Pbl u)])), (x 25, .inl (cI, 6, .inl (Pkd u))), (x 26, .inl (cI, 6, .inl (Plg u))), (x 27, .inl (cI, 6, .inl (Pwh u))), (x 28, .inr (2, [.int (Pbo L1), .int (Psz L1), .ref (x 29), .ref (x 30), .ref (x 31), .int (Pnx L1), .int (Ppt L1), .int (Pbl L1)])), (x 29, .inl (cI, 6, .inl (Pkd L1))), (x 30, .inl (cI, 6, .inl (Plg L1))), (x 31, .inl (cI, 6, .inl (Pwh L1))), (x 44, .inl (cA, 5, .inr (.inr (.inr (.inr (wyF x)))))), (x 46, .inl (cI, 6, .inl W1_64)), (x 50, .inl (cI, 21, .inl cs))]) [2, 3, 4, 5] [0, 1, 6, 7, 8, 9, 10, 11, 12] [0, 1, 9, 10, 11, 12, 2, 3, 4, 5, 6, 7, 8] ⟨hx, hb, hml, hown, hts⟩ (c_X2_runBall l dC dI (fun i => x (24 + i)) cI H.size L0_99 ((nI w) - (nI 1)) (by rw [show Psz L0_99 = Psz L1 from v_99]; exact (pz : inB (Psz L1) 6))) (cwV 1 hts gX0_spreadLevel_X2_runBall rfl rfl rfl (by decide +kernel) ⟨Nat.le_of_ble_eq_true rfl, Nat.le_of_ble_eq_true rfl⟩) (hK.sub [0] rfl) hK hP hD hS hA hN rfl rfl (by decide) (by decide) (by decide) (by decide) (fun _ => rfl) rfl rfl rfl rfl hl.1 rfl (Nat.le_of_ble_eq_true rfl) dX0_spreadLevel_108 ⟨Nat.zero_le _, Nat.zero_le _⟩ (fun r_108 u_108 H locs hw_108 hP hD hS => ?_)
              obtain ⟨L0_108, rfl⟩ : ∃ z, z = u_108 := ⟨_, rfl⟩
              have hP : va_P (dC, dI) vwCl ([(x 22, .inr (0, [.ref (x 23), .ref (x 44), .ref (x 50)])), (x 23, .inl (cP, 5, .inr (.inr (.inr (.inr (lvF x)))))), (x 24, .inr (2, [.int (Pbo L0_108), .int (Psz L0_108), .ref (x 25), .ref (x 26), .ref (x 27), .int (Pnx L0_108), .int (Ppt L0_108), .int (Pbl L0_108)])), (x 25, .inl (cI, 6, .inl (Pkd L0_108))), (x 26, .inl (cI, 6, .inl (Plg L0_108))), (x 27, .inl (cI, 6, .inl (Pwh L0_108))), (x 28, .inr (2, [.int (Pbo L1), .int (Psz L1), .ref (x 29), .ref (x 30), .ref (x 31), .int (Pnx L1), .int (Ppt L1), .int (Pbl L1)])), (x 29, .inl (cI, 6, .inl (Pkd L1))), (x 30, .inl (cI, 6, .inl (Plg L1))), (x 31, .inl (cI, 6, .inl (Pwh L1))), (x 44, .inl (cA, 5, .inr (.inr (.inr (.inr (wyF x)))))), (x 46, .inl (cI, 6, .inl W1_64)), (x 50, .inl (cI, 21, .inl cs))]) H := hP
              have hD : va_D A ([(x 22, .inr (0, [.ref (x 23), .ref (x 44), .ref (x 50)])), (x 23, .inl (cP, 5, .inr (.inr (.inr (.inr (lvF x)))))), (x 24, .inr (2, [.int (Pbo L0_108), .int (Psz L0_108), .ref (x 25), .ref (x 26), .ref (x 27), .int (Pnx L0_108), .int (Ppt L0_108), .int (Pbl L0_108)])), (x 25, .inl (cI, 6, .inl (Pkd L0_108))), (x 26, .inl (cI, 6, .inl (Plg L0_108))), (x 27, .inl (cI, 6, .inl (Pwh L0_108))), (x 28, .inr (2, [.int (Pbo L1), .int (Psz L1), .ref (x 29), .ref (x 30), .ref (x 31), .int (Pnx L1), .int (Ppt L1), .int (Pbl L1)])), (x 29, .inl (cI, 6, .inl (Pkd L1))), (x 30, .inl (cI, 6, .inl (Plg L1))), (x 31, .inl (cI, 6, .inl (Pwh L1))), (x 44, .inl (cA, 5, .inr (.inr (.inr (.inr (wyF x)))))), (x 46, .inl (cI, 6, .inl W1_64)), (x 50, .inl (cI, 21, .inl cs))]) := hD
              have a_108 := runBall_at hw_108
              have i_108 := runBall_in hw_108
              have e_108 := tN_eq i_108.1
              have b_108 := i_108.2
              refine qv_top (e_108) ?_
              rw [hw_108, let2_mk r_108 L0_108] at hF
              refine lv_istore (lv' := [(8, .int (nI (tN r_108))), (7, .int (nI w)), (6, .ref (x 24)), (5, .ref (x 46)), (4, .ref (x 28)), (0, .ref (x 22)), (1, .int (nI 1)), (2, .int (nI gain)), (3, .int wt)]) hx hb dX0_spreadLevel_111 hl (by decide) rfl (fun ls hl => ?_)
              refine lv_aload_n hx hb dX0_spreadLevel_113 rfl (lv_at hl 5 rfl) ?_
              refine lv_iload_n hx hb dX0_spreadLevel_114 rfl (lv_at hl 6 rfl) ?_
              refine lv_iconst (v := nI 1) hx hb dX0_spreadLevel_115 (by decide) ?_
              refine qv_isub hx hb (0) dX0_spreadLevel_116 (by omega) ?_
              refine lv_iload_n hx hb dX0_spreadLevel_117 rfl (lv_at hl 7 rfl) ?_
              refine lv_iload hx hb dX0_spreadLevel_118 (lv_at hl 0 rfl) ?_
              refine qv_iadd hx hb (gain + tN r_108) dX0_spreadLevel_120 (by omega) ?_
              refine lv_iload_n hx hb dX0_spreadLevel_121 rfl (lv_at hl 8 rfl) ?_
              refine lv_aload hx hb dX0_spreadLevel_122 (lv_at hl 3 rfl) ?_
              refine lv_iload hx hb dX0_spreadLevel_124 (lv_at hl 1 rfl) ?_
              refine qv_ald (v := W1_64 w) hx hb hK hP 11 0 rfl rfl (by omega) (by decide) (rfl) dX0_spreadLevel_126 ?_
              refine lv_imul hx hb dX0_spreadLevel_127 ?_
              refine qxe_Sv (As := [.ref (x 22), .int (nI 0), .int (nI (gain + tN r_108)), .int (wt * (W1_64 w))]) (rest := []) (wr := [(x 28, .inr (2, [.int (Pbo L1), .int (Psz L1), .ref (x 29), .ref (x 30), .ref (x 31), .int (Pnx L1), .int (Ppt L1), .int (Pbl L1)])), (x 29, .inl (cI, 6, .inl (Pkd L1))), (x 30, .inl (cI, 6, .inl (Plg L1))), (x 31, .inl (cI, 6, .inl (Pwh L1))), (x 46, .inl (cI, 6, .inl W1_64))]) (ws2 := fun u => [(x 22, .inr (0, [.ref (x 23), .ref (x 44), .ref (x 50)])), (x 23, .inl (cP, 5, .inr (.inr (.inr (.inr (lvF x)))))), (x 24, .inr (2, [.int (Pbo L0_108), .int (Psz L0_108), .ref (x 25), .ref (x 26), .ref (x 27), .int (Pnx L0_108), .int (Ppt L0_108), .int (Pbl L0_108)])), (x 25, .inl (cI, 6, .inl (Pkd L0_108))), (x 26, .inl (cI, 6, .inl (Plg L0_108))), (x 27, .inl (cI, 6, .inl (Pwh L0_108))), (x 28, .inr (2, [.int (Pbo L1), .int (Psz L1), .ref (x 29), .ref (x 30), .ref (x 31), .int (Pnx L1), .int (Ppt L1), .int (Pbl L1)])), (x 29, .inl (cI, 6, .inl (Pkd L1))), (x 30, .inl (cI, 6, .inl (Plg L1))), (x 31, .inl (cI, 6, .inl (Pwh L1))), (x 44, .inl (cA, 5, .inr (.inr (.inr (.inr (wyF x)))))), (x 46, .inl (cI, 6, .inl W1_64)), (x 50, .inl (cI, 21, .inl u))]) [0, 1, 2, 3, 4, 5, 10, 12] [6, 7, 8, 9, 11] [5, 6, 7, 8, 9, 10, 0, 1, 2, 3, 11, 4, 12] ⟨hx, hb, hml, hown, hts⟩ (c_X0_spreadLevel_v0 l dC dI x cI cP cA t H.size L0_108 cs (gain + tN r_108) (wt * (W1_64 w)) (by rw [show Psz L0_108 = Psz L1 from (a_108.1).trans (v_99)]; exact (pz : inB (Psz L1) 6)) (by omega)) (va_cwS 4 hts gX0_spreadLevel_X0_spreadLevel rfl rfl rfl (by decide +kernel) ⟨Nat.le_of_ble_eq_true rfl, Nat.le_of_ble_eq_true rfl⟩) (hK.sub [0, 1, 2] rfl) hK hP hD hS hA hN hE rfl rfl (by decide) (by decide) (by decide) (by decide) (fun _ => rfl) rfl hl.1 rfl (Nat.le_of_ble_eq_true rfl) dX0_spreadLevel_128 ⟨Nat.zero_le _, Nat.zero_le _⟩ (fun u_128 H locs hw_128 hP hD hS => ?_)
              obtain ⟨Cs_128, rfl⟩ : ∃ z, z = u_128 := ⟨_, rfl⟩
              have hP : va_P (dC, dI) vwCl ([(x 22, .inr (0, [.ref (x 23), .ref (x 44), .ref (x 50)])), (x 23, .inl (cP, 5, .inr (.inr (.inr (.inr (lvF x)))))), (x 24, .inr (2, [.int (Pbo L0_108), .int (Psz L0_108), .ref (x 25), .ref (x 26), .ref (x 27), .int (Pnx L0_108), .int (Ppt L0_108), .int (Pbl L0_108)])), (x 25, .inl (cI, 6, .inl (Pkd L0_108))), (x 26, .inl (cI, 6, .inl (Plg L0_108))), (x 27, .inl (cI, 6, .inl (Pwh L0_108))), (x 28, .inr (2, [.int (Pbo L1), .int (Psz L1), .ref (x 29), .ref (x 30), .ref (x 31), .int (Pnx L1), .int (Ppt L1), .int (Pbl L1)])), (x 29, .inl (cI, 6, .inl (Pkd L1))), (x 30, .inl (cI, 6, .inl (Plg L1))), (x 31, .inl (cI, 6, .inl (Pwh L1))), (x 44, .inl (cA, 5, .inr (.inr (.inr (.inr (wyF x)))))), (x 46, .inl (cI, 6, .inl W1_64)), (x 50, .inl (cI, 21, .inl Cs_128))]) H := hP
              have hD : va_D A ([(x 22, .inr (0, [.ref (x 23), .ref (x 44), .ref (x 50)])), (x 23, .inl (cP, 5, .inr (.inr (.inr (.inr (lvF x)))))), (x 24, .inr (2, [.int (Pbo L0_108), .int (Psz L0_108), .ref (x 25), .ref (x 26), .ref (x 27), .int (Pnx L0_108), .int (Ppt L0_108), .int (Pbl L0_108)])), (x 25, .inl (cI, 6, .inl (Pkd L0_108))), (x 26, .inl (cI, 6, .inl (Plg L0_108))), (x 27, .inl (cI, 6, .inl (Pwh L0_108))), (x 28, .inr (2, [.int (Pbo L1), .int (Psz L1), .ref (x 29), .ref (x 30), .ref (x 31), .int (Pnx L1), .int (Ppt L1), .int (Pbl L1)])), (x 29, .inl (cI, 6, .inl (Pkd L1))), (x 30, .inl (cI, 6, .inl (Plg L1))), (x 31, .inl (cI, 6, .inl (Pwh L1))), (x 44, .inl (cA, 5, .inr (.inr (.inr (.inr (wyF x)))))), (x 46, .inl (cI, 6, .inl W1_64)), (x 50, .inl (cI, 21, .inl Cs_128))]) := hD
              rw [hw_128, let1_mk Cs_128] at hF
              refine lv_iinc (v := nI (w + 1)) (lv' := [(7, .int (nI (w + 1))), (8, .int (nI (tN r_108))), (6, .ref (x 24)), (5, .ref (x 46)), (4, .ref (x 28)), (0, .ref (x 22)), (1, .int (nI 1)), (2, .int (nI gain)), (3, .int wt)]) hx hb dX0_spreadLevel_131 hl (k := 1) rfl (qn_inc (c := 1) rfl (by omega)) (by decide) rfl (fun ls hl => ?_)
              refine lv_goto (tgt := 80) hx hb dX0_spreadLevel_134 (by decide) ?_
              exact ih_80 (w + 1) L0_108 Cs_128 H locs (by omega) (by omega) hP hD hS ls (lv_sub hl [0, 2, 3, 4, 5, 6, 7, 8] rfl) hF
      exact L_80 7 0 L0 Cs H locs (by omega) (by omega) hP hD hS ls (lv_sub hl [0, 1, 2, 3, 4, 5, 6, 7] rfl) hF
    · rw [if_pos c_27] at hF
      refine lv_aload_n hx hb dX0_spreadLevel_30 rfl (lv_at hl 1 rfl) ?_
      refine va_get (D := (dC, dI)) (ci := 0) (v := .ref (x 50)) (C := RX0) (T := TX0) (N := 3) hx hb hts hin0 hown hK hP 0 rfl rfl 2 (by decide) lk22 (fun _ h9 => h9) rfl dX0_spreadLevel_31 ?_
      refine lv_bipush (v := nI 20) hx hb dX0_spreadLevel_34 (by decide) ?_
      refine lv_iload_n hx hb dX0_spreadLevel_36 rfl (lv_at hl 3 rfl) ?_
      refine va_mmin hx hb (hml.trans hl.1.symm) hown (hts (.methodLink RX0 49 Lib.Math.min.name) (by decide +kernel)) (hts (.static Lib.Math.min.name) (by decide +kernel)) (hts (.initialized "java/lang/Math") (by decide +kernel)) (hts (.code Lib.Math.min.name Lib.Math.min.code 2 (some .int)) (by decide +kernel)) (Nat.le_of_ble_eq_true rfl) (Nat.le_of_ble_eq_true rfl) (Nat.zero_le _) (Nat.zero_le _) dX0_spreadLevel_37 ?_
      by_cases c_37 : (nI gain) < (nI 20)
      · rw [if_pos c_37] at hF ⊢
        have cn_37 := (nI_ltI (by omega) (by omega)).mp c_37
        refine lv_dup2_11 hx hb dX0_spreadLevel_40 rfl rfl ?_
        refine qv_ald (v := Cs gain) hx hb hK hP 12 0 rfl rfl (by omega) (by decide) (rfl) dX0_spreadLevel_41 ?_
        refine lv_iload_n hx hb dX0_spreadLevel_42 rfl (lv_at hl 4 rfl) ?_
        refine va_getsN (v := .ref t) hx hb hE.1 hS hown (va_Nw.use rfl (xN_T hN)) (fun _ h9 => h9) dX0_spreadLevel_43 ?_
        refine lv_iload_n hx hb dX0_spreadLevel_46 rfl (lv_at hl 2 rfl) ?_
        refine va_ti (v := .int (nI 10)) hx hb hE.2 hS (vp_in_nI (n := 1) (by decide) (by decide)) (tens_at 1 (by decide)) dX0_spreadLevel_47 ?_
        refine lv_imul hx hb dX0_spreadLevel_48 ?_
        refine lv_iadd hx hb dX0_spreadLevel_49 ?_
        refine qv_ast (ws' := [(x 22, .inr (0, [.ref (x 23), .ref (x 44), .ref (x 50)])), (x 23, .inl (cP, 5, .inr (.inr (.inr (.inr (lvF x)))))), (x 24, .inr (2, [.int (Pbo L0), .int (Psz L0), .ref (x 25), .ref (x 26), .ref (x 27), .int (Pnx L0), .int (Ppt L0), .int (Pbl L0)])), (x 25, .inl (cI, 6, .inl (Pkd L0))), (x 26, .inl (cI, 6, .inl (Plg L0))), (x 27, .inl (cI, 6, .inl (Pwh L0))), (x 28, .inr (2, [.int (Pbo L1), .int (Psz L1), .ref (x 29), .ref (x 30), .ref (x 31), .int (Pnx L1), .int (Ppt L1), .int (Pbl L1)])), (x 29, .inl (cI, 6, .inl (Pkd L1))), (x 30, .inl (cI, 6, .inl (Plg L1))), (x 31, .inl (cI, 6, .inl (Pwh L1))), (x 44, .inl (cA, 5, .inr (.inr (.inr (.inr (wyF x)))))), (x 46, .inl (cI, 6, .inl W1)), (x 50, .inl (cI, 21, .inl (upd Cs gain ((Cs gain) + (wt * (nI 10))))))]) hx hb hK hP hD hS 12 0 rfl rfl (by omega) (by decide) dX0_spreadLevel_50 rfl (fun H locs hP hD hS => ?_)
        have hP9 : va_P (dC, dI) vwCl ([(x 22, .inr (0, [.ref (x 23), .ref (x 44), .ref (x 50)])), (x 23, .inl (cP, 5, .inr (.inr (.inr (.inr (lvF x)))))), (x 24, .inr (2, [.int (Pbo L0), .int (Psz L0), .ref (x 25), .ref (x 26), .ref (x 27), .int (Pnx L0), .int (Ppt L0), .int (Pbl L0)])), (x 25, .inl (cI, 6, .inl (Pkd L0))), (x 26, .inl (cI, 6, .inl (Plg L0))), (x 27, .inl (cI, 6, .inl (Pwh L0))), (x 28, .inr (2, [.int (Pbo L1), .int (Psz L1), .ref (x 29), .ref (x 30), .ref (x 31), .int (Pnx L1), .int (Ppt L1), .int (Pbl L1)])), (x 29, .inl (cI, 6, .inl (Pkd L1))), (x 30, .inl (cI, 6, .inl (Plg L1))), (x 31, .inl (cI, 6, .inl (Pwh L1))), (x 44, .inl (cA, 5, .inr (.inr (.inr (.inr (wyF x)))))), (x 46, .inl (cI, 6, .inl W1)), (x 50, .inl (cI, 21, .inl (upd Cs gain ((Cs gain) + (wt * (nI 10))))))]) H := hP
        exact W.vret hx hb hr (fun t ht hW => ⟨⟨((L0, W1, upd Cs gain ((Cs gain) + (wt * (nI 10))))), rfl, hO.symm.trans hF, by rw [ht]; exact hP9, va_K.moved hW.alike hK, hD⟩, hS.F ht⟩) hS.2.2 dX0_spreadLevel_51
      · rw [if_neg c_37] at hF ⊢
        have cn_37 : ¬ gain < 20 := fun q => c_37 ((nI_ltI (by omega) (by omega)).mpr q)
        refine lv_dup2_11 hx hb dX0_spreadLevel_40 rfl rfl ?_
        refine qv_ald (v := Cs 20) hx hb hK hP 12 0 rfl rfl (by omega) (by decide) (rfl) dX0_spreadLevel_41 ?_
        refine lv_iload_n hx hb dX0_spreadLevel_42 rfl (lv_at hl 4 rfl) ?_
        refine va_getsN (v := .ref t) hx hb hE.1 hS hown (va_Nw.use rfl (xN_T hN)) (fun _ h9 => h9) dX0_spreadLevel_43 ?_
        refine lv_iload_n hx hb dX0_spreadLevel_46 rfl (lv_at hl 2 rfl) ?_
        refine va_ti (v := .int (nI 10)) hx hb hE.2 hS (vp_in_nI (n := 1) (by decide) (by decide)) (tens_at 1 (by decide)) dX0_spreadLevel_47 ?_
        refine lv_imul hx hb dX0_spreadLevel_48 ?_
        refine lv_iadd hx hb dX0_spreadLevel_49 ?_
        refine qv_ast (ws' := [(x 22, .inr (0, [.ref (x 23), .ref (x 44), .ref (x 50)])), (x 23, .inl (cP, 5, .inr (.inr (.inr (.inr (lvF x)))))), (x 24, .inr (2, [.int (Pbo L0), .int (Psz L0), .ref (x 25), .ref (x 26), .ref (x 27), .int (Pnx L0), .int (Ppt L0), .int (Pbl L0)])), (x 25, .inl (cI, 6, .inl (Pkd L0))), (x 26, .inl (cI, 6, .inl (Plg L0))), (x 27, .inl (cI, 6, .inl (Pwh L0))), (x 28, .inr (2, [.int (Pbo L1), .int (Psz L1), .ref (x 29), .ref (x 30), .ref (x 31), .int (Pnx L1), .int (Ppt L1), .int (Pbl L1)])), (x 29, .inl (cI, 6, .inl (Pkd L1))), (x 30, .inl (cI, 6, .inl (Plg L1))), (x 31, .inl (cI, 6, .inl (Pwh L1))), (x 44, .inl (cA, 5, .inr (.inr (.inr (.inr (wyF x)))))), (x 46, .inl (cI, 6, .inl W1)), (x 50, .inl (cI, 21, .inl (upd Cs 20 ((Cs 20) + (wt * (nI 10))))))]) hx hb hK hP hD hS 12 0 rfl rfl (by omega) (by decide) dX0_spreadLevel_50 rfl (fun H locs hP hD hS => ?_)
        have hP9 : va_P (dC, dI) vwCl ([(x 22, .inr (0, [.ref (x 23), .ref (x 44), .ref (x 50)])), (x 23, .inl (cP, 5, .inr (.inr (.inr (.inr (lvF x)))))), (x 24, .inr (2, [.int (Pbo L0), .int (Psz L0), .ref (x 25), .ref (x 26), .ref (x 27), .int (Pnx L0), .int (Ppt L0), .int (Pbl L0)])), (x 25, .inl (cI, 6, .inl (Pkd L0))), (x 26, .inl (cI, 6, .inl (Plg L0))), (x 27, .inl (cI, 6, .inl (Pwh L0))), (x 28, .inr (2, [.int (Pbo L1), .int (Psz L1), .ref (x 29), .ref (x 30), .ref (x 31), .int (Pnx L1), .int (Ppt L1), .int (Pbl L1)])), (x 29, .inl (cI, 6, .inl (Pkd L1))), (x 30, .inl (cI, 6, .inl (Plg L1))), (x 31, .inl (cI, 6, .inl (Pwh L1))), (x 44, .inl (cA, 5, .inr (.inr (.inr (.inr (wyF x)))))), (x 46, .inl (cI, 6, .inl W1)), (x 50, .inl (cI, 21, .inl (upd Cs 20 ((Cs 20) + (wt * (nI 10))))))]) H := hP
        exact W.vret hx hb hr (fun t ht hW => ⟨⟨((L0, W1, upd Cs 20 ((Cs 20) + (wt * (nI 10))))), rfl, hO.symm.trans hF, by rw [ht]; exact hP9, va_K.moved hW.alike hK, hD⟩, hS.F ht⟩) hS.2.2 dX0_spreadLevel_51
  · rw [if_neg c_6] at hF
    have hP9 : va_P (dC, dI) vwCl ([(x 22, .inr (0, [.ref (x 23), .ref (x 44), .ref (x 50)])), (x 23, .inl (cP, 5, .inr (.inr (.inr (.inr (lvF x)))))), (x 24, .inr (2, [.int (Pbo L0), .int (Psz L0), .ref (x 25), .ref (x 26), .ref (x 27), .int (Pnx L0), .int (Ppt L0), .int (Pbl L0)])), (x 25, .inl (cI, 6, .inl (Pkd L0))), (x 26, .inl (cI, 6, .inl (Plg L0))), (x 27, .inl (cI, 6, .inl (Pwh L0))), (x 28, .inr (2, [.int (Pbo L1), .int (Psz L1), .ref (x 29), .ref (x 30), .ref (x 31), .int (Pnx L1), .int (Ppt L1), .int (Pbl L1)])), (x 29, .inl (cI, 6, .inl (Pkd L1))), (x 30, .inl (cI, 6, .inl (Plg L1))), (x 31, .inl (cI, 6, .inl (Pwh L1))), (x 44, .inl (cA, 5, .inr (.inr (.inr (.inr (wyF x)))))), (x 46, .inl (cI, 6, .inl W1)), (x 50, .inl (cI, 21, .inl Cs))]) s.heap := hP
    exact W.vret hx hb hr (fun t ht hW => ⟨⟨((L0, W1, Cs)), rfl, hO.symm.trans hF, by rw [ht]; exact hP9, va_K.moved hW.alike hK, hD⟩, hS.F ht⟩) hS.2.2 dX0_spreadLevel_9
def F_X0_spread_v0 (L0 : pS) (Cs : Nat → Int32) (S : pS) : (pS) × (Nat → Int32) := let1 (F_J7_fill_53178_v21 Cs (nI 0)) (fun Cs_5 => if (F_X5_within (nI 0) (nI 0) (nI 4)) = true then let1 (F_X2_copy L0 S) (fun L0_24 => let1 (F_X0_spreadLevel_v0 Cs_5 0 (nI 1)) (fun Cs_31 => (L0_24, Cs_31))) else (L0, Cs_5))
set_option maxHeartbeats 4000000 in
set_option maxRecDepth 100000 in
theorem c_X0_spread_v0 (l : Launch) (dC : Nat → ClassId) (dI : Nat → Nat → Nat) (x : Nat → Nat) (b : Nat → Nat) (cI cP cA : ClassId) (t : Nat) (sz : Nat) (L0 : pS) (Cs : Nat → Int32) (S : pS) (pz : inB (Psz S) 6) : Met l yX0_spread wsX0_spread { frames := 2, cells := 0, slots := 0, locals := 81 } (xPcE t (dC, dI) vwCl (xT3 cI cP cA) ([(x 22, .inr (0, [.ref (x 23), .ref (x 44), .ref (x 50)])), (x 23, .inl (cP, 5, .inr (.inr (.inr (.inr (lvF x)))))), (x 24, .inr (2, [.int (Pbo L0), .int (Psz L0), .ref (x 25), .ref (x 26), .ref (x 27), .int (Pnx L0), .int (Ppt L0), .int (Pbl L0)])), (x 25, .inl (cI, 6, .inl (Pkd L0))), (x 26, .inl (cI, 6, .inl (Plg L0))), (x 27, .inl (cI, 6, .inl (Pwh L0))), (x 44, .inl (cA, 5, .inr (.inr (.inr (.inr (wyF x)))))), (x 50, .inl (cI, 21, .inl Cs)), (b 0, .inr (2, [.int (Pbo S), .int (Psz S), .ref (b 1), .ref (b 2), .ref (b 3), .int (Pnx S), .int (Ppt S), .int (Pbl S)])), (b 1, .inl (cI, 6, .inl (Pkd S))), (b 2, .inl (cI, 6, .inl (Plg S))), (b 3, .inl (cI, 6, .inl (Pwh S)))]) sz [.ref (x 22), .ref (b 0), .int (nI 0)]) (va_Qv (fun (u : (pS) × (Nat → Int32)) => F_X0_spread_v0 L0 Cs S = u) (mB (dC, dI) vwCl (xT3 cI cP cA) (va_A ([(x 22, .inr (0, [.ref (x 23), .ref (x 44), .ref (x 50)])), (x 23, .inl (cP, 5, .inr (.inr (.inr (.inr (lvF x)))))), (x 24, .inr (2, [.int (Pbo L0), .int (Psz L0), .ref (x 25), .ref (x 26), .ref (x 27), .int (Pnx L0), .int (Ppt L0), .int (Pbl L0)])), (x 25, .inl (cI, 6, .inl (Pkd L0))), (x 26, .inl (cI, 6, .inl (Plg L0))), (x 27, .inl (cI, 6, .inl (Pwh L0))), (x 44, .inl (cA, 5, .inr (.inr (.inr (.inr (wyF x)))))), (x 50, .inl (cI, 21, .inl Cs)), (b 0, .inr (2, [.int (Pbo S), .int (Psz S), .ref (b 1), .ref (b 2), .ref (b 3), .int (Pnx S), .int (Ppt S), .int (Pbl S)])), (b 1, .inl (cI, 6, .inl (Pkd S))), (b 2, .inl (cI, 6, .inl (Plg S))), (b 3, .inl (cI, 6, .inl (Pwh S)))]) sz) (fun u => [(x 22, .inr (0, [.ref (x 23), .ref (x 44), .ref (x 50)])), (x 23, .inl (cP, 5, .inr (.inr (.inr (.inr (lvF x)))))), (x 24, .inr (2, [.int (Pbo (u.1)), .int (Psz (u.1)), .ref (x 25), .ref (x 26), .ref (x 27), .int (Pnx (u.1)), .int (Ppt (u.1)), .int (Pbl (u.1))])), (x 25, .inl (cI, 6, .inl (Pkd (u.1)))), (x 26, .inl (cI, 6, .inl (Plg (u.1)))), (x 27, .inl (cI, 6, .inl (Pwh (u.1)))), (x 44, .inl (cA, 5, .inr (.inr (.inr (.inr (wyF x)))))), (x 50, .inl (cI, 21, .inl (u.2))), (b 0, .inr (2, [.int (Pbo S), .int (Psz S), .ref (b 1), .ref (b 2), .ref (b 3), .int (Pnx S), .int (Ppt S), .int (Pbl S)])), (b 1, .inl (cI, 6, .inl (Pkd S))), (b 2, .inl (cI, 6, .inl (Plg S))), (b 3, .inl (cI, 6, .inl (Pwh S)))])) (va_A ([(x 22, .inr (0, [.ref (x 23), .ref (x 44), .ref (x 50)])), (x 23, .inl (cP, 5, .inr (.inr (.inr (.inr (lvF x)))))), (x 24, .inr (2, [.int (Pbo L0), .int (Psz L0), .ref (x 25), .ref (x 26), .ref (x 27), .int (Pnx L0), .int (Ppt L0), .int (Pbl L0)])), (x 25, .inl (cI, 6, .inl (Pkd L0))), (x 26, .inl (cI, 6, .inl (Plg L0))), (x 27, .inl (cI, 6, .inl (Pwh L0))), (x 44, .inl (cA, 5, .inr (.inr (.inr (.inr (wyF x)))))), (x 50, .inl (cI, 21, .inl Cs)), (b 0, .inr (2, [.int (Pbo S), .int (Psz S), .ref (b 1), .ref (b 2), .ref (b 3), .int (Pnx S), .int (Ppt S), .int (Pbl S)])), (b 1, .inl (cI, 6, .inl (Pkd S))), (b 2, .inl (cI, 6, .inl (Plg S))), (b 3, .inl (cI, 6, .inl (Pwh S)))]) sz)) 0 0 (va_A ([(x 22, .inr (0, [.ref (x 23), .ref (x 44), .ref (x 50)])), (x 23, .inl (cP, 5, .inr (.inr (.inr (.inr (lvF x)))))), (x 24, .inr (2, [.int (Pbo L0), .int (Psz L0), .ref (x 25), .ref (x 26), .ref (x 27), .int (Pnx L0), .int (Ppt L0), .int (Pbl L0)])), (x 25, .inl (cI, 6, .inl (Pkd L0))), (x 26, .inl (cI, 6, .inl (Plg L0))), (x 27, .inl (cI, 6, .inl (Pwh L0))), (x 44, .inl (cA, 5, .inr (.inr (.inr (.inr (wyF x)))))), (x 50, .inl (cI, 21, .inl Cs)), (b 0, .inr (2, [.int (Pbo S), .int (Psz S), .ref (b 1), .ref (b 2), .ref (b 3), .int (Pnx S), .int (Ppt S), .int (Pbl S)])), (b 1, .inl (cI, 6, .inl (Pkd S))), (b 2, .inl (cI, 6, .inl (Plg S))), (b 3, .inl (cI, 6, .inl (Pwh S)))]) sz) := by
  refine Met.ofW (cc := cX0_spread) (maxL := 3) (ret := none) (by decide) rfl ?_
  intro p e s m args below meth c s₁ B hml hv
  obtain ⟨rfl, hsz, hP, hK, hD0, hN, hE0⟩ := hv
  have hx := B.exec
  have hb := B.bytes
  have hr := B.returns
  have hts := atoms_spec (ws := wsX0_spread) B.pre
  have hown : s.vm.findClass RX0 = some m.cls := findClass_of_methodNamed B.named
  have hlocks := B.notSynchronized
  subst hsz
  have hD := hD0.self (sz := s.heap.size)
  generalize hAe : va_A ([(x 22, .inr (0, [.ref (x 23), .ref (x 44), .ref (x 50)])), (x 23, .inl (cP, 5, .inr (.inr (.inr (.inr (lvF x)))))), (x 24, .inr (2, [.int (Pbo L0), .int (Psz L0), .ref (x 25), .ref (x 26), .ref (x 27), .int (Pnx L0), .int (Ppt L0), .int (Pbl L0)])), (x 25, .inl (cI, 6, .inl (Pkd L0))), (x 26, .inl (cI, 6, .inl (Plg L0))), (x 27, .inl (cI, 6, .inl (Pwh L0))), (x 44, .inl (cA, 5, .inr (.inr (.inr (.inr (wyF x)))))), (x 50, .inl (cI, 21, .inl Cs)), (b 0, .inr (2, [.int (Pbo S), .int (Psz S), .ref (b 1), .ref (b 2), .ref (b 3), .int (Pnx S), .int (Ppt S), .int (Pbl S)])), (b 1, .inl (cI, 6, .inl (Pkd S))), (b 2, .inl (cI, 6, .inl (Plg S))), (b 3, .inl (cI, 6, .inl (Pwh S)))]) s.heap.size = A at hD hE0 ⊢
  have hE := hE0
  have hA : ∀ q : Nat, s.heap.size ≤ q → A q := fun q h => by rw [← hAe]; exact Or.inr h
  have hS : va_S A s.heap s.heap [] := va_S.rf
  have hin0 : ∀ w ∈ wsX00, w ∈ wsX0_spread := by decide +kernel
  have lk11 := hts (.fieldLink RX0 11 "PostRounders$Chances" "levels" "[LPostRounders$Play;") (by decide +kernel)
  have lk22 := hts (.fieldLink RX0 22 "PostRounders$Chances" "cases" "[I") (by decide +kernel)
  have hN33 := xN_33 hN
  have hl := lv_entry ([.ref (x 22), .ref (b 0), .int (nI 0)]) (n := 3) (Nat.le_of_ble_eq_true rfl)
  rw [lg_entry_eq]
  generalize (lg_sl ([.ref (x 22), .ref (b 0), .int (nI 0)]) ++ List.replicate (3 - (lg_sl ([.ref (x 22), .ref (b 0), .int (nI 0)])).length) Slot.unset).toArray = ls at hl ⊢
  have hl : lv_has ls 3 [(0, .ref (x 22)), (1, .ref (b 0)), (2, .int (nI 0))] := hl
  obtain ⟨OUT, hO⟩ : ∃ z, z = F_X0_spread_v0 L0 Cs S := ⟨_, rfl⟩
  have hF := hO
  unfold F_X0_spread_v0 at hF
  have e_pz := tN_eq pz.1
  have b_pz := pz.2
  refine lv_aload_n hx hb dX0_spread_0 rfl (lv_at hl 0 rfl) ?_
  refine va_get (D := (dC, dI)) (ci := 0) (v := .ref (x 50)) (C := RX0) (T := TX0) (N := 3) hx hb hts hin0 hown hK hP 0 rfl rfl 2 (by decide) lk22 (fun _ h9 => h9) rfl dX0_spread_1 ?_
  refine lv_iconst (v := nI 0) hx hb dX0_spread_4 (by decide) ?_
  refine qx_Sv (As := [.ref (x 50), .int (nI 0)]) (rest := []) (wr := [(x 22, .inr (0, [.ref (x 23), .ref (x 44), .ref (x 50)])), (x 23, .inl (cP, 5, .inr (.inr (.inr (.inr (lvF x)))))), (x 24, .inr (2, [.int (Pbo L0), .int (Psz L0), .ref (x 25), .ref (x 26), .ref (x 27), .int (Pnx L0), .int (Ppt L0), .int (Pbl L0)])), (x 25, .inl (cI, 6, .inl (Pkd L0))), (x 26, .inl (cI, 6, .inl (Plg L0))), (x 27, .inl (cI, 6, .inl (Pwh L0))), (x 44, .inl (cA, 5, .inr (.inr (.inr (.inr (wyF x)))))), (b 0, .inr (2, [.int (Pbo S), .int (Psz S), .ref (b 1), .ref (b 2), .ref (b 3), .int (Pnx S), .int (Ppt S), .int (Pbl S)])), (b 1, .inl (cI, 6, .inl (Pkd S))), (b 2, .inl (cI, 6, .inl (Plg S))), (b 3, .inl (cI, 6, .inl (Pwh S)))]) (ws2 := fun u => [(x 22, .inr (0, [.ref (x 23), .ref (x 44), .ref (x 50)])), (x 23, .inl (cP, 5, .inr (.inr (.inr (.inr (lvF x)))))), (x 24, .inr (2, [.int (Pbo L0), .int (Psz L0), .ref (x 25), .ref (x 26), .ref (x 27), .int (Pnx L0), .int (Ppt L0), .int (Pbl L0)])), (x 25, .inl (cI, 6, .inl (Pkd L0))), (x 26, .inl (cI, 6, .inl (Plg L0))), (x 27, .inl (cI, 6, .inl (Pwh L0))), (x 44, .inl (cA, 5, .inr (.inr (.inr (.inr (wyF x)))))), (x 50, .inl (cI, 21, .inl u)), (b 0, .inr (2, [.int (Pbo S), .int (Psz S), .ref (b 1), .ref (b 2), .ref (b 3), .int (Pnx S), .int (Ppt S), .int (Pbl S)])), (b 1, .inl (cI, 6, .inl (Pkd S))), (b 2, .inl (cI, 6, .inl (Plg S))), (b 3, .inl (cI, 6, .inl (Pwh S)))]) [7] [0, 1, 2, 3, 4, 5, 6, 8, 9, 10, 11] [0, 1, 2, 3, 4, 5, 6, 11, 7, 8, 9, 10] ⟨hx, hb, hml, hown, hts⟩ (c_J7_fill_53178_v21 l dC dI (x 50) cI s.heap.size Cs (nI 0) ) (va_cwS 2 hts gX0_spread_J7_fill_53178 rfl rfl rfl (by decide +kernel) ⟨Nat.le_of_ble_eq_true rfl, Nat.le_of_ble_eq_true rfl⟩) (hK.sub [0] rfl) hK hP hD hS hA hN rfl rfl (by decide) (by decide) (by decide) (by decide) (fun _ => rfl) rfl hl.1 rfl (Nat.le_of_ble_eq_true rfl) dX0_spread_5 ⟨Nat.zero_le _, Nat.zero_le _⟩ (fun u_5 H locs hw_5 hP hD hS => ?_)
  obtain ⟨Cs_5, rfl⟩ : ∃ z, z = u_5 := ⟨_, rfl⟩
  have hP : va_P (dC, dI) vwCl ([(x 22, .inr (0, [.ref (x 23), .ref (x 44), .ref (x 50)])), (x 23, .inl (cP, 5, .inr (.inr (.inr (.inr (lvF x)))))), (x 24, .inr (2, [.int (Pbo L0), .int (Psz L0), .ref (x 25), .ref (x 26), .ref (x 27), .int (Pnx L0), .int (Ppt L0), .int (Pbl L0)])), (x 25, .inl (cI, 6, .inl (Pkd L0))), (x 26, .inl (cI, 6, .inl (Plg L0))), (x 27, .inl (cI, 6, .inl (Pwh L0))), (x 44, .inl (cA, 5, .inr (.inr (.inr (.inr (wyF x)))))), (x 50, .inl (cI, 21, .inl Cs_5)), (b 0, .inr (2, [.int (Pbo S), .int (Psz S), .ref (b 1), .ref (b 2), .ref (b 3), .int (Pnx S), .int (Ppt S), .int (Pbl S)])), (b 1, .inl (cI, 6, .inl (Pkd S))), (b 2, .inl (cI, 6, .inl (Plg S))), (b 3, .inl (cI, 6, .inl (Pwh S)))]) H := hP
  have hD : va_D A ([(x 22, .inr (0, [.ref (x 23), .ref (x 44), .ref (x 50)])), (x 23, .inl (cP, 5, .inr (.inr (.inr (.inr (lvF x)))))), (x 24, .inr (2, [.int (Pbo L0), .int (Psz L0), .ref (x 25), .ref (x 26), .ref (x 27), .int (Pnx L0), .int (Ppt L0), .int (Pbl L0)])), (x 25, .inl (cI, 6, .inl (Pkd L0))), (x 26, .inl (cI, 6, .inl (Plg L0))), (x 27, .inl (cI, 6, .inl (Pwh L0))), (x 44, .inl (cA, 5, .inr (.inr (.inr (.inr (wyF x)))))), (x 50, .inl (cI, 21, .inl Cs_5)), (b 0, .inr (2, [.int (Pbo S), .int (Psz S), .ref (b 1), .ref (b 2), .ref (b 3), .int (Pnx S), .int (Ppt S), .int (Pbl S)])), (b 1, .inl (cI, 6, .inl (Pkd S))), (b 2, .inl (cI, 6, .inl (Plg S))), (b 3, .inl (cI, 6, .inl (Pwh S)))]) := hD
  rw [hw_5, let1_mk Cs_5] at hF
  refine lv_iload_n hx hb dX0_spread_8 rfl (lv_at hl 2 rfl) ?_
  refine lv_iconst (v := nI 0) hx hb dX0_spread_9 (by decide) ?_
  refine lv_iconst (v := nI 4) hx hb dX0_spread_10 (by decide) ?_
  refine qc_SiN (As := [.int (nI 0), .int (nI 0), .int (nI 4)]) (rest := []) ⟨hx, hb, hml, hown, hts⟩ (c_X5_within l (nI 0) (nI 0) (nI 4)) (va_cnB 3 hts gX0_spread_X5_within_n33 rfl rfl rfl hN33 (hts (.initialized RX5) (by decide +kernel)) (by decide +kernel) ⟨Nat.le_of_ble_eq_true rfl, Nat.le_of_ble_eq_true rfl⟩) (hts (.static yX5_within) (by decide +kernel)) rfl hl.1 rfl (Nat.le_of_ble_eq_true rfl) dX0_spread_11 ⟨Nat.zero_le _, Nat.zero_le _⟩ (fun r_11 hw_11 => ?_)
  subst hw_11
  refine qv_zif_eq (tgt := 34) hx hb dX0_spread_14 (by decide) (fun c_14 => ?_) (fun c_14 => ?_)
  · rw [if_neg c_14] at hF
    have hP9 : va_P (dC, dI) vwCl ([(x 22, .inr (0, [.ref (x 23), .ref (x 44), .ref (x 50)])), (x 23, .inl (cP, 5, .inr (.inr (.inr (.inr (lvF x)))))), (x 24, .inr (2, [.int (Pbo L0), .int (Psz L0), .ref (x 25), .ref (x 26), .ref (x 27), .int (Pnx L0), .int (Ppt L0), .int (Pbl L0)])), (x 25, .inl (cI, 6, .inl (Pkd L0))), (x 26, .inl (cI, 6, .inl (Plg L0))), (x 27, .inl (cI, 6, .inl (Pwh L0))), (x 44, .inl (cA, 5, .inr (.inr (.inr (.inr (wyF x)))))), (x 50, .inl (cI, 21, .inl Cs_5)), (b 0, .inr (2, [.int (Pbo S), .int (Psz S), .ref (b 1), .ref (b 2), .ref (b 3), .int (Pnx S), .int (Ppt S), .int (Pbl S)])), (b 1, .inl (cI, 6, .inl (Pkd S))), (b 2, .inl (cI, 6, .inl (Plg S))), (b 3, .inl (cI, 6, .inl (Pwh S)))]) H := hP
    exact W.vret hx hb hr (fun t ht hW => ⟨⟨((L0, Cs_5)), rfl, hO.symm.trans hF, by rw [ht]; exact hP9, va_K.moved hW.alike hK, hD⟩, hS.F ht⟩) hS.2.2 dX0_spread_34
  · rw [if_pos c_14] at hF
    refine lv_aload_n hx hb dX0_spread_17 rfl (lv_at hl 0 rfl) ?_
    refine va_get (D := (dC, dI)) (ci := 0) (v := .ref (x 23)) (C := RX0) (T := TX0) (N := 3) hx hb hts hin0 hown hK hP 0 rfl rfl 0 (by decide) lk11 (fun _ h9 => h9) rfl dX0_spread_18 ?_
    refine lv_iload_n hx hb dX0_spread_21 rfl (lv_at hl 2 rfl) ?_
    refine qv_aldq (v := .ref (x 24)) hx hb hK hP 1 1 rfl rfl (by decide) (by decide) rfl dX0_spread_22 ?_
    refine lv_aload_n hx hb dX0_spread_23 rfl (lv_at hl 1 rfl) ?_
    refine qx_Vv (C := RX2) (As := [.ref (b 0)]) (rest := []) (ci := 2) (k0 := 2) (wr := [(x 22, .inr (0, [.ref (x 23), .ref (x 44), .ref (x 50)])), (x 23, .inl (cP, 5, .inr (.inr (.inr (.inr (lvF x)))))), (x 44, .inl (cA, 5, .inr (.inr (.inr (.inr (wyF x)))))), (x 50, .inl (cI, 21, .inl Cs_5))]) (ws2 := fun u => [(x 22, .inr (0, [.ref (x 23), .ref (x 44), .ref (x 50)])), (x 23, .inl (cP, 5, .inr (.inr (.inr (.inr (lvF x)))))), (x 24, .inr (2, [.int (Pbo u), .int (Psz u), .ref (x 25), .ref (x 26), .ref (x 27), .int (Pnx u), .int (Ppt u), .int (Pbl u)])), (x 25, .inl (cI, 6, .inl (Pkd u))), (x 26, .inl (cI, 6, .inl (Plg u))), (x 27, .inl (cI, 6, .inl (Pwh u))), (x 44, .inl (cA, 5, .inr (.inr (.inr (.inr (wyF x)))))), (x 50, .inl (cI, 21, .inl Cs_5)), (b 0, .inr (2, [.int (Pbo S), .int (Psz S), .ref (b 1), .ref (b 2), .ref (b 3), .int (Pnx S), .int (Ppt S), .int (Pbl S)])), (b 1, .inl (cI, 6, .inl (Pkd S))), (b 2, .inl (cI, 6, .inl (Plg S))), (b 3, .inl (cI, 6, .inl (Pwh S)))]) [2, 3, 4, 5, 8, 9, 10, 11] [0, 1, 6, 7] [0, 1, 4, 5, 6, 7, 2, 3, 8, 9, 10, 11] ⟨hx, hb, hml, hown, hts⟩ (c_X2_copy l dC dI (fun i => x (24 + i)) b cI H.size L0 S  ) (cwV 1 hts gX0_spread_X2_copy rfl rfl rfl (by decide +kernel) ⟨Nat.le_of_ble_eq_true rfl, Nat.le_of_ble_eq_true rfl⟩) (hK.sub [0] rfl) hK hP hD hS hA hN rfl rfl (by decide) (by decide) (by decide) (by decide) (fun _ => rfl) rfl rfl rfl rfl hl.1 rfl (Nat.le_of_ble_eq_true rfl) dX0_spread_24 ⟨Nat.zero_le _, Nat.zero_le _⟩ (fun u_24 H locs hw_24 hP hD hS => ?_)
    obtain ⟨L0_24, rfl⟩ : ∃ z, z = u_24 := ⟨_, rfl⟩
    have hP : va_P (dC, dI) vwCl ([(x 22, .inr (0, [.ref (x 23), .ref (x 44), .ref (x 50)])), (x 23, .inl (cP, 5, .inr (.inr (.inr (.inr (lvF x)))))), (x 24, .inr (2, [.int (Pbo L0_24), .int (Psz L0_24), .ref (x 25), .ref (x 26), .ref (x 27), .int (Pnx L0_24), .int (Ppt L0_24), .int (Pbl L0_24)])), (x 25, .inl (cI, 6, .inl (Pkd L0_24))), (x 26, .inl (cI, 6, .inl (Plg L0_24))), (x 27, .inl (cI, 6, .inl (Pwh L0_24))), (x 44, .inl (cA, 5, .inr (.inr (.inr (.inr (wyF x)))))), (x 50, .inl (cI, 21, .inl Cs_5)), (b 0, .inr (2, [.int (Pbo S), .int (Psz S), .ref (b 1), .ref (b 2), .ref (b 3), .int (Pnx S), .int (Ppt S), .int (Pbl S)])), (b 1, .inl (cI, 6, .inl (Pkd S))), (b 2, .inl (cI, 6, .inl (Plg S))), (b 3, .inl (cI, 6, .inl (Pwh S)))]) H := hP
    have hD : va_D A ([(x 22, .inr (0, [.ref (x 23), .ref (x 44), .ref (x 50)])), (x 23, .inl (cP, 5, .inr (.inr (.inr (.inr (lvF x)))))), (x 24, .inr (2, [.int (Pbo L0_24), .int (Psz L0_24), .ref (x 25), .ref (x 26), .ref (x 27), .int (Pnx L0_24), .int (Ppt L0_24), .int (Pbl L0_24)])), (x 25, .inl (cI, 6, .inl (Pkd L0_24))), (x 26, .inl (cI, 6, .inl (Plg L0_24))), (x 27, .inl (cI, 6, .inl (Pwh L0_24))), (x 44, .inl (cA, 5, .inr (.inr (.inr (.inr (wyF x)))))), (x 50, .inl (cI, 21, .inl Cs_5)), (b 0, .inr (2, [.int (Pbo S), .int (Psz S), .ref (b 1), .ref (b 2), .ref (b 3), .int (Pnx S), .int (Ppt S), .int (Pbl S)])), (b 1, .inl (cI, 6, .inl (Pkd S))), (b 2, .inl (cI, 6, .inl (Plg S))), (b 3, .inl (cI, 6, .inl (Pwh S)))]) := hD
    have v_24 : Psz L0_24 = Psz S := by rw [← hw_24]; rfl
    rw [hw_24, let1_mk L0_24] at hF
    refine lv_aload_n hx hb dX0_spread_27 rfl (lv_at hl 0 rfl) ?_
    refine lv_iload_n hx hb dX0_spread_28 rfl (lv_at hl 2 rfl) ?_
    refine lv_iconst (v := nI 0) hx hb dX0_spread_29 (by decide) ?_
    refine lv_iconst (v := nI 1) hx hb dX0_spread_30 (by decide) ?_
    refine qxe_Sv (As := [.ref (x 22), .int (nI 0), .int (nI 0), .int (nI 1)]) (rest := []) (wr := [(b 0, .inr (2, [.int (Pbo S), .int (Psz S), .ref (b 1), .ref (b 2), .ref (b 3), .int (Pnx S), .int (Ppt S), .int (Pbl S)])), (b 1, .inl (cI, 6, .inl (Pkd S))), (b 2, .inl (cI, 6, .inl (Plg S))), (b 3, .inl (cI, 6, .inl (Pwh S)))]) (ws2 := fun u => [(x 22, .inr (0, [.ref (x 23), .ref (x 44), .ref (x 50)])), (x 23, .inl (cP, 5, .inr (.inr (.inr (.inr (lvF x)))))), (x 24, .inr (2, [.int (Pbo L0_24), .int (Psz L0_24), .ref (x 25), .ref (x 26), .ref (x 27), .int (Pnx L0_24), .int (Ppt L0_24), .int (Pbl L0_24)])), (x 25, .inl (cI, 6, .inl (Pkd L0_24))), (x 26, .inl (cI, 6, .inl (Plg L0_24))), (x 27, .inl (cI, 6, .inl (Pwh L0_24))), (x 44, .inl (cA, 5, .inr (.inr (.inr (.inr (wyF x)))))), (x 50, .inl (cI, 21, .inl u)), (b 0, .inr (2, [.int (Pbo S), .int (Psz S), .ref (b 1), .ref (b 2), .ref (b 3), .int (Pnx S), .int (Ppt S), .int (Pbl S)])), (b 1, .inl (cI, 6, .inl (Pkd S))), (b 2, .inl (cI, 6, .inl (Plg S))), (b 3, .inl (cI, 6, .inl (Pwh S)))]) [0, 1, 2, 3, 4, 5, 6, 7] [8, 9, 10, 11] [4, 5, 6, 7, 8, 9, 10, 11, 0, 1, 2, 3] ⟨hx, hb, hml, hown, hts⟩ (c_X0_spreadLevel_v0 l dC dI x cI cP cA t H.size L0_24 Cs_5 0 (nI 1) (by rw [show Psz L0_24 = Psz S from v_24]; exact (pz : inB (Psz S) 6)) (by omega)) (va_cwS 4 hts gX0_spread_X0_spreadLevel rfl rfl rfl (by decide +kernel) ⟨Nat.le_of_ble_eq_true rfl, Nat.le_of_ble_eq_true rfl⟩) (hK.sub [0, 1, 2] rfl) hK hP hD hS hA hN hE rfl rfl (by decide) (by decide) (by decide) (by decide) (fun _ => rfl) rfl hl.1 rfl (Nat.le_of_ble_eq_true rfl) dX0_spread_31 ⟨Nat.zero_le _, Nat.zero_le _⟩ (fun u_31 H locs hw_31 hP hD hS => ?_)
    obtain ⟨Cs_31, rfl⟩ : ∃ z, z = u_31 := ⟨_, rfl⟩
    have hP : va_P (dC, dI) vwCl ([(x 22, .inr (0, [.ref (x 23), .ref (x 44), .ref (x 50)])), (x 23, .inl (cP, 5, .inr (.inr (.inr (.inr (lvF x)))))), (x 24, .inr (2, [.int (Pbo L0_24), .int (Psz L0_24), .ref (x 25), .ref (x 26), .ref (x 27), .int (Pnx L0_24), .int (Ppt L0_24), .int (Pbl L0_24)])), (x 25, .inl (cI, 6, .inl (Pkd L0_24))), (x 26, .inl (cI, 6, .inl (Plg L0_24))), (x 27, .inl (cI, 6, .inl (Pwh L0_24))), (x 44, .inl (cA, 5, .inr (.inr (.inr (.inr (wyF x)))))), (x 50, .inl (cI, 21, .inl Cs_31)), (b 0, .inr (2, [.int (Pbo S), .int (Psz S), .ref (b 1), .ref (b 2), .ref (b 3), .int (Pnx S), .int (Ppt S), .int (Pbl S)])), (b 1, .inl (cI, 6, .inl (Pkd S))), (b 2, .inl (cI, 6, .inl (Plg S))), (b 3, .inl (cI, 6, .inl (Pwh S)))]) H := hP
    have hD : va_D A ([(x 22, .inr (0, [.ref (x 23), .ref (x 44), .ref (x 50)])), (x 23, .inl (cP, 5, .inr (.inr (.inr (.inr (lvF x)))))), (x 24, .inr (2, [.int (Pbo L0_24), .int (Psz L0_24), .ref (x 25), .ref (x 26), .ref (x 27), .int (Pnx L0_24), .int (Ppt L0_24), .int (Pbl L0_24)])), (x 25, .inl (cI, 6, .inl (Pkd L0_24))), (x 26, .inl (cI, 6, .inl (Plg L0_24))), (x 27, .inl (cI, 6, .inl (Pwh L0_24))), (x 44, .inl (cA, 5, .inr (.inr (.inr (.inr (wyF x)))))), (x 50, .inl (cI, 21, .inl Cs_31)), (b 0, .inr (2, [.int (Pbo S), .int (Psz S), .ref (b 1), .ref (b 2), .ref (b 3), .int (Pnx S), .int (Ppt S), .int (Pbl S)])), (b 1, .inl (cI, 6, .inl (Pkd S))), (b 2, .inl (cI, 6, .inl (Plg S))), (b 3, .inl (cI, 6, .inl (Pwh S)))]) := hD
    rw [hw_31, let1_mk Cs_31] at hF
    have hP9 : va_P (dC, dI) vwCl ([(x 22, .inr (0, [.ref (x 23), .ref (x 44), .ref (x 50)])), (x 23, .inl (cP, 5, .inr (.inr (.inr (.inr (lvF x)))))), (x 24, .inr (2, [.int (Pbo L0_24), .int (Psz L0_24), .ref (x 25), .ref (x 26), .ref (x 27), .int (Pnx L0_24), .int (Ppt L0_24), .int (Pbl L0_24)])), (x 25, .inl (cI, 6, .inl (Pkd L0_24))), (x 26, .inl (cI, 6, .inl (Plg L0_24))), (x 27, .inl (cI, 6, .inl (Pwh L0_24))), (x 44, .inl (cA, 5, .inr (.inr (.inr (.inr (wyF x)))))), (x 50, .inl (cI, 21, .inl Cs_31)), (b 0, .inr (2, [.int (Pbo S), .int (Psz S), .ref (b 1), .ref (b 2), .ref (b 3), .int (Pnx S), .int (Ppt S), .int (Pbl S)])), (b 1, .inl (cI, 6, .inl (Pkd S))), (b 2, .inl (cI, 6, .inl (Plg S))), (b 3, .inl (cI, 6, .inl (Pwh S)))]) H := hP
    exact W.vret hx hb hr (fun t ht hW => ⟨⟨((L0_24, Cs_31)), rfl, hO.symm.trans hF, by rw [ht]; exact hP9, va_K.moved hW.alike hK, hD⟩, hS.F ht⟩) hS.2.2 dX0_spread_34
def F_X0_spread_v1 (L0 : pS) (L1 : pS) (W1 : Nat → Int32) (Cs : Nat → Int32) (S : pS) : (pS) × (pS) × (Nat → Int32) × (Nat → Int32) := let1 (F_J7_fill_53178_v21 Cs (nI 0)) (fun Cs_5 => if (F_X5_within (nI 1) (nI 0) (nI 4)) = true then let1 (F_X2_copy L1 S) (fun L1_24 => let3 (F_X0_spreadLevel_v1 L0 L1_24 W1 Cs_5 0 (nI 1)) (fun L0_31 W1_31 Cs_31 => (L0_31, L1_24, W1_31, Cs_31))) else (L0, L1, W1, Cs_5))
set_option maxHeartbeats 4000000 in
set_option maxRecDepth 100000 in
theorem c_X0_spread_v1 (l : Launch) (dC : Nat → ClassId) (dI : Nat → Nat → Nat) (x : Nat → Nat) (b : Nat → Nat) (cI cP cA : ClassId) (t : Nat) (sz : Nat) (L0 : pS) (L1 : pS) (W1 : Nat → Int32) (Cs : Nat → Int32) (S : pS) (pz : inB (Psz S) 6) : Met l yX0_spread wsX0_spread { frames := 5, cells := 0, slots := 0, locals := 111 } (xPcE t (dC, dI) vwCl (xT3 cI cP cA) ([(x 22, .inr (0, [.ref (x 23), .ref (x 44), .ref (x 50)])), (x 23, .inl (cP, 5, .inr (.inr (.inr (.inr (lvF x)))))), (x 24, .inr (2, [.int (Pbo L0), .int (Psz L0), .ref (x 25), .ref (x 26), .ref (x 27), .int (Pnx L0), .int (Ppt L0), .int (Pbl L0)])), (x 25, .inl (cI, 6, .inl (Pkd L0))), (x 26, .inl (cI, 6, .inl (Plg L0))), (x 27, .inl (cI, 6, .inl (Pwh L0))), (x 28, .inr (2, [.int (Pbo L1), .int (Psz L1), .ref (x 29), .ref (x 30), .ref (x 31), .int (Pnx L1), .int (Ppt L1), .int (Pbl L1)])), (x 29, .inl (cI, 6, .inl (Pkd L1))), (x 30, .inl (cI, 6, .inl (Plg L1))), (x 31, .inl (cI, 6, .inl (Pwh L1))), (x 44, .inl (cA, 5, .inr (.inr (.inr (.inr (wyF x)))))), (x 46, .inl (cI, 6, .inl W1)), (x 50, .inl (cI, 21, .inl Cs)), (b 0, .inr (2, [.int (Pbo S), .int (Psz S), .ref (b 1), .ref (b 2), .ref (b 3), .int (Pnx S), .int (Ppt S), .int (Pbl S)])), (b 1, .inl (cI, 6, .inl (Pkd S))), (b 2, .inl (cI, 6, .inl (Plg S))), (b 3, .inl (cI, 6, .inl (Pwh S)))]) sz [.ref (x 22), .ref (b 0), .int (nI 1)]) (va_Qv (fun (u : (pS) × (pS) × (Nat → Int32) × (Nat → Int32)) => F_X0_spread_v1 L0 L1 W1 Cs S = u) (mB (dC, dI) vwCl (xT3 cI cP cA) (va_A ([(x 22, .inr (0, [.ref (x 23), .ref (x 44), .ref (x 50)])), (x 23, .inl (cP, 5, .inr (.inr (.inr (.inr (lvF x)))))), (x 24, .inr (2, [.int (Pbo L0), .int (Psz L0), .ref (x 25), .ref (x 26), .ref (x 27), .int (Pnx L0), .int (Ppt L0), .int (Pbl L0)])), (x 25, .inl (cI, 6, .inl (Pkd L0))), (x 26, .inl (cI, 6, .inl (Plg L0))), (x 27, .inl (cI, 6, .inl (Pwh L0))), (x 28, .inr (2, [.int (Pbo L1), .int (Psz L1), .ref (x 29), .ref (x 30), .ref (x 31), .int (Pnx L1), .int (Ppt L1), .int (Pbl L1)])), (x 29, .inl (cI, 6, .inl (Pkd L1))), (x 30, .inl (cI, 6, .inl (Plg L1))), (x 31, .inl (cI, 6, .inl (Pwh L1))), (x 44, .inl (cA, 5, .inr (.inr (.inr (.inr (wyF x)))))), (x 46, .inl (cI, 6, .inl W1)), (x 50, .inl (cI, 21, .inl Cs)), (b 0, .inr (2, [.int (Pbo S), .int (Psz S), .ref (b 1), .ref (b 2), .ref (b 3), .int (Pnx S), .int (Ppt S), .int (Pbl S)])), (b 1, .inl (cI, 6, .inl (Pkd S))), (b 2, .inl (cI, 6, .inl (Plg S))), (b 3, .inl (cI, 6, .inl (Pwh S)))]) sz) (fun u => [(x 22, .inr (0, [.ref (x 23), .ref (x 44), .ref (x 50)])), (x 23, .inl (cP, 5, .inr (.inr (.inr (.inr (lvF x)))))), (x 24, .inr (2, [.int (Pbo (u.1)), .int (Psz (u.1)), .ref (x 25), .ref (x 26), .ref (x 27), .int (Pnx (u.1)), .int (Ppt (u.1)), .int (Pbl (u.1))])), (x 25, .inl (cI, 6, .inl (Pkd (u.1)))), (x 26, .inl (cI, 6, .inl (Plg (u.1)))), (x 27, .inl (cI, 6, .inl (Pwh (u.1)))), (x 28, .inr (2, [.int (Pbo (u.2.1)), .int (Psz (u.2.1)), .ref (x 29), .ref (x 30), .ref (x 31), .int (Pnx (u.2.1)), .int (Ppt (u.2.1)), .int (Pbl (u.2.1))])), (x 29, .inl (cI, 6, .inl (Pkd (u.2.1)))), (x 30, .inl (cI, 6, .inl (Plg (u.2.1)))), (x 31, .inl (cI, 6, .inl (Pwh (u.2.1)))), (x 44, .inl (cA, 5, .inr (.inr (.inr (.inr (wyF x)))))), (x 46, .inl (cI, 6, .inl (u.2.2.1))), (x 50, .inl (cI, 21, .inl (u.2.2.2))), (b 0, .inr (2, [.int (Pbo S), .int (Psz S), .ref (b 1), .ref (b 2), .ref (b 3), .int (Pnx S), .int (Ppt S), .int (Pbl S)])), (b 1, .inl (cI, 6, .inl (Pkd S))), (b 2, .inl (cI, 6, .inl (Plg S))), (b 3, .inl (cI, 6, .inl (Pwh S)))])) (va_A ([(x 22, .inr (0, [.ref (x 23), .ref (x 44), .ref (x 50)])), (x 23, .inl (cP, 5, .inr (.inr (.inr (.inr (lvF x)))))), (x 24, .inr (2, [.int (Pbo L0), .int (Psz L0), .ref (x 25), .ref (x 26), .ref (x 27), .int (Pnx L0), .int (Ppt L0), .int (Pbl L0)])), (x 25, .inl (cI, 6, .inl (Pkd L0))), (x 26, .inl (cI, 6, .inl (Plg L0))), (x 27, .inl (cI, 6, .inl (Pwh L0))), (x 28, .inr (2, [.int (Pbo L1), .int (Psz L1), .ref (x 29), .ref (x 30), .ref (x 31), .int (Pnx L1), .int (Ppt L1), .int (Pbl L1)])), (x 29, .inl (cI, 6, .inl (Pkd L1))), (x 30, .inl (cI, 6, .inl (Plg L1))), (x 31, .inl (cI, 6, .inl (Pwh L1))), (x 44, .inl (cA, 5, .inr (.inr (.inr (.inr (wyF x)))))), (x 46, .inl (cI, 6, .inl W1)), (x 50, .inl (cI, 21, .inl Cs)), (b 0, .inr (2, [.int (Pbo S), .int (Psz S), .ref (b 1), .ref (b 2), .ref (b 3), .int (Pnx S), .int (Ppt S), .int (Pbl S)])), (b 1, .inl (cI, 6, .inl (Pkd S))), (b 2, .inl (cI, 6, .inl (Plg S))), (b 3, .inl (cI, 6, .inl (Pwh S)))]) sz)) 0 0 (va_A ([(x 22, .inr (0, [.ref (x 23), .ref (x 44), .ref (x 50)])), (x 23, .inl (cP, 5, .inr (.inr (.inr (.inr (lvF x)))))), (x 24, .inr (2, [.int (Pbo L0), .int (Psz L0), .ref (x 25), .ref (x 26), .ref (x 27), .int (Pnx L0), .int (Ppt L0), .int (Pbl L0)])), (x 25, .inl (cI, 6, .inl (Pkd L0))), (x 26, .inl (cI, 6, .inl (Plg L0))), (x 27, .inl (cI, 6, .inl (Pwh L0))), (x 28, .inr (2, [.int (Pbo L1), .int (Psz L1), .ref (x 29), .ref (x 30), .ref (x 31), .int (Pnx L1), .int (Ppt L1), .int (Pbl L1)])), (x 29, .inl (cI, 6, .inl (Pkd L1))), (x 30, .inl (cI, 6, .inl (Plg L1))), (x 31, .inl (cI, 6, .inl (Pwh L1))), (x 44, .inl (cA, 5, .inr (.inr (.inr (.inr (wyF x)))))), (x 46, .inl (cI, 6, .inl W1)), (x 50, .inl (cI, 21, .inl Cs)), (b 0, .inr (2, [.int (Pbo S), .int (Psz S), .ref (b 1), .ref (b 2), .ref (b 3), .int (Pnx S), .int (Ppt S), .int (Pbl S)])), (b 1, .inl (cI, 6, .inl (Pkd S))), (b 2, .inl (cI, 6, .inl (Plg S))), (b 3, .inl (cI, 6, .inl (Pwh S)))]) sz) := by
  refine Met.ofW (cc := cX0_spread) (maxL := 3) (ret := none) (by decide) rfl ?_
  intro p e s m args below meth c s₁ B hml hv
  obtain ⟨rfl, hsz, hP, hK, hD0, hN, hE0⟩ := hv
  have hx := B.exec
  have hb := B.bytes
  have hr := B.returns
  have hts := atoms_spec (ws := wsX0_spread) B.pre
  have hown : s.vm.findClass RX0 = some m.cls := findClass_of_methodNamed B.named
  have hlocks := B.notSynchronized
  subst hsz
  have hD := hD0.self (sz := s.heap.size)
  generalize hAe : va_A ([(x 22, .inr (0, [.ref (x 23), .ref (x 44), .ref (x 50)])), (x 23, .inl (cP, 5, .inr (.inr (.inr (.inr (lvF x)))))), (x 24, .inr (2, [.int (Pbo L0), .int (Psz L0), .ref (x 25), .ref (x 26), .ref (x 27), .int (Pnx L0), .int (Ppt L0), .int (Pbl L0)])), (x 25, .inl (cI, 6, .inl (Pkd L0))), (x 26, .inl (cI, 6, .inl (Plg L0))), (x 27, .inl (cI, 6, .inl (Pwh L0))), (x 28, .inr (2, [.int (Pbo L1), .int (Psz L1), .ref (x 29), .ref (x 30), .ref (x 31), .int (Pnx L1), .int (Ppt L1), .int (Pbl L1)])), (x 29, .inl (cI, 6, .inl (Pkd L1))), (x 30, .inl (cI, 6, .inl (Plg L1))), (x 31, .inl (cI, 6, .inl (Pwh L1))), (x 44, .inl (cA, 5, .inr (.inr (.inr (.inr (wyF x)))))), (x 46, .inl (cI, 6, .inl W1)), (x 50, .inl (cI, 21, .inl Cs)), (b 0, .inr (2, [.int (Pbo S), .int (Psz S), .ref (b 1), .ref (b 2), .ref (b 3), .int (Pnx S), .int (Ppt S), .int (Pbl S)])), (b 1, .inl (cI, 6, .inl (Pkd S))), (b 2, .inl (cI, 6, .inl (Plg S))), (b 3, .inl (cI, 6, .inl (Pwh S)))]) s.heap.size = A at hD hE0 ⊢
  have hE := hE0
  have hA : ∀ q : Nat, s.heap.size ≤ q → A q := fun q h => by rw [← hAe]; exact Or.inr h
  have hS : va_S A s.heap s.heap [] := va_S.rf
  have hin0 : ∀ w ∈ wsX00, w ∈ wsX0_spread := by decide +kernel
  have lk11 := hts (.fieldLink RX0 11 "PostRounders$Chances" "levels" "[LPostRounders$Play;") (by decide +kernel)
  have lk22 := hts (.fieldLink RX0 22 "PostRounders$Chances" "cases" "[I") (by decide +kernel)
  have hN33 := xN_33 hN
  have hl := lv_entry ([.ref (x 22), .ref (b 0), .int (nI 1)]) (n := 3) (Nat.le_of_ble_eq_true rfl)
  rw [lg_entry_eq]
  generalize (lg_sl ([.ref (x 22), .ref (b 0), .int (nI 1)]) ++ List.replicate (3 - (lg_sl ([.ref (x 22), .ref (b 0), .int (nI 1)])).length) Slot.unset).toArray = ls at hl ⊢
  have hl : lv_has ls 3 [(0, .ref (x 22)), (1, .ref (b 0)), (2, .int (nI 1))] := hl
  obtain ⟨OUT, hO⟩ : ∃ z, z = F_X0_spread_v1 L0 L1 W1 Cs S := ⟨_, rfl⟩
  have hF := hO
  unfold F_X0_spread_v1 at hF
  have e_pz := tN_eq pz.1
  have b_pz := pz.2
  refine lv_aload_n hx hb dX0_spread_0 rfl (lv_at hl 0 rfl) ?_
  refine va_get (D := (dC, dI)) (ci := 0) (v := .ref (x 50)) (C := RX0) (T := TX0) (N := 3) hx hb hts hin0 hown hK hP 0 rfl rfl 2 (by decide) lk22 (fun _ h9 => h9) rfl dX0_spread_1 ?_
  refine lv_iconst (v := nI 0) hx hb dX0_spread_4 (by decide) ?_
  refine qx_Sv (As := [.ref (x 50), .int (nI 0)]) (rest := []) (wr := [(x 22, .inr (0, [.ref (x 23), .ref (x 44), .ref (x 50)])), (x 23, .inl (cP, 5, .inr (.inr (.inr (.inr (lvF x)))))), (x 24, .inr (2, [.int (Pbo L0), .int (Psz L0), .ref (x 25), .ref (x 26), .ref (x 27), .int (Pnx L0), .int (Ppt L0), .int (Pbl L0)])), (x 25, .inl (cI, 6, .inl (Pkd L0))), (x 26, .inl (cI, 6, .inl (Plg L0))), (x 27, .inl (cI, 6, .inl (Pwh L0))), (x 28, .inr (2, [.int (Pbo L1), .int (Psz L1), .ref (x 29), .ref (x 30), .ref (x 31), .int (Pnx L1), .int (Ppt L1), .int (Pbl L1)])), (x 29, .inl (cI, 6, .inl (Pkd L1))), (x 30, .inl (cI, 6, .inl (Plg L1))), (x 31, .inl (cI, 6, .inl (Pwh L1))), (x 44, .inl (cA, 5, .inr (.inr (.inr (.inr (wyF x)))))), (x 46, .inl (cI, 6, .inl W1)), (b 0, .inr (2, [.int (Pbo S), .int (Psz S), .ref (b 1), .ref (b 2), .ref (b 3), .int (Pnx S), .int (Ppt S), .int (Pbl S)])), (b 1, .inl (cI, 6, .inl (Pkd S))), (b 2, .inl (cI, 6, .inl (Plg S))), (b 3, .inl (cI, 6, .inl (Pwh S)))]) (ws2 := fun u => [(x 22, .inr (0, [.ref (x 23), .ref (x 44), .ref (x 50)])), (x 23, .inl (cP, 5, .inr (.inr (.inr (.inr (lvF x)))))), (x 24, .inr (2, [.int (Pbo L0), .int (Psz L0), .ref (x 25), .ref (x 26), .ref (x 27), .int (Pnx L0), .int (Ppt L0), .int (Pbl L0)])), (x 25, .inl (cI, 6, .inl (Pkd L0))), (x 26, .inl (cI, 6, .inl (Plg L0))), (x 27, .inl (cI, 6, .inl (Pwh L0))), (x 28, .inr (2, [.int (Pbo L1), .int (Psz L1), .ref (x 29), .ref (x 30), .ref (x 31), .int (Pnx L1), .int (Ppt L1), .int (Pbl L1)])), (x 29, .inl (cI, 6, .inl (Pkd L1))), (x 30, .inl (cI, 6, .inl (Plg L1))), (x 31, .inl (cI, 6, .inl (Pwh L1))), (x 44, .inl (cA, 5, .inr (.inr (.inr (.inr (wyF x)))))), (x 46, .inl (cI, 6, .inl W1)), (x 50, .inl (cI, 21, .inl u)), (b 0, .inr (2, [.int (Pbo S), .int (Psz S), .ref (b 1), .ref (b 2), .ref (b 3), .int (Pnx S), .int (Ppt S), .int (Pbl S)])), (b 1, .inl (cI, 6, .inl (Pkd S))), (b 2, .inl (cI, 6, .inl (Plg S))), (b 3, .inl (cI, 6, .inl (Pwh S)))]) [12] [0, 1, 2, 3, 4, 5, 6, 7, 8, 9, 10, 11, 13, 14, 15, 16] [0, 1, 2, 3, 4, 5, 6, 7, 8, 9, 10, 11, 16, 12, 13, 14, 15] ⟨hx, hb, hml, hown, hts⟩ (c_J7_fill_53178_v21 l dC dI (x 50) cI s.heap.size Cs (nI 0) ) (va_cwS 2 hts gX0_spread_J7_fill_53178 rfl rfl rfl (by decide +kernel) ⟨Nat.le_of_ble_eq_true rfl, Nat.le_of_ble_eq_true rfl⟩) (hK.sub [0] rfl) hK hP hD hS hA hN rfl rfl (by decide) (by decide) (by decide) (by decide) (fun _ => rfl) rfl hl.1 rfl (Nat.le_of_ble_eq_true rfl) dX0_spread_5 ⟨Nat.zero_le _, Nat.zero_le _⟩ (fun u_5 H locs hw_5 hP hD hS => ?_)
  obtain ⟨Cs_5, rfl⟩ : ∃ z, z = u_5 := ⟨_, rfl⟩
  have hP : va_P (dC, dI) vwCl ([(x 22, .inr (0, [.ref (x 23), .ref (x 44), .ref (x 50)])), (x 23, .inl (cP, 5, .inr (.inr (.inr (.inr (lvF x)))))), (x 24, .inr (2, [.int (Pbo L0), .int (Psz L0), .ref (x 25), .ref (x 26), .ref (x 27), .int (Pnx L0), .int (Ppt L0), .int (Pbl L0)])), (x 25, .inl (cI, 6, .inl (Pkd L0))), (x 26, .inl (cI, 6, .inl (Plg L0))), (x 27, .inl (cI, 6, .inl (Pwh L0))), (x 28, .inr (2, [.int (Pbo L1), .int (Psz L1), .ref (x 29), .ref (x 30), .ref (x 31), .int (Pnx L1), .int (Ppt L1), .int (Pbl L1)])), (x 29, .inl (cI, 6, .inl (Pkd L1))), (x 30, .inl (cI, 6, .inl (Plg L1))), (x 31, .inl (cI, 6, .inl (Pwh L1))), (x 44, .inl (cA, 5, .inr (.inr (.inr (.inr (wyF x)))))), (x 46, .inl (cI, 6, .inl W1)), (x 50, .inl (cI, 21, .inl Cs_5)), (b 0, .inr (2, [.int (Pbo S), .int (Psz S), .ref (b 1), .ref (b 2), .ref (b 3), .int (Pnx S), .int (Ppt S), .int (Pbl S)])), (b 1, .inl (cI, 6, .inl (Pkd S))), (b 2, .inl (cI, 6, .inl (Plg S))), (b 3, .inl (cI, 6, .inl (Pwh S)))]) H := hP
  have hD : va_D A ([(x 22, .inr (0, [.ref (x 23), .ref (x 44), .ref (x 50)])), (x 23, .inl (cP, 5, .inr (.inr (.inr (.inr (lvF x)))))), (x 24, .inr (2, [.int (Pbo L0), .int (Psz L0), .ref (x 25), .ref (x 26), .ref (x 27), .int (Pnx L0), .int (Ppt L0), .int (Pbl L0)])), (x 25, .inl (cI, 6, .inl (Pkd L0))), (x 26, .inl (cI, 6, .inl (Plg L0))), (x 27, .inl (cI, 6, .inl (Pwh L0))), (x 28, .inr (2, [.int (Pbo L1), .int (Psz L1), .ref (x 29), .ref (x 30), .ref (x 31), .int (Pnx L1), .int (Ppt L1), .int (Pbl L1)])), (x 29, .inl (cI, 6, .inl (Pkd L1))), (x 30, .inl (cI, 6, .inl (Plg L1))), (x 31, .inl (cI, 6, .inl (Pwh L1))), (x 44, .inl (cA, 5, .inr (.inr (.inr (.inr (wyF x)))))), (x 46, .inl (cI, 6, .inl W1)), (x 50, .inl (cI, 21, .inl Cs_5)), (b 0, .inr (2, [.int (Pbo S), .int (Psz S), .ref (b 1), .ref (b 2), .ref (b 3), .int (Pnx S), .int (Ppt S), .int (Pbl S)])), (b 1, .inl (cI, 6, .inl (Pkd S))), (b 2, .inl (cI, 6, .inl (Plg S))), (b 3, .inl (cI, 6, .inl (Pwh S)))]) := hD
  rw [hw_5, let1_mk Cs_5] at hF
  refine lv_iload_n hx hb dX0_spread_8 rfl (lv_at hl 2 rfl) ?_
  refine lv_iconst (v := nI 0) hx hb dX0_spread_9 (by decide) ?_
  refine lv_iconst (v := nI 4) hx hb dX0_spread_10 (by decide) ?_
  refine qc_SiN (As := [.int (nI 1), .int (nI 0), .int (nI 4)]) (rest := []) ⟨hx, hb, hml, hown, hts⟩ (c_X5_within l (nI 1) (nI 0) (nI 4)) (va_cnB 3 hts gX0_spread_X5_within_n33 rfl rfl rfl hN33 (hts (.initialized RX5) (by decide +kernel)) (by decide +kernel) ⟨Nat.le_of_ble_eq_true rfl, Nat.le_of_ble_eq_true rfl⟩) (hts (.static yX5_within) (by decide +kernel)) rfl hl.1 rfl (Nat.le_of_ble_eq_true rfl) dX0_spread_11 ⟨Nat.zero_le _, Nat.zero_le _⟩ (fun r_11 hw_11 => ?_)
  subst hw_11
  refine qv_zif_eq (tgt := 34) hx hb dX0_spread_14 (by decide) (fun c_14 => ?_) (fun c_14 => ?_)
  · rw [if_neg c_14] at hF
    have hP9 : va_P (dC, dI) vwCl ([(x 22, .inr (0, [.ref (x 23), .ref (x 44), .ref (x 50)])), (x 23, .inl (cP, 5, .inr (.inr (.inr (.inr (lvF x)))))), (x 24, .inr (2, [.int (Pbo L0), .int (Psz L0), .ref (x 25), .ref (x 26), .ref (x 27), .int (Pnx L0), .int (Ppt L0), .int (Pbl L0)])), (x 25, .inl (cI, 6, .inl (Pkd L0))), (x 26, .inl (cI, 6, .inl (Plg L0))), (x 27, .inl (cI, 6, .inl (Pwh L0))), (x 28, .inr (2, [.int (Pbo L1), .int (Psz L1), .ref (x 29), .ref (x 30), .ref (x 31), .int (Pnx L1), .int (Ppt L1), .int (Pbl L1)])), (x 29, .inl (cI, 6, .inl (Pkd L1))), (x 30, .inl (cI, 6, .inl (Plg L1))), (x 31, .inl (cI, 6, .inl (Pwh L1))), (x 44, .inl (cA, 5, .inr (.inr (.inr (.inr (wyF x)))))), (x 46, .inl (cI, 6, .inl W1)), (x 50, .inl (cI, 21, .inl Cs_5)), (b 0, .inr (2, [.int (Pbo S), .int (Psz S), .ref (b 1), .ref (b 2), .ref (b 3), .int (Pnx S), .int (Ppt S), .int (Pbl S)])), (b 1, .inl (cI, 6, .inl (Pkd S))), (b 2, .inl (cI, 6, .inl (Plg S))), (b 3, .inl (cI, 6, .inl (Pwh S)))]) H := hP
    exact W.vret hx hb hr (fun t ht hW => ⟨⟨((L0, L1, W1, Cs_5)), rfl, hO.symm.trans hF, by rw [ht]; exact hP9, va_K.moved hW.alike hK, hD⟩, hS.F ht⟩) hS.2.2 dX0_spread_34
  · rw [if_pos c_14] at hF
    refine lv_aload_n hx hb dX0_spread_17 rfl (lv_at hl 0 rfl) ?_
    refine va_get (D := (dC, dI)) (ci := 0) (v := .ref (x 23)) (C := RX0) (T := TX0) (N := 3) hx hb hts hin0 hown hK hP 0 rfl rfl 0 (by decide) lk11 (fun _ h9 => h9) rfl dX0_spread_18 ?_
    refine lv_iload_n hx hb dX0_spread_21 rfl (lv_at hl 2 rfl) ?_
    refine qv_aldq (v := .ref (x 28)) hx hb hK hP 1 1 rfl rfl (by decide) (by decide) rfl dX0_spread_22 ?_
    refine lv_aload_n hx hb dX0_spread_23 rfl (lv_at hl 1 rfl) ?_
    refine qx_Vv (C := RX2) (As := [.ref (b 0)]) (rest := []) (ci := 2) (k0 := 6) (wr := [(x 22, .inr (0, [.ref (x 23), .ref (x 44), .ref (x 50)])), (x 23, .inl (cP, 5, .inr (.inr (.inr (.inr (lvF x)))))), (x 24, .inr (2, [.int (Pbo L0), .int (Psz L0), .ref (x 25), .ref (x 26), .ref (x 27), .int (Pnx L0), .int (Ppt L0), .int (Pbl L0)])), (x 25, .inl (cI, 6, .inl (Pkd L0))), (x 26, .inl (cI, 6, .inl (Plg L0))), (x 27, .inl (cI, 6, .inl (Pwh L0))), (x 44, .inl (cA, 5, .inr (.inr (.inr (.inr (wyF x)))))), (x 46, .inl (cI, 6, .inl W1)), (x 50, .inl (cI, 21, .inl Cs_5))]) (ws2 := fun u => [(x 22, .inr (0, [.ref (x 23), .ref (x 44), .ref (x 50)])), (x 23, .inl (cP, 5, .inr (.inr (.inr (.inr (lvF x)))))), (x 24, .inr (2, [.int (Pbo L0), .int (Psz L0), .ref (x 25), .ref (x 26), .ref (x 27), .int (Pnx L0), .int (Ppt L0), .int (Pbl L0)])), (x 25, .inl (cI, 6, .inl (Pkd L0))), (x 26, .inl (cI, 6, .inl (Plg L0))), (x 27, .inl (cI, 6, .inl (Pwh L0))), (x 28, .inr (2, [.int (Pbo u), .int (Psz u), .ref (x 29), .ref (x 30), .ref (x 31), .int (Pnx u), .int (Ppt u), .int (Pbl u)])), (x 29, .inl (cI, 6, .inl (Pkd u))), (x 30, .inl (cI, 6, .inl (Plg u))), (x 31, .inl (cI, 6, .inl (Pwh u))), (x 44, .inl (cA, 5, .inr (.inr (.inr (.inr (wyF x)))))), (x 46, .inl (cI, 6, .inl W1)), (x 50, .inl (cI, 21, .inl Cs_5)), (b 0, .inr (2, [.int (Pbo S), .int (Psz S), .ref (b 1), .ref (b 2), .ref (b 3), .int (Pnx S), .int (Ppt S), .int (Pbl S)])), (b 1, .inl (cI, 6, .inl (Pkd S))), (b 2, .inl (cI, 6, .inl (Plg S))), (b 3, .inl (cI, 6, .inl (Pwh S)))]) [6, 7, 8, 9, 13, 14, 15, 16] [0, 1, 2, 3, 4, 5, 10, 11, 12] [0, 1, 2, 3, 4, 5, 9, 10, 11, 12, 6, 7, 8, 13, 14, 15, 16] ⟨hx, hb, hml, hown, hts⟩ (c_X2_copy l dC dI (fun i => x (28 + i)) b cI H.size L1 S  ) (cwV 1 hts gX0_spread_X2_copy rfl rfl rfl (by decide +kernel) ⟨Nat.le_of_ble_eq_true rfl, Nat.le_of_ble_eq_true rfl⟩) (hK.sub [0] rfl) hK hP hD hS hA hN rfl rfl (by decide) (by decide) (by decide) (by decide) (fun _ => rfl) rfl rfl rfl rfl hl.1 rfl (Nat.le_of_ble_eq_true rfl) dX0_spread_24 ⟨Nat.zero_le _, Nat.zero_le _⟩ (fun u_24 H locs hw_24 hP hD hS => ?_)
    obtain ⟨L1_24, rfl⟩ : ∃ z, z = u_24 := ⟨_, rfl⟩
    have hP : va_P (dC, dI) vwCl ([(x 22, .inr (0, [.ref (x 23), .ref (x 44), .ref (x 50)])), (x 23, .inl (cP, 5, .inr (.inr (.inr (.inr (lvF x)))))), (x 24, .inr (2, [.int (Pbo L0), .int (Psz L0), .ref (x 25), .ref (x 26), .ref (x 27), .int (Pnx L0), .int (Ppt L0), .int (Pbl L0)])), (x 25, .inl (cI, 6, .inl (Pkd L0))), (x 26, .inl (cI, 6, .inl (Plg L0))), (x 27, .inl (cI, 6, .inl (Pwh L0))), (x 28, .inr (2, [.int (Pbo L1_24), .int (Psz L1_24), .ref (x 29), .ref (x 30), .ref (x 31), .int (Pnx L1_24), .int (Ppt L1_24), .int (Pbl L1_24)])), (x 29, .inl (cI, 6, .inl (Pkd L1_24))), (x 30, .inl (cI, 6, .inl (Plg L1_24))), (x 31, .inl (cI, 6, .inl (Pwh L1_24))), (x 44, .inl (cA, 5, .inr (.inr (.inr (.inr (wyF x)))))), (x 46, .inl (cI, 6, .inl W1)), (x 50, .inl (cI, 21, .inl Cs_5)), (b 0, .inr (2, [.int (Pbo S), .int (Psz S), .ref (b 1), .ref (b 2), .ref (b 3), .int (Pnx S), .int (Ppt S), .int (Pbl S)])), (b 1, .inl (cI, 6, .inl (Pkd S))), (b 2, .inl (cI, 6, .inl (Plg S))), (b 3, .inl (cI, 6, .inl (Pwh S)))]) H := hP
    have hD : va_D A ([(x 22, .inr (0, [.ref (x 23), .ref (x 44), .ref (x 50)])), (x 23, .inl (cP, 5, .inr (.inr (.inr (.inr (lvF x)))))), (x 24, .inr (2, [.int (Pbo L0), .int (Psz L0), .ref (x 25), .ref (x 26), .ref (x 27), .int (Pnx L0), .int (Ppt L0), .int (Pbl L0)])), (x 25, .inl (cI, 6, .inl (Pkd L0))), (x 26, .inl (cI, 6, .inl (Plg L0))), (x 27, .inl (cI, 6, .inl (Pwh L0))), (x 28, .inr (2, [.int (Pbo L1_24), .int (Psz L1_24), .ref (x 29), .ref (x 30), .ref (x 31), .int (Pnx L1_24), .int (Ppt L1_24), .int (Pbl L1_24)])), (x 29, .inl (cI, 6, .inl (Pkd L1_24))), (x 30, .inl (cI, 6, .inl (Plg L1_24))), (x 31, .inl (cI, 6, .inl (Pwh L1_24))), (x 44, .inl (cA, 5, .inr (.inr (.inr (.inr (wyF x)))))), (x 46, .inl (cI, 6, .inl W1)), (x 50, .inl (cI, 21, .inl Cs_5)), (b 0, .inr (2, [.int (Pbo S), .int (Psz S), .ref (b 1), .ref (b 2), .ref (b 3), .int (Pnx S), .int (Ppt S), .int (Pbl S)])), (b 1, .inl (cI, 6, .inl (Pkd S))), (b 2, .inl (cI, 6, .inl (Plg S))), (b 3, .inl (cI, 6, .inl (Pwh S)))]) := hD
    have v_24 : Psz L1_24 = Psz S := by rw [← hw_24]; rfl
    rw [hw_24, let1_mk L1_24] at hF
    refine lv_aload_n hx hb dX0_spread_27 rfl (lv_at hl 0 rfl) ?_
    refine lv_iload_n hx hb dX0_spread_28 rfl (lv_at hl 2 rfl) ?_
    refine lv_iconst (v := nI 0) hx hb dX0_spread_29 (by decide) ?_
    refine lv_iconst (v := nI 1) hx hb dX0_spread_30 (by decide) ?_
    refine qxe_Sv (As := [.ref (x 22), .int (nI 1), .int (nI 0), .int (nI 1)]) (rest := []) (wr := [(b 0, .inr (2, [.int (Pbo S), .int (Psz S), .ref (b 1), .ref (b 2), .ref (b 3), .int (Pnx S), .int (Ppt S), .int (Pbl S)])), (b 1, .inl (cI, 6, .inl (Pkd S))), (b 2, .inl (cI, 6, .inl (Plg S))), (b 3, .inl (cI, 6, .inl (Pwh S)))]) (ws2 := fun u => [(x 22, .inr (0, [.ref (x 23), .ref (x 44), .ref (x 50)])), (x 23, .inl (cP, 5, .inr (.inr (.inr (.inr (lvF x)))))), (x 24, .inr (2, [.int (Pbo (u.1)), .int (Psz (u.1)), .ref (x 25), .ref (x 26), .ref (x 27), .int (Pnx (u.1)), .int (Ppt (u.1)), .int (Pbl (u.1))])), (x 25, .inl (cI, 6, .inl (Pkd (u.1)))), (x 26, .inl (cI, 6, .inl (Plg (u.1)))), (x 27, .inl (cI, 6, .inl (Pwh (u.1)))), (x 28, .inr (2, [.int (Pbo L1_24), .int (Psz L1_24), .ref (x 29), .ref (x 30), .ref (x 31), .int (Pnx L1_24), .int (Ppt L1_24), .int (Pbl L1_24)])), (x 29, .inl (cI, 6, .inl (Pkd L1_24))), (x 30, .inl (cI, 6, .inl (Plg L1_24))), (x 31, .inl (cI, 6, .inl (Pwh L1_24))), (x 44, .inl (cA, 5, .inr (.inr (.inr (.inr (wyF x)))))), (x 46, .inl (cI, 6, .inl (u.2.1))), (x 50, .inl (cI, 21, .inl (u.2.2))), (b 0, .inr (2, [.int (Pbo S), .int (Psz S), .ref (b 1), .ref (b 2), .ref (b 3), .int (Pnx S), .int (Ppt S), .int (Pbl S)])), (b 1, .inl (cI, 6, .inl (Pkd S))), (b 2, .inl (cI, 6, .inl (Plg S))), (b 3, .inl (cI, 6, .inl (Pwh S)))]) [0, 1, 2, 3, 4, 5, 6, 7, 8, 9, 10, 11, 12] [13, 14, 15, 16] [4, 5, 6, 7, 8, 9, 10, 11, 12, 13, 14, 15, 16, 0, 1, 2, 3] ⟨hx, hb, hml, hown, hts⟩ (c_X0_spreadLevel_v1 l dC dI x cI cP cA t H.size L0 L1_24 W1 Cs_5 0 (nI 1) (by rw [show Psz L1_24 = Psz S from v_24]; exact (pz : inB (Psz S) 6)) (by omega)) (va_cwS 4 hts gX0_spread_X0_spreadLevel rfl rfl rfl (by decide +kernel) ⟨Nat.le_of_ble_eq_true rfl, Nat.le_of_ble_eq_true rfl⟩) (hK.sub [0, 1, 2] rfl) hK hP hD hS hA hN hE rfl rfl (by decide) (by decide) (by decide) (by decide) (fun _ => rfl) rfl hl.1 rfl (Nat.le_of_ble_eq_true rfl) dX0_spread_31 ⟨Nat.zero_le _, Nat.zero_le _⟩ (fun u_31 H locs hw_31 hP hD hS => ?_)
    obtain ⟨L0_31, W1_31, Cs_31⟩ := u_31
    have hP : va_P (dC, dI) vwCl ([(x 22, .inr (0, [.ref (x 23), .ref (x 44), .ref (x 50)])), (x 23, .inl (cP, 5, .inr (.inr (.inr (.inr (lvF x)))))), (x 24, .inr (2, [.int (Pbo L0_31), .int (Psz L0_31), .ref (x 25), .ref (x 26), .ref (x 27), .int (Pnx L0_31), .int (Ppt L0_31), .int (Pbl L0_31)])), (x 25, .inl (cI, 6, .inl (Pkd L0_31))), (x 26, .inl (cI, 6, .inl (Plg L0_31))), (x 27, .inl (cI, 6, .inl (Pwh L0_31))), (x 28, .inr (2, [.int (Pbo L1_24), .int (Psz L1_24), .ref (x 29), .ref (x 30), .ref (x 31), .int (Pnx L1_24), .int (Ppt L1_24), .int (Pbl L1_24)])), (x 29, .inl (cI, 6, .inl (Pkd L1_24))), (x 30, .inl (cI, 6, .inl (Plg L1_24))), (x 31, .inl (cI, 6, .inl (Pwh L1_24))), (x 44, .inl (cA, 5, .inr (.inr (.inr (.inr (wyF x)))))), (x 46, .inl (cI, 6, .inl W1_31)), (x 50, .inl (cI, 21, .inl Cs_31)), (b 0, .inr (2, [.int (Pbo S), .int (Psz S), .ref (b 1), .ref (b 2), .ref (b 3), .int (Pnx S), .int (Ppt S), .int (Pbl S)])), (b 1, .inl (cI, 6, .inl (Pkd S))), (b 2, .inl (cI, 6, .inl (Plg S))), (b 3, .inl (cI, 6, .inl (Pwh S)))]) H := hP
    have hD : va_D A ([(x 22, .inr (0, [.ref (x 23), .ref (x 44), .ref (x 50)])), (x 23, .inl (cP, 5, .inr (.inr (.inr (.inr (lvF x)))))), (x 24, .inr (2, [.int (Pbo L0_31), .int (Psz L0_31), .ref (x 25), .ref (x 26), .ref (x 27), .int (Pnx L0_31), .int (Ppt L0_31), .int (Pbl L0_31)])), (x 25, .inl (cI, 6, .inl (Pkd L0_31))), (x 26, .inl (cI, 6, .inl (Plg L0_31))), (x 27, .inl (cI, 6, .inl (Pwh L0_31))), (x 28, .inr (2, [.int (Pbo L1_24), .int (Psz L1_24), .ref (x 29), .ref (x 30), .ref (x 31), .int (Pnx L1_24), .int (Ppt L1_24), .int (Pbl L1_24)])), (x 29, .inl (cI, 6, .inl (Pkd L1_24))), (x 30, .inl (cI, 6, .inl (Plg L1_24))), (x 31, .inl (cI, 6, .inl (Pwh L1_24))), (x 44, .inl (cA, 5, .inr (.inr (.inr (.inr (wyF x)))))), (x 46, .inl (cI, 6, .inl W1_31)), (x 50, .inl (cI, 21, .inl Cs_31)), (b 0, .inr (2, [.int (Pbo S), .int (Psz S), .ref (b 1), .ref (b 2), .ref (b 3), .int (Pnx S), .int (Ppt S), .int (Pbl S)])), (b 1, .inl (cI, 6, .inl (Pkd S))), (b 2, .inl (cI, 6, .inl (Plg S))), (b 3, .inl (cI, 6, .inl (Pwh S)))]) := hD
    rw [hw_31, let3_mk L0_31 W1_31 Cs_31] at hF
    have hP9 : va_P (dC, dI) vwCl ([(x 22, .inr (0, [.ref (x 23), .ref (x 44), .ref (x 50)])), (x 23, .inl (cP, 5, .inr (.inr (.inr (.inr (lvF x)))))), (x 24, .inr (2, [.int (Pbo L0_31), .int (Psz L0_31), .ref (x 25), .ref (x 26), .ref (x 27), .int (Pnx L0_31), .int (Ppt L0_31), .int (Pbl L0_31)])), (x 25, .inl (cI, 6, .inl (Pkd L0_31))), (x 26, .inl (cI, 6, .inl (Plg L0_31))), (x 27, .inl (cI, 6, .inl (Pwh L0_31))), (x 28, .inr (2, [.int (Pbo L1_24), .int (Psz L1_24), .ref (x 29), .ref (x 30), .ref (x 31), .int (Pnx L1_24), .int (Ppt L1_24), .int (Pbl L1_24)])), (x 29, .inl (cI, 6, .inl (Pkd L1_24))), (x 30, .inl (cI, 6, .inl (Plg L1_24))), (x 31, .inl (cI, 6, .inl (Pwh L1_24))), (x 44, .inl (cA, 5, .inr (.inr (.inr (.inr (wyF x)))))), (x 46, .inl (cI, 6, .inl W1_31)), (x 50, .inl (cI, 21, .inl Cs_31)), (b 0, .inr (2, [.int (Pbo S), .int (Psz S), .ref (b 1), .ref (b 2), .ref (b 3), .int (Pnx S), .int (Ppt S), .int (Pbl S)])), (b 1, .inl (cI, 6, .inl (Pkd S))), (b 2, .inl (cI, 6, .inl (Plg S))), (b 3, .inl (cI, 6, .inl (Pwh S)))]) H := hP
    exact W.vret hx hb hr (fun t ht hW => ⟨⟨((L0_31, L1_24, W1_31, Cs_31)), rfl, hO.symm.trans hF, by rw [ht]; exact hP9, va_K.moved hW.alike hK, hD⟩, hS.F ht⟩) hS.2.2 dX0_spread_34
