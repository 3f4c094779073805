/-! peeling an embedding, goal first; loops by a row of states -/
theorem pe_if {α : Type} {c : Prop} [Decidable c] {a b r : α} (h : c) (k : a = r) : (if c then a else b) = r := (if_pos h).trans k
theorem pe_ifn {α : Type} {c : Prop} [Decidable c] {a b r : α} (h : ¬ c) (k : b = r) : (if c then a else b) = r := (if_neg h).trans k
theorem pe_chk {α : Type} {i n : Nat} {k : Option α} {r : Option α} (h : i < n) (hn : n < 2 ^ 31) (hk : k = r) : zz_chk (nI i) n k = r := by
  unfold zz_chk
  rw [if_neg (nI_in h hn)]
  exact hk
theorem pe_nm {α β : Type} {e x : α} {k : α → β} {r : β} (he : e = x) (hk : k x = r) : zz_nm e k = r := by
  rw [he]; exact hk
theorem pe_dv {α : Type} {d : Int32} {k : Option α} {r : Option α} (h : ¬ d = 0) (hk : k = r) : zz_dv d k = r := (if_neg h).trans hk
theorem pe_bl {α : Type} {v : Int32} {k : Option α} {r : Option α} (h : v = 0 ∨ v = 1) (hk : k = r) : zz_bl v k = r := (if_pos h).trans hk
theorem pe_it {σ ρ : Type} {b : σ → Option (σ ⊕ ρ)} (f : Nat → σ) (N : Nat) {r : ρ} (hs : ∀ k, k < N → b (f k) = some (.inl (f (k + 1)))) (he : b (f N) = some (.inr r)) (hN : N < 2000) : zz_it b zz_fuel (f 0) = some r := by
  have key : ∀ j k n, k + j = N → j < n → zz_it b n (f k) = some r := by
    intro j
    induction j with
    | zero =>
      intro k n hk hn
      obtain ⟨n, rfl⟩ : ∃ z, n = z + 1 := ⟨n - 1, by omega⟩
      have : k = N := by omega
      subst this
      rw [zz_it, he]; rfl
    | succ j ih =>
      intro k n hk hn
      obtain ⟨n, rfl⟩ : ∃ z, n = z + 1 := ⟨n - 1, by omega⟩
      rw [zz_it, hs k (by omega)]
      exact ih (k + 1) n (by omega) (by omega)
  exact key N 0 zz_fuel (by omega) hN
theorem pe_mtl {τ χ : Type} {o : Option (τ ⊕ χ)} {k : τ → Option χ} {t : τ} {r : Option χ} (ho : o = some (.inl t)) (hk : k t = r) : zz_mt o k = r := by rw [ho]; exact hk
theorem pe_mtr {τ χ : Type} {o : Option (τ ⊕ χ)} {k : τ → Option χ} {x : χ} (ho : o = some (.inr x)) : zz_mt o k = some x := by rw [ho]; rfl
theorem pe_b1 {α1 γ : Type} {o : Option (α1)} {k : α1 → Option γ} {a1 : α1} {r : Option γ} (ho : o = some a1) (hk : k a1 = r) : zz_b1 o k = r := by rw [ho]; exact hk
theorem pe_b2 {α1 α2 γ : Type} {o : Option (α1 × α2)} {k : α1 → α2 → Option γ} {a1 : α1} {a2 : α2} {r : Option γ} (ho : o = some (a1, a2)) (hk : k a1 a2 = r) : zz_b2 o k = r := by rw [ho]; exact hk
theorem pe_b3 {α1 α2 α3 γ : Type} {o : Option (α1 × α2 × α3)} {k : α1 → α2 → α3 → Option γ} {a1 : α1} {a2 : α2} {a3 : α3} {r : Option γ} (ho : o = some (a1, a2, a3)) (hk : k a1 a2 a3 = r) : zz_b3 o k = r := by rw [ho]; exact hk
theorem pe_b4 {α1 α2 α3 α4 γ : Type} {o : Option (α1 × α2 × α3 × α4)} {k : α1 → α2 → α3 → α4 → Option γ} {a1 : α1} {a2 : α2} {a3 : α3} {a4 : α4} {r : Option γ} (ho : o = some (a1, a2, a3, a4)) (hk : k a1 a2 a3 a4 = r) : zz_b4 o k = r := by rw [ho]; exact hk
theorem pe_b5 {α1 α2 α3 α4 α5 γ : Type} {o : Option (α1 × α2 × α3 × α4 × α5)} {k : α1 → α2 → α3 → α4 → α5 → Option γ} {a1 : α1} {a2 : α2} {a3 : α3} {a4 : α4} {a5 : α5} {r : Option γ} (ho : o = some (a1, a2, a3, a4, a5)) (hk : k a1 a2 a3 a4 a5 = r) : zz_b5 o k = r := by rw [ho]; exact hk
theorem pe_b6 {α1 α2 α3 α4 α5 α6 γ : Type} {o : Option (α1 × α2 × α3 × α4 × α5 × α6)} {k : α1 → α2 → α3 → α4 → α5 → α6 → Option γ} {a1 : α1} {a2 : α2} {a3 : α3} {a4 : α4} {a5 : α5} {a6 : α6} {r : Option γ} (ho : o = some (a1, a2, a3, a4, a5, a6)) (hk : k a1 a2 a3 a4 a5 a6 = r) : zz_b6 o k = r := by rw [ho]; exact hk
theorem pe_b7 {α1 α2 α3 α4 α5 α6 α7 γ : Type} {o : Option (α1 × α2 × α3 × α4 × α5 × α6 × α7)} {k : α1 → α2 → α3 → α4 → α5 → α6 → α7 → Option γ} {a1 : α1} {a2 : α2} {a3 : α3} {a4 : α4} {a5 : α5} {a6 : α6} {a7 : α7} {r : Option γ} (ho : o = some (a1, a2, a3, a4, a5, a6, a7)) (hk : k a1 a2 a3 a4 a5 a6 a7 = r) : zz_b7 o k = r := by rw [ho]; exact hk
theorem pe_b8 {α1 α2 α3 α4 α5 α6 α7 α8 γ : Type} {o : Option (α1 × α2 × α3 × α4 × α5 × α6 × α7 × α8)} {k : α1 → α2 → α3 → α4 → α5 → α6 → α7 → α8 → Option γ} {a1 : α1} {a2 : α2} {a3 : α3} {a4 : α4} {a5 : α5} {a6 : α6} {a7 : α7} {a8 : α8} {r : Option γ} (ho : o = some (a1, a2, a3, a4, a5, a6, a7, a8)) (hk : k a1 a2 a3 a4 a5 a6 a7 a8 = r) : zz_b8 o k = r := by rw [ho]; exact hk
theorem pe_b9 {α1 α2 α3 α4 α5 α6 α7 α8 α9 γ : Type} {o : Option (α1 × α2 × α3 × α4 × α5 × α6 × α7 × α8 × α9)} {k : α1 → α2 → α3 → α4 → α5 → α6 → α7 → α8 → α9 → Option γ} {a1 : α1} {a2 : α2} {a3 : α3} {a4 : α4} {a5 : α5} {a6 : α6} {a7 : α7} {a8 : α8} {a9 : α9} {r : Option γ} (ho : o = some (a1, a2, a3, a4, a5, a6, a7, a8, a9)) (hk : k a1 a2 a3 a4 a5 a6 a7 a8 a9 = r) : zz_b9 o k = r := by rw [ho]; exact hk
theorem pe_b10 {α1 α2 α3 α4 α5 α6 α7 α8 α9 α10 γ : Type} {o : Option (α1 × α2 × α3 × α4 × α5 × α6 × α7 × α8 × α9 × α10)} {k : α1 → α2 → α3 → α4 → α5 → α6 → α7 → α8 → α9 → α10 → Option γ} {a1 : α1} {a2 : α2} {a3 : α3} {a4 : α4} {a5 : α5} {a6 : α6} {a7 : α7} {a8 : α8} {a9 : α9} {a10 : α10} {r : Option γ} (ho : o = some (a1, a2, a3, a4, a5, a6, a7, a8, a9, a10)) (hk : k a1 a2 a3 a4 a5 a6 a7 a8 a9 a10 = r) : zz_b10 o k = r := by rw [ho]; exact hk
theorem pe_b11 {α1 α2 α3 α4 α5 α6 α7 α8 α9 α10 α11 γ : Type} {o : Option (α1 × α2 × α3 × α4 × α5 × α6 × α7 × α8 × α9 × α10 × α11)} {k : α1 → α2 → α3 → α4 → α5 → α6 → α7 → α8 → α9 → α10 → α11 → Option γ} {a1 : α1} {a2 : α2} {a3 : α3} {a4 : α4} {a5 : α5} {a6 : α6} {a7 : α7} {a8 : α8} {a9 : α9} {a10 : α10} {a11 : α11} {r : Option γ} (ho : o = some (a1, a2, a3, a4, a5, a6, a7, a8, a9, a10, a11)) (hk : k a1 a2 a3 a4 a5 a6 a7 a8 a9 a10 a11 = r) : zz_b11 o k = r := by rw [ho]; exact hk
theorem pe_b12 {α1 α2 α3 α4 α5 α6 α7 α8 α9 α10 α11 α12 γ : Type} {o : Option (α1 × α2 × α3 × α4 × α5 × α6 × α7 × α8 × α9 × α10 × α11 × α12)} {k : α1 → α2 → α3 → α4 → α5 → α6 → α7 → α8 → α9 → α10 → α11 → α12 → Option γ} {a1 : α1} {a2 : α2} {a3 : α3} {a4 : α4} {a5 : α5} {a6 : α6} {a7 : α7} {a8 : α8} {a9 : α9} {a10 : α10} {a11 : α11} {a12 : α12} {r : Option γ} (ho : o = some (a1, a2, a3, a4, a5, a6, a7, a8, a9, a10, a11, a12)) (hk : k a1 a2 a3 a4 a5 a6 a7 a8 a9 a10 a11 a12 = r) : zz_b12 o k = r := by rw [ho]; exact hk
