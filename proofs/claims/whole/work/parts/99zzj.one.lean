/-! one memory: the class works on its rows, the reference on its own -/
theorem IV_congr {μ ρ M P : Mu} (hm : ∀ a, a < 86 → M a = μ a) (hp : ∀ a, 86 ≤ a → P a = ρ a) (h : IV μ ρ) : IV M P := by
  obtain ⟨⟨N, F, L, wl, hB, hS⟩, hT, ⟨A, B, n, g1, g2⟩, h4, h5⟩ := h
  have e0 : M 0 = μ 0 := hm 0 (by omega)
  have e86 : P 86 = ρ 86 := hp 86 (by omega)
  exact ⟨⟨N, F, L, wl, bt_rows hB ⟨by rw [e0], by rw [e0], by rw [e0]⟩ (fun a q => hm a (by omega)) (fun a q => hp a (by omega)) (fun k q => by rw [e86]), SP_7 (by rw [e0]) hS⟩, TI_rows (hm 1 (by omega)) (hm 2 (by omega)) (by rw [e86]) (hp 93 (by omega)) hT, ⟨A, B, n, FIc_rows (fun a q => hm a (by omega)) g1, FIr_rows (by rw [e86]) (fun a q1 q2 => hp a (by omega)) g2⟩, SOr_rows (hm 67 (by omega)) (fun a q1 q2 => hp a (by omega)) h4, KT_rows (fun k _ _ => by rw [e0]) (by rw [hm 58 (by omega)]) (fun a q => hm a (by omega)) (fun k q1 q2 => by rw [e86]) (fun a q => hp a (by omega)) h5⟩
def CO (z : zZ) (d ic ir : Nat) (a : List (Nat × Int)) (μ : Mu) : Prop := ∃ (r : Int) (M P : Mu), mC z d ic ((2, 0) :: a) μ = some (r, M) ∧ mC z d ir ((2, 86) :: a) M = some (r, P) ∧ IV P P
theorem CO_of {z : zZ} {d ic ir : Nat} {a : List (Nat × Int)} {μ : Mu} (hI : IV μ μ) (h : ∀ ρ, IV μ ρ → CL z d d ic ir a μ ρ) : CO z d ic ir a μ := by
  obtain ⟨r, M, P, m1, p1, _, k1, _⟩ := h μ hI
  have hM : IV μ M := IV_congr (fun a _ => rfl) (fun a q => k1 a q) hI
  obtain ⟨r2, M2, P2, m2, p2, hI2, k3, k4⟩ := h M hM
  rw [m1] at m2
  obtain ⟨rfl, rfl⟩ := Prod.mk.inj (Option.some.inj m2)
  exact ⟨r, M, P2, m1, p2, IV_congr (fun a q => k4 a q) (fun a _ => rfl) hI2⟩
section
variable {z : zZ} {d : Nat} {μ : Mu} {v1 v2 v3 v4 v5 : Int}
theorem D_strength (hd : 80 ≤ d) (hI : IV μ μ) : CO z d 12 181 [(0, v1), (0, v2)] μ := CO_of hI (fun ρ h => C_strength hd hd h)
theorem D_reserve (hd : 80 ≤ d) (hI : IV μ μ) : CO z d 14 184 [(0, v1), (0, v2), (0, v3)] μ := CO_of hI (fun ρ h => C_reserve hd hd h)
theorem D_feed (hd : 80 ≤ d) (r1 : rg v1) (r2 : rg v2) (r3 : rg v3) (r4 : rg v4) (r5 : rg v5) (hI : IV μ μ) : CO z d 16 186 [(0, v1), (0, v2), (0, v3), (0, v4), (0, v5)] μ := CO_of hI (fun ρ h => C_feed hd hd r1 r2 r3 r4 r5 h)
theorem D_order (hd : 80 ≤ d) (hI : IV μ μ) : CO z d 18 188 [(0, v1)] μ := CO_of hI (fun ρ h => C_order hd hd h)
theorem D_lexicon (hd : 80 ≤ d) (hI : IV μ μ) : CO z d 24 190 [(0, v1), (0, v2)] μ := CO_of hI (fun ρ h => C_lexicon hd hd h)
theorem D_law (hd : 80 ≤ d) (hI : IV μ μ) : CO z d 44 208 [(0, v1)] μ := CO_of hI (fun ρ h => C_law hd hd h)
theorem D_orders (hd : 80 ≤ d) (hI : IV μ μ) : CO z d 63 227 [(0, v1), (0, v2)] μ := CO_of hI (fun ρ h => C_orders hd hd h)
theorem D_judged (hd : 80 ≤ d) (hI : IV μ μ) : CO z d 96 251 [(0, v1), (0, v2)] μ := CO_of hI (fun ρ h => C_judged hd hd h)
theorem D_turn (hd : 80 ≤ d) (hI : IV μ μ) : CO z d 97 255 [] μ := CO_of hI (fun ρ h => C_turn hd hd h)
theorem D_word (hd : 80 ≤ d) (r3 : rg v3) (hI : IV μ μ) : CO z d 99 256 [(0, v1), (0, v2), (0, v3)] μ := CO_of hI (fun ρ h => C_word hd hd r3 h)
theorem D_beats (hd : 80 ≤ d) (hI : IV μ μ) : CO z d 101 259 [(0, v1), (0, v2)] μ := CO_of hI (fun ρ h => C_beats hd hd h)
theorem D_place (hd : 80 ≤ d) (hI : IV μ μ) : CO z d 103 261 [(0, v1), (0, v2), (0, v3)] μ := CO_of hI (fun ρ h => C_place hd hd h)
theorem D_best (hd : 80 ≤ d) (hI : IV μ μ) : CO z d 104 262 [(0, v1), (0, v2)] μ := CO_of hI (fun ρ h => C_best hd hd h)
theorem D_against (hd : 80 ≤ d) (hI : IV μ μ) : CO z d 115 265 [(0, v1), (0, v2)] μ := CO_of hI (fun ρ h => C_against hd hd h)
theorem D_atOnce (hd : 80 ≤ d) (hI : IV μ μ) : CO z d 117 267 [(0, v1)] μ := CO_of hI (fun ρ h => C_atOnce hd hd h)
theorem D_exchange (hd : 80 ≤ d) (hI : IV μ μ) : CO z d 122 270 [(0, v1), (0, v2)] μ := CO_of hI (fun ρ h => C_exchange hd hd h)
theorem D_exchanged (hd : 80 ≤ d) (hI : IV μ μ) : CO z d 126 273 [(0, v1), (0, v2), (0, v3)] μ := CO_of hI (fun ρ h => C_exchanged hd hd h)
theorem D_home (hd : 80 ≤ d) (hI : IV μ μ) : CO z d 127 274 [(0, v1), (0, v2)] μ := CO_of hI (fun ρ h => C_home hd hd h)
theorem D_peace (hd : 80 ≤ d) (hI : IV μ μ) : CO z d 128 275 [(0, v1), (0, v2), (0, v3)] μ := CO_of hI (fun ρ h => C_peace hd hd h)
theorem D_spy (hd : 80 ≤ d) (hI : IV μ μ) : CO z d 134 278 [(0, v1), (0, v2), (0, v3)] μ := CO_of hI (fun ρ h => C_spy hd hd h)
theorem D_fight (hd : 80 ≤ d) (hI : IV μ μ) : CO z d 137 281 [(0, v1)] μ := CO_of hI (fun ρ h => C_fight hd hd h)
theorem D_learnt (hd : 80 ≤ d) (hI : IV μ μ) : CO z d 140 282 [(0, v1)] μ := CO_of hI (fun ρ h => C_learnt hd hd h)
theorem D_ahead (hd : 80 ≤ d) (hI : IV μ μ) : CO z d 145 285 [(0, v1), (0, v2)] μ := CO_of hI (fun ρ h => C_ahead hd hd h)
theorem D_skirmish (hd : 80 ≤ d) (hI : IV μ μ) : CO z d 151 287 [(0, v1)] μ := CO_of hI (fun ρ h => C_skirmish hd hd h)
theorem D_forget (hd : 80 ≤ d) (hI : IV μ μ) : CO z d 152 288 [] μ := CO_of hI (fun ρ h => C_forget hd hd h)
theorem D_soldier (hd : 80 ≤ d) (hI : IV μ μ) : CO z d 154 289 [(0, v1), (0, v2), (0, v3), (0, v4), (0, v5)] μ := CO_of hI (fun ρ h => C_soldier hd hd h)
theorem D_march (hd : 80 ≤ d) (r3 : rg v3) (hI : IV μ μ) : CO z d 157 290 [(0, v1), (0, v2), (0, v3), (0, v4), (0, v5)] μ := CO_of hI (fun ρ h => C_march hd hd r3 h)
theorem D_dead (hd : 80 ≤ d) (hI : IV μ μ) : CO z d 164 298 [(0, v1), (0, v2)] μ := CO_of hI (fun ρ h => C_dead hd hd h)
theorem D_seed (hd : 80 ≤ d) (hI : IV μ μ) : CO z d 62 300 [(0, v1)] μ := CO_of hI (fun ρ h => C_seed hd hd h)
theorem D_keep (hd : 80 ≤ d) (hI : IV μ μ) : CO z d 168 301 [] μ := CO_of hI (fun ρ h => C_keep hd hd h)
theorem D_undo (hd : 80 ≤ d) (hI : IV μ μ) : CO z d 171 304 [] μ := CO_of hI (fun ρ h => C_undo hd hd h)
theorem D_check (hd : 80 ≤ d) (hI : IV μ μ) : CO z d 174 306 [(0, v1), (0, v2)] μ := CO_of hI (fun ρ h => C_check hd hd h)
theorem D_count (hd : 80 ≤ d) (r1 : rg v1) (hI : IV μ μ) : CO z d 176 308 [(0, v1)] μ := CO_of hI (fun ρ h => C_count hd hd r1 h)
end
