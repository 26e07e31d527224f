/-! ===== one number of a state is set ===== -/
theorem SV.u_la {σ : StT} {R : Nat} (V : SV σ R) {j : Nat} {x : Int32} (h1 : 0 ≤ x.toInt) (h2 : x.toInt ≤ 1200) : SV (mkSt σ.se (upd σ.la j x) σ.de σ.le σ.sa σ.fl σ.ar σ.dr σ.pe σ.ri) R := by
  refine ⟨V.ri, V.hR, V.se0, V.se1, V.se2, V.se3, V.se4, ?_, V.de, V.le, V.sa, V.fl, V.ar, V.dr, V.pe⟩
  intro k hk
  show 0 ≤ (upd σ.la j x k).toInt ∧ (upd σ.la j x k).toInt ≤ 1200
  by_cases c : k = j
  · rw [c, z_us]; exact ⟨h1, h2⟩
  · rw [z_un c]; exact V.la k hk
theorem SV.u_de {σ : StT} {R : Nat} (V : SV σ R) {j : Nat} {x : Int32} (h1 : -30 ≤ x.toInt) (h2 : x.toInt ≤ 300) : SV (mkSt σ.se σ.la (upd σ.de j x) σ.le σ.sa σ.fl σ.ar σ.dr σ.pe σ.ri) R := by
  refine ⟨V.ri, V.hR, V.se0, V.se1, V.se2, V.se3, V.se4, V.la, ?_, V.le, V.sa, V.fl, V.ar, V.dr, V.pe⟩
  intro k hk
  show -30 ≤ (upd σ.de j x k).toInt ∧ (upd σ.de j x k).toInt ≤ 300
  by_cases c : k = j
  · rw [c, z_us]; exact ⟨h1, h2⟩
  · rw [z_un c]; exact V.de k hk
theorem SV.u_le {σ : StT} {R : Nat} (V : SV σ R) {j : Nat} {x : Int32} (h1 : 0 ≤ x.toInt) (h2 : x.toInt ≤ 1500) : SV (mkSt σ.se σ.la σ.de (upd σ.le j x) σ.sa σ.fl σ.ar σ.dr σ.pe σ.ri) R := by
  refine ⟨V.ri, V.hR, V.se0, V.se1, V.se2, V.se3, V.se4, V.la, V.de, ?_, V.sa, V.fl, V.ar, V.dr, V.pe⟩
  intro k hk
  show 0 ≤ (upd σ.le j x k).toInt ∧ (upd σ.le j x k).toInt ≤ 1500
  by_cases c : k = j
  · rw [c, z_us]; exact ⟨h1, h2⟩
  · rw [z_un c]; exact V.le k hk
theorem SV.u_sa {σ : StT} {R : Nat} (V : SV σ R) {j : Nat} {x : Int32} (h1 : 0 ≤ x.toInt) (h2 : x.toInt ≤ 12) : SV (mkSt σ.se σ.la σ.de σ.le (upd σ.sa j x) σ.fl σ.ar σ.dr σ.pe σ.ri) R := by
  refine ⟨V.ri, V.hR, V.se0, V.se1, V.se2, V.se3, V.se4, V.la, V.de, V.le, ?_, V.fl, V.ar, V.dr, V.pe⟩
  intro k hk
  show 0 ≤ (upd σ.sa j x k).toInt ∧ (upd σ.sa j x k).toInt ≤ 12
  by_cases c : k = j
  · rw [c, z_us]; exact ⟨h1, h2⟩
  · rw [z_un c]; exact V.sa k hk
theorem SV.u_fl {σ : StT} {R : Nat} (V : SV σ R) {j : Nat} {x : Int32} (h : z_is x 6) : SV (mkSt σ.se σ.la σ.de σ.le σ.sa (upd σ.fl j x) σ.ar σ.dr σ.pe σ.ri) R := by
  refine ⟨V.ri, V.hR, V.se0, V.se1, V.se2, V.se3, V.se4, V.la, V.de, V.le, V.sa, ?_, V.ar, V.dr, V.pe⟩
  intro k hk
  show z_is (upd σ.fl j x k) 6
  by_cases c : k = j
  · rw [c, z_us]; exact h
  · rw [z_un c]; exact V.fl k hk
theorem SV.seB {σ : StT} {R : Nat} (V : SV σ R) : ∀ k, k < 5 → (g_least k).toInt ≤ (σ.se k).toInt ∧ (σ.se k).toInt ≤ (g_most k).toInt
  | 0, _ => V.se0
  | 1, _ => V.se1
  | 2, _ => V.se2
  | 3, _ => V.se3
  | 4, _ => V.se4
  | k + 5, h => absurd h (by omega)
theorem SV.u_se {σ : StT} {R : Nat} (V : SV σ R) {j : Nat} {x : Int32} (h1 : g_least j ≤ x) (h2 : x ≤ g_most j) : SV (mkSt (upd σ.se j x) σ.la σ.de σ.le σ.sa σ.fl σ.ar σ.dr σ.pe σ.ri) R := by
  have hh : ∀ k, k < 5 → (g_least k).toInt ≤ (upd σ.se j x k).toInt ∧ (upd σ.se j x k).toInt ≤ (g_most k).toInt := by
    intro k hk
    by_cases c : k = j
    · rw [c, z_us]; exact ⟨z_le.mp h1, z_le.mp h2⟩
    · rw [z_un c]; exact V.seB k hk
  exact ⟨V.ri, V.hR, hh 0 (by omega), hh 1 (by omega), hh 2 (by omega), hh 3 (by omega), hh 4 (by omega), V.la, V.de, V.le, V.sa, V.fl, V.ar, V.dr, V.pe⟩
