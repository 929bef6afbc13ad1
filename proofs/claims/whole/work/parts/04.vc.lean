theorem am_cV {P : am_P} {ML : Nat → Nat} {d m : Nat} {vs : List am_V} {σ : am_S} {f g : am_S → Prop} (h : am_Calls P ML d m vs σ (kV f)) (hk : ∀ τ, f τ → g τ) : am_Calls P ML d m vs σ (kV g) := am_Calls_mono h fun v τ hv => by
  rcases v with _ | v
  · exact hk _ hv
  · exact hv
theorem am_cI {P : am_P} {ML : Nat → Nat} {d m : Nat} {vs : List am_V} {σ : am_S} {f g : Int → am_S → Prop} (h : am_Calls P ML d m vs σ (kI f)) (hk : ∀ x τ, f x τ → g x τ) : am_Calls P ML d m vs σ (kI g) := am_Calls_mono h fun v τ hv => by
  rcases v with _ | x | x | x
  · exact hv
  · exact hk _ _ hv
  · exact hv
  · exact hv
theorem am_cL {P : am_P} {ML : Nat → Nat} {d m : Nat} {vs : List am_V} {σ : am_S} {f g : Int → am_S → Prop} (h : am_Calls P ML d m vs σ (kL f)) (hk : ∀ x τ, f x τ → g x τ) : am_Calls P ML d m vs σ (kL g) := am_Calls_mono h fun v τ hv => by
  rcases v with _ | x | x | x
  · exact hv
  · exact hv
  · exact hk _ _ hv
  · exact hv
theorem am_cO {P : am_P} {ML : Nat → Nat} {d m : Nat} {vs : List am_V} {σ : am_S} {f g : Option am_R → am_S → Prop} (h : am_Calls P ML d m vs σ (kO f)) (hk : ∀ x τ, f x τ → g x τ) : am_Calls P ML d m vs σ (kO g) := am_Calls_mono h fun v τ hv => by
  rcases v with _ | x | x | x
  · exact hv
  · exact hv
  · exact hv
  · exact hk _ _ hv
