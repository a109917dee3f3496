def zStep0 (R : ZS → ZS → Prop) : Prop := ∀ (σ τ : ZS) (y1 : Int32), R σ τ → ∃ (r : Int32) (σ1 τ1 : ZS), fX6_feed y1 σ = some (r, σ1) ∧ fX7_feed y1 τ = some (r, τ1) ∧ R σ1 τ1
def zStep1 (R : ZS → ZS → Prop) : Prop := ∀ (σ τ : ZS), R σ τ → ∃ (r : Int32) (σ1 τ1 : ZS), fX6_sheets  σ = some (r, σ1) ∧ fX7_sheets  τ = some (r, τ1) ∧ R σ1 τ1
def zStep2 (R : ZS → ZS → Prop) : Prop := ∀ (σ τ : ZS) (y1 y2 y3 : Int32), R σ τ → ∃ (r : Int32) (σ1 τ1 : ZS), fX6_number y1 y2 y3 σ = some (r, σ1) ∧ fX7_number y1 y2 y3 τ = some (r, τ1) ∧ R σ1 τ1
def zStep3 (R : ZS → ZS → Prop) : Prop := ∀ (σ τ : ZS) (y1 y2 y3 : Int32), R σ τ → ∃ (r : Int32) (σ1 τ1 : ZS), fX6_becomes y1 y2 y3 σ = some (r, σ1) ∧ fX7_becomes y1 y2 y3 τ = some (r, τ1) ∧ R σ1 τ1
def zStep4 (R : ZS → ZS → Prop) : Prop := ∀ (σ τ : ZS) (y1 y2 : Int32), R σ τ → ∃ (r : Int32) (σ1 τ1 : ZS), fX6_sheet y1 y2 σ = some (r, σ1) ∧ fX7_sheet y1 y2 τ = some (r, τ1) ∧ R σ1 τ1
def zStep5 (R : ZS → ZS → Prop) : Prop := ∀ (σ τ : ZS), R σ τ → ∃ (r : Int32) (σ1 τ1 : ZS), fX6_stack  σ = some (r, σ1) ∧ fX7_stack  τ = some (r, τ1) ∧ R σ1 τ1
def zStep6 (R : ZS → ZS → Prop) : Prop := ∀ (σ τ : ZS) (y1 y2 : Int32), R σ τ → ∃ (r : Int32) (σ1 τ1 : ZS), fX6_lay y1 y2 σ = some (r, σ1) ∧ fX7_lay y1 y2 τ = some (r, τ1) ∧ R σ1 τ1
def zStep7 (R : ZS → ZS → Prop) : Prop := ∀ (σ τ : ZS) (y1 : Int32), R σ τ → ∃ (r : Int32) (σ1 τ1 : ZS), fX6_take y1 σ = some (r, σ1) ∧ fX7_take y1 τ = some (r, τ1) ∧ R σ1 τ1
def zStep8 (R : ZS → ZS → Prop) : Prop := ∀ (σ τ : ZS) (y1 y2 : Int32), R σ τ → ∃ (r : Int32) (σ1 τ1 : ZS), fX6_at y1 y2 σ = some (r, σ1) ∧ fX7_at y1 y2 τ = some (r, τ1) ∧ R σ1 τ1
def zStep9 (R : ZS → ZS → Prop) : Prop := ∀ (σ τ : ZS) (y1 y2 y3 : Int32), R σ τ → ∃ (r : Int32) (σ1 τ1 : ZS), fX6_power y1 y2 y3 σ = some (r, σ1) ∧ fX7_power y1 y2 y3 τ = some (r, τ1) ∧ R σ1 τ1
def zStep10 (R : ZS → ZS → Prop) : Prop := ∀ (σ τ : ZS) (y1 y2 y3 : Int32), R σ τ → ∃ (r : Int32) (σ1 τ1 : ZS), fX6_weight y1 y2 y3 σ = some (r, σ1) ∧ fX7_weight y1 y2 y3 τ = some (r, τ1) ∧ R σ1 τ1
def zStep11 (R : ZS → ZS → Prop) : Prop := ∀ (σ τ : ZS) (y1 y2 y3 : Int32), R σ τ → ∃ (r : Int64) (σ1 τ1 : ZS), fX6_through y1 y2 y3 σ = some (r, σ1) ∧ fX7_through y1 y2 y3 τ = some (r, τ1) ∧ R σ1 τ1
def zStep12 (R : ZS → ZS → Prop) : Prop := ∀ (σ τ : ZS) (y1 y2 y3 y4 y5 : Int32), R σ τ → ∃ (r : Int64) (σ1 τ1 : ZS), fX6_sees y1 y2 y3 y4 y5 σ = some (r, σ1) ∧ fX7_sees y1 y2 y3 y4 y5 τ = some (r, τ1) ∧ R σ1 τ1
def zStep13 (R : ZS → ZS → Prop) : Prop := ∀ (σ τ : ZS) (y1 y2 y3 y4 : Int32), R σ τ → ∃ (r : Int32) (σ1 τ1 : ZS), fX6_shade y1 y2 y3 y4 σ = some (r, σ1) ∧ fX7_shade y1 y2 y3 y4 τ = some (r, τ1) ∧ R σ1 τ1
def zStep14 (R : ZS → ZS → Prop) : Prop := ∀ (σ τ : ZS) (y1 y2 y3 : Int32), R σ τ → ∃ (r : Int32) (σ1 τ1 : ZS), fX6_alike y1 y2 y3 σ = some (r, σ1) ∧ fX7_alike y1 y2 y3 τ = some (r, τ1) ∧ R σ1 τ1
def zStep15 (R : ZS → ZS → Prop) : Prop := ∀ (σ τ : ZS) (y1 y2 : Int32), R σ τ → ∃ (r : Int32) (σ1 τ1 : ZS), fX6_falsePairs y1 y2 σ = some (r, σ1) ∧ fX7_falsePairs y1 y2 τ = some (r, τ1) ∧ R σ1 τ1
def zStep16 (R : ZS → ZS → Prop) : Prop := ∀ (σ τ : ZS) (y1 y2 : Int32), R σ τ → ∃ (r : Int32) (σ1 τ1 : ZS), fX6_ranked y1 y2 σ = some (r, σ1) ∧ fX7_ranked y1 y2 τ = some (r, τ1) ∧ R σ1 τ1
def zStep17 (R : ZS → ZS → Prop) : Prop := ∀ (σ τ : ZS) (y1 y2 y3 : Int32), R σ τ → ∃ (r : Int32) (σ1 τ1 : ZS), fX6_wish y1 y2 y3 σ = some (r, σ1) ∧ fX7_wish y1 y2 y3 τ = some (r, τ1) ∧ R σ1 τ1
def zStep18 (R : ZS → ZS → Prop) : Prop := ∀ (σ τ : ZS) (y1 y2 : Int32), R σ τ → ∃ (r : Int32) (σ1 τ1 : ZS), fX6_fewest y1 y2 σ = some (r, σ1) ∧ fX7_fewest y1 y2 τ = some (r, τ1) ∧ R σ1 τ1
def zStep19 (R : ZS → ZS → Prop) : Prop := ∀ (σ τ : ZS) (y1 y2 : Int32), R σ τ → ∃ (r : Int32) (σ1 τ1 : ZS), fX6_nearest y1 y2 σ = some (r, σ1) ∧ fX7_nearest y1 y2 τ = some (r, τ1) ∧ R σ1 τ1
def zStep20 (R : ZS → ZS → Prop) : Prop := ∀ (σ τ : ZS) (y1 y2 y3 : Int32), R σ τ → ∃ (r : Int32) (σ1 τ1 : ZS), fX6_without y1 y2 y3 σ = some (r, σ1) ∧ fX7_without y1 y2 y3 τ = some (r, τ1) ∧ R σ1 τ1
def zStep21 (R : ZS → ZS → Prop) : Prop := ∀ (σ τ : ZS) (y1 y2 y3 : Int32), R σ τ → ∃ (r : Int32) (σ1 τ1 : ZS), fX6_dark y1 y2 y3 σ = some (r, σ1) ∧ fX7_dark y1 y2 y3 τ = some (r, τ1) ∧ R σ1 τ1
def zStep22 (R : ZS → ZS → Prop) : Prop := ∀ (σ τ : ZS) (y1 y2 : Int32), R σ τ → ∃ (r : Int32) (σ1 τ1 : ZS), fX6_fades y1 y2 σ = some (r, σ1) ∧ fX7_fades y1 y2 τ = some (r, τ1) ∧ R σ1 τ1
def zStep23 (R : ZS → ZS → Prop) : Prop := ∀ (σ τ : ZS) (y1 y2 y3 y4 y5 : Int32), R σ τ → ∃ (r : Int32) (σ1 τ1 : ZS), fX6_was y1 y2 y3 y4 y5 σ = some (r, σ1) ∧ fX7_was y1 y2 y3 y4 y5 τ = some (r, τ1) ∧ R σ1 τ1
def zStep24 (R : ZS → ZS → Prop) : Prop := ∀ (σ τ : ZS) (y1 y2 y3 y4 y5 y6 y7 : Int32), R σ τ → ∃ (r : Int64) (σ1 τ1 : ZS), fX6_odds y1 y2 y3 y4 y5 y6 y7 σ = some (r, σ1) ∧ fX7_odds y1 y2 y3 y4 y5 y6 y7 τ = some (r, τ1) ∧ R σ1 τ1
def zStep25 (R : ZS → ZS → Prop) : Prop := ∀ (σ τ : ZS) (y1 : Int32), R σ τ → ∃ (r : Int32) (σ1 τ1 : ZS), fX6_spell y1 σ = some (r, σ1) ∧ fX7_spell y1 τ = some (r, τ1) ∧ R σ1 τ1
def zStep26 (R : ZS → ZS → Prop) : Prop := ∀ (σ τ : ZS) (y1 : Int32), R σ τ → ∃ (r : Int32) (σ1 τ1 : ZS), fX6_paper y1 σ = some (r, σ1) ∧ fX7_paper y1 τ = some (r, τ1) ∧ R σ1 τ1
def zStep27 (R : ZS → ZS → Prop) : Prop := ∀ (σ τ : ZS) (y1 y2 : Int32), R σ τ → ∃ (r : Int32) (σ1 τ1 : ZS), fX6_judge y1 y2 σ = some (r, σ1) ∧ fX7_judge y1 y2 τ = some (r, τ1) ∧ R σ1 τ1
def zStep28 (R : ZS → ZS → Prop) : Prop := ∀ (σ τ : ZS) (y1 : Int32), R σ τ → ∃ (r : Int32) (σ1 τ1 : ZS), fX6_change y1 σ = some (r, σ1) ∧ fX7_change y1 τ = some (r, τ1) ∧ R σ1 τ1
def zStep29 (R : ZS → ZS → Prop) : Prop := ∀ (σ τ : ZS) (y1 y2 : Int32), R σ τ → ∃ (r : Int32) (σ1 τ1 : ZS), fX6_list y1 y2 σ = some (r, σ1) ∧ fX7_list y1 y2 τ = some (r, τ1) ∧ R σ1 τ1
def zStep30 (R : ZS → ZS → Prop) : Prop := ∀ (σ τ : ZS) (y1 y2 y3 : Int32), R σ τ → ∃ (r : Int32) (σ1 τ1 : ZS), fX6_put y1 y2 y3 σ = some (r, σ1) ∧ fX7_put y1 y2 y3 τ = some (r, τ1) ∧ R σ1 τ1
def zStep31 (R : ZS → ZS → Prop) : Prop := ∀ (σ τ : ZS) (y1 y2 : Int32), R σ τ → ∃ (r : Int64) (σ1 τ1 : ZS), fX6_get y1 y2 σ = some (r, σ1) ∧ fX7_get y1 y2 τ = some (r, τ1) ∧ R σ1 τ1
def zStep32 (R : ZS → ZS → Prop) : Prop := ∀ (σ τ : ZS), R σ τ → ∃ (r : Int32) (σ1 τ1 : ZS), fX6_image  σ = some (r, σ1) ∧ fX7_image  τ = some (r, τ1) ∧ R σ1 τ1
def zStep33 (R : ZS → ZS → Prop) : Prop := ∀ (σ τ : ZS), R σ τ → ∃ (r : Int32) (σ1 τ1 : ZS), fX6_undo  σ = some (r, σ1) ∧ fX7_undo  τ = some (r, τ1) ∧ R σ1 τ1
def zStep34 (R : ZS → ZS → Prop) : Prop := ∀ (σ τ : ZS) (y1 : Int32), R σ τ → ∃ (r : Int32) (σ1 τ1 : ZS), fX6_count y1 σ = some (r, σ1) ∧ fX7_count y1 τ = some (r, τ1) ∧ R σ1 τ1
def zSteps (R : ZS → ZS → Prop) : Prop := zStep0 R ∧ zStep1 R ∧ zStep2 R ∧ zStep3 R ∧ zStep4 R ∧ zStep5 R ∧ zStep6 R ∧ zStep7 R ∧ zStep8 R ∧ zStep9 R ∧ zStep10 R ∧ zStep11 R ∧ zStep12 R ∧ zStep13 R ∧ zStep14 R ∧ zStep15 R ∧ zStep16 R ∧ zStep17 R ∧ zStep18 R ∧ zStep19 R ∧ zStep20 R ∧ zStep21 R ∧ zStep22 R ∧ zStep23 R ∧ zStep24 R ∧ zStep25 R ∧ zStep26 R ∧ zStep27 R ∧ zStep28 R ∧ zStep29 R ∧ zStep30 R ∧ zStep31 R ∧ zStep32 R ∧ zStep33 R ∧ zStep34 R
