/-! THE PROBLEM OF A WEEK, in whole numbers: scalars, rows by bill or line, sets -/
abbrev Pb : Type := (Int → Int) × (Int → Int → Int) × (Int → Int → Bool)
abbrev pNb (p : Pb) : Int := p.1 0
abbrev pDays (p : Pb) : Int := p.1 1
abbrev pFee (p : Pb) : Int := p.1 2
abbrev pFl (p : Pb) : Int := p.1 3
abbrev pLaw (p : Pb) : Int := p.1 4
abbrev pCash (p : Pb) : Int := p.1 5
abbrev pNl (p : Pb) : Int := p.1 6
abbrev pNet (p : Pb) (b : Int) : Int := p.2.1 0 b
abbrev pOff (p : Pb) (b : Int) : Int := p.2.1 1 b
abbrev pBy (p : Pb) (b : Int) : Int := p.2.1 2 b
abbrev pDue (p : Pb) (b : Int) : Int := p.2.1 3 b
abbrev pLate (p : Pb) (b : Int) : Int := p.2.1 4 b
abbrev pRk (p : Pb) (b : Int) : Int := p.2.1 5 b
abbrev pOf (p : Pb) (b : Int) : Int := p.2.1 6 b
abbrev pAmt (p : Pb) (i : Int) : Int := p.2.1 7 i
abbrev pOn (p : Pb) (i : Int) : Int := p.2.1 8 i
abbrev pCl (p : Pb) (d : Int) : Bool := p.2.2 0 d
abbrev pIn (p : Pb) (b : Int) : Bool := p.2.2 1 b
abbrev pCm (p : Pb) (i : Int) : Bool := p.2.2 2 i
/-- the numbers are as the document has them -/
def PV (p : Pb) : Prop := (0 ≤ pNb p ∧ pNb p ≤ 5) ∧ (1 ≤ pDays p ∧ pDays p ≤ 7) ∧ (0 ≤ pFee p ∧ pFee p ≤ 200) ∧ (0 ≤ pFl p ∧ pFl p ≤ 5000) ∧ (0 ≤ pLaw p ∧ pLaw p ≤ 3) ∧ (0 ≤ pCash p ∧ pCash p ≤ 9999) ∧ (0 ≤ pNl p ∧ pNl p ≤ 6) ∧
  (∀ b, 0 ≤ b → b < pNb p → (0 ≤ pNet p b ∧ pNet p b ≤ 3000) ∧ (0 ≤ pOff p b ∧ pOff p b ≤ 25) ∧ (0 ≤ pBy p b ∧ pBy p b ≤ 6) ∧ (0 ≤ pDue p b ∧ pDue p b ≤ 6) ∧ (0 ≤ pLate p b ∧ pLate p b ≤ 99) ∧ (0 ≤ pRk p b ∧ pRk p b ≤ 9) ∧ (0 ≤ pOf p b ∧ pOf p b ≤ 3)) ∧
  ∀ i, 0 ≤ i → i < pNl p → (0 ≤ pAmt p i ∧ pAmt p i ≤ 3000) ∧ (0 ≤ pOn p i ∧ pOn p i ≤ 6)
theorem PV.nb {p : Pb} (V : PV p) : 0 ≤ pNb p ∧ pNb p ≤ 5 := V.1
theorem PV.days {p : Pb} (V : PV p) : 1 ≤ pDays p ∧ pDays p ≤ 7 := V.2.1
theorem PV.fee {p : Pb} (V : PV p) : 0 ≤ pFee p ∧ pFee p ≤ 200 := V.2.2.1
theorem PV.fl {p : Pb} (V : PV p) : 0 ≤ pFl p ∧ pFl p ≤ 5000 := V.2.2.2.1
theorem PV.law {p : Pb} (V : PV p) : 0 ≤ pLaw p ∧ pLaw p ≤ 3 := V.2.2.2.2.1
theorem PV.cash {p : Pb} (V : PV p) : 0 ≤ pCash p ∧ pCash p ≤ 9999 := V.2.2.2.2.2.1
theorem PV.nl {p : Pb} (V : PV p) : 0 ≤ pNl p ∧ pNl p ≤ 6 := V.2.2.2.2.2.2.1
theorem PV.net {p : Pb} (V : PV p) {b : Int} (h0 : 0 ≤ b) (h1 : b < pNb p) : 0 ≤ pNet p b ∧ pNet p b ≤ 3000 := (V.2.2.2.2.2.2.2.1 b h0 h1).1
theorem PV.off {p : Pb} (V : PV p) {b : Int} (h0 : 0 ≤ b) (h1 : b < pNb p) : 0 ≤ pOff p b ∧ pOff p b ≤ 25 := (V.2.2.2.2.2.2.2.1 b h0 h1).2.1
theorem PV.by' {p : Pb} (V : PV p) {b : Int} (h0 : 0 ≤ b) (h1 : b < pNb p) : 0 ≤ pBy p b ∧ pBy p b ≤ 6 := (V.2.2.2.2.2.2.2.1 b h0 h1).2.2.1
theorem PV.due {p : Pb} (V : PV p) {b : Int} (h0 : 0 ≤ b) (h1 : b < pNb p) : 0 ≤ pDue p b ∧ pDue p b ≤ 6 := (V.2.2.2.2.2.2.2.1 b h0 h1).2.2.2.1
theorem PV.late {p : Pb} (V : PV p) {b : Int} (h0 : 0 ≤ b) (h1 : b < pNb p) : 0 ≤ pLate p b ∧ pLate p b ≤ 99 := (V.2.2.2.2.2.2.2.1 b h0 h1).2.2.2.2.1
theorem PV.rk {p : Pb} (V : PV p) {b : Int} (h0 : 0 ≤ b) (h1 : b < pNb p) : 0 ≤ pRk p b ∧ pRk p b ≤ 9 := (V.2.2.2.2.2.2.2.1 b h0 h1).2.2.2.2.2.1
theorem PV.of' {p : Pb} (V : PV p) {b : Int} (h0 : 0 ≤ b) (h1 : b < pNb p) : 0 ≤ pOf p b ∧ pOf p b ≤ 3 := (V.2.2.2.2.2.2.2.1 b h0 h1).2.2.2.2.2.2
theorem PV.amt {p : Pb} (V : PV p) {i : Int} (h0 : 0 ≤ i) (h1 : i < pNl p) : 0 ≤ pAmt p i ∧ pAmt p i ≤ 3000 := (V.2.2.2.2.2.2.2.2 i h0 h1).1
theorem PV.on' {p : Pb} (V : PV p) {i : Int} (h0 : 0 ≤ i) (h1 : i < pNl p) : 0 ≤ pOn p i ∧ pOn p i ≤ 6 := (V.2.2.2.2.2.2.2.2 i h0 h1).2
/-- what off takes; days from by to due; what being late costs; what a bill costs -/
def gainP (p : Pb) (b : Int) : Int := (pNet p b * pOff p b).tdiv 100
def spanP (p : Pb) (b : Int) : Int := if pDue p b - pBy p b > 0 then pDue p b - pBy p b else 1
def penP (p : Pb) (b d : Int) : Int := if d - pDue p b > 0 then (d - pDue p b) * pLate p b else 0
def priceP (p : Pb) (b d : Int) : Int := pNet p b - (if d < pDays p ∧ d ≤ pBy p b then gainP p b else 0) + penP p b d
theorem mulB {a b A B : Int} (h0 : 0 ≤ a) (h1 : a ≤ A) (g0 : 0 ≤ b) (g1 : b ≤ B) : 0 ≤ a * b ∧ a * b ≤ A * B :=
  ⟨Int.mul_nonneg h0 g0, Int.mul_le_mul h1 g1 g0 (Int.le_trans h0 h1)⟩
theorem gainB {p : Pb} (V : PV p) {b : Int} (h0 : 0 ≤ b) (h1 : b < pNb p) : 0 ≤ gainP p b ∧ 4 * gainP p b ≤ pNet p b := by
  have n := V.net h0 h1
  have o := V.off h0 h1
  have m := mulB n.1 n.2 o.1 o.2
  unfold gainP
  rw [Int.tdiv_eq_ediv_of_nonneg m.1]
  have k : pNet p b * pOff p b ≤ pNet p b * 25 := Int.mul_le_mul_of_nonneg_left o.2 n.1
  omega
theorem spanB {p : Pb} (V : PV p) {b : Int} (h0 : 0 ≤ b) (h1 : b < pNb p) : 1 ≤ spanP p b ∧ spanP p b ≤ 6 := by
  have n := V.by' h0 h1
  have o := V.due h0 h1
  unfold spanP
  split <;> omega
theorem penB {p : Pb} (V : PV p) {b d : Int} (h0 : 0 ≤ b) (h1 : b < pNb p) (hd : d ≤ 7) : 0 ≤ penP p b d ∧ penP p b d ≤ 693 := by
  have o := V.due h0 h1
  have l := V.late h0 h1
  unfold penP
  split
  · exact mulB (by omega) (show d - pDue p b ≤ 7 by omega) l.1 l.2
  · omega
theorem priceB {p : Pb} (V : PV p) {b d : Int} (h0 : 0 ≤ b) (h1 : b < pNb p) (hd : d ≤ 7) : 0 ≤ priceP p b d ∧ priceP p b d ≤ 3693 := by
  have n := V.net h0 h1
  have g := gainB V h0 h1
  have q := penB V h0 h1 hd
  unfold priceP
  split <;> omega
/-! how the class holds a problem: Week at 14, its desk at 15 -/
def bitB (x k : Int) : Bool := zAnd (zShr x k) 1 == 1
def WC (h : zH) (p : Pb) : Prop := h 15 8 = pNb p ∧ h 15 1 = pDays p ∧ h 15 6 = pFee p ∧ h 14 3 = pFl p ∧ h 14 1 = pLaw p ∧ h 14 2 = pCash p ∧ h 15 9 = pNl p ∧
  (∀ b, 0 ≤ b → b < pNb p → h 26 b = pNet p b ∧ h 27 b = pOff p b ∧ h (18 + b) 3 = pBy p b ∧ h (18 + b) 4 = pDue p b ∧ h (18 + b) 5 = pLate p b ∧ h 16 (pOf p b) = pRk p b ∧ h (18 + b) 0 = pOf p b) ∧
  (∀ i, 0 ≤ i → i < pNl p → h 23 i = pAmt p i ∧ h 24 i = pOn p i) ∧ (∀ d, 0 ≤ d → d < 7 → bitB (h 14 4) d = pCl p d) ∧ (∀ b, 0 ≤ b → b < pNb p → bitB (h 14 5) b = pIn p b) ∧ ∀ i, 0 ≤ i → i < pNl p → bitB (h 14 6) i = pCm p i
theorem WC.nb {h : zH} {p : Pb} (R : WC h p) : h 15 8 = pNb p := R.1
theorem WC.days {h : zH} {p : Pb} (R : WC h p) : h 15 1 = pDays p := R.2.1
theorem WC.fee {h : zH} {p : Pb} (R : WC h p) : h 15 6 = pFee p := R.2.2.1
theorem WC.fl {h : zH} {p : Pb} (R : WC h p) : h 14 3 = pFl p := R.2.2.2.1
theorem WC.law {h : zH} {p : Pb} (R : WC h p) : h 14 1 = pLaw p := R.2.2.2.2.1
theorem WC.cash {h : zH} {p : Pb} (R : WC h p) : h 14 2 = pCash p := R.2.2.2.2.2.1
theorem WC.nl {h : zH} {p : Pb} (R : WC h p) : h 15 9 = pNl p := R.2.2.2.2.2.2.1
theorem WC.net {h : zH} {p : Pb} (R : WC h p) {b : Int} (h0 : 0 ≤ b) (h1 : b < pNb p) : h 26 b = pNet p b := (R.2.2.2.2.2.2.2.1 b h0 h1).1
theorem WC.off {h : zH} {p : Pb} (R : WC h p) {b : Int} (h0 : 0 ≤ b) (h1 : b < pNb p) : h 27 b = pOff p b := (R.2.2.2.2.2.2.2.1 b h0 h1).2.1
theorem WC.by' {h : zH} {p : Pb} (R : WC h p) {b : Int} (h0 : 0 ≤ b) (h1 : b < pNb p) : h (18 + b) 3 = pBy p b := (R.2.2.2.2.2.2.2.1 b h0 h1).2.2.1
theorem WC.due {h : zH} {p : Pb} (R : WC h p) {b : Int} (h0 : 0 ≤ b) (h1 : b < pNb p) : h (18 + b) 4 = pDue p b := (R.2.2.2.2.2.2.2.1 b h0 h1).2.2.2.1
theorem WC.late {h : zH} {p : Pb} (R : WC h p) {b : Int} (h0 : 0 ≤ b) (h1 : b < pNb p) : h (18 + b) 5 = pLate p b := (R.2.2.2.2.2.2.2.1 b h0 h1).2.2.2.2.1
theorem WC.rk {h : zH} {p : Pb} (R : WC h p) {b : Int} (h0 : 0 ≤ b) (h1 : b < pNb p) : h 16 (pOf p b) = pRk p b := (R.2.2.2.2.2.2.2.1 b h0 h1).2.2.2.2.2.1
theorem WC.of' {h : zH} {p : Pb} (R : WC h p) {b : Int} (h0 : 0 ≤ b) (h1 : b < pNb p) : h (18 + b) 0 = pOf p b := (R.2.2.2.2.2.2.2.1 b h0 h1).2.2.2.2.2.2
theorem WC.amt {h : zH} {p : Pb} (R : WC h p) {i : Int} (h0 : 0 ≤ i) (h1 : i < pNl p) : h 23 i = pAmt p i := (R.2.2.2.2.2.2.2.2.1 i h0 h1).1
theorem WC.on' {h : zH} {p : Pb} (R : WC h p) {i : Int} (h0 : 0 ≤ i) (h1 : i < pNl p) : h 24 i = pOn p i := (R.2.2.2.2.2.2.2.2.1 i h0 h1).2
theorem WC.cl {h : zH} {p : Pb} (R : WC h p) {d : Int} (h0 : 0 ≤ d) (h1 : d < 7) : bitB (h 14 4) d = pCl p d := R.2.2.2.2.2.2.2.2.2.1 d h0 h1
theorem WC.in' {h : zH} {p : Pb} (R : WC h p) {b : Int} (h0 : 0 ≤ b) (h1 : b < pNb p) : bitB (h 14 5) b = pIn p b := R.2.2.2.2.2.2.2.2.2.2.1 b h0 h1
theorem WC.cm {h : zH} {p : Pb} (R : WC h p) {i : Int} (h0 : 0 ≤ i) (h1 : i < pNl p) : bitB (h 14 6) i = pCm p i := R.2.2.2.2.2.2.2.2.2.2.2 i h0 h1
