/-! what the kernel checks of the tables: each row is the decoded instruction, each pool entry is a word of the claim; written by wip/whole/emitchk.py -/
/-- the method that a call names; of 1000 on: by a link between nest mates -/
def mv_z (a : Int) : Nat := (a % 1000).toNat
def mv_ce (t : Nat) : Nat := if t = 13 then 0 else if t = 15 then 1 else 2
def mv_pk (y : Nat) (i : Instr) (a : Int) (pl : List Nat) : Bool := match i, pl with
  | .ldc x, [p] => mv_at (.constant (mv_ow y) x (Int32.ofInt a)) p
  | .ldc_w x, [p] => mv_at (.constant (mv_ow y) x (Int32.ofInt a)) p
  | .ldc2_w x, [p] => mv_at (.constantLong (mv_ow y) x (Int64.ofInt a)) p
  | .getfield x, [p] => mv_at (.fieldLink (mv_ow y) x (mv_cn (a / 100).toNat) (mv_cT (a / 100).toNat (a % 100).toNat).2.1 (mv_cT (a / 100).toNat (a % 100).toNat).2.2.1) p || mv_at (.fieldLinkNest (mv_ow y) x (mv_cn (a / 100).toNat) (mv_cT (a / 100).toNat (a % 100).toNat).2.1 (mv_cT (a / 100).toNat (a % 100).toNat).2.2.1 "LineTemplates") p
  | .putfield x, [p] => mv_at (.fieldLink (mv_ow y) x (mv_cn (a / 100).toNat) (mv_cT (a / 100).toNat (a % 100).toNat).2.1 (mv_cT (a / 100).toNat (a % 100).toNat).2.2.1) p && ((mv_cT (a / 100).toNat (a % 100).toNat).2.2.2 == false || (decide ((mv_y y).name = "<init>") && decide (mv_cn (a / 100).toNat = mv_ow y)))
  | .invokestatic x, [p] => (if a < 1000 then mv_at (.methodLink (mv_ow y) x (mv_y (mv_z a))) p else mv_at (.methodLinkNest (mv_ow y) x (mv_y (mv_z a)) "LineTemplates") p && (mv_hh (mv_z a)).isEmpty) && decide (mv_fr (mv_z a) + 1 ≤ mv_fr y) && decide (8 + ((mv_m (mv_z a)).2.2.1 + 11) + mv_lo (mv_z a) ≤ mv_lo y) && mv_sb (mv_z a)
  | .invokevirtual x, [p] => (if a < 1000 then mv_at (.methodLink (mv_ow y) x (mv_y (mv_z a))) p else mv_at (.methodLinkNest (mv_ow y) x (mv_y (mv_z a)) "LineTemplates") p) && decide (mv_fr (mv_z a) + 1 ≤ mv_fr y) && decide (8 + ((mv_m (mv_z a)).2.2.1 + 11) + mv_lo (mv_z a) ≤ mv_lo y) && (mv_sb (mv_z a) == false) && (mv_hh (mv_z a)).isEmpty && decide ((mv_y (mv_z a)).name ≠ "<init>")
  | .invokespecial x, [p] => (if a < 1000 then mv_at (.methodLink (mv_ow y) x (mv_y (mv_z a))) p else mv_at (.methodLinkNest (mv_ow y) x (mv_y (mv_z a)) "LineTemplates") p && decide (mv_z a ≠ 3)) && decide (mv_fr (mv_z a) + 1 ≤ mv_fr y) && decide (8 + ((mv_m (mv_z a)).2.2.1 + 11) + mv_lo (mv_z a) ≤ mv_lo y) && (mv_sb (mv_z a) == false) && (mv_hh (mv_z a)).isEmpty && decide ((mv_y (mv_z a)).name = "<init>")
  | .new x, [p] => if a < 0 then mv_at (.classLink (mv_ow y) x (mv_xn (-1 - a).toNat)) p && decide (mv_ow y = "LineTemplates") && decide (-3 ≤ a) && (mv_hh y).isEmpty else mv_at (.classLink (mv_ow y) x (mv_cn a.toNat)) p
  | .anewarray x, [p] => mv_at (.classLink (mv_ow y) x (mv_cn (a - 13).toNat)) p && (decide (a = 14) || decide (a = 15))
  | .ldc _, _ => false
  | .ldc_w _, _ => false
  | .ldc2_w _, _ => false
  | .getfield _, _ => false
  | .putfield _, _ => false
  | .invokestatic _, _ => false
  | .invokevirtual _, _ => false
  | .invokespecial _, _ => false
  | .new _, _ => false
  | .anewarray _, _ => false
  | _, _ => true
def mv_pz (y : Nat) : mv_K → List (List Nat) → Bool
  | [], _ => true
  | (_, i, a) :: k, pl :: r => mv_pk y i a pl && mv_pz y k r
  | _ :: _, [] => false
def mv_rkt (k : Nat) (r : Option FieldType) : Bool := match k with
  | 0 => decide (r = some .int)
  | 1 => decide (r = some .long)
  | 2 => match r with
    | some (.object _) => true
    | _ => false
  | 3 => decide (r = none)
  | _ => decide (r = some .boolean)
def mv_mk (z : Nat) (pl : List Nat) : Bool := match pl with
  | c :: i :: r => mv_at (.initialized (mv_ow z)) i && plainFor (mv_y z) && decide (mv_ow z ≠ "java/lang/invoke/MethodHandle") && decide (mv_ow z ≠ "java/lang/invoke/VarHandle") && mv_rkt (mv_m z).2.2.2.1 (mv_rt z) && decide ((mv_m z).2.2.2.2.2 = (mv_hh z).map fun q => (q.1, q.2.1, q.2.2.1, mv_ce q.2.2.2)) && (mv_hh z).all (fun q => decide (q.2.2.2 = 13) || decide (q.2.2.2 = 15) || decide (q.2.2.2 = 24)) && (decide (mv_ow z = "LineTemplatesLaw") || (mv_hh z).isEmpty) &&
    (if (mv_hh z).isEmpty then mv_at (.code (mv_y z) (mv_by z) (mv_m z).2.2.1 (mv_rt z)) c else mv_at (.codeWith (mv_y z) (mv_by z) (mv_m z).2.2.1 (mv_rt z) (mv_hh z)) c && mv_sb z) &&
    (if mv_sb z then (match r with
      | [s] => mv_at (.static (mv_y z)) s && decide ((parseMethodDescriptor (mv_y z).desc).map (fun d => d.parameters.length) = some (mv_m z).2.1)
      | _ => false)
    else decide ((parseMethodDescriptor (mv_y z).desc).map (fun d => d.parameters.length + 1) = some (mv_m z).2.1) && decide ((mv_m z).2.2.2.2.1 < 5) && decide (mv_cn (mv_m z).2.2.2.2.1 = mv_ow z) && (match r with
      | [im] => mv_at (.instanceMethod (mv_y z)) im && decide ((mv_y z).name = "<init>") && decide ((mv_m z).2.2.2.1 = 3)
      | [im, se] => mv_at (.instanceMethod (mv_y z)) im && mv_at (.selects (mv_ow z) (mv_y z) (mv_y z)) se
      | _ => false))
  | _ => decide (z = 3) || decide (205 ≤ z)
