/-! names, fields, links (by program out of the printed names and the words of the Statement) -/
def RX0 : String := "WeighCourt$Balance"
def TX0 : u_T := fun k => match k with
  | 0 => ("WeighCourt$Balance", "kind", "I", true)
  | 1 => ("WeighCourt$Balance", "members", "[LWeighCourt$Balance;", true)
  | 2 => ("WeighCourt$Balance", "trace", "LWeighCourt$Trace;", true)
  | 3 => ("WeighCourt$Balance", "left", "LWeighCourt$Pan;", true)
  | 4 => ("WeighCourt$Balance", "right", "LWeighCourt$Pan;", true)
  | 5 => ("WeighCourt$Balance", "reach", "I", true)
  | 6 => ("WeighCourt$Balance", "taken", "Z", false)
  | 7 => ("WeighCourt$Balance", "used", "I", false)
  | _ => ("WeighCourt$Balance", "complaint", "I", false)
def tyX0 : Nat → FieldType := fun k => match k with
  | 0 => .int
  | 1 => .array (.object "WeighCourt$Balance")
  | 2 => .object "WeighCourt$Trace"
  | 3 => .object "WeighCourt$Pan"
  | 4 => .object "WeighCourt$Pan"
  | 5 => .int
  | 6 => .boolean
  | 7 => .int
  | _ => .int
def RX1 : String := "WeighCourt$Jury"
def TX1 : u_T := fun k => match k with
  | 0 => ("WeighCourt$Jury", "left", "[J", true)
  | 1 => ("WeighCourt$Jury", "right", "[J", true)
  | 2 => ("WeighCourt$Jury", "sentenced", "Z", false)
  | 3 => ("WeighCourt$Jury", "leastShared", "I", false)
  | 4 => ("WeighCourt$Jury", "unlikeRows", "I", false)
  | 5 => ("WeighCourt$Jury", "crowd", "I", false)
  | 6 => ("WeighCourt$Jury", "rowOf", "[I", false)
  | _ => ("WeighCourt$Jury", "having", "[I", false)
def tyX1 : Nat → FieldType := fun k => match k with
  | 0 => .array .long
  | 1 => .array .long
  | 2 => .boolean
  | 3 => .int
  | 4 => .int
  | 5 => .int
  | 6 => .array .int
  | _ => .array .int
def RX2 : String := "WeighCourt$Pan"
def TX2 : u_T := fun k => match k with
  | 0 => ("WeighCourt$Pan", "lying", "[I", true)
  | _ => ("WeighCourt$Pan", "places", "I", false)
def tyX2 : Nat → FieldType := fun k => match k with
  | 0 => .array .int
  | _ => .int
def RX3 : String := "WeighCourt$Question"
def TX3 : u_T := fun k => match k with
  | 0 => ("WeighCourt$Question", "lies", "[I", true)
  | 1 => ("WeighCourt$Question", "told", "[I", true)
  | 2 => ("WeighCourt$Question", "weighings", "LWeighCourt$Weighings;", true)
  | 3 => ("WeighCourt$Question", "size", "I", false)
  | 4 => ("WeighCourt$Question", "left", "I", false)
  | 5 => ("WeighCourt$Question", "most", "I", false)
  | 6 => ("WeighCourt$Question", "outcome", "I", false)
  | 7 => ("WeighCourt$Question", "node", "I", false)
  | 8 => ("WeighCourt$Question", "firstRow", "I", false)
  | _ => ("WeighCourt$Question", "ownRow", "I", false)
def tyX3 : Nat → FieldType := fun k => match k with
  | 0 => .array .int
  | 1 => .array .int
  | 2 => .object "WeighCourt$Weighings"
  | 3 => .int
  | 4 => .int
  | 5 => .int
  | 6 => .int
  | 7 => .int
  | 8 => .int
  | _ => .int
def RX4 : String := "WeighCourt$Rows"
def TX4 : u_T := fun k => match k with
  | 0 => ("WeighCourt$Rows", "number", "[I", false)
  | 1 => ("WeighCourt$Rows", "told", "[I", false)
  | _ => ("WeighCourt$Rows", "size", "I", false)
def tyX4 : Nat → FieldType := fun k => match k with
  | 0 => .array .int
  | 1 => .array .int
  | _ => .int
def RX5 : String := "WeighCourt$Search"
def TX5 : u_T := fun k => match k with
  | 0 => ("WeighCourt$Search", "truths", "LWeighCourt$Truths;", true)
  | 1 => ("WeighCourt$Search", "suspects", "LWeighCourt$Suspects;", true)
  | 2 => ("WeighCourt$Search", "questions", "[LWeighCourt$Question;", false)
  | 3 => ("WeighCourt$Search", "nodes", "LWeighCourt$Tree;", true)
  | 4 => ("WeighCourt$Search", "growing", "LWeighCourt$Rows;", false)
  | 5 => ("WeighCourt$Search", "whole", "LWeighCourt$Rows;", false)
  | 6 => ("WeighCourt$Search", "on", "LWeighCourt$Balance;", false)
  | 7 => ("WeighCourt$Search", "firstTurn", "I", false)
  | 8 => ("WeighCourt$Search", "mostLies", "I", false)
  | 9 => ("WeighCourt$Search", "outcomesOfOne", "I", false)
  | 10 => ("WeighCourt$Search", "goal", "I", false)
  | 11 => ("WeighCourt$Search", "level", "I", false)
  | 12 => ("WeighCourt$Search", "asking", "Z", false)
  | 13 => ("WeighCourt$Search", "over", "Z", false)
  | 14 => ("WeighCourt$Search", "rowsChecked", "I", false)
  | 15 => ("WeighCourt$Search", "steps", "I", false)
  | 16 => ("WeighCourt$Search", "leastFound", "I", false)
  | _ => ("WeighCourt$Search", "rowsAsked", "Z", false)
def tyX5 : Nat → FieldType := fun k => match k with
  | 0 => .object "WeighCourt$Truths"
  | 1 => .object "WeighCourt$Suspects"
  | 2 => .array (.object "WeighCourt$Question")
  | 3 => .object "WeighCourt$Tree"
  | 4 => .object "WeighCourt$Rows"
  | 5 => .object "WeighCourt$Rows"
  | 6 => .object "WeighCourt$Balance"
  | 7 => .int
  | 8 => .int
  | 9 => .int
  | 10 => .int
  | 11 => .int
  | 12 => .boolean
  | 13 => .boolean
  | 14 => .int
  | 15 => .int
  | 16 => .int
  | _ => .boolean
def RX6 : String := "WeighCourt$Suspects"
def TX6 : u_T := fun k => match k with
  | 0 => ("WeighCourt$Suspects", "truth", "[I", true)
  | 1 => ("WeighCourt$Suspects", "lies", "[I", true)
  | 2 => ("WeighCourt$Suspects", "coins", "I", false)
  | 3 => ("WeighCourt$Suspects", "size", "I", false)
  | _ => ("WeighCourt$Suspects", "image", "[I", false)
def tyX6 : Nat → FieldType := fun k => match k with
  | 0 => .array .int
  | 1 => .array .int
  | 2 => .int
  | 3 => .int
  | _ => .array .int
def RX7 : String := "WeighCourt$Trace"
def TX7 : u_T := fun k => match k with
  | 0 => ("WeighCourt$Trace", "numbers", "[I", true)
  | 1 => ("WeighCourt$Trace", "size", "I", false)
  | _ => ("WeighCourt$Trace", "open", "Z", false)
def tyX7 : Nat → FieldType := fun k => match k with
  | 0 => .array .int
  | 1 => .int
  | _ => .boolean
def RX8 : String := "WeighCourt$Tree"
def TX8 : u_T := fun k => match k with
  | 0 => ("WeighCourt$Tree", "cells", "[I", false)
  | _ => ("WeighCourt$Tree", "size", "I", false)
def tyX8 : Nat → FieldType := fun k => match k with
  | 0 => .array .int
  | _ => .int
def RX9 : String := "WeighCourt$Truths"
def TX9 : u_T := fun k => match k with
  | 0 => ("WeighCourt$Truths", "coins", "I", false)
  | 1 => ("WeighCourt$Truths", "size", "I", false)
  | 2 => ("WeighCourt$Truths", "left", "I", false)
  | 3 => ("WeighCourt$Truths", "weighings", "I", false)
  | 4 => ("WeighCourt$Truths", "leastFalse", "I", false)
  | 5 => ("WeighCourt$Truths", "kinds", "I", false)
  | 6 => ("WeighCourt$Truths", "heavier", "[J", false)
  | 7 => ("WeighCourt$Truths", "lighter", "[J", false)
  | 8 => ("WeighCourt$Truths", "lieBits", "[I", false)
  | 9 => ("WeighCourt$Truths", "struckBy", "[I", false)
  | _ => ("WeighCourt$Truths", "picked", "[I", true)
def tyX9 : Nat → FieldType := fun k => match k with
  | 0 => .int
  | 1 => .int
  | 2 => .int
  | 3 => .int
  | 4 => .int
  | 5 => .int
  | 6 => .array .long
  | 7 => .array .long
  | 8 => .array .int
  | 9 => .array .int
  | _ => .array .int
def RX10 : String := "WeighCourt$Weighings"
def TX10 : u_T := fun k => match k with
  | 0 => ("WeighCourt$Weighings", "groupOf", "[I", true)
  | 1 => ("WeighCourt$Weighings", "leastOf", "[I", true)
  | 2 => ("WeighCourt$Weighings", "sizeOf", "[I", true)
  | 3 => ("WeighCourt$Weighings", "onLeft", "[I", true)
  | 4 => ("WeighCourt$Weighings", "onRight", "[I", true)
  | 5 => ("WeighCourt$Weighings", "coins", "I", false)
  | 6 => ("WeighCourt$Weighings", "groups", "I", false)
  | 7 => ("WeighCourt$Weighings", "onEach", "I", false)
  | 8 => ("WeighCourt$Weighings", "number", "I", false)
  | 9 => ("WeighCourt$Weighings", "lefts", "I", false)
  | _ => ("WeighCourt$Weighings", "rights", "I", false)
def tyX10 : Nat → FieldType := fun k => match k with
  | 0 => .array .int
  | 1 => .array .int
  | 2 => .array .int
  | 3 => .array .int
  | 4 => .array .int
  | 5 => .int
  | 6 => .int
  | 7 => .int
  | 8 => .int
  | 9 => .int
  | _ => .int
def RX11 : String := "WeighCourt"
def TX11 : u_T := fun k => match k with
  | 0 => ("WeighCourt", "truths", "LWeighCourt$Truths;", true)
  | 1 => ("WeighCourt", "balances", "[LWeighCourt$Balance;", true)
  | 2 => ("WeighCourt", "noted", "LWeighCourt$Trace;", true)
  | 3 => ("WeighCourt", "quest", "LWeighCourt$Search;", true)
  | 4 => ("WeighCourt", "jury", "LWeighCourt$Jury;", true)
  | 5 => ("WeighCourt", "came", "I", false)
  | 6 => ("WeighCourt", "mostLies", "I", false)
  | 7 => ("WeighCourt", "stepsTold", "I", false)
  | 8 => ("WeighCourt", "latestFinding", "I", false)
  | _ => ("WeighCourt", "findings", "I", false)
def tyX11 : Nat → FieldType := fun k => match k with
  | 0 => .object "WeighCourt$Truths"
  | 1 => .array (.object "WeighCourt$Balance")
  | 2 => .object "WeighCourt$Trace"
  | 3 => .object "WeighCourt$Search"
  | 4 => .object "WeighCourt$Jury"
  | 5 => .int
  | 6 => .int
  | 7 => .int
  | 8 => .int
  | _ => .int
def RX12 : String := "WeighCourtModel"
def TX12 : u_T := fun k => match k with
  | 0 => ("WeighCourtModel", "status", "I", false)
  | 1 => ("WeighCourtModel", "findings", "I", false)
  | 2 => ("WeighCourtModel", "coins", "I", false)
  | 3 => ("WeighCourtModel", "kinds", "I", false)
  | 4 => ("WeighCourtModel", "lies", "I", false)
  | 5 => ("WeighCourtModel", "truths", "I", false)
  | 6 => ("WeighCourtModel", "base", "[I", true)
  | 7 => ("WeighCourtModel", "falseMany", "[I", true)
  | 8 => ("WeighCourtModel", "falseCoin", "[I", true)
  | 9 => ("WeighCourtModel", "falseSign", "[I", true)
  | 10 => ("WeighCourtModel", "lied", "[I", true)
  | 11 => ("WeighCourtModel", "struck", "[I", true)
  | 12 => ("WeighCourtModel", "liedIn", "[I", true)
  | 13 => ("WeighCourtModel", "weighings", "I", false)
  | 14 => ("WeighCourtModel", "ranked", "[I", true)
  | 15 => ("WeighCourtModel", "rankedSign", "[I", true)
  | 16 => ("WeighCourtModel", "came", "I", false)
  | 17 => ("WeighCourtModel", "kind", "[I", true)
  | 18 => ("WeighCourtModel", "used", "[I", true)
  | 19 => ("WeighCourtModel", "complaint", "[I", true)
  | 20 => ("WeighCourtModel", "pan", "[I", true)
  | 21 => ("WeighCourtModel", "place", "[I", true)
  | 22 => ("WeighCourtModel", "member", "[I", true)
  | 23 => ("WeighCourtModel", "memberMany", "[I", true)
  | 24 => ("WeighCourtModel", "trace", "[I", true)
  | 25 => ("WeighCourtModel", "traced", "I", false)
  | 26 => ("WeighCourtModel", "isTracing", "Z", false)
  | 27 => ("WeighCourtModel", "moving", "[I", true)
  | 28 => ("WeighCourtModel", "weigher", "I", false)
  | 29 => ("WeighCourtModel", "side", "[I", true)
  | 30 => ("WeighCourtModel", "isTwice", "Z", false)
  | 31 => ("WeighCourtModel", "onLeft", "I", false)
  | 32 => ("WeighCourtModel", "onRight", "I", false)
  | 33 => ("WeighCourtModel", "isSearch", "Z", false)
  | 34 => ("WeighCourtModel", "isOver", "Z", false)
  | 35 => ("WeighCourtModel", "least", "I", false)
  | 36 => ("WeighCourtModel", "onBalance", "I", false)
  | 37 => ("WeighCourtModel", "steps", "I", false)
  | 38 => ("WeighCourtModel", "toldSteps", "I", false)
  | 39 => ("WeighCourtModel", "allowed", "I", false)
  | 40 => ("WeighCourtModel", "seekMany", "I", false)
  | 41 => ("WeighCourtModel", "seek", "[I", true)
  | 42 => ("WeighCourtModel", "swapped", "[I", true)
  | 43 => ("WeighCourtModel", "lvLies", "[I", true)
  | 44 => ("WeighCourtModel", "lvN", "[I", true)
  | 45 => ("WeighCourtModel", "lvTurn", "[I", true)
  | 46 => ("WeighCourtModel", "lvMost", "[I", true)
  | 47 => ("WeighCourtModel", "lvOut", "[I", true)
  | 48 => ("WeighCourtModel", "lvMark", "[I", true)
  | 49 => ("WeighCourtModel", "lvPans", "[I", true)
  | 50 => ("WeighCourtModel", "lvNumber", "[I", true)
  | 51 => ("WeighCourtModel", "lvGroups", "[I", true)
  | 52 => ("WeighCourtModel", "lvGroup", "[I", true)
  | 53 => ("WeighCourtModel", "lvSize", "[I", true)
  | 54 => ("WeighCourtModel", "lvLeft", "[I", true)
  | 55 => ("WeighCourtModel", "lvRight", "[I", true)
  | 56 => ("WeighCourtModel", "lvSide", "[I", true)
  | 57 => ("WeighCourtModel", "level", "I", false)
  | 58 => ("WeighCourtModel", "phase", "I", false)
  | 59 => ("WeighCourtModel", "isKept", "Z", false)
  | 60 => ("WeighCourtModel", "recs", "I", false)
  | 61 => ("WeighCourtModel", "recPans", "[I", true)
  | 62 => ("WeighCourtModel", "recLeft", "[I", true)
  | 63 => ("WeighCourtModel", "recRight", "[I", true)
  | 64 => ("WeighCourtModel", "recTruth", "[I", true)
  | 65 => ("WeighCourtModel", "recMany", "[I", true)
  | 66 => ("WeighCourtModel", "recLevel", "[I", true)
  | 67 => ("WeighCourtModel", "recOut", "[I", true)
  | 68 => ("WeighCourtModel", "recSize", "[I", true)
  | 69 => ("WeighCourtModel", "recNumber", "[I", true)
  | 70 => ("WeighCourtModel", "recNext", "[I", true)
  | 71 => ("WeighCourtModel", "recChild", "[I", true)
  | 72 => ("WeighCourtModel", "recOf", "[I", true)
  | 73 => ("WeighCourtModel", "nodes", "I", false)
  | 74 => ("WeighCourtModel", "seekAt", "[I", true)
  | 75 => ("WeighCourtModel", "heads", "[I", true)
  | 76 => ("WeighCourtModel", "rows", "I", false)
  | 77 => ("WeighCourtModel", "hasRows", "Z", false)
  | 78 => ("WeighCourtModel", "isProved", "Z", false)
  | 79 => ("WeighCourtModel", "rowOne", "[I", true)
  | 80 => ("WeighCourtModel", "rowTwo", "[I", true)
  | 81 => ("WeighCourtModel", "fixLeft", "[J", true)
  | 82 => ("WeighCourtModel", "fixRight", "[J", true)
  | 83 => ("WeighCourtModel", "isJudged", "Z", false)
  | 84 => ("WeighCourtModel", "sharedLeast", "I", false)
  | 85 => ("WeighCourtModel", "unlike", "I", false)
  | 86 => ("WeighCourtModel", "largest", "I", false)
  | 87 => ("WeighCourtModel", "rowMany", "[I", true)
  | _ => ("WeighCourtModel", "rowOf", "[I", true)
def tyX12 : Nat → FieldType := fun k => match k with
  | 0 => .int
  | 1 => .int
  | 2 => .int
  | 3 => .int
  | 4 => .int
  | 5 => .int
  | 6 => .array .int
  | 7 => .array .int
  | 8 => .array .int
  | 9 => .array .int
  | 10 => .array .int
  | 11 => .array .int
  | 12 => .array .int
  | 13 => .int
  | 14 => .array .int
  | 15 => .array .int
  | 16 => .int
  | 17 => .array .int
  | 18 => .array .int
  | 19 => .array .int
  | 20 => .array .int
  | 21 => .array .int
  | 22 => .array .int
  | 23 => .array .int
  | 24 => .array .int
  | 25 => .int
  | 26 => .boolean
  | 27 => .array .int
  | 28 => .int
  | 29 => .array .int
  | 30 => .boolean
  | 31 => .int
  | 32 => .int
  | 33 => .boolean
  | 34 => .boolean
  | 35 => .int
  | 36 => .int
  | 37 => .int
  | 38 => .int
  | 39 => .int
  | 40 => .int
  | 41 => .array .int
  | 42 => .array .int
  | 43 => .array .int
  | 44 => .array .int
  | 45 => .array .int
  | 46 => .array .int
  | 47 => .array .int
  | 48 => .array .int
  | 49 => .array .int
  | 50 => .array .int
  | 51 => .array .int
  | 52 => .array .int
  | 53 => .array .int
  | 54 => .array .int
  | 55 => .array .int
  | 56 => .array .int
  | 57 => .int
  | 58 => .int
  | 59 => .boolean
  | 60 => .int
  | 61 => .array .int
  | 62 => .array .int
  | 63 => .array .int
  | 64 => .array .int
  | 65 => .array .int
  | 66 => .array .int
  | 67 => .array .int
  | 68 => .array .int
  | 69 => .array .int
  | 70 => .array .int
  | 71 => .array .int
  | 72 => .array .int
  | 73 => .int
  | 74 => .array .int
  | 75 => .array .int
  | 76 => .int
  | 77 => .boolean
  | 78 => .boolean
  | 79 => .array .int
  | 80 => .array .int
  | 81 => .array .long
  | 82 => .array .long
  | 83 => .boolean
  | 84 => .int
  | 85 => .int
  | 86 => .int
  | 87 => .array .int
  | _ => .array .int
def vwCl : List vw_C := [(RX0, TX0, 9), (RX1, TX1, 8), (RX2, TX2, 2), (RX3, TX3, 10), (RX4, TX4, 3), (RX5, TX5, 18), (RX6, TX6, 5), (RX7, TX7, 3), (RX8, TX8, 2), (RX9, TX9, 11), (RX10, TX10, 11), (RX11, TX11, 10), (RX12, TX12, 89)]
def cT (c : Nat) : u_T := (match Nat.ble 6 c with | true => (match Nat.ble 9 c with | true => (match Nat.ble 11 c with | true => (match Nat.ble 12 c with | true => TX12 | false => TX11) | false => (match Nat.ble 10 c with | true => TX10 | false => TX9)) | false => (match Nat.ble 7 c with | true => (match Nat.ble 8 c with | true => TX8 | false => TX7) | false => TX6)) | false => (match Nat.ble 3 c with | true => (match Nat.ble 4 c with | true => (match Nat.ble 5 c with | true => TX5 | false => TX4) | false => TX3) | false => (match Nat.ble 1 c with | true => (match Nat.ble 2 c with | true => TX2 | false => TX1) | false => TX0)))
def cR (c : Nat) : String := (match Nat.ble 6 c with | true => (match Nat.ble 9 c with | true => (match Nat.ble 11 c with | true => (match Nat.ble 12 c with | true => RX12 | false => RX11) | false => (match Nat.ble 10 c with | true => RX10 | false => RX9)) | false => (match Nat.ble 7 c with | true => (match Nat.ble 8 c with | true => RX8 | false => RX7) | false => RX6)) | false => (match Nat.ble 3 c with | true => (match Nat.ble 4 c with | true => (match Nat.ble 5 c with | true => RX5 | false => RX4) | false => RX3) | false => (match Nat.ble 1 c with | true => (match Nat.ble 2 c with | true => RX2 | false => RX1) | false => RX0)))
def cY (c : Nat) : Nat → FieldType := (match Nat.ble 6 c with | true => (match Nat.ble 9 c with | true => (match Nat.ble 11 c with | true => (match Nat.ble 12 c with | true => tyX12 | false => tyX11) | false => (match Nat.ble 10 c with | true => tyX10 | false => tyX9)) | false => (match Nat.ble 7 c with | true => (match Nat.ble 8 c with | true => tyX8 | false => tyX7) | false => tyX6)) | false => (match Nat.ble 3 c with | true => (match Nat.ble 4 c with | true => (match Nat.ble 5 c with | true => tyX5 | false => tyX4) | false => tyX3) | false => (match Nat.ble 1 c with | true => (match Nat.ble 2 c with | true => tyX2 | false => tyX1) | false => tyX0)))
def cF (c : Nat) : Nat := (match Nat.ble 6 c with | true => (match Nat.ble 9 c with | true => (match Nat.ble 11 c with | true => (match Nat.ble 12 c with | true => 89 | false => 10) | false => (match Nat.ble 10 c with | true => 11 | false => 11)) | false => (match Nat.ble 7 c with | true => (match Nat.ble 8 c with | true => 2 | false => 3) | false => 5)) | false => (match Nat.ble 3 c with | true => (match Nat.ble 4 c with | true => (match Nat.ble 5 c with | true => 18 | false => 3) | false => 10) | false => (match Nat.ble 1 c with | true => (match Nat.ble 2 c with | true => 2 | false => 8) | false => 9)))
def m_bytes (m : Nat) : ByteArray := code
def m_y (m : Nat) : MethodName := objectInit
def m_ret (m : Nat) : Option FieldType := none
def m_n (m : Nat) : Nat := 0
def m_stat (m : Nat) : Bool := true
def tch (k : Nat) : List Cond := (match Nat.ble 4 k with | true => (match Nat.ble 6 k with | true => (match Nat.ble 7 k with | true => tables_1_8 | false => tables_1_7) | false => (match Nat.ble 5 k with | true => tables_1_6 | false => tables_1_5)) | false => (match Nat.ble 2 k with | true => (match Nat.ble 3 k with | true => tables_1_4 | false => tables_1_3) | false => (match Nat.ble 1 k with | true => tables_1_2 | false => tables_1_1)))
def oN (k : Nat) : String := (match Nat.ble 9 k with | true => (match Nat.ble 13 k with | true => (match Nat.ble 15 k with | true => (match Nat.ble 16 k with | true => (match Nat.ble 17 k with | true => "WeighCourtLaw" | false => "java/util/Arrays") | false => "java/lang/Math") | false => (match Nat.ble 14 k with | true => "java/lang/Long" | false => "java/lang/Integer")) | false => (match Nat.ble 11 k with | true => (match Nat.ble 12 k with | true => "WeighCourtModel" | false => "WeighCourt") | false => (match Nat.ble 10 k with | true => "WeighCourt$Weighings" | false => "WeighCourt$Truths"))) | false => (match Nat.ble 4 k with | true => (match Nat.ble 6 k with | true => (match Nat.ble 7 k with | true => (match Nat.ble 8 k with | true => "WeighCourt$Tree" | false => "WeighCourt$Trace") | false => "WeighCourt$Suspects") | false => (match Nat.ble 5 k with | true => "WeighCourt$Search" | false => "WeighCourt$Rows")) | false => (match Nat.ble 2 k with | true => (match Nat.ble 3 k with | true => "WeighCourt$Question" | false => "WeighCourt$Pan") | false => (match Nat.ble 1 k with | true => "WeighCourt$Jury" | false => "WeighCourt$Balance"))))
def m_o (m : Nat) : Nat := 0
theorem tb_o0 : (List.range 279).map (fun m => oN (m_o m)) = (List.range 279).map (fun m => (m_y m).cls) := sorry
def FLs : List (Nat × Nat × Nat × Nat × Nat × Nat) := []
theorem FLs_ok : ∀ q ∈ FLs, Cond.fieldLink (oN q.1) q.2.1 (cT q.2.2.1 q.2.2.2.1).1 (cT q.2.2.1 q.2.2.2.1).2.1 (cT q.2.2.1 q.2.2.2.1).2.2.1 ∈ tables_1 := sorry
def VLs : List (Nat × Nat × Nat × Nat × Nat) := []
theorem VLs_ok : ∀ q ∈ VLs, Cond.methodLink (oN q.1) q.2.1 (m_y q.2.2.1) ∈ tables_1 := sorry
def SLs : List (Nat × Nat × Nat × Nat × Nat) := []
theorem SLs_ok : ∀ q ∈ SLs, Cond.methodLink (oN q.1) q.2.1 (m_y q.2.2.1) ∈ tables_1 := sorry
def ILs : List (Nat × Nat × Nat × Nat × Nat) := []
theorem ILs_ok : ∀ q ∈ ILs, Cond.methodLink (oN q.1) q.2.1 (m_y q.2.2.1) ∈ tables_1 := sorry
def TLs : List (Nat × Nat × Nat × Nat × Nat) := []
theorem TLs_ok : ∀ q ∈ TLs, Cond.methodLinkNest (oN q.1) q.2.1 (m_y q.2.2.1) "WeighCourt" ∈ tables_1 := sorry
def OLs : List (Nat × Nat × Nat × Nat) := []
theorem OLs_ok : ∀ q ∈ OLs, Cond.methodLink (oN q.1) q.2.1 objectInit ∈ tables_1 := sorry
def PLs : List (Nat × Nat × Nat × Nat) := []
theorem PLs_ok : ∀ q ∈ PLs, Cond.methodLink (oN q.1) q.2.1 arraycopyName ∈ tables_1 := sorry
def NLs : List (Nat × Nat × Nat × Nat × Nat) := []
theorem NLs_ok : ∀ q ∈ NLs, Cond.classLink (oN q.1) q.2.1 (cR q.2.2.1) ∈ tables_1 := sorry
def KLs : List (Nat × Nat × Int × Nat × Nat) := []
theorem KLs_ok : ∀ q ∈ KLs, Cond.constant (oN q.1) q.2.1 (Int32.ofInt q.2.2.1) ∈ tables_1 := sorry
def JLs : List (Nat × Nat × Int × Nat × Nat) := []
theorem JLs_ok : ∀ q ∈ JLs, Cond.constantLong (oN q.1) q.2.1 (Int64.ofInt q.2.2.1) ∈ tables_1 := sorry
theorem tb_code : ∀ m ∈ List.range 278, Cond.code (m_y m) (m_bytes m) (MLL m) (m_ret m) ∈ tables_1 := sorry
theorem tb_ini : ∀ m ∈ List.range 278, Cond.initialized (m_y m).cls ∈ tables_1 := sorry
def m_insts : List Nat := [0, 1, 2, 3, 4, 5, 6, 7, 8, 9, 10, 11, 12, 13, 14, 15, 16, 17, 18, 19, 20, 21, 22, 23, 24, 25, 26, 27, 28, 29, 30, 31, 32, 33, 34, 35, 36, 37, 38, 39, 40, 41, 42, 43, 44, 45, 46, 47, 48, 49, 50, 51, 52, 53, 54, 55, 56, 57, 58, 59, 60, 61, 62, 63, 64, 65, 66, 67, 68, 69, 70, 71, 72, 73, 74, 76, 77, 78, 79, 80, 81, 82, 83, 84, 85, 86, 87, 88, 89, 90, 94, 95, 96, 97, 98, 99, 100, 101, 102, 103, 105, 106, 107, 108, 109, 110, 111, 112, 113, 114, 115, 116, 117, 118, 119, 120, 121, 122, 123, 124, 125, 126, 127, 128, 129, 130, 131, 132, 133, 134, 135, 136, 137, 138, 139, 140, 141, 142, 143, 144, 145, 146, 147, 148, 149, 150, 151, 152, 153, 154, 155, 156, 157, 158, 159, 160, 161, 162, 170, 174, 177, 178, 179, 180, 181, 182, 183, 184, 185, 186, 187, 188, 189, 190, 191, 192, 194, 195, 197, 198, 199, 200, 201, 202, 203, 204, 205, 206, 207, 208, 209, 210, 211, 213, 214, 215, 216, 217, 218, 219, 220, 221, 222, 223, 224, 225, 226, 227, 228, 229, 230, 231, 232, 233, 234, 235, 236, 237, 238, 239, 240, 241, 242, 243, 244, 245, 246, 247, 248, 249, 250, 251, 252, 253, 254, 255, 256, 257, 258, 259, 260, 261, 262, 263, 264, 265]
def m_stats : List Nat := [75, 91, 92, 93, 104, 163, 164, 165, 166, 167, 168, 169, 171, 172, 173, 175, 176, 193, 196, 212, 266, 267, 268, 269, 270, 271, 272, 273, 274, 275, 276, 277]
def m_pubs : List Nat := [1, 2, 3, 4, 5, 6, 7, 8, 9, 25, 27, 28, 29, 33, 34, 35, 36, 37, 38, 39, 41, 42, 43, 45, 46, 48, 49, 50, 51, 52, 53, 56, 67, 68, 73, 77, 79, 80, 82, 83, 84, 85, 86, 87, 88, 89, 94, 98, 99, 100, 101, 102, 103, 106, 107, 108, 110, 111, 117, 118, 119, 120, 121, 122, 123, 124, 125, 126, 127, 128, 129, 130, 131, 132, 133, 134, 135, 136, 137, 138, 139, 140, 141, 142, 143, 144, 145, 146, 147, 148, 149, 150, 151, 152, 153, 154, 179, 180, 183, 185, 190, 200, 202, 203, 205, 206, 208, 209, 210, 211, 213, 214, 216, 217, 222, 223, 224, 244, 245, 246, 247, 248, 249, 250, 253, 255, 256, 257, 259, 261, 262, 263, 264, 265]
def m_prvs : List Nat := [10, 11, 12, 13, 14, 15, 16, 17, 18, 19, 20, 21, 22, 23, 24, 30, 31, 54, 55, 57, 58, 59, 60, 61, 62, 63, 64, 65, 66, 69, 70, 71, 74, 76, 95, 96, 97, 105, 112, 113, 114, 115, 155, 156, 157, 158, 159, 160, 161, 162, 170, 177, 178, 181, 182, 184, 186, 187, 188, 189, 191, 192, 194, 195, 197, 198, 199, 201, 204, 207, 215, 218, 219, 220, 221, 225, 226, 227, 228, 229, 230, 231, 232, 233, 234, 235, 236, 237, 238, 239, 240, 241, 242, 243, 251, 252, 254, 258, 260]
theorem tb_inst : ∀ m ∈ m_insts, Cond.instanceMethod (m_y m) ∈ tables_1 := sorry
theorem tb_stat : ∀ m ∈ m_stats, Cond.static (m_y m) ∈ tables_1 := sorry
theorem tb_sel : ∀ m ∈ m_pubs, Cond.selects (m_y m).cls (m_y m) (m_y m) ∈ tables_1 := sorry
theorem tb_prv : ∀ m ∈ m_prvs, Cond.selects (m_y m).cls (m_y m) (m_y m) ∈ lw_tbl := sorry
theorem tb_lay0 : ∀ w ∈ u_ws RX0 TX0 9, w ∈ tables_1 := sorry
theorem tb_lay1 : ∀ w ∈ u_ws RX1 TX1 8, w ∈ tables_1 := sorry
theorem tb_lay2 : ∀ w ∈ u_ws RX2 TX2 2, w ∈ tables_1 := sorry
theorem tb_lay3 : ∀ w ∈ u_ws RX3 TX3 10, w ∈ tables_1 := sorry
theorem tb_lay4 : ∀ w ∈ u_ws RX4 TX4 3, w ∈ tables_1 := sorry
theorem tb_lay5 : ∀ w ∈ u_ws RX5 TX5 18, w ∈ tables_1 := sorry
theorem tb_lay6 : ∀ w ∈ u_ws RX6 TX6 5, w ∈ tables_1 := sorry
theorem tb_lay7 : ∀ w ∈ u_ws RX7 TX7 3, w ∈ tables_1 := sorry
theorem tb_lay8 : ∀ w ∈ u_ws RX8 TX8 2, w ∈ tables_1 := sorry
theorem tb_lay9 : ∀ w ∈ u_ws RX9 TX9 11, w ∈ tables_1 := sorry
theorem tb_lay10 : ∀ w ∈ u_ws RX10 TX10 11, w ∈ tables_1 := sorry
theorem tb_lay11 : ∀ w ∈ u_ws RX11 TX11 10, w ∈ tables_1 := sorry
theorem tb_lay12 : ∀ w ∈ u_ws RX12 TX12 89, w ∈ tables_1 := sorry
theorem tb_ic : ∀ c ∈ List.range 13, Cond.instantiable (cR c) (cF c) ∈ tables_1 := sorry
theorem tb_ii : ∀ c ∈ List.range 13, Cond.initialized (cR c) ∈ tables_1 := sorry
def dscs : List (String × Nat) := [("(I[LWeighCourt$Balance;LWeighCourt$Trace;)V", 3), ("(I)LWeighCourt$Pan;", 1), ("()V", 0), ("(I)Z", 1), ("(I)LWeighCourt$Balance;", 1), ("()Z", 0), ("(IIII)I", 4), ("(II)I", 2), ("(I)I", 1), ("()I", 0), ("(J)J", 1), ("(LWeighCourt$Truths;LWeighCourt$Balance;I)I", 3), ("(LWeighCourt$Truths;LWeighCourt$Balance;I)V", 3), ("(LWeighCourt$Truths;)V", 1), ("(I)V", 1), ("(II)Z", 2), ("()J", 0), ("(LWeighCourt$Suspects;)V", 1), ("(LWeighCourt$Question;LWeighCourt$Balance;I)V", 3), ("(II)V", 2), ("(LWeighCourt$Balance;I)V", 2), ("(LWeighCourt$Question;)V", 1), ("(LWeighCourt$Question;I)V", 2), ("(Z)V", 1), ("(LWeighCourt$Question;)Z", 1), ("(LWeighCourt$Truths;II)V", 3), ("(II[I)Z", 3), ("(III)I", 3), ("(III)V", 3), ("(IIII)V", 4), ("(IJJ)I", 3), ("(JJ)J", 2), ("(JJ)I", 2), ("(LWeighCourt$Balance;II)V", 3), ("(LWeighCourt$Balance;II)I", 3), ("(LWeighCourt$Suspects;[I)V", 2), ("(IIIIII)I", 6), ("(LWeighCourt$Balance;)I", 1), ("(LWeighCourt$Balance;I)I", 2), ("([II)[I", 2), ("([JI)[J", 2), ("(III)Z", 3), ("(IZ)I", 2), ("(IIZ)V", 3), ("(IIZ)Z", 3), ("(J)I", 1), ("([JJ)V", 2), ("([II)V", 2), ("([I)Z", 1)]
def clss : List String := ["WeighCourt$Balance", "WeighCourt$Jury", "WeighCourt$Pan", "WeighCourt$Question", "WeighCourt$Rows", "WeighCourt$Search", "WeighCourt$Suspects", "WeighCourt$Trace", "WeighCourt$Tree", "WeighCourt$Truths", "WeighCourt$Weighings", "WeighCourt", "WeighCourtModel", "java/lang/Integer", "java/lang/Long", "java/lang/Math", "java/util/Arrays", "WeighCourtLaw"]
theorem dscs_ok : ∀ q ∈ dscs, (parseMethodDescriptor q.1).map (fun d => d.parameters.length) = some q.2 := sorry
theorem clss_ok : ∀ q ∈ clss, q ≠ "java/lang/invoke/MethodHandle" ∧ q ≠ "java/lang/invoke/VarHandle" := sorry
theorem tb_dsc : ∀ m ∈ List.range 279, (parseMethodDescriptor (m_y m).desc).map (fun d => d.parameters.length) = some (m_n m) := sorry
theorem tb_cls : ∀ m ∈ List.range 279, (m_y m).cls ≠ "java/lang/invoke/MethodHandle" ∧ (m_y m).cls ≠ "java/lang/invoke/VarHandle" := sorry
theorem tb_pl : ∀ m ∈ List.range 279, Jvm.plainFor (m_y m) = true := sorry
def m_inis : List Nat := [0, 26, 32, 40, 44, 47, 72, 78, 81, 90, 109, 116, 174]
theorem tb_init : ∀ m ∈ m_inis, (m_y m).name = "<init>" := sorry
theorem nmX0 : ∀ a, a < 9 → ∀ b, b < 9 → a ≠ b → (TX0 a).2.1 ≠ (TX0 b).2.1 := sorry
theorem tyX0_ok : ∀ k, k < 9 → parseFieldDescriptor (TX0 k).2.2.1 = some (tyX0 k) := sorry
theorem nmX1 : ∀ a, a < 8 → ∀ b, b < 8 → a ≠ b → (TX1 a).2.1 ≠ (TX1 b).2.1 := sorry
theorem tyX1_ok : ∀ k, k < 8 → parseFieldDescriptor (TX1 k).2.2.1 = some (tyX1 k) := sorry
theorem nmX2 : ∀ a, a < 2 → ∀ b, b < 2 → a ≠ b → (TX2 a).2.1 ≠ (TX2 b).2.1 := sorry
theorem tyX2_ok : ∀ k, k < 2 → parseFieldDescriptor (TX2 k).2.2.1 = some (tyX2 k) := sorry
theorem nmX3 : ∀ a, a < 10 → ∀ b, b < 10 → a ≠ b → (TX3 a).2.1 ≠ (TX3 b).2.1 := sorry
theorem tyX3_ok : ∀ k, k < 10 → parseFieldDescriptor (TX3 k).2.2.1 = some (tyX3 k) := sorry
theorem nmX4 : ∀ a, a < 3 → ∀ b, b < 3 → a ≠ b → (TX4 a).2.1 ≠ (TX4 b).2.1 := sorry
theorem tyX4_ok : ∀ k, k < 3 → parseFieldDescriptor (TX4 k).2.2.1 = some (tyX4 k) := sorry
theorem nmX5 : ∀ a, a < 18 → ∀ b, b < 18 → a ≠ b → (TX5 a).2.1 ≠ (TX5 b).2.1 := sorry
theorem tyX5_ok : ∀ k, k < 18 → parseFieldDescriptor (TX5 k).2.2.1 = some (tyX5 k) := sorry
theorem nmX6 : ∀ a, a < 5 → ∀ b, b < 5 → a ≠ b → (TX6 a).2.1 ≠ (TX6 b).2.1 := sorry
theorem tyX6_ok : ∀ k, k < 5 → parseFieldDescriptor (TX6 k).2.2.1 = some (tyX6 k) := sorry
theorem nmX7 : ∀ a, a < 3 → ∀ b, b < 3 → a ≠ b → (TX7 a).2.1 ≠ (TX7 b).2.1 := sorry
theorem tyX7_ok : ∀ k, k < 3 → parseFieldDescriptor (TX7 k).2.2.1 = some (tyX7 k) := sorry
theorem nmX8 : ∀ a, a < 2 → ∀ b, b < 2 → a ≠ b → (TX8 a).2.1 ≠ (TX8 b).2.1 := sorry
theorem tyX8_ok : ∀ k, k < 2 → parseFieldDescriptor (TX8 k).2.2.1 = some (tyX8 k) := sorry
theorem nmX9 : ∀ a, a < 11 → ∀ b, b < 11 → a ≠ b → (TX9 a).2.1 ≠ (TX9 b).2.1 := sorry
theorem tyX9_ok : ∀ k, k < 11 → parseFieldDescriptor (TX9 k).2.2.1 = some (tyX9 k) := sorry
theorem nmX10 : ∀ a, a < 11 → ∀ b, b < 11 → a ≠ b → (TX10 a).2.1 ≠ (TX10 b).2.1 := sorry
theorem tyX10_ok : ∀ k, k < 11 → parseFieldDescriptor (TX10 k).2.2.1 = some (tyX10 k) := sorry
theorem nmX11 : ∀ a, a < 10 → ∀ b, b < 10 → a ≠ b → (TX11 a).2.1 ≠ (TX11 b).2.1 := sorry
theorem tyX11_ok : ∀ k, k < 10 → parseFieldDescriptor (TX11 k).2.2.1 = some (tyX11 k) := sorry
theorem nmX12 : ∀ a, a < 89 → ∀ b, b < 89 → a ≠ b → (TX12 a).2.1 ≠ (TX12 b).2.1 := sorry
theorem tyX12_ok : ∀ k, k < 89 → parseFieldDescriptor (TX12 k).2.2.1 = some (tyX12 k) := sorry
theorem arrI : Cond.arrayClass .int ∈ tables_1 := sorry
theorem arrL : Cond.arrayClass .long ∈ tables_1 := sorry
theorem cpN : Cond.native arraycopyName ∈ tables_1 := sorry
theorem cpS : Cond.static arraycopyName ∈ tables_1 := sorry
theorem cpI : Cond.initialized "java/lang/System" ∈ tables_1 := sorry
theorem obI : Cond.instanceMethod objectInit ∈ tables_1 := sorry
theorem obC : Cond.code objectInit ⟨#[0xb1]⟩ 1 none ∈ tables_1 := sorry
theorem law_ml : MLL 278 = 4 := sorry
theorem law_own : oN (m_o 278) = "WeighCourtLaw" := sorry
theorem law_by : m_bytes 278 = code := rfl
theorem law_ni : ¬ 278 ∈ m_inis := by decide +kernel
theorem arrB : Cond.arrayOver (.object "WeighCourt$Balance") ∈ tables_1 := sorry
theorem arrQn : Cond.arrayOver (.object "WeighCourt$Question") ∈ tables_1 := sorry
theorem fN : Cond.fieldLinkNest "WeighCourt$Balance" 43 "WeighCourt" "ABOVE" "[I" "WeighCourt" ∈ tables_1 := sorry
theorem lS : Cond.laysStatic "WeighCourt" "ABOVE" "[I" ∈ tables_1 := sorry
theorem iW : Cond.initialized "WeighCourt" ∈ tables_1 := sorry
